theorem bI_w (b : Prop) [Decidable b] : (b ∧ bI b = 1) ∨ (¬ b ∧ bI b = 0) := by
  by_cases h : b
  · exact Or.inl ⟨h, if_pos h⟩
  · exact Or.inr ⟨h, if_neg h⟩
/-- cells of the streets with water -/
def wetB (w : Int → Int) : Nat → Int → Int := fun k s => s + bI (0 < w (10 + (k : Int)))
def wet (w : Int → Int) : Int := itr (wetB w) 0 70
/-! things with a number -/
def fstB (f : Int → Int) (p : Int) : Nat → Int → Int := fun k r => if r ≠ -1 then r else if f k = p then (k : Int) else -1
def fstI (f : Int → Int) (p : Int) (n : Nat) : Int := itr (fstB f p) (-1) n
theorem fst_b (f : Int → Int) (p : Int) : ∀ n : Nat, -1 ≤ fstI f p n ∧ fstI f p n < n ∧ (fstI f p n ≠ -1 → f (fstI f p n) = p)
  | 0 => by simp [fstI, itr]
  | n + 1 => by
    have h := fst_b f p n
    show -1 ≤ fstB f p n (fstI f p n) ∧ fstB f p n (fstI f p n) < _ ∧ (fstB f p n (fstI f p n) ≠ -1 → f (fstB f p n (fstI f p n)) = p)
    generalize fstI f p n = z at h
    unfold fstB
    by_cases h1 : z ≠ -1
    · rw [if_pos h1]
      exact ⟨h.1, by omega, h.2.2⟩
    · rw [if_neg h1]
      by_cases h2 : f n = p
      · rw [if_pos h2]
        exact ⟨by omega, by omega, fun _ => h2⟩
      · rw [if_neg h2]
        exact ⟨by omega, by omega, fun z => absurd rfl z⟩
theorem fst_no {f : Int → Int} {p : Int} {k : Nat} (h : fstI f p k = -1) (h2 : ¬ f k = p) : fstI f p (k + 1) = -1 := by
  show fstB f p k (fstI f p k) = -1
  rw [h]
  unfold fstB
  rw [if_neg (by omega), if_neg h2]
theorem fst_yes {f : Int → Int} {p : Int} {k : Nat} (h : fstI f p k = -1) (h2 : f k = p) {n : Nat} (hn : k < n) : fstI f p n = k := by
  have e : fstI f p (k + 1) = k := by
    show fstB f p k (fstI f p k) = k
    rw [h]
    unfold fstB
    rw [if_neg (by omega), if_pos h2]
  have := itr_stop (f := fstB f p) (a := (-1 : Int)) (k := k + 1) (fun j _ => by
    show fstB f p j (fstI f p (k + 1)) = fstI f p (k + 1)
    rw [e]
    unfold fstB
    rw [if_pos (by omega)]) n (by omega)
  exact (show fstI f p n = fstI f p (k + 1) from this).trans e
def tod (b : Prop) [Decidable b] (x y : Int) : Int := if b then x else y
theorem tod_t {b : Prop} [Decidable b] {x y : Int} (h : b) : tod b x y = x := if_pos h
theorem tod_f {b : Prop} [Decidable b] {x y : Int} (h : ¬ b) : tod b x y = y := if_neg h
/-! pumps -/
abbrev gF3 : Type := (Int → Int) × (Int → Int) × (Int → Int)
def pumpB (pc pw rn : Int → Int) : Nat → gF3 → gF3 := fun k x =>
  if rn k ≠ 0 ∧ 0 < x.2.2 k ∧ 0 < x.1 (pc k) then (fset x.1 (pc k) (x.1 (pc k) - min (pw k) (x.1 (pc k))), fset x.2.1 k (x.2.1 k + min (pw k) (x.1 (pc k))), fset x.2.2 k (x.2.2 k - 1)) else x
def pumpI (S : gS) (n : Nat) : gF3 := itr (pumpB (S.1 8) (S.1 9) (S.1 11)) (S.1 4, S.1 12, S.1 10) n
def workS (S : gS) : gS := setA (setA (setA S 4 (pumpI S (S.2 1).toNat).1) 12 (pumpI S (S.2 1).toNat).2.1) 10 (pumpI S (S.2 1).toNat).2.2
theorem pumpI_b {S : gS} (h : okT S) : ∀ n : Nat, bnd (pumpI S n).1 0 40 ∧ bnd (pumpI S n).2.2 0 30
  | 0 => ⟨okT_4 h, okT_10 h⟩
  | n + 1 => by
    have h1 := pumpI_b h n
    show bnd (pumpB (S.1 8) (S.1 9) (S.1 11) n (pumpI S n)).1 0 40 ∧ bnd (pumpB (S.1 8) (S.1 9) (S.1 11) n (pumpI S n)).2.2 0 30
    generalize pumpI S n = x at h1 ⊢
    have a1 := h1.1 (S.1 8 n); have a2 := h1.2 n; have a3 := okT_9 h n
    unfold pumpB
    split
    · exact ⟨bnd_fset h1.1 (by omega), bnd_fset h1.2 (by omega)⟩
    · exact h1
/-! gauges -/
def ringB (w gc mk : Int → Int) : Nat → Int → Int := fun k s => s + bI (mk k ≤ w (gc k))
def ringN (w gc mk : Int → Int) (n : Nat) : Int := itr (ringB w gc mk) 0 n
/-! ways -/
abbrev nearer (stp : Int → Int) (p o : Int) : Prop := stp p ≠ -1 ∧ (o = -1 ∨ stp p < stp o)
abbrev gWy : Type := (Int → Int) × (Int → Int) × (Int → Int) × Int
def goB (p : Int) (w : Int → Int) : Nat → gWy → gWy := fun d x =>
  if nbr p d ≠ -1 ∧ x.1 (nbr p d) = -1 ∧ w (nbr p d) < 3 ∧ x.2.2.2 < 80 then
    (fset x.1 (nbr p d) (x.1 p + 1), fset x.2.1 (nbr p d) (tod (x.1 p = 0) (nbr p d) (x.2.1 p)), fset x.2.2.1 x.2.2.2 (nbr p d), x.2.2.2 + 1) else x
def goI (w : Int → Int) (p : Int) (x : gWy) (n : Nat) : gWy := itr (goB p w) x n
def okW (hi : Int) (x : gWy) : Prop := (∀ j : Int, -1 ≤ x.1 j ∧ x.1 j ≤ 1000 ∧ (0 ≤ j ∧ j < 80 → x.1 j ≤ hi)) ∧ bnd x.2.1 0 79 ∧ bnd x.2.2.1 0 79 ∧ 0 ≤ x.2.2.2 ∧ x.2.2.2 ≤ 80
theorem goB_b {p : Int} {w : Int → Int} {d : Nat} {hi : Int} {x : gWy} (hp : 0 ≤ p ∧ p < 80) (h : okW hi x) (hh : hi < 1000) : okW (hi + 1) (goB p w d x) := by
  obtain ⟨h1, h2, h3, h4, h5⟩ := h
  unfold goB
  by_cases hc : nbr p d ≠ -1 ∧ x.1 (nbr p d) = -1 ∧ w (nbr p d) < 3 ∧ x.2.2.2 < 80
  · rw [if_pos hc]
    have q := nbr_b (d := d) hp
    have q1 := h1 p
    have q2 := h2 p
    refine ⟨fun j => ?_, bnd_fset h2 ?_, bnd_fset h3 (by omega), by simp only []; omega, by simp only []; omega⟩
    · have q3 := h1 j
      show -1 ≤ fset x.1 (nbr p d) (x.1 p + 1) j ∧ fset x.1 (nbr p d) (x.1 p + 1) j ≤ 1000 ∧ (_ → fset x.1 (nbr p d) (x.1 p + 1) j ≤ _)
      unfold fset
      split <;> omega
    · unfold tod
      split <;> omega
  · rw [if_neg hc]
    refine ⟨fun j => ?_, h2, h3, h4, h5⟩
    have q3 := h1 j
    omega
theorem goI_b {p : Int} {w : Int → Int} {hi : Int} {x : gWy} (hp : 0 ≤ p ∧ p < 80) (h : okW hi x) : ∀ n : Nat, hi + n ≤ 1000 → okW (hi + n) (goI w p x n)
  | 0, _ => by simpa [goI, itr] using h
  | n + 1, hn => by
    have h1 := goI_b (w := w) hp h n (by omega)
    have h2 := goB_b (w := w) (d := n) hp h1 (by omega)
    rw [show hi + ((n + 1 : Nat) : Int) = hi + n + 1 by omega]
    exact h2
def srchB (w : Int → Int) : Nat → gWy → gWy := fun k x => if (k : Int) < x.2.2.2 then goI w (x.2.2.1 k) x 4 else x
def noneB : Nat → (Int → Int) → (Int → Int) := fun k f => fset f k (-1)
def srch0 (s f r : Int → Int) (c : Int) : gWy := (fset (itr noneB s 80) c 0, fset f c c, fset r 0 c, 1)
def srchI (w : Int → Int) (x : gWy) (n : Nat) : gWy := itr (srchB w) x n
theorem none_b {s : Int → Int} (h : bnd s (-1) 1000) : ∀ n : Nat, ∀ j : Int, -1 ≤ itr noneB s n j ∧ itr noneB s n j ≤ 1000 ∧ (0 ≤ j ∧ j < n → itr noneB s n j = -1)
  | 0, j => by have := h j; simp only [itr]; omega
  | n + 1, j => by
    have h1 := none_b h n j
    show -1 ≤ fset (itr noneB s n) n (-1) j ∧ fset (itr noneB s n) n (-1) j ≤ 1000 ∧ (_ → fset (itr noneB s n) n (-1) j = -1)
    unfold fset
    split <;> omega
theorem srch0_b {s f r : Int → Int} {c : Int} (hc : 0 ≤ c ∧ c < 80) (h1 : bnd s (-1) 1000) (h2 : bnd f 0 79) (h3 : bnd r 0 79) : okW 0 (srch0 s f r c) := by
  refine ⟨fun j => ?_, bnd_fset h2 (by omega), bnd_fset h3 (by omega), by simp [srch0], by simp [srch0]⟩
  have := none_b h1 80 j
  show -1 ≤ fset (itr noneB s 80) c 0 j ∧ fset (itr noneB s 80) c 0 j ≤ 1000 ∧ (_ → fset (itr noneB s 80) c 0 j ≤ 0)
  unfold fset
  split <;> omega
theorem srchI_b {w : Int → Int} {x : gWy} (h : okW 0 x) : ∀ n : Nat, n ≤ 80 → okW (4 * n) (srchI w x n)
  | 0, _ => by simpa [srchI, itr] using h
  | n + 1, hn => by
    have h1 := srchI_b (w := w) h n (by omega)
    show okW _ (srchB w n (srchI w x n))
    generalize srchI w x n = y at h1
    unfold srchB
    have h3 := h1.2.2.1 n
    split
    · have h2 := goI_b (w := w) (p := y.2.2.1 n) (by omega) h1 4 (by omega)
      rw [show 4 * ((n + 1 : Nat) : Int) = 4 * (n : Int) + (4 : Nat) by omega]
      exact h2
    · obtain ⟨q1, q2, q3, q4, q5⟩ := h1
      refine ⟨fun j => ?_, q2, q3, q4, q5⟩
      have := q1 j
      omega
theorem srch_stop {w : Int → Int} {x : gWy} {k : Nat} (h : (srchI w x k).2.2.2 ≤ k) (hk : k ≤ 80) : srchI w x 80 = srchI w x k := by
  refine itr_stop (f := srchB w) (fun j hj => ?_) 80 hk
  show srchB w j (srchI w x k) = srchI w x k
  unfold srchB
  rw [if_neg (by omega)]
def setW (S : gS) (x : gWy) : gS := setI (setA (setA (setA S 29 x.1) 30 x.2.1) 31 x.2.2.1) 7 x.2.2.2
def goS (S : gS) (p : Int) : gS := setW S (goI (S.1 4) p (S.1 29, S.1 30, S.1 31, S.2 7) 4)
def srchX (S : gS) (c : Int) : gWy := srchI (S.1 4) (srch0 (S.1 29) (S.1 30) (S.1 31) c) 80
def searchS (S : gS) (c : Int) : gS := setW S (srchX S c)
theorem okT_srch {S : gS} {c : Int} (h : okT S) (hc : 0 ≤ c ∧ c < 80) : okT (searchS S c) := by
  have h1 : okW (4 * (80 : Nat)) (srchX S c) := srchI_b (w := S.1 4) (srch0_b (c := c) hc (okT_29 h) (okT_30 h) (okT_31 h)) 80 (by omega)
  show okT (setW S (srchX S c))
  generalize srchX S c = y at h1 ⊢
  exact okT_j7 (okT_s31 (okT_s30 (okT_s29 h (fun j => ⟨(h1.1 j).1, (h1.1 j).2.1⟩)) h1.2.1) h1.2.2.1) h1.2.2.2
/-! refuges -/
def roomB (rc rm pp stp : Int → Int) (m : Int) : Nat → Int × Int → Int × Int := fun k x => if m ≤ rm k - pp k ∧ (stp (rc k) ≠ -1 ∧ (x.2 = -1 ∨ stp (rc k) < stp x.2)) then ((k : Int), rc k) else x
def roomI (rc rm pp stp : Int → Int) (m : Int) (n : Nat) : Int × Int := itr (roomB rc rm pp stp m) (-1, -1) n
theorem roomI_b {rc rm pp stp : Int → Int} {m : Int} (h : bnd rc 0 79) : ∀ n : Nat, -1 ≤ (roomI rc rm pp stp m n).1 ∧ (roomI rc rm pp stp m n).1 < n ∧ -1 ≤ (roomI rc rm pp stp m n).2 ∧ (roomI rc rm pp stp m n).2 < 80
  | 0 => by simp [roomI, itr]
  | n + 1 => by
    have h1 := roomI_b (rm := rm) (pp := pp) (stp := stp) (m := m) h n
    have h2 := h n
    show -1 ≤ (roomB rc rm pp stp m n (roomI rc rm pp stp m n)).1 ∧ (roomB rc rm pp stp m n (roomI rc rm pp stp m n)).1 < _ ∧ -1 ≤ (roomB rc rm pp stp m n (roomI rc rm pp stp m n)).2 ∧ (roomB rc rm pp stp m n (roomI rc rm pp stp m n)).2 < 80
    generalize roomI rc rm pp stp m n = z at h1 ⊢
    unfold roomB
    split
    · simp only []; omega
    · omega
def roomS (S : gS) (m : Int) : Int := (roomI (S.1 17) (S.1 18) (S.1 19) (S.1 29) m (S.2 3).toNat).1
/-! households -/
def hsumB (hs hp : Int → Int) (st : Int) : Nat → Int → Int := fun k s => s + tod (hs k = st) (hp k) 0
def hsum (S : gS) (st : Int) : Int := itr (hsumB (S.1 24) (S.1 23) st) 0 (S.2 4).toNat
theorem hsum_b0 {hs hp : Int → Int} {st : Int} (h : bnd hp 0 6) : ∀ n : Nat, 0 ≤ itr (hsumB hs hp st) 0 n ∧ itr (hsumB hs hp st) 0 n ≤ 6 * n
  | 0 => by simp [itr]
  | n + 1 => by
    have h1 := hsum_b0 (hs := hs) (st := st) h n
    have h2 := h n
    show 0 ≤ hsumB hs hp st n (itr (hsumB hs hp st) 0 n) ∧ hsumB hs hp st n (itr (hsumB hs hp st) 0 n) ≤ _
    generalize itr (hsumB hs hp st) 0 n = z at h1 ⊢
    unfold hsumB tod
    split <;> omega
theorem hsum_b {S : gS} {st : Int} (h : okT S) : 0 ≤ hsum S st ∧ hsum S st ≤ 60 := by
  have h1 := hsum_b0 (hs := S.1 24) (st := st) (okT_23 h) (S.2 4).toNat
  have h2 := okT_i4 h
  unfold hsum
  omega
def outB (hs hp hc : Int → Int) (q : Int) : Nat → Int → Int := fun k s => s + tod ((hs k = 0 ∨ hs k = 1) ∧ hc k = q) (hp k) 0
def outS (S : gS) (q : Int) : Int := itr (outB (S.1 24) (S.1 23) (S.1 22) q) 0 (S.2 4).toNat
def homeB (hs hc stp : Int → Int) : Nat → Int × Int → Int × Int := fun k x => if hs k = 0 ∧ (stp (hc k) ≠ -1 ∧ (x.2 = -1 ∨ stp (hc k) < stp x.2)) then ((k : Int), hc k) else x
def homeI (hs hc stp : Int → Int) (n : Nat) : Int × Int := itr (homeB hs hc stp) (-1, -1) n
theorem homeI_b {hs hc stp : Int → Int} (h : bnd hc 0 79) : ∀ n : Nat, -1 ≤ (homeI hs hc stp n).1 ∧ (homeI hs hc stp n).1 < n ∧ -1 ≤ (homeI hs hc stp n).2 ∧ (homeI hs hc stp n).2 < 80
  | 0 => by simp [homeI, itr]
  | n + 1 => by
    have h1 := homeI_b (hs := hs) (stp := stp) h n
    have h2 := h n
    show -1 ≤ (homeB hs hc stp n (homeI hs hc stp n)).1 ∧ (homeB hs hc stp n (homeI hs hc stp n)).1 < _ ∧ -1 ≤ (homeB hs hc stp n (homeI hs hc stp n)).2 ∧ (homeB hs hc stp n (homeI hs hc stp n)).2 < 80
    generalize homeI hs hc stp n = z at h1 ⊢
    unfold homeB
    split
    · simp only []; omega
    · omega
def homeS (S : gS) : Int := (homeI (S.1 24) (S.1 22) (S.1 29) (S.2 4).toNat).1
def warnB (hc : Int → Int) (q : Int) : Nat → (Int → Int) × Int → (Int → Int) × Int := fun k x => if x.1 k = 0 ∧ near q (hc k) ≠ 0 then (fset x.1 k 1, x.2 + 1) else x
def warnI (hs hc : Int → Int) (q : Int) (n : Nat) : (Int → Int) × Int := itr (warnB hc q) (hs, 0) n
theorem warnI_b {hs hc : Int → Int} {q : Int} (h : bnd hs 0 3) : ∀ n : Nat, bnd (warnI hs hc q n).1 0 3
  | 0 => h
  | n + 1 => by
    have h1 := warnI_b (hc := hc) (q := q) h n
    show bnd (warnB hc q n (warnI hs hc q n)).1 0 3
    generalize warnI hs hc q n = z at h1 ⊢
    unfold warnB
    split
    · exact bnd_fset h1 (by omega)
    · exact h1
def warnS (S : gS) (q : Int) : (Int → Int) × Int := warnI (S.1 24) (S.1 22) q (S.2 4).toNat
def hereS (S : gS) (k : Int) : Int := fstI (S.1 17) (S.1 22 k) (S.2 3).toNat
def enterS (S : gS) (k : Int) : gS :=
  if hereS S k ≠ -1 ∧ S.1 23 k ≤ S.1 18 (hereS S k) - S.1 19 (hereS S k) then
    setA (setA (setA S 19 (fset (S.1 19) (hereS S k) (S.1 19 (hereS S k) + S.1 23 k))) 20 (fset (S.1 20) (hereS S k) (S.1 20 (hereS S k) + 1))) 24 (fset (S.1 24) k 2) else S
theorem okT_enter {S : gS} {k : Int} (h : okT S) : okT (enterS S k) := by
  unfold enterS
  split
  · rename_i hc
    have h1 := okT_18 h (hereS S k); have h2 := okT_19 h (hereS S k); have h3 := okT_23 h k
    exact okT_s24 (okT_s20 (okT_s19 h (bnd_fset (okT_19 h) (by omega)))) (bnd_fset (okT_24 h) (by omega))
  · exact h
def moveS (S : gS) (k : Int) : gS := if roomS S (S.1 23 k) ≠ -1 then setA S 22 (fset (S.1 22) k (S.1 30 (S.1 17 (roomS S (S.1 23 k))))) else S
theorem okT_move {S : gS} {k : Int} (h : okT S) : okT (moveS S k) := by
  unfold moveS
  split
  · exact okT_s22 h (bnd_fset (okT_22 h) (okT_30 h _))
  · exact h
def fleeB : Nat → gS → gS := fun k S => if S.1 24 k = 1 then enterS (moveS (searchS S (S.1 22 k)) k) k else S
def fleeI (S : gS) (n : Nat) : gS := itr fleeB S n
theorem okT_fleeB {S : gS} {k : Nat} (h : okT S) : okT (fleeB k S) := by
  unfold fleeB
  have h1 := okT_22 h k
  split
  · exact okT_enter (okT_move (okT_srch h (by omega)))
  · exact h
theorem okT_fleeI {S : gS} (h : okT S) : ∀ n : Nat, okT (fleeI S n)
  | 0 => h
  | n + 1 => okT_fleeB (okT_fleeI h n)
theorem flee_n {S : gS} {k : Nat} : (fleeB k S).2 4 = S.2 4 := by
  unfold fleeB
  split
  · unfold enterS
    split
    all_goals (unfold moveS; split <;> rfl)
  · rfl
theorem fleeI_n (S : gS) : ∀ n : Nat, (fleeI S n).2 4 = S.2 4
  | 0 => rfl
  | n + 1 => by rw [← fleeI_n S n]; exact flee_n
def fleeS (S : gS) : gS := fleeI S (S.2 4).toNat
/-- who is out has somebody -/
def okH (S : gS) : Prop := ∀ k : Int, 0 ≤ k → k < S.2 4 → S.1 24 k ≤ 1 → 1 ≤ S.1 23 k
def drownB : Nat → gS → gS := fun k S =>
  if (S.1 24 k = 0 ∨ S.1 24 k = 1) ∧ 5 ≤ S.1 4 (S.1 22 k) then
    (if S.1 23 k - 1 ≤ 0 then setI (setA (setA S 23 (fset (S.1 23) k (S.1 23 k - 1))) 24 (fset (S.1 24) k 3)) 5 (S.2 5 + 1)
     else setI (setA S 23 (fset (S.1 23) k (S.1 23 k - 1))) 5 (S.2 5 + 1)) else S
def drownI (S : gS) (n : Nat) : gS := itr drownB S n
def drownS (S : gS) : gS := drownI S (S.2 4).toNat
theorem drownB_b {S : gS} {k : Nat} (h : okT S) (h2 : okH S) (hk : (k : Int) < S.2 4) : okT (drownB k S) ∧ okH (drownB k S) ∧ (drownB k S).2 4 = S.2 4 := by
  unfold drownB
  have b1 := okT_23 h k
  split
  · rename_i hc
    have b2 := h2 k (by omega) hk (by omega)
    split
    · refine ⟨okT_j5 (okT_s24 (okT_s23 h (bnd_fset (okT_23 h) (by omega))) (bnd_fset (okT_24 h) (by omega))), fun j hj hj2 hj3 => ?_, rfl⟩
      have b3 := h2 j hj hj2
      have e1 : fset (S.1 24) k 3 j ≤ 1 := hj3
      show 1 ≤ fset (S.1 23) k (S.1 23 k - 1) j
      unfold fset at e1 ⊢
      split at e1
      · omega
      · rw [if_neg (by assumption)]; exact b3 e1
    · refine ⟨okT_j5 (okT_s23 h (bnd_fset (okT_23 h) (by omega))), fun j hj hj2 hj3 => ?_, rfl⟩
      have b3 := h2 j hj hj2 hj3
      show 1 ≤ fset (S.1 23) k (S.1 23 k - 1) j
      unfold fset
      split <;> omega
  · exact ⟨h, h2, rfl⟩
theorem drownI_b {S : gS} (h : okT S) (h2 : okH S) : ∀ n : Nat, (n : Int) ≤ S.2 4 → okT (drownI S n) ∧ okH (drownI S n) ∧ (drownI S n).2 4 = S.2 4
  | 0, _ => ⟨h, h2, rfl⟩
  | n + 1, hn => by
    obtain ⟨q1, q2, q3⟩ := drownI_b h h2 n (by omega)
    have := drownB_b (k := n) q1 q2 (by rw [q3]; omega)
    exact ⟨this.1, this.2.1, this.2.2.trans q3⟩
/-! callers -/
def stepC (S : gS) (k : Int) : gS := if homeS S ≠ -1 then setA S 26 (fset (S.1 26) k (S.1 30 (S.1 22 (homeS S)))) else S
def hailS (S : gS) (k : Int) : gS := setA (setA S 24 (warnS S (S.1 26 k)).1) 27 (fset (S.1 27) k (S.1 27 k + (warnS S (S.1 26 k)).2))
def clB : Nat → gS → gS := fun k S => hailS (stepC (searchS S (S.1 26 k)) k) k
def clI (S : gS) (n : Nat) : gS := itr clB S n
def clS (S : gS) : gS := clI S (S.2 6).toNat
theorem okT_step {S : gS} {k : Int} (h : okT S) : okT (stepC S k) := by
  unfold stepC
  split
  · exact okT_s26 h (bnd_fset (okT_26 h) (okT_30 h _))
  · exact h
theorem okT_hail {S : gS} {k : Int} (h : okT S) : okT (hailS S k) := okT_s27 (okT_s24 h (warnI_b (okT_24 h) _))
theorem okT_clB {S : gS} {k : Nat} (h : okT S) : okT (clB k S) := by
  have := okT_26 h k
  exact okT_hail (okT_step (okT_srch h (by omega)))
theorem okT_clI {S : gS} (h : okT S) : ∀ n : Nat, okT (clI S n)
  | 0 => h
  | n + 1 => okT_clB (okT_clI h n)
theorem cl_n {S : gS} {k : Nat} : (clB k S).2 6 = S.2 6 := by
  show (stepC (searchS S (S.1 26 k)) k).2 6 = S.2 6
  unfold stepC
  split <;> rfl
theorem clI_n (S : gS) : ∀ n : Nat, (clI S n).2 6 = S.2 6
  | 0 => rfl
  | n + 1 => by rw [← clI_n S n]; exact cl_n
