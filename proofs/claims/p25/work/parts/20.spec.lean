/-! what the town's methods reckon, as functions -/
def nbr (k d : Int) : Int := if d = 0 then (if 10 ≤ k then k - 10 else -1) else if d = 1 then (if k % 10 < 9 then k + 1 else -1) else if d = 2 then (if k < 70 then k + 10 else -1) else (if 0 < k % 10 then k - 1 else -1)
theorem nbr_b {k d : Int} (h : 0 ≤ k ∧ k < 80) : -1 ≤ nbr k d ∧ nbr k d < 80 := by
  unfold nbr
  repeat' split
  all_goals omega
theorem nbr_ne {k d : Int} (h : 0 ≤ k ∧ k < 80) : nbr k d ≠ k := by
  unfold nbr
  repeat' split
  all_goals omega
def lev (g b w : Int → Int) (p : Int) : Int := g p + b p + w p
/-- the bounds of rows -/
def bnd (f : Int → Int) (lo hi : Int) : Prop := ∀ j : Int, lo ≤ f j ∧ f j ≤ hi
def okL (S : gS) : Prop := bnd (S.1 2) 0 9 ∧ bnd (S.1 3) 0 6 ∧ bnd (S.1 4) 0 40
theorem lev_b {g b w : Int → Int} (h1 : bnd g 0 9) (h2 : bnd b 0 6) (h3 : bnd w 0 40) (p : Int) : 0 ≤ lev g b w p ∧ lev g b w p ≤ 55 := by
  have := h1 p; have := h2 p; have := h3 p
  unfold lev
  omega
theorem bnd_fset {f : Int → Int} {lo hi a x : Int} (h : bnd f lo hi) (hx : lo ≤ x ∧ x ≤ hi) : bnd (fset f a x) lo hi := by
  intro j
  unfold fset
  split
  · exact hx
  · exact h j
theorem bnd_fcpy {f g : Int → Int} {lo hi n : Int} (h : bnd f lo hi) (h2 : bnd g lo hi) : bnd (fcpy f g n) lo hi := by
  intro j
  unfold fcpy
  split
  · exact h j
  · exact h2 j
theorem bnd_mono {f : Int → Int} {lo hi lo' hi' : Int} (h : bnd f lo hi) (h1 : lo' ≤ lo) (h2 : hi ≤ hi') : bnd f lo' hi' := by
  intro j
  have := h j
  omega
theorem bnd_itr {body : Nat → (Int → Int) → (Int → Int)} {f : Int → Int} {lo hi : Int} (h0 : bnd f lo hi) (hs : ∀ k g, bnd g lo hi → bnd (body k g) lo hi) : ∀ n, bnd (itr body f n) lo hi
  | 0 => h0
  | n + 1 => hs n _ (bnd_itr h0 hs n)
/-- sums -/
def smB (f : Int → Int) (o : Int) : Nat → Int → Int := fun k s => s + f (o + k)
def sm (f : Int → Int) (o : Int) (n : Nat) : Int := itr (smB f o) 0 n
theorem sm_b {f : Int → Int} {lo hi o : Int} (h : bnd f lo hi) : ∀ n : Nat, lo * n ≤ sm f o n ∧ sm f o n ≤ hi * n
  | 0 => by simp [sm, itr]
  | n + 1 => by
    have h1 := sm_b (o := o) h n
    have h2 := h (o + n)
    have e : sm f o (n + 1) = sm f o n + f (o + n) := rfl
    rw [e, show ((n + 1 : Nat) : Int) = (n : Int) + 1 by omega, Int.mul_add, Int.mul_add]
    omega
/-- the lowest neighbour -/
def lowB (lv : Int → Int) (p : Int) : Nat → Int → Int := fun d low => if nbr p d ≠ -1 ∧ (low = -1 ∨ lv (nbr p d) < lv low) then nbr p d else low
def lowest (lv : Int → Int) (p : Int) : Int := itr (lowB lv p) (-1) 4
theorem low_b {lv : Int → Int} {p : Int} (h : 0 ≤ p ∧ p < 80) : ∀ n : Nat, -1 ≤ itr (lowB lv p) (-1) n ∧ itr (lowB lv p) (-1) n < 80
  | 0 => by simp [itr]
  | n + 1 => by
    have h1 := low_b (lv := lv) h n
    have h2 := nbr_b (d := n) h
    show -1 ≤ lowB lv p n _ ∧ lowB lv p n _ < 80
    unfold lowB
    split <;> assumption
theorem lowest_b {lv : Int → Int} {p : Int} (h : 0 ≤ p ∧ p < 80) : -1 ≤ lowest lv p ∧ lowest lv p < 80 := low_b h 4
def givn (lv w : Int → Int) (lo p : Int) : Int := if 0 < lv p - lv lo then min ((lv p - lv lo) / 2) (w p) else 0
/-- the river -/
def riseB (v : Int) : Nat → (Int → Int) → (Int → Int) := fun k f => fset f k v
def rise (tb w : Int → Int) (h : Int) : Int → Int := itr (riseB (tb (h % 12))) w 10
/-- the flow -/
def flowB (lv w : Int → Int) : Nat → (Int → Int) → (Int → Int) := fun k wt =>
  if lowest lv k ≠ -1 then fset (fset wt k (wt k - givn lv w (lowest lv k) k)) (lowest lv k) (fset wt k (wt k - givn lv w (lowest lv k) k) (lowest lv k) + givn lv w (lowest lv k) k) else wt
def flow1 (lv w wt : Int → Int) : Int → Int := itr (flowB lv w) (fcpy w wt 80) 80
def cutB (wt : Int → Int) : Nat → (Int → Int) → (Int → Int) := fun k w => fset w k (min (wt k) 40)
def flow2 (wt w : Int → Int) : Int → Int := itr (cutB wt) w 80
def flowS (S : gS) : gS :=
  setA (setA S 5 (flow1 (lev (S.1 2) (S.1 3) (S.1 4)) (S.1 4) (S.1 5))) 4 (flow2 (flow1 (lev (S.1 2) (S.1 3) (S.1 4)) (S.1 4) (S.1 5)) (S.1 4))
theorem givn_b {lv w : Int → Int} {lo p : Int} (h : bnd w 0 40) : 0 ≤ givn lv w lo p ∧ givn lv w lo p ≤ w p := by
  have := h p
  unfold givn
  split <;> omega
/-- what is on its way never leaves the machine's numbers -/
theorem flow_b0 {lv w wt : Int → Int} (h : bnd w 0 40) : ∀ n : Nat, n ≤ 80 → ∀ j : Int, (0 ≤ j ∧ j < 80 → -40 * (n : Int) ≤ itr (flowB lv w) (fcpy w wt 80) n j ∧ itr (flowB lv w) (fcpy w wt 80) n j ≤ 40 + 40 * (n : Int)) ∧ (¬ (0 ≤ j ∧ j < 80) → itr (flowB lv w) (fcpy w wt 80) n j = wt j)
  | 0, _, j => by
    have := h j
    show (_ → _ ≤ fcpy w wt 80 j ∧ fcpy w wt 80 j ≤ _) ∧ (_ → fcpy w wt 80 j = _)
    unfold fcpy
    split <;> omega
  | n + 1, hn, j => by
    have h1 := flow_b0 (lv := lv) (wt := wt) h n (by omega)
    show (_ → _ ≤ flowB lv w n (itr (flowB lv w) (fcpy w wt 80) n) j ∧ flowB lv w n (itr (flowB lv w) (fcpy w wt 80) n) j ≤ _) ∧ (_ → flowB lv w n (itr (flowB lv w) (fcpy w wt 80) n) j = _)
    generalize itr (flowB lv w) (fcpy w wt 80) n = f at h1 ⊢
    have hg := givn_b (lv := lv) (lo := lowest lv n) (p := n) h
    have hw := h n
    have hl := lowest_b (lv := lv) (p := n) (by omega)
    have q1 := h1 j; have q2 := h1 n; have q3 := h1 (lowest lv n)
    have q4 := (q2.1 (by omega))
    unfold flowB
    by_cases hc : lowest lv n ≠ -1
    · have q5 := (q3.1 (by omega))
      rw [if_pos hc]
      generalize givn lv w (lowest lv n) n = g at hg ⊢
      generalize lowest lv n = m at hl hc q3 q5 ⊢
      unfold fset
      by_cases e1 : j = m <;> by_cases e2 : j = n <;> by_cases e3 : m = n <;> simp only [e1, e2, e3, if_true, if_false, ite_true, ite_false] <;> (try subst e1) <;> (try rw [if_neg (by omega)]) <;> omega
    · rw [if_neg hc]
      omega
theorem flow_b {lv w wt : Int → Int} (h : bnd w 0 40) (h2 : bnd wt (-100000) 100000) {n : Nat} (hn : n ≤ 80) : bnd (itr (flowB lv w) (fcpy w wt 80) n) (-100000) 100000 := by
  intro j
  have h1 := flow_b0 (lv := lv) (wt := wt) h n hn j
  have h3 := h2 j
  by_cases hj : 0 ≤ j ∧ j < 80
  · have := h1.1 hj; omega
  · have := h1.2 hj; omega
/-- the same cell or a neighbour -/
def nearB (k q : Int) : Nat → Int → Int := fun d x => if x ≠ 0 ∨ nbr k d = q then 1 else 0
def near (k q : Int) : Int := itr (nearB k q) (bI (k = q)) 4
theorem near_b {k q : Int} : ∀ n : Nat, itr (nearB k q) (bI (k = q)) n = 0 ∨ itr (nearB k q) (bI (k = q)) n = 1
  | 0 => bI_01 _
  | n + 1 => by
    show nearB k q n _ = 0 ∨ nearB k q n _ = 1
    unfold nearB
    split
    · exact Or.inr rfl
    · exact Or.inl rfl
theorem near_b1 (k q : Int) : near k q = 0 ∨ near k q = 1 := near_b 4
