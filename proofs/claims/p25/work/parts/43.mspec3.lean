theorem mfl_nn {lv w m0 : Int → Int} (h : bnd w 0 40) : ∀ n : Nat, n ≤ 80 → ∀ j : Int, 0 ≤ j → j < 80 → (if j < n then - w j else 0) ≤ itr (mflB lv w) (cpI m0 (fun _ => 0) 80) n j
  | 0, _, j, h1, h2 => by
    show _ ≤ cpI m0 (fun _ => 0) 80 j
    rw [cpI_v, if_neg (by omega), if_pos (by omega)]
    exact Int.le_refl _
  | n + 1, hn, j, h1, h2 => by
    have q := mfl_nn (lv := lv) (m0 := m0) h n (by omega)
    show _ ≤ mflB lv w n (itr (mflB lv w) (cpI m0 (fun _ => 0) 80) n) j
    generalize itr (mflB lv w) (cpI m0 (fun _ => 0) 80) n = f at q ⊢
    have hg := mgv_b (lv := lv) (lo := lowest lv n) (p := n) h
    have q1 := q j h1 h2
    have q2 := q n (by omega) (by omega)
    have q3 := h j
    rw [if_neg (by omega)] at q2
    have hl := lowest_b (lv := lv) (p := n) (by omega)
    have hc := lowest_ne (lv := lv) (p := n) (by omega)
    have q4 := q (lowest lv n) (by omega) hl.2
    unfold mflB
    generalize mgv lv w (lowest lv n) n = g at hg ⊢
    generalize lowest lv n = m at hc hl q4 ⊢
    have q5 := h m
    unfold fset
    by_cases e1 : j = m
    · subst e1
      rw [if_pos rfl]
      by_cases e2 : j = n
      · rw [if_pos e2, e2, if_pos (by omega)]
        omega
      · rw [if_neg e2]
        split at q1 <;> split <;> omega
    · rw [if_neg e1]
      by_cases e2 : j = n
      · rw [if_pos e2, e2, if_pos (by omega)]
        omega
      · rw [if_neg e2]
        split at q1 <;> split <;> omega
theorem mw_b {m w : Int → Int} (h : bnd w 0 40) (h2 : ∀ j : Int, 0 ≤ j → j < 80 → - w j ≤ m j) : ∀ n : Nat, n ≤ 80 → (∀ j : Int, 0 ≤ itr (mwB m) w n j ∧ itr (mwB m) w n j ≤ 40 ∧ (¬ j < n → itr (mwB m) w n j = w j))
  | 0, _, j => ⟨(h j).1, (h j).2, fun _ => rfl⟩
  | n + 1, hn, j => by
    have h1 := mw_b h h2 n (by omega) j
    have h3 := mw_b h h2 n (by omega) n
    have h4 := h2 n (by omega) (by omega)
    have h5 := h3.2.2 (by omega)
    show 0 ≤ fset (itr (mwB m) w n) n (min 40 (itr (mwB m) w n n + m n)) j ∧ fset (itr (mwB m) w n) n (min 40 (itr (mwB m) w n n + m n)) j ≤ 40 ∧ (_ → fset (itr (mwB m) w n) n (min 40 (itr (mwB m) w n n + m n)) j = _)
    unfold fset
    split <;> omega
theorem okS_mflow {M S : gS} (h : okS S) : okS (mflowS M S) := by
  have h1 : ∀ j : Int, 0 ≤ j → j < 80 → - S.1 3 j ≤ mmo M S j := fun j a b => by
    have := mfl_nn (lv := mlv M S) (m0 := M.1 5) (okS_3 h) 80 (Nat.le_refl 80) j a b
    rw [if_pos (by omega)] at this
    exact this
  unfold mflowS
  generalize mmo M S = m at h1 ⊢
  have h2 := mw_b (okS_3 h) h1 80 (Nat.le_refl 80)
  exact okS_s3 h (fun j => ⟨(h2 j).1, (h2 j).2.1⟩)
theorem lvS_b {S : gS} (h : okS S) : bnd (levS S) 0 55 := fun j => lev_b (okS_1 h) (okS_2 h) (okS_3 h) j
theorem okM_flow {M S : gS} (h : okM M) (h2 : okS S) : okM (flowM M S) := okM_s5 (okM_s4 h (cpI_b (okM_4 h) (lvS_b h2) 80)) (mfl_b (okS_3 h2) (okM_5 h) (Nat.le_refl 80))
/-! pumps -/
def ownM (S : gS) (p : Int) : Int := min (S.1 4 (5 * p + 1)) (S.1 3 (S.1 4 (5 * p)))
def drainS (S : gS) (p : Int) : gS :=
  if S.1 4 (5 * p + 3) = 0 ∨ S.1 4 (5 * p + 2) = 0 ∨ S.1 3 (S.1 4 (5 * p)) = 0 then S else
    setA (setA S 3 (fset (S.1 3) (S.1 4 (5 * p)) (S.1 3 (S.1 4 (5 * p)) - ownM S p))) 4 (fset (fset (S.1 4) (5 * p + 2) (S.1 4 (5 * p + 2) - 1)) (5 * p + 4) (S.1 4 (5 * p + 4) + ownM S p))
theorem okS_drain {S : gS} {p : Int} (h : okS S) : okS (drainS S p) := by
  unfold drainS
  split
  · exact h
  · have a1 := okS_3 h (S.1 4 (5 * p)); have a2 := okS_41 h p; have a3 := okS_42 h p
    refine okS_s4 (okS_s3 h (bnd_fset (okS_3 h) (by unfold ownM; omega))) (fun k => ?_) (fun k => ?_) (fun k => ?_) (fun k => ?_)
    · rw [fset_ne (by omega), fset_ne (by omega)]; exact okS_40 h k
    · rw [fset_ne (by omega), fset_ne (by omega)]; exact okS_41 h k
    · rw [fset_ne (by omega)]
      have := okS_42 h k
      unfold fset
      split <;> omega
    · rw [fset_ne (by omega), fset_ne (by omega)]; exact okS_43 h k
def drB : Nat → gS → gS := fun k S => drainS S k
def drI (S : gS) (n : Nat) : gS := itr drB S n
theorem okS_drI {S : gS} (h : okS S) : ∀ n : Nat, okS (drI S n)
  | 0 => h
  | n + 1 => okS_drain (okS_drI h n)
/-! callers -/
theorem stpM_2 {M S : gS} {a b : Int} : (stpM M S a b).2 = M.2 := by
  unfold stpM
  split <;> rfl
abbrev gBs : Type := gS × Int × Int
def mcB (S : gS) (c : Int) : Nat → gBs → gBs := fun k x =>
  if S.1 7 (4 * (k : Int) + 2) ≠ 0 then x else
  if dst (S.1 3) (S.1 8 (2 * c)) (S.1 7 (4 * (k : Int))) = -1 ∨ (x.2.1 ≠ -1 ∧ x.2.2 ≤ dst (S.1 3) (S.1 8 (2 * c)) (S.1 7 (4 * (k : Int)))) then (stpM x.1 S (S.1 8 (2 * c)) (S.1 7 (4 * (k : Int))), x.2.1, x.2.2)
  else (stpM x.1 S (S.1 8 (2 * c)) (S.1 7 (4 * (k : Int))), (k : Int), dst (S.1 3) (S.1 8 (2 * c)) (S.1 7 (4 * (k : Int))))
def mcI (M S : gS) (c : Int) (n : Nat) : gBs := itr (mcB S c) (M, -1, -1) n
/-- what is kept of the best: it can be come to -/
def okB (w : Int → Int) (a : Int) (to : Int → Int) (n : Int) (M : gS) (x : gBs) : Prop := okM x.1 ∧ x.1.2 = M.2 ∧ (-1 ≤ x.2.1 ∧ x.2.1 < n) ∧ (-1 ≤ x.2.2 ∧ x.2.2 ≤ 1001) ∧ (x.2.1 ≠ -1 → dst w a (to x.2.1) ≠ -1)
theorem mcI_b {M S : gS} {c : Int} (h : okM M) (hS : okS S) : ∀ n : Nat, okB (S.1 3) (S.1 8 (2 * c)) (fun k => S.1 7 (4 * k)) n M (mcI M S c n)
  | 0 => ⟨h, rfl, by simp [mcI, itr], by simp [mcI, itr], fun z => absurd rfl z⟩
  | n + 1 => by
    have h1 := mcI_b (c := c) h hS n
    show okB _ _ _ _ M (mcB S c n (mcI M S c n))
    generalize mcI M S c n = x at h1
    obtain ⟨q1, q2, q3, q4, q5⟩ := h1
    have b1 := okS_70 hS n
    have b2 := dst_b (w := S.1 3) (a := S.1 8 (2 * c)) (b := S.1 7 (4 * (n : Int))) (by omega)
    unfold mcB
    split
    · exact ⟨q1, q2, ⟨q3.1, by omega⟩, q4, q5⟩
    · split
      · exact ⟨okM_stp q1 (by omega), stpM_2.trans q2, ⟨q3.1, by simp only []; omega⟩, q4, q5⟩
      · rename_i hc
        exact ⟨okM_stp q1 (by omega), stpM_2.trans q2, ⟨by simp only []; omega, by simp only []; omega⟩, b2, fun _ e => hc (Or.inl e)⟩
def nearM (a b : Int) : Int := bI ((if 0 ≤ a % 10 - b % 10 then a % 10 - b % 10 else 0 - (a % 10 - b % 10)) + (if 0 ≤ a / 10 - b / 10 then a / 10 - b / 10 else 0 - (a / 10 - b / 10)) ≤ 1)
def mhB (c : Int) : Nat → gS → gS := fun k S =>
  if S.1 7 (4 * (k : Int) + 2) = 0 ∧ nearM (S.1 8 (2 * c)) (S.1 7 (4 * (k : Int))) ≠ 0 then setA (setA S 7 (fset (S.1 7) (4 * (k : Int) + 2) 1)) 8 (fset (S.1 8) (2 * c + 1) (S.1 8 (2 * c + 1) + 1)) else S
def mhI (S : gS) (c : Int) (n : Nat) : gS := itr (mhB c) S n
theorem okS_mhB {S : gS} {c : Int} {k : Nat} (h : okS S) : okS (mhB c k S) := by
  unfold mhB
  split
  · refine okS_s8 (okS_s7 h (fun k => ?_) (fun k => ?_) (fun k => ?_) (fun k => ?_)) (fun k => ?_)
    · rw [fset_ne (by omega)]; exact okS_70 h k
    · rw [fset_ne (by omega)]; exact okS_71 h k
    · have := okS_72 h k
      unfold fset
      split <;> omega
    · rw [fset_ne (by omega)]; exact okS_73 h k
    · rw [fset_ne (by omega)]; exact okS_80 h k
  · exact h
theorem okS_mhI {S : gS} {c : Int} (h : okS S) : ∀ n : Nat, okS (mhI S c n)
  | 0 => h
  | n + 1 => okS_mhB (okS_mhI h n)
def mBest (M S : gS) (c : Int) : gBs := mcI M S c (M.2 4).toNat
def mStep (M S : gS) (c : Int) : gS := if (mBest M S c).2.1 ≠ -1 then setA S 8 (fset (S.1 8) (2 * c) (dsC (S.1 3) (S.1 8 (2 * c)) (S.1 7 (4 * (mBest M S c).2.1)))) else S
def mCallM (M S : gS) (c : Int) : gS := if (mBest M S c).2.1 ≠ -1 then stpM (mBest M S c).1 S (S.1 8 (2 * c)) (S.1 7 (4 * (mBest M S c).2.1)) else (mBest M S c).1
def mCallS (M S : gS) (c : Int) : gS := mhI (mStep M S c) c (M.2 4).toNat
theorem okS_mStep {M S : gS} {c : Int} (h : okM M) (hS : okS S) : okS (mStep M S c) := by
  have h1 := mcI_b (c := c) h hS (M.2 4).toNat
  unfold mStep
  split
  · rename_i hc
    have b0 := okS_80 hS c
    have b1 := okS_70 hS (mBest M S c).2.1
    have h2 := dsC_b (w := S.1 3) (a := S.1 8 (2 * c)) (b := S.1 7 (4 * (mBest M S c).2.1)) (by omega) (Or.inr (h1.2.2.2.2 hc))
    refine okS_s8 hS (fun k => ?_)
    have := okS_80 hS k
    unfold fset
    split <;> omega
  · exact hS
theorem okM_mCall {M S : gS} {c : Int} (h : okM M) (hS : okS S) : okM (mCallM M S c) := by
  have h1 := mcI_b (c := c) h hS (M.2 4).toNat
  have b1 := okS_70 hS (mBest M S c).2.1
  unfold mCallM
  split
  · exact okM_stp h1.1 (by omega)
  · exact h1.1
theorem mCallM_2 {M S : gS} {c : Int} (h : okM M) (hS : okS S) : (mCallM M S c).2 = M.2 := by
  have h1 := mcI_b (c := c) h hS (M.2 4).toNat
  unfold mCallM
  split
  · exact stpM_2.trans h1.2.1
  · exact h1.2.1
theorem okS_mCall {M S : gS} {c : Int} (h : okM M) (hS : okS S) : okS (mCallS M S c) := okS_mhI (okS_mStep h hS) _
abbrev gMS : Type := gS × gS
def mclB : Nat → gMS → gMS := fun k x => (mCallM x.1 x.2 k, mCallS x.1 x.2 k)
def mclI (M S : gS) (n : Nat) : gMS := itr mclB (M, S) n
theorem mclI_b {M S : gS} (h : okM M) (hS : okS S) : ∀ n : Nat, okM (mclI M S n).1 ∧ okS (mclI M S n).2 ∧ (mclI M S n).1.2 = M.2
  | 0 => ⟨h, hS, rfl⟩
  | n + 1 => by
    obtain ⟨q1, q2, q3⟩ := mclI_b h hS n
    exact ⟨okM_mCall q1 q2, okS_mCall q1 q2, (mCallM_2 q1 q2).trans q3⟩
/-! refuges -/
def pinB (S : gS) (r : Int) : Nat → Int → Int := fun k s => s + tod (S.1 7 (4 * (k : Int) + 2) = 2 ∧ S.1 7 (4 * (k : Int) + 3) = r) (S.1 7 (4 * (k : Int) + 1)) 0
def pinI (S : gS) (r : Int) (n : Nat) : Int := itr (pinB S r) 0 n
theorem pin_b {S : gS} {r : Int} (h : okS S) : ∀ n : Nat, 0 ≤ pinI S r n ∧ pinI S r n ≤ 6 * n
  | 0 => by simp [pinI, itr]
  | n + 1 => by
    have h1 := pin_b (r := r) h n
    have h2 := okS_71 h n
    show 0 ≤ pinB S r n (pinI S r n) ∧ pinB S r n (pinI S r n) ≤ _
    generalize pinI S r n = z at h1 ⊢
    unfold pinB tod
    split <;> omega
def rfB (S : gS) (h : Int) (m : Nat) : Nat → gBs → gBs := fun k x =>
  if ¬ (S.1 7 (4 * h + 1) ≤ S.1 6 (2 * (k : Int) + 1) - pinI S k m) then x else
  if dst (S.1 3) (S.1 7 (4 * h)) (S.1 6 (2 * (k : Int))) = -1 ∨ (x.2.1 ≠ -1 ∧ x.2.2 ≤ dst (S.1 3) (S.1 7 (4 * h)) (S.1 6 (2 * (k : Int)))) then (stpM x.1 S (S.1 7 (4 * h)) (S.1 6 (2 * (k : Int))), x.2.1, x.2.2)
  else (stpM x.1 S (S.1 7 (4 * h)) (S.1 6 (2 * (k : Int))), (k : Int), dst (S.1 3) (S.1 7 (4 * h)) (S.1 6 (2 * (k : Int))))
def rfI (M S : gS) (h : Int) (n : Nat) : gBs := itr (rfB S h (M.2 4).toNat) (M, -1, -1) n
theorem rfI_b {M S : gS} {c : Int} (h : okM M) (hS : okS S) : ∀ n : Nat, okB (S.1 3) (S.1 7 (4 * c)) (fun k => S.1 6 (2 * k)) n M (rfI M S c n)
  | 0 => ⟨h, rfl, by simp [rfI, itr], by simp [rfI, itr], fun z => absurd rfl z⟩
  | n + 1 => by
    have h1 := rfI_b (c := c) h hS n
    show okB _ _ _ _ M (rfB S c (M.2 4).toNat n (rfI M S c n))
    generalize rfI M S c n = x at h1
    obtain ⟨q1, q2, q3, q4, q5⟩ := h1
    have b1 := okS_60 hS n
    have b2 := dst_b (w := S.1 3) (a := S.1 7 (4 * c)) (b := S.1 6 (2 * (n : Int))) (by omega)
    unfold rfB
    split
    · exact ⟨q1, q2, ⟨q3.1, by omega⟩, q4, q5⟩
    · split
      · exact ⟨okM_stp q1 (by omega), stpM_2.trans q2, ⟨q3.1, by simp only []; omega⟩, q4, q5⟩
      · rename_i hc
        exact ⟨okM_stp q1 (by omega), stpM_2.trans q2, ⟨by simp only []; omega, by simp only []; omega⟩, b2, fun _ e => hc (Or.inl e)⟩
def rfX (M S : gS) (h : Int) : gBs := rfI M S h (M.2 3).toNat
theorem rfX_b {M S : gS} {c : Int} (h : okM M) (hS : okS S) : okB (S.1 3) (S.1 7 (4 * c)) (fun k => S.1 6 (2 * k)) (M.2 3) M (rfX M S c) := by
  have h1 := rfI_b (c := c) h hS (M.2 3).toNat
  have h2 := okM_i3 h
  rw [show ((M.2 3).toNat : Int) = M.2 3 by omega] at h1
  exact h1
def flM (M S : gS) (h : Int) : gS := if (rfX M S h).2.1 ≠ -1 then stpM (rfX M S h).1 S (S.1 7 (4 * h)) (S.1 6 (2 * (rfX M S h).2.1)) else (rfX M S h).1
def flS (M S : gS) (h : Int) : gS := if (rfX M S h).2.1 ≠ -1 then setA S 7 (fset (S.1 7) (4 * h) (dsC (S.1 3) (S.1 7 (4 * h)) (S.1 6 (2 * (rfX M S h).2.1)))) else S
def hrM (M S : gS) (h : Int) : Int := fstI (fun j => S.1 6 (2 * j)) (S.1 7 (4 * h)) (M.2 3).toNat
def enS (M S : gS) (h : Int) : gS := if hrM M S h = -1 ∨ ¬ (S.1 7 (4 * h + 1) ≤ S.1 6 (2 * hrM M S h + 1) - pinI S (hrM M S h) (M.2 4).toNat) then S else setA S 7 (fset (fset (S.1 7) (4 * h + 2) 2) (4 * h + 3) (hrM M S h))
def flB : Nat → gMS → gMS := fun k x => if x.2.1 7 (4 * (k : Int) + 2) = 1 then (flM x.1 x.2 k, enS x.1 (flS x.1 x.2 k) k) else x
def flI (M S : gS) (n : Nat) : gMS := itr flB (M, S) n
theorem okM_flM {M S : gS} {c : Int} (h : okM M) (hS : okS S) : okM (flM M S c) ∧ (flM M S c).2 = M.2 := by
  have h1 := rfX_b (c := c) h hS
  have b1 := okS_60 hS (rfX M S c).2.1
  unfold flM
  split
  · exact ⟨okM_stp h1.1 (by omega), stpM_2.trans h1.2.1⟩
  · exact ⟨h1.1, h1.2.1⟩
theorem okS_flS {M S : gS} {c : Int} (h : okM M) (hS : okS S) : okS (flS M S c) := by
  have h1 := rfX_b (c := c) h hS
  unfold flS
  split
  · rename_i hc
    have b0 := okS_70 hS c
    have b1 := okS_60 hS (rfX M S c).2.1
    have h2 := dsC_b (w := S.1 3) (a := S.1 7 (4 * c)) (b := S.1 6 (2 * (rfX M S c).2.1)) (by omega) (Or.inr (h1.2.2.2.2 hc))
    refine okS_s7 hS (fun k => ?_) (fun k => ?_) (fun k => ?_) (fun k => ?_)
    · have := okS_70 hS k
      unfold fset
      split <;> omega
    · rw [fset_ne (by omega)]; exact okS_71 hS k
    · rw [fset_ne (by omega)]; exact okS_72 hS k
    · rw [fset_ne (by omega)]; exact okS_73 hS k
  · exact hS
theorem okS_enS {M S : gS} {c : Int} (h : okM M) (hS : okS S) : okS (enS M S c) := by
  have h1 := fst_b (fun j => S.1 6 (2 * j)) (S.1 7 (4 * c)) (M.2 3).toNat
  have h2 := okM_i3 h
  unfold enS
  split
  · exact hS
  · have h3 : -1 ≤ hrM M S c ∧ hrM M S c < 4 := ⟨h1.1, by unfold hrM; omega⟩
    generalize hrM M S c = z at h3 ⊢
    refine okS_s7 hS (fun k => ?_) (fun k => ?_) (fun k => ?_) (fun k => ?_)
    · rw [fset_ne (by omega), fset_ne (by omega)]; exact okS_70 hS k
    · rw [fset_ne (by omega), fset_ne (by omega)]; exact okS_71 hS k
    · rw [fset_ne (by omega)]
      have := okS_72 hS k
      unfold fset
      split <;> omega
    · have := okS_73 hS k
      unfold fset
      split
      · omega
      · split <;> omega
theorem flI_b {M S : gS} (h : okM M) (hS : okS S) : ∀ n : Nat, okM (flI M S n).1 ∧ okS (flI M S n).2 ∧ (flI M S n).1.2 = M.2
  | 0 => ⟨h, hS, rfl⟩
  | n + 1 => by
    obtain ⟨q1, q2, q3⟩ := flI_b h hS n
    show okM (flB n (flI M S n)).1 ∧ okS (flB n (flI M S n)).2 ∧ (flB n (flI M S n)).1.2 = M.2
    generalize flI M S n = x at q1 q2 q3
    unfold flB
    split
    · exact ⟨(okM_flM q1 q2).1, okS_enS q1 (okS_flS q1 q2), (okM_flM q1 q2).2.trans q3⟩
    · exact ⟨q1, q2, q3⟩
/-! who is lost -/
def mdS (S : gS) (h : Int) : gS :=
  if 1 < S.1 7 (4 * h + 2) ∨ S.1 3 (S.1 7 (4 * h)) < 5 then S else
  if S.1 7 (4 * h + 1) - 1 = 0 then setI (setA S 7 (fset (fset (S.1 7) (4 * h + 1) (S.1 7 (4 * h + 1) - 1)) (4 * h + 2) 3)) 1 (S.2 1 + 1)
  else setI (setA S 7 (fset (S.1 7) (4 * h + 1) (S.1 7 (4 * h + 1) - 1))) 1 (S.2 1 + 1)
def mdB : Nat → gS → gS := fun k S => mdS S k
def mdI (S : gS) (n : Nat) : gS := itr mdB S n
def okP (S : gS) (n : Int) : Prop := ∀ k : Int, 0 ≤ k → k < n → S.1 7 (4 * k + 2) ≤ 1 → 1 ≤ S.1 7 (4 * k + 1)
theorem mdS_b {S : gS} {h n : Int} (hS : okS S) (hP : okP S n) (h0 : 0 ≤ h ∧ h < n) : okS (mdS S h) ∧ okP (mdS S h) n := by
  have a1 := hP h h0.1 h0.2
  have a2 := okS_71 hS h
  unfold mdS
  split
  · exact ⟨hS, hP⟩
  · have a3 := a1 (by omega)
    split
    · refine ⟨okS_j1 (okS_s7 hS (fun k => ?_) (fun k => ?_) (fun k => ?_) (fun k => ?_)), fun k b1 b2 b3 => ?_⟩
      · rw [fset_ne (by omega), fset_ne (by omega)]; exact okS_70 hS k
      · rw [fset_ne (by omega)]
        have := okS_71 hS k
        unfold fset
        split <;> omega
      · have := okS_72 hS k
        rw [fset, fset]
        split
        · omega
        · rw [if_neg (by omega)]; exact this
      · rw [fset_ne (by omega), fset_ne (by omega)]; exact okS_73 hS k
      · have b3 : fset (fset (S.1 7) (4 * h + 1) (S.1 7 (4 * h + 1) - 1)) (4 * h + 2) 3 (4 * k + 2) ≤ 1 := b3
        show 1 ≤ fset (fset (S.1 7) (4 * h + 1) (S.1 7 (4 * h + 1) - 1)) (4 * h + 2) 3 (4 * k + 1)
        rw [fset_ne (show 4 * k + 1 ≠ 4 * h + 2 by omega)]
        by_cases e : k = h
        · rw [e, fset_same] at b3; omega
        · rw [fset_ne (show 4 * k + 2 ≠ 4 * h + 2 by omega), fset_ne (show 4 * k + 2 ≠ 4 * h + 1 by omega)] at b3
          rw [fset_ne (show 4 * k + 1 ≠ 4 * h + 1 by omega)]
          exact hP k b1 b2 b3
    · refine ⟨okS_j1 (okS_s7 hS (fun k => ?_) (fun k => ?_) (fun k => ?_) (fun k => ?_)), fun k b1 b2 b3 => ?_⟩
      · rw [fset_ne (by omega)]; exact okS_70 hS k
      · have := okS_71 hS k
        unfold fset
        split <;> omega
      · rw [fset_ne (by omega)]; exact okS_72 hS k
      · rw [fset_ne (by omega)]; exact okS_73 hS k
      · have b3 : fset (S.1 7) (4 * h + 1) (S.1 7 (4 * h + 1) - 1) (4 * k + 2) ≤ 1 := b3
        show 1 ≤ fset (S.1 7) (4 * h + 1) (S.1 7 (4 * h + 1) - 1) (4 * k + 1)
        rw [fset_ne (show 4 * k + 2 ≠ 4 * h + 1 by omega)] at b3
        have := hP k b1 b2 b3
        unfold fset
        split <;> omega
theorem mdI_b {S : gS} {n : Int} (hS : okS S) (hP : okP S n) : ∀ k : Nat, (k : Int) ≤ n → okS (mdI S k) ∧ okP (mdI S k) n
  | 0, _ => ⟨hS, hP⟩
  | k + 1, hk => by
    obtain ⟨q1, q2⟩ := mdI_b hS hP k (by omega)
    exact mdS_b (h := k) q1 q2 (by omega)
/-! an hour of the model -/
theorem okP_le {S T : gS} {n : Int} (h : okP S n) (h2 : ∀ k : Int, T.1 7 (4 * k + 1) = S.1 7 (4 * k + 1)) (h3 : ∀ k : Int, T.1 7 (4 * k + 2) ≤ 1 → S.1 7 (4 * k + 2) ≤ 1) : okP T n := by
  intro k a b c
  rw [h2]
  exact h k a b (h3 k c)
theorem okP_mhI {S : gS} {c n : Int} (h : okP S n) : ∀ k : Nat, okP (mhI S c k) n
  | 0 => h
  | k + 1 => by
    have h1 := okP_mhI (c := c) h k
    show okP (mhB c k (mhI S c k)) n
    generalize mhI S c k = x at h1
    unfold mhB
    split
    · rename_i hc
      refine okP_le h1 (fun j => ?_) (fun j hj => ?_)
      · show fset (x.1 7) (4 * k + 2) 1 (4 * j + 1) = _
        exact fset_ne (by omega)
      · have hj : fset (x.1 7) (4 * k + 2) 1 (4 * j + 2) ≤ 1 := hj
        by_cases e : j = k
        · rw [e, hc.1]; decide
        · rw [fset_ne (by omega)] at hj; exact hj
    · exact h1
theorem okP_mCall {M S : gS} {c n : Int} (h : okP S n) : okP (mCallS M S c) n := by
  refine okP_mhI ?_ _
  unfold mStep
  split
  · exact h
  · exact h
theorem okP_mclI {M S : gS} {n : Int} (h : okP S n) : ∀ k : Nat, okP (mclI M S k).2 n
  | 0 => h
  | k + 1 => okP_mCall (okP_mclI h k)
theorem okP_flI {M S : gS} {n : Int} (h : okP S n) : ∀ k : Nat, okP (flI M S k).2 n
  | 0 => h
  | k + 1 => by
    have h1 := okP_flI (M := M) h k
    show okP (flB k (flI M S k)).2 n
    generalize flI M S k = x at h1
    have e1 : ∀ (A T : gS), okP T n → okP (flS A T k) n := by
      intro A T hT
      unfold flS
      split
      · refine okP_le hT (fun j => fset_ne (by omega)) (fun j hj => ?_)
        have hj : fset (T.1 7) (4 * k) _ (4 * j + 2) ≤ 1 := hj
        rw [fset_ne (by omega)] at hj
        exact hj
      · exact hT
    have e2 : ∀ (A T : gS), okP T n → okP (enS A T k) n := by
      intro A T hT
      unfold enS
      split
      · exact hT
      · refine okP_le hT (fun j => ?_) (fun j hj => ?_)
        · show fset (fset (T.1 7) (4 * k + 2) 2) (4 * k + 3) _ (4 * j + 1) = _
          rw [fset_ne (by omega), fset_ne (by omega)]
        · have hj : fset (fset (T.1 7) (4 * k + 2) 2) (4 * k + 3) (hrM A T k) (4 * j + 2) ≤ 1 := hj
          rw [fset_ne (by omega)] at hj
          by_cases e : j = k
          · rw [e, fset_same] at hj; omega
          · rw [fset_ne (by omega)] at hj; exact hj
    unfold flB
    split
    · exact e2 _ _ (e1 _ _ h1)
    · exact h1
def mRise (M S : gS) : gS := setA S 3 (rise (M.1 1) (S.1 3) (S.2 0))
def mWatM (M S : gS) : gS := flowM M (mRise M S)
def mWat (M S : gS) : gS := drI (mflowS M (mRise M S)) (M.2 1).toNat
def mRing (M S : gS) : Int := ringN (S.1 3) (fun k => S.1 5 (2 * k)) (fun k => S.1 5 (2 * k + 1)) (M.2 2).toNat
def mCld (M S : gS) : gMS := if 0 < mRing M S then mclI M S (M.2 5).toNat else (M, S)
def mHou (M S : gS) : gMS := flI (mCld M S).1 (mCld M S).2 (M.2 4).toNat
def mHourM (M S : gS) : gS := (mHou (mWatM M S) (mWat M S)).1
def mDr (M S : gS) : gS := mdI (mHou (mWatM M S) (mWat M S)).2 (M.2 4).toNat
def mHourS (M S : gS) : gS := setI (mDr M S) 0 ((mDr M S).2 0 + 1)
theorem okS_mRise {M S : gS} (h : okM M) (hS : okS S) : okS (mRise M S) := okS_s3 hS (rise_b (okM_1 h) (okS_3 hS))
theorem okS_mWat {M S : gS} (h : okM M) (hS : okS S) : okS (mWat M S) := okS_drI (okS_mflow (okS_mRise h hS)) _
theorem okM_mWat {M S : gS} (h : okM M) (hS : okS S) : okM (mWatM M S) := okM_flow h (okS_mRise h hS)
theorem mCld_b {M S : gS} (h : okM M) (hS : okS S) : okM (mCld M S).1 ∧ okS (mCld M S).2 ∧ (mCld M S).1.2 = M.2 := by
  unfold mCld
  split
  · exact mclI_b h hS _
  · exact ⟨h, hS, rfl⟩
theorem okP_mCld {M S : gS} {n : Int} (h : okP S n) : okP (mCld M S).2 n := by
  unfold mCld
  split
  · exact okP_mclI h _
  · exact h
theorem mHou_b {M S : gS} (h : okM M) (hS : okS S) : okM (mHou M S).1 ∧ okS (mHou M S).2 ∧ (mHou M S).1.2 = M.2 := by
  obtain ⟨q1, q2, q3⟩ := mCld_b h hS
  have := flI_b q1 q2 (M.2 4).toNat
  exact ⟨this.1, this.2.1, this.2.2.trans q3⟩
theorem drI_7 (S : gS) : ∀ n : Nat, (drI S n).1 7 = S.1 7 ∧ (drI S n).2 = S.2
  | 0 => ⟨rfl, rfl⟩
  | n + 1 => by
    have h := drI_7 S n
    show (drainS (drI S n) n).1 7 = S.1 7 ∧ (drainS (drI S n) n).2 = S.2
    generalize drI S n = x at h
    unfold drainS
    split
    · exact h
    · exact h
theorem okP_mWat {M S : gS} {n : Int} (h : okP S n) : okP (mWat M S) n := by
  have e := (drI_7 (mflowS M (mRise M S)) (M.2 1).toNat).1
  intro k a b c
  have c : (mWat M S).1 7 (4 * k + 2) ≤ 1 := c
  unfold mWat at c ⊢
  rw [e] at c ⊢
  exact h k a b c
theorem mHour_b {M S : gS} (h : okM M) (hS : okS S) (hP : okP S (M.2 4)) : okM (mHourM M S) ∧ okS (mHourS M S) ∧ okP (mHourS M S) (M.2 4) ∧ (mHourM M S).2 = M.2 := by
  have hn := okM_i4 h
  have q1 := mHou_b (okM_mWat h hS) (okS_mWat h hS)
  have q2 : okP (mHou (mWatM M S) (mWat M S)).2 (M.2 4) := okP_flI (okP_mCld (okP_mWat hP)) _
  have q3 := mdI_b q1.2.1 q2 (M.2 4).toNat (by omega)
  exact ⟨q1.1, okS_j0 q3.1, q3.2, q1.2.2⟩
theorem mdI_0 (S : gS) : ∀ n : Nat, (mdI S n).2 0 = S.2 0
  | 0 => rfl
  | n + 1 => by
    rw [← mdI_0 S n]
    show (mdS (mdI S n) n).2 0 = (mdI S n).2 0
    generalize mdI S n = x
    unfold mdS
    split
    · rfl
    · split <;> rfl
theorem flI_2 (M S : gS) : ∀ n : Nat, (flI M S n).2.2 = S.2
  | 0 => rfl
  | n + 1 => by
    rw [← flI_2 M S n]
    show (flB n (flI M S n)).2.2 = (flI M S n).2.2
    generalize flI M S n = x
    unfold flB
    split
    · unfold enS
      split
      all_goals (unfold flS; split <;> rfl)
    · rfl
theorem mhI_2 (S : gS) (c : Int) : ∀ n : Nat, (mhI S c n).2 = S.2
  | 0 => rfl
  | n + 1 => by
    rw [← mhI_2 S c n]
    show (mhB c n (mhI S c n)).2 = (mhI S c n).2
    generalize mhI S c n = x
    unfold mhB
    split <;> rfl
theorem mclI_2 (M S : gS) : ∀ n : Nat, (mclI M S n).2.2 = S.2
  | 0 => rfl
  | n + 1 => by
    rw [← mclI_2 M S n]
    show (mCallS (mclI M S n).1 (mclI M S n).2 n).2 = (mclI M S n).2.2
    unfold mCallS
    rw [mhI_2]
    unfold mStep
    split <;> rfl
theorem mHou_2 (M S : gS) : (mHou M S).2.2 = S.2 := by
  unfold mHou
  rw [flI_2]
  unfold mCld
  split
  · exact mclI_2 M S _
  · rfl
theorem mHourS_0 {M S : gS} : (mHourS M S).2 0 = S.2 0 + 1 := by
  show (mDr M S).2 0 + 1 = S.2 0 + 1
  unfold mDr
  rw [mdI_0, mHou_2]
  unfold mWat
  rw [(drI_7 _ _).2]
  rfl
def mhsB : Nat → gMS → gMS := fun _ x => (mHourM x.1 x.2, mHourS x.1 x.2)
def mhsI (M S : gS) (n : Nat) : gMS := itr mhsB (M, S) n
theorem mhsI_b {M S : gS} (h : okM M) (hS : okS S) (hP : okP S (M.2 4)) : ∀ n : Nat, okM (mhsI M S n).1 ∧ okS (mhsI M S n).2 ∧ okP (mhsI M S n).2 (M.2 4) ∧ (mhsI M S n).1.2 = M.2 ∧ (mhsI M S n).2.2 0 = S.2 0 + n
  | 0 => ⟨h, hS, hP, rfl, (Int.add_zero _).symm⟩
  | n + 1 => by
    obtain ⟨q1, q2, q3, q4, q5⟩ := mhsI_b h hS hP n
    have := mHour_b q1 q2 (by rw [q4]; exact q3)
    rw [q4] at this
    refine ⟨this.1, this.2.1, this.2.2.1, this.2.2.2, ?_⟩
    show (mHourS (mhsI M S n).1 (mhsI M S n).2).2 0 = _
    rw [mHourS_0, q5]
    omega
theorem fir_ne {M S : gS} {a b : Int} (h : okM M) (ha : 0 ≤ a ∧ a < 80) (hb : 0 ≤ b ∧ b < 80) (hn : ¬ a = b) (hd : a = b ∨ dst (S.1 3) a b ≠ -1) : firI ((reckM M S b).1 2) a ≠ -1 := by
  rcases hd with hd | hd
  · exact absurd hd hn
  · rw [firI_M h ha hb]
    intro e
    apply hd
    unfold dst
    rw [if_neg hn, if_pos e]
theorem mRing_b {M S : gS} (h : okM M) : 0 ≤ mRing M S ∧ mRing M S ≤ 4 := by
  have h1 := ring_b (S.1 3) (fun k => S.1 5 (2 * k)) (fun k => S.1 5 (2 * k + 1)) (M.2 2).toNat
  have h2 := okM_i2 h
  unfold mRing
  omega
theorem mw_id {m w : Int → Int} : ∀ (n : Nat) (j : Int), ¬ j < n → itr (mwB m) w n j = w j
  | 0, _, _ => rfl
  | n + 1, j, h => by
    show fset (itr (mwB m) w n) n _ j = _
    rw [fset_ne (by omega)]
    exact mw_id n j (by omega)
