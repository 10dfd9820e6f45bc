/-! what the model tells -/
def papB (S : gS) (q : Int) : Nat → Int → Int := fun k s => s + tod (S.1 7 (4 * (k : Int)) = q ∧ S.1 7 (4 * (k : Int) + 2) < 2) (S.1 7 (4 * (k : Int) + 1)) 0
def papI (S : gS) (q : Int) (n : Nat) : Int := itr (papB S q) 0 n
def mCel (S : gS) (n : Nat) (q what : Int) : Int :=
  if what = 0 then S.1 1 q else if what = 1 then S.1 2 q else if what = 2 then S.1 3 q else if what = 3 then lev (S.1 1) (S.1 2) (S.1 3) q else if what = 4 then papI S q n else bI (q ≠ -1 ∧ S.1 3 q < 3)
def mPmp (S : gS) (p what : Int) : Int := if what = 0 then S.1 4 (5 * p) % 10 else if what = 1 then S.1 4 (5 * p) / 10 else S.1 4 (5 * p + what - 1)
def mGau (S : gS) (g what : Int) : Int := if what = 0 then S.1 5 (2 * g) % 10 else if what = 1 then S.1 5 (2 * g) / 10 else if what = 2 then S.1 5 (2 * g + 1) else if what = 3 then S.1 3 (S.1 5 (2 * g)) else bI (S.1 5 (2 * g + 1) ≤ S.1 3 (S.1 5 (2 * g)))
def gstB (S : gS) (r : Int) : Nat → Int → Int := fun k s => s + bI (S.1 7 (4 * (k : Int) + 2) = 2 ∧ S.1 7 (4 * (k : Int) + 3) = r)
def gstI (S : gS) (r : Int) (n : Nat) : Int := itr (gstB S r) 0 n
def mRef (S : gS) (n : Nat) (r what : Int) : Int := if what = 0 then S.1 6 (2 * r) % 10 else if what = 1 then S.1 6 (2 * r) / 10 else if what = 2 then S.1 6 (2 * r + 1) else if what = 3 then pinI S r n else gstI S r n
def mWay (M S : gS) (h : Int) : Int := if 1 < S.1 7 (4 * h + 2) then (if S.1 7 (4 * h + 2) = 2 then 0 else -1) else if (rfX M S h).2.1 = -1 then -1 else dst (S.1 3) (S.1 7 (4 * h)) (S.1 6 (2 * (rfX M S h).2.1))
def mWayM (M S : gS) (h : Int) : gS := if 1 < S.1 7 (4 * h + 2) then M else flM M S h
def mHtl (M S : gS) (h what : Int) : Int := if what = 0 then S.1 7 (4 * h) % 10 else if what = 1 then S.1 7 (4 * h) / 10 else if what = 4 then mWay M S h else S.1 7 (4 * h + what - 1)
def mHtlM (M S : gS) (h what : Int) : gS := if what = 4 then mWayM M S h else M
def mCtl (S : gS) (c what : Int) : Int := if what = 0 then S.1 8 (2 * c) % 10 else if what = 1 then S.1 8 (2 * c) / 10 else S.1 8 (2 * c + 1)
def ppB (S : gS) (a : Int) : Nat → Int → Int := fun k s => s + tod (S.1 7 (4 * (k : Int) + 2) = a) (S.1 7 (4 * (k : Int) + 1)) 0
def ppI (S : gS) (a : Int) (n : Nat) : Int := itr (ppB S a) 0 n
def mwtB (w : Int → Int) : Nat → Int → Int := fun k s => s + min 1 (w (10 + (k : Int)))
def mwt (w : Int → Int) : Int := itr (mwtB w) 0 70
def fueB (S : gS) : Nat → Int → Int := fun k s => s + S.1 4 (5 * (k : Int) + 2)
def fueI (S : gS) (n : Nat) : Int := itr (fueB S) 0 n
def mCnt (M S : gS) (what : Int) : Int :=
  if what = 0 then S.2 0 else if what = 1 then M.2 4 else if what = 2 then ppI S 0 (M.2 4).toNat else if what = 3 then ppI S 1 (M.2 4).toNat else if what = 4 then ppI S 2 (M.2 4).toNat else if what = 5 then S.2 1 else
  if what = 6 then mwt (S.1 3) else if what = 7 then sm (S.1 3) 10 70 else if what = 8 then sm (S.1 2) 0 80 else mRing M S
theorem okM_way {M S : gS} {h : Int} (hM : okM M) (hS : okS S) : okM (mWayM M S h) ∧ (mWayM M S h).2 = M.2 := by
  unfold mWayM
  split
  · exact ⟨hM, rfl⟩
  · exact okM_flM hM hS
theorem okM_htl {M S : gS} {h what : Int} (hM : okM M) (hS : okS S) : okM (mHtlM M S h what) ∧ (mHtlM M S h what).2 = M.2 := by
  unfold mHtlM
  split
  · exact okM_way hM hS
  · exact ⟨hM, rfl⟩
theorem pp_b {S : gS} {a : Int} (h : okS S) : ∀ n : Nat, 0 ≤ ppI S a n ∧ ppI S a n ≤ 6 * n
  | 0 => by simp [ppI, itr]
  | n + 1 => by
    have h1 := pp_b (a := a) h n
    have h2 := okS_71 h n
    show 0 ≤ ppB S a n (ppI S a n) ∧ ppB S a n (ppI S a n) ≤ _
    generalize ppI S a n = z at h1 ⊢
    unfold ppB tod
    split <;> omega
theorem ppI_b {M S : gS} {r : Int} (h : okS S) (hM : okM M) : 0 ≤ ppI S r (M.2 4).toNat ∧ ppI S r (M.2 4).toNat ≤ 60 := by
  have h1 := pp_b (a := r) h (M.2 4).toNat
  have h2 := okM_i4 hM
  omega
