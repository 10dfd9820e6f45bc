theorem abv_b {x n : Int} (h : -n ≤ x ∧ x ≤ n) : 0 ≤ (if 0 ≤ x then x else 0 - x) ∧ (if 0 ≤ x then x else 0 - x) ≤ n := by
  split <;> omega
def mcxB (A T : gS) : Nat → gMS → gMS := fun k x => if 0 < mRing A T then mclB k x else x
def mcxI (A T : gS) (n : Nat) : gMS := itr (mcxB A T) (A, T) n
theorem mcx_if (A T : gS) : ∀ n : Nat, mcxI A T n = if 0 < mRing A T then mclI A T n else (A, T)
  | 0 => by
    show (A, T) = if _ then (A, T) else (A, T)
    split <;> rfl
  | n + 1 => by
    show mcxB A T n (mcxI A T n) = _
    rw [mcx_if A T n]
    unfold mcxB
    by_cases h : 0 < mRing A T
    · rw [if_pos h, if_pos h, if_pos h]; rfl
    · rw [if_neg h, if_neg h, if_neg h]
theorem mcx_end (A T : gS) : mcxI A T (A.2 5).toNat = mCld A T := mcx_if A T _
theorem mcx_b {M S : gS} (h : okM M) (hS : okS S) (n : Nat) : okM (mcxI M S n).1 ∧ okS (mcxI M S n).2 ∧ (mcxI M S n).1.2 = M.2 := by
  rw [mcx_if]
  split
  · exact mclI_b h hS n
  · exact ⟨h, hS, rfl⟩
theorem drs_b {S : gS} {n : Int} (h0 : 0 ≤ n) (hS : okS S) (hP : okP S n) (k : Nat) (hk : k ≤ n.toNat) : okS (mdI S k) ∧ okP (mdI S k) n := mdI_b hS hP k (by omega)
theorem pinI_b {M S : gS} {r : Int} (h : okS S) (hM : okM M) : 0 ≤ pinI S r (M.2 4).toNat ∧ pinI S r (M.2 4).toNat ≤ 60 := by
  have h1 := pin_b (r := r) h (M.2 4).toNat
  have h2 := okM_i4 hM
  omega
theorem mHou_P {M S : gS} {n : Int} (hP : okP S n) : okP (mHou M S).2 n := okP_flI (okP_mCld hP) _
