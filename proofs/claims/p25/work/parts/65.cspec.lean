/-! the class ahead -/
theorem okH_copy {S T : gS} (h : okH T) : okH (copyS S T) := by
  intro k a b c
  have b : k < T.2 4 := b
  have c : cpI (S.1 24) (T.1 24) (T.2 4).toNat k ≤ 1 := c
  show 1 ≤ cpI (S.1 23) (T.1 23) (T.2 4).toNat k
  rw [cpI_v, if_pos (by omega)] at c ⊢
  exact h k a b c
def cForV (S X : gS) (what : Int) : Int := if what = 0 then hsum X 2 else if what = 1 then X.2 5 - S.2 5 else if what = 2 then wet (X.1 4) else sm (X.1 10) 0 (X.2 1).toNat
def hWB : Nat → gS → gS := fun _ T => hourW T
def hWI (S : gS) (n : Nat) : gS := itr hWB S n
theorem hWI_b {S : gS} (h : okT S) : ∀ n : Nat, okT (hWI S n) ∧ (hWI S n).2 0 = S.2 0 + n ∧ (hWI S n).2 2 = S.2 2
  | 0 => ⟨h, (Int.add_zero _).symm, rfl⟩
  | n + 1 => by
    obtain ⟨q1, q2, q3⟩ := hWI_b h n
    refine ⟨okT_hourW q1, ?_, q3⟩
    show (hWI S n).2 0 + 1 = _
    rw [q2]
    omega
def cgF (B : gS) (g j : Int) : Int := bI ((hWI B j.toNat).1 15 g ≤ (hWI B j.toNat).1 4 ((hWI B j.toNat).1 14 g))
def cgR (B : gS) (g : Int) : Int := fstI (cgF B g) 1 49
def cgN (B : gS) (g : Int) : Nat := if cgR B g = -1 then 48 else (cgR B g).toNat
def cwB (S H : gS) (q : Int) : gS := if q = -1 then copyS H S else setA (copyS H S) 3 (fset ((copyS H S).1 3) q ((copyS H S).1 3 q + 1))
theorem okT_cw {S H : gS} {q : Int} (h : okT S) (g : okT H) (hq : q = -1 ∨ (0 ≤ q ∧ q < 80) ∧ S.1 3 q < 5) : okT (cwB S H q) := by
  have h1 := okT_copy g h
  unfold cwB
  split
  · exact h1
  · refine okT_s3 h1 (bnd_fset (okT_3 h1) ?_)
    show 0 ≤ fcpy (S.1 3) (H.1 3) 80 q + 1 ∧ fcpy (S.1 3) (H.1 3) 80 q + 1 ≤ 6
    rw [show fcpy (S.1 3) (H.1 3) 80 q = S.1 3 q from if_pos (by omega)]
    have := okT_3 h q
    omega
theorem cw_0 {S H : gS} {q : Int} : (cwB S H q).2 0 = S.2 0 := by
  unfold cwB
  split <;> rfl
def cwX (S H : gS) (q : Int) (n : Nat) : gS := hWI (cwB S H q) n
def cvV (X : gS) : Int := sm (X.1 4) 10 70
theorem cwX_b {S H : gS} {q : Int} {n : Nat} (h : okT S) (g : okT H) (hq : q = -1 ∨ (0 ≤ q ∧ q < 80) ∧ S.1 3 q < 5) : okT (cwX S H q n) ∧ 0 ≤ cvV (cwX S H q n) ∧ cvV (cwX S H q n) ≤ 2800 := by
  have h1 := (hWI_b (okT_cw h g hq) n).1
  have := sm_b (o := 10) (okT_4 h1) 70
  refine ⟨h1, ?_, ?_⟩ <;> (unfold cvV cwX; omega)
abbrev gHb : Type := gS × Int × Int
def caB (S : gS) (n : Nat) : Nat → gHb → gHb := fun k x =>
  if ¬ S.1 3 (10 * 1 + (k : Int)) < 5 then x else
  if ¬ cvV (cwX S x.1 (10 * 1 + (k : Int)) n) < x.2.2 then (cwX S x.1 (10 * 1 + (k : Int)) n, x.2.1, x.2.2)
  else (cwX S x.1 (10 * 1 + (k : Int)) n, (k : Int), cvV (cwX S x.1 (10 * 1 + (k : Int)) n))
def caI (S H : gS) (n k : Nat) : gHb := itr (caB S n) (cwX S H (-1) n, -1, cvV (cwX S H (-1) n)) k
theorem caI_b {S H : gS} {n : Nat} (h : okT S) (g : okT H) : ∀ k : Nat, k ≤ 10 → okT (caI S H n k).1 ∧ 0 ≤ (caI S H n k).2.2 ∧ (caI S H n k).2.2 ≤ 2800
  | 0, _ => cwX_b h g (Or.inl rfl)
  | k + 1, hk => by
    obtain ⟨q1, q2, q3⟩ := caI_b (n := n) h g k (by omega)
    show okT (caB S n k (caI S H n k)).1 ∧ 0 ≤ (caB S n k (caI S H n k)).2.2 ∧ (caB S n k (caI S H n k)).2.2 ≤ 2800
    generalize caI S H n k = x at q1 q2 q3
    unfold caB
    split
    · exact ⟨q1, q2, q3⟩
    · rename_i hb
      have w := cwX_b (n := n) (q := 10 * 1 + (k : Int)) h q1 (Or.inr ⟨by omega, by omega⟩)
      split
      · exact ⟨w.1, q2, q3⟩
      · exact ⟨w.1, w.2.1, w.2.2⟩
/-! the class's sum -/
def cd1 (S : gS) : Int64 := dgI (nTell S) 1013 10
def cdc (S : gS) (d : Int64) (p : Nat) : Int64 := itr (fun k d => dgI (cellTell S k) d 6) d p
def cd2 (S : gS) : Int64 := cdc S (cd1 S) 80
def cd3 (S : gS) : Int64 := dgI (S.1 6) (cd2 S) 12
def cd4 (S : gS) (d : Int64) : Int64 := itr (fun k d => dgI (pTell S k) d 6) d (S.2 1).toNat
def cd5 (S : gS) (d : Int64) : Int64 := itr (fun k d => dgI (gTell S k) d 5) d (S.2 2).toNat
def cd6 (S : gS) (d : Int64) : Int64 := itr (fun k d => dgI (rTell S k) d 5) d (S.2 3).toNat
