/-! what is done to the model -/
abbrev tC (x y : Int) : Prop := (0 ≤ x ∧ x ≤ 9) ∧ 0 ≤ y ∧ y ≤ 7
def tSG (x y g : Int) : Int := if tC x y then (if 0 ≤ g ∧ g ≤ 9 then 0 else 2) else 1
def sumM (S : gS) (q b : Int) : Int := sm (S.1 2) 0 80 - S.1 2 q + b
def tLY (S : gS) (x y b : Int) : Int := if tC x y then (if 0 ≤ b ∧ b ≤ 5 then (if sumM S (10 * y + x) b ≤ 40 then 0 else 3) else 2) else 1
def tSR (h v : Int) : Int := if 0 ≤ h ∧ h ≤ 11 then (if 0 ≤ v ∧ v ≤ 12 then 0 else 2) else 1
def tAP (M S : gS) (x y p f : Int) : Int := if tC x y then (if (1 ≤ p ∧ p ≤ 5) ∧ 0 ≤ f ∧ f ≤ 30 then (if M.2 1 = 5 ∨ fstI (fun j => S.1 4 (5 * j)) (10 * y + x) (M.2 1).toNat ≠ -1 then 3 else 0) else 2) else 1
def sAP (M S : gS) (x y p f : Int) : gS := setA S 4 (fset (fset (fset (fset (S.1 4) (5 * M.2 1) (10 * y + x)) (5 * M.2 1 + 1) p) (5 * M.2 1 + 2) f) (5 * M.2 1 + 3) 1)
def tRN (M : gS) (p : Int) : Int := if 0 ≤ p ∧ p ≤ M.2 1 - 1 then 0 else 1
def sRN (S : gS) (p : Int) : gS := setA S 4 (fset (S.1 4) (5 * p + 3) (1 - S.1 4 (5 * p + 3)))
def tAG (M S : gS) (x y mk : Int) : Int := if tC x y then (if 1 ≤ mk ∧ mk ≤ 20 then (if M.2 2 = 4 ∨ fstI (fun j => S.1 5 (2 * j)) (10 * y + x) (M.2 2).toNat ≠ -1 then 3 else 0) else 2) else 1
def sAG (M S : gS) (x y mk : Int) : gS := setA S 5 (fset (fset (S.1 5) (2 * M.2 2) (10 * y + x)) (2 * M.2 2 + 1) mk)
def tAR (M S : gS) (x y rm : Int) : Int := if tC x y then (if 1 ≤ rm ∧ rm ≤ 20 then (if M.2 3 = 4 ∨ fstI (fun j => S.1 6 (2 * j)) (10 * y + x) (M.2 3).toNat ≠ -1 then 3 else 0) else 2) else 1
def sAR (M S : gS) (x y rm : Int) : gS := setA S 6 (fset (fset (S.1 6) (2 * M.2 3) (10 * y + x)) (2 * M.2 3 + 1) rm)
def tSE (M : gS) (x y n : Int) : Int := if tC x y then (if 1 ≤ n ∧ n ≤ 6 then (if M.2 4 = 10 then 3 else 0) else 2) else 1
def sSE (M S : gS) (x y n : Int) : gS := setA S 7 (fset (fset (fset (fset (S.1 7) (4 * M.2 4) (10 * y + x)) (4 * M.2 4 + 1) n) (4 * M.2 4 + 2) 0) (4 * M.2 4 + 3) (-1))
def tAC (M : gS) (x y : Int) : Int := if tC x y then (if M.2 5 = 3 then 2 else 0) else 1
def sAC (M S : gS) (x y : Int) : gS := setA S 8 (fset (fset (S.1 8) (2 * M.2 5) (10 * y + x)) (2 * M.2 5 + 1) 0)
def tIn (a b : Prop) [Decidable a] [Decidable b] : Int := if a then (if b then 0 else 1) else 1
def tPS (n : Int) : Int := if 1 ≤ n ∧ n ≤ 36 then 0 else 1
def tFS (n what : Int) : Int := if 1 ≤ n ∧ n ≤ 36 then (if 0 ≤ what ∧ what ≤ 3 then 0 else 2) else 1
def tAD (n : Int) : Int := if 1 ≤ n ∧ n ≤ 6 then 0 else 1
/-! ahead -/
def becS (S H : gS) : gS := setI (setI (setA (setA (setA (setA (setA (setA (setA (setA H 1 (fcpy (S.1 1) (H.1 1) 80)) 2 (fcpy (S.1 2) (H.1 2) 80)) 3 (fcpy (S.1 3) (H.1 3) 80)) 4 (fcpy (S.1 4) (H.1 4) 25)) 5 (fcpy (S.1 5) (H.1 5) 8)) 6 (fcpy (S.1 6) (H.1 6) 8)) 7 (fcpy (S.1 7) (H.1 7) 40)) 8 (fcpy (S.1 8) (H.1 8) 6)) 0 (S.2 0)) 1 (S.2 1)
theorem okS_bec {S H : gS} (h : okS S) (g : okS H) : okS (becS S H) := by
  have e : ∀ (f g : Int → Int) (n j : Int), fcpy f g n j = if 0 ≤ j ∧ j < n then f j else g j := fun _ _ _ _ => rfl
  refine okS_j1 (okS_j0 (okS_s8 (okS_s7 (okS_s6 (okS_s5 (okS_s4 (okS_s3 (okS_s2 (okS_s1 g (bnd_fcpy (okS_1 h) (okS_1 g))) (bnd_fcpy (okS_2 h) (okS_2 g))) (bnd_fcpy (okS_3 h) (okS_3 g))) ?_ ?_ ?_ ?_) ?_ ?_) ?_ ?_) ?_ ?_ ?_ ?_) ?_))
  all_goals (intro k; rw [e]; split)
  · exact okS_40 h k
  · exact okS_40 g k
  · exact okS_41 h k
  · exact okS_41 g k
  · exact okS_42 h k
  · exact okS_42 g k
  · exact okS_43 h k
  · exact okS_43 g k
  · exact okS_50 h k
  · exact okS_50 g k
  · exact okS_51 h k
  · exact okS_51 g k
  · exact okS_60 h k
  · exact okS_60 g k
  · exact okS_61 h k
  · exact okS_61 g k
  · exact okS_70 h k
  · exact okS_70 g k
  · exact okS_71 h k
  · exact okS_71 g k
  · exact okS_72 h k
  · exact okS_72 g k
  · exact okS_73 h k
  · exact okS_73 g k
  · exact okS_80 h k
  · exact okS_80 g k
theorem okP_bec {S H : gS} {n : Int} (hn : n ≤ 10) (h : okP S n) : okP (becS S H) n := by
  have e : ∀ (f g : Int → Int) (n j : Int), fcpy f g n j = if 0 ≤ j ∧ j < n then f j else g j := fun _ _ _ _ => rfl
  intro k a b c
  have c : fcpy (S.1 7) (H.1 7) 40 (4 * k + 2) ≤ 1 := c
  show 1 ≤ fcpy (S.1 7) (H.1 7) 40 (4 * k + 1)
  rw [e, if_pos (by omega)] at c ⊢
  exact h k a b c
def foreV (M S H M' : gS) (what : Int) : Int := if what = 0 then ppI H 2 (M'.2 4).toNat else if what = 1 then H.2 1 - S.2 1 else if what = 2 then mwt (H.1 3) else fueI H (M'.2 1).toNat
/-- whether a gauge rings behind so many hours -/
def rgF (M B : gS) (g j : Int) : Int := bI ((mhsI M B j.toNat).2.1 5 (2 * g + 1) ≤ (mhsI M B j.toNat).2.1 3 ((mhsI M B j.toNat).2.1 5 (2 * g)))
def rgR (M B : gS) (g : Int) : Int := fstI (rgF M B g) 1 49
def rgN (M B : gS) (g : Int) : Nat := if rgR M B g = -1 then 49 else (rgR M B g).toNat
def wwB (S H : gS) (q : Int) : gS := if q = -1 then becS S H else setA (becS S H) 2 (fset ((becS S H).1 2) q ((becS S H).1 2 q + 1))
theorem okS_ww {S H : gS} {q : Int} (h : okS S) (g : okS H) (hb : bnd (S.1 2) 0 5) (hq : -1 ≤ q ∧ q < 80) : okS (wwB S H q) := by
  have h1 := okS_bec h g
  unfold wwB
  split
  · exact h1
  · refine okS_s2 h1 (bnd_fset (okS_2 h1) ?_)
    show 0 ≤ fcpy (S.1 2) (H.1 2) 80 q + 1 ∧ fcpy (S.1 2) (H.1 2) 80 q + 1 ≤ 6
    rw [show fcpy (S.1 2) (H.1 2) 80 q = S.1 2 q from if_pos (by omega)]
    have := hb q
    omega
theorem okP_ww {S H : gS} {q n : Int} (hn : n ≤ 10) (h : okP S n) : okP (wwB S H q) n := by
  unfold wwB
  split
  · exact okP_bec hn h
  · exact okP_bec (H := H) hn h
theorem ww_0 {S H : gS} {q : Int} : (wwB S H q).2 0 = S.2 0 := by
  unfold wwB
  split <;> rfl
abbrev gMHb : Type := gS × gS × Int × Int
def wwX (M S H : gS) (q : Int) (n : Nat) : gMS := mhsI M (wwB S H q) n
def wwV (x : gMS) : Int := sm (x.2.1 3) 10 70
def adB (S : gS) (n : Nat) : Nat → gMHb → gMHb := fun k x =>
  if S.1 2 (10 + (k : Int)) = 5 then x else
  if x.2.2.2 ≤ wwV (wwX x.1 S x.2.1 (10 + (k : Int)) n) then ((wwX x.1 S x.2.1 (10 + (k : Int)) n).1, (wwX x.1 S x.2.1 (10 + (k : Int)) n).2, x.2.2.1, x.2.2.2)
  else ((wwX x.1 S x.2.1 (10 + (k : Int)) n).1, (wwX x.1 S x.2.1 (10 + (k : Int)) n).2, (k : Int), wwV (wwX x.1 S x.2.1 (10 + (k : Int)) n))
def ad0 (M S H : gS) (n : Nat) : gMHb := ((wwX M S H (-1) n).1, (wwX M S H (-1) n).2, -1, wwV (wwX M S H (-1) n))
def adI (M S H : gS) (n k : Nat) : gMHb := itr (adB S n) (ad0 M S H n) k
theorem wwX_b {M S H : gS} {q : Int} {n : Nat} (hM : okM M) (h : okS S) (g : okS H) (hP : okP S (M.2 4)) (hb : bnd (S.1 2) 0 5) (hq : -1 ≤ q ∧ q < 80) : okM (wwX M S H q n).1 ∧ okS (wwX M S H q n).2 ∧ (wwX M S H q n).1.2 = M.2 ∧ 0 ≤ wwV (wwX M S H q n) ∧ wwV (wwX M S H q n) ≤ 2800 := by
  have h4 := okM_i4 hM
  obtain ⟨q1, q2, q3, q4, q5⟩ := mhsI_b hM (okS_ww h g hb hq) (okP_ww (by omega) hP) n
  have := sm_b (o := 10) (okS_3 q2) 70
  refine ⟨q1, q2, q4, ?_, ?_⟩ <;> (unfold wwV wwX; omega)
theorem adI_b {M S H : gS} {n : Nat} (hM : okM M) (h : okS S) (g : okS H) (hP : okP S (M.2 4)) (hb : bnd (S.1 2) 0 5) : ∀ k : Nat, k ≤ 10 → okM (adI M S H n k).1 ∧ okS (adI M S H n k).2.1 ∧ (adI M S H n k).1.2 = M.2 ∧ 0 ≤ (adI M S H n k).2.2.2 ∧ (adI M S H n k).2.2.2 ≤ 2800
  | 0, _ => wwX_b hM h g hP hb (by omega)
  | k + 1, hk => by
    obtain ⟨q1, q2, q3, q4, q5⟩ := adI_b (n := n) hM h g hP hb k (by omega)
    show okM (adB S n k (adI M S H n k)).1 ∧ okS (adB S n k (adI M S H n k)).2.1 ∧ (adB S n k (adI M S H n k)).1.2 = M.2 ∧ 0 ≤ (adB S n k (adI M S H n k)).2.2.2 ∧ (adB S n k (adI M S H n k)).2.2.2 ≤ 2800
    generalize adI M S H n k = x at q1 q2 q3 q4 q5
    have w := wwX_b (n := n) (q := 10 + (k : Int)) q1 h q2 (by rw [q3]; exact hP) hb (by omega)
    rw [q3] at w
    unfold adB
    split
    · exact ⟨q1, q2, q3, q4, q5⟩
    · split
      · exact ⟨w.1, w.2.1, w.2.2.1, q4, q5⟩
      · exact ⟨w.1, w.2.1, w.2.2.1, w.2.2.2.1, w.2.2.2.2⟩
/-! sums -/
def lmi (d : Int64) (x : Int) : Int64 := d * 31 + lI x
def dgB (f : Int → Int) : Nat → Int64 → Int64 := fun k d => lmi d (f k)
def dgI (f : Int → Int) (d : Int64) (n : Nat) : Int64 := itr (dgB f) d n
abbrev gDM : Type := Int64 × gS
def dhB (S : gS) : Nat → gDM → gDM := fun k x => (lmi x.1 (mHtl x.2 S ((k : Int) / 5) ((k : Int) % 5)), mHtlM x.2 S ((k : Int) / 5) ((k : Int) % 5))
def dhI (M S : gS) (d : Int64) (n : Nat) : gDM := itr (dhB S) (d, M) n
theorem dhI_b {M S : gS} {d : Int64} (hM : okM M) (hS : okS S) : ∀ n : Nat, okM (dhI M S d n).2 ∧ (dhI M S d n).2.2 = M.2
  | 0 => ⟨hM, rfl⟩
  | n + 1 => by
    obtain ⟨q1, q2⟩ := dhI_b (d := d) hM hS n
    have := okM_htl (h := (n : Int) / 5) (what := (n : Int) % 5) q1 hS
    exact ⟨this.1, this.2.trans q2⟩
def dg1 (M S : gS) : Int64 := dgI (mCnt M S) 1013 10
def dg2 (M S : gS) : Int64 := dgI (fun k => mCel S (M.2 4).toNat (k / 6) (k % 6)) (dg1 M S) 480
def dg3 (M S : gS) : Int64 := dgI (M.1 1) (dg2 M S) 12
def dg4 (M S : gS) : Int64 := dgI (fun k => mPmp S (k / 6) (k % 6)) (dg3 M S) (6 * M.2 1).toNat
def dg5 (M S : gS) : Int64 := dgI (fun k => mGau S (k / 5) (k % 5)) (dg4 M S) (5 * M.2 2).toNat
def dg6 (M S : gS) : Int64 := dgI (fun k => mRef S (M.2 4).toNat (k / 5) (k % 5)) (dg5 M S) (5 * M.2 3).toNat
def dg7 (M S : gS) : gDM := dhI M S (dg6 M S) (5 * M.2 4).toNat
def dg8 (M S : gS) : Int64 := dgI (fun k => mCtl S (k / 3) (k % 3)) (dg7 M S).1 (3 * M.2 5).toNat
/-! the share -/
def shr (safe alive : Int) : UInt64 := if alive = 0 then FP.dconst0 else FP.ddiv (FP.i2d (iI safe)) (FP.i2d (iI alive))
