/-! the class's sum -/
def cdB (f : Int → Int → Int) (m : Nat) : Nat → Int64 → Int64 := fun k d => dgI (f k) d m
def cdI (f : Int → Int → Int) (m : Nat) (d : Int64) (n : Nat) : Int64 := itr (cdB f m) d n
theorem cdI_0 {f : Int → Int → Int} {m : Nat} {d : Int64} : cdI f m d 0 = d := rfl
theorem dgI_0 {f : Int → Int} {d : Int64} : dgI f d 0 = d := rfl
def ce2 (S : gS) : Int64 := cdI (cellTell S) 6 (cd1 S) 80
def ce3 (S : gS) : Int64 := dgI (S.1 6) (ce2 S) 12
def ce4 (S : gS) (d : Int64) : Int64 := cdI (pTell S) 6 d (S.2 1).toNat
def ce5 (S : gS) (d : Int64) : Int64 := cdI (gTell S) 5 d (S.2 2).toNat
def ce6 (S : gS) (d : Int64) : Int64 := cdI (rTell S) 5 d (S.2 3).toNat
def ceT (S : gS) (d : Int64) : Int64 := ce6 S (ce5 S (ce4 S d))
def peB (h : Nat) : Nat → gDM → gDM := fun j x => (lmi x.1 (hTell x.2 h j), hTellS x.2 h j)
def peO : Nat → gDM → gDM := fun h x => itr (peB h) x 5
def peI (S : gS) (d : Int64) (n : Nat) : gDM := itr peO (d, S) n
theorem hTellS_i {S : gS} {k w : Int} {j : Nat} (hj : j ≠ 7) : (hTellS S k w).2 j = S.2 j := by
  have e : ∀ c : Int, (searchS S c).2 j = S.2 j := fun c => by
    unfold searchS
    exact if_neg hj
  unfold hTellS wayS
  repeat' split
  all_goals first | rfl | exact e _
theorem peB_b {S : gS} {h : Nat} {x : gDM} (hx : okT x.2 ∧ ∀ j : Nat, j ≠ 7 → x.2.2 j = S.2 j) : ∀ n : Nat, okT (itr (peB h) x n).2 ∧ ∀ j : Nat, j ≠ 7 → (itr (peB h) x n).2.2 j = S.2 j
  | 0 => hx
  | n + 1 => by
    obtain ⟨q1, q2⟩ := peB_b (S := S) (h := h) hx n
    exact ⟨okT_hTell q1, fun j hj => (hTellS_i hj).trans (q2 j hj)⟩
theorem peI_b {S : gS} {d : Int64} (h : okT S) : ∀ n : Nat, okT (peI S d n).2 ∧ ∀ j : Nat, j ≠ 7 → (peI S d n).2.2 j = S.2 j
  | 0 => ⟨h, fun _ _ => rfl⟩
  | n + 1 => peB_b (peI_b h n) 5
def ce7 (S : gS) (d : Int64) : gDM := peI S d (S.2 4).toNat
def ce8 (S : gS) (d : Int64) : Int64 := cdI (cTell S) 3 d (S.2 6).toNat
def ceP (S : gS) (d : Int64) : Int64 := ce8 (ce7 S d).2 (ce7 S d).1
def ceD (S : gS) : Int64 := ceT S (ce3 S)
