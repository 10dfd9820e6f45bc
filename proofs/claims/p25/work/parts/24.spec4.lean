/-! an hour -/
theorem setW_i {S : gS} {x : gWy} {j : Nat} (h : j ≠ 7) : (setW S x).2 j = S.2 j := if_neg h
theorem clB_i {S : gS} {k j : Nat} (h : j ≠ 7) : (clB k S).2 j = S.2 j := by
  show (stepC (searchS S (S.1 26 k)) k).2 j = S.2 j
  unfold stepC
  split
  all_goals exact setW_i h
theorem clI_i (S : gS) {j : Nat} (h : j ≠ 7) : ∀ n : Nat, (clI S n).2 j = S.2 j
  | 0 => rfl
  | n + 1 => by rw [← clI_i S h n]; exact clB_i h
theorem fleeB_i {S : gS} {k j : Nat} (h : j ≠ 7) : (fleeB k S).2 j = S.2 j := by
  unfold fleeB
  split
  · unfold enterS
    split
    all_goals (unfold moveS; split <;> exact setW_i h)
  · rfl
theorem fleeI_i (S : gS) {j : Nat} (h : j ≠ 7) : ∀ n : Nat, (fleeI S n).2 j = S.2 j
  | 0 => rfl
  | n + 1 => by rw [← fleeI_i S h n]; exact fleeB_i h
theorem drownB_i {S : gS} {k j : Nat} (h : j ≠ 5) : (drownB k S).2 j = S.2 j := by
  unfold drownB
  split
  · split
    all_goals exact if_neg h
  · rfl
theorem drownI_i (S : gS) {j : Nat} (h : j ≠ 5) : ∀ n : Nat, (drownI S n).2 j = S.2 j
  | 0 => rfl
  | n + 1 => by rw [← drownI_i S h n]; exact drownB_i h
def waterS (S : gS) : gS := workS (flowS (setA S 4 (rise (S.1 6) (S.1 4) (S.2 0))))
def hourW (S : gS) : gS := setI (waterS S) 0 ((waterS S).2 0 + 1)
def calledS (S : gS) : gS := if 0 < ringN (S.1 4) (S.1 14) (S.1 15) (S.2 2).toNat then clS S else S
def hourP (S : gS) : gS := drownS (fleeS (calledS S))
def hourS (S : gS) : gS := hourP (hourW S)
theorem okT_water {S : gS} (h : okT S) : okT (waterS S) := okT_work (okT_flow (okT_s4 h (rise_b (okT_6 h) (okT_4 h))))
theorem okT_hourW {S : gS} (h : okT S) : okT (hourW S) := okT_j0 (okT_water h)
theorem okT_called {S : gS} (h : okT S) : okT (calledS S) := by
  unfold calledS
  split
  · exact okT_clI h _
  · exact h
/-- whose state only grows, and people stay -/
theorem okH_le {S T : gS} (h : okH S) (h1 : T.2 4 = S.2 4) (h2 : T.1 23 = S.1 23) (h3 : ∀ k, T.1 24 k ≤ 1 → S.1 24 k ≤ 1) : okH T := by
  intro k a b c
  rw [h2]
  exact h k a (by rw [← h1]; exact b) (h3 k c)
theorem warnI_le {hs hc : Int → Int} {q : Int} {k : Int} : ∀ n : Nat, (warnI hs hc q n).1 k ≤ 1 → hs k ≤ 1
  | 0, h => h
  | n + 1, h => by
    refine warnI_le (hc := hc) (q := q) n ?_
    have h' : (warnB hc q n (warnI hs hc q n)).1 k ≤ 1 := h
    generalize warnI hs hc q n = z at h' ⊢
    unfold warnB at h'
    split at h'
    · rename_i hc9
      by_cases e : k = n
      · rw [e]; omega
      · have e2 : fset z.1 (n : Int) 1 k = z.1 k := fset_ne e
        rw [← e2]; exact h'
    · exact h'
theorem okH_clB {S : gS} {k : Nat} (h : okH S) : okH (clB k S) := by
  have e1 : (stepC (searchS S (S.1 26 k)) k).1 24 = S.1 24 ∧ (stepC (searchS S (S.1 26 k)) k).1 23 = S.1 23 := by
    unfold stepC
    split <;> exact ⟨rfl, rfl⟩
  refine okH_le h (clB_i (by decide)) e1.2 (fun j hj => ?_)
  have := warnI_le _ (show (warnI ((stepC (searchS S (S.1 26 k)) k).1 24) _ _ _).1 j ≤ 1 from hj)
  rw [e1.1] at this
  exact this
theorem okH_clI {S : gS} (h : okH S) : ∀ n : Nat, okH (clI S n)
  | 0 => h
  | n + 1 => okH_clB (okH_clI h n)
theorem okH_called {S : gS} (h : okH S) : okH (calledS S) := by
  unfold calledS
  split
  · exact okH_clI h _
  · exact h
theorem okH_fleeB {S : gS} {k : Nat} (h : okH S) : okH (fleeB k S) := by
  unfold fleeB
  split
  · have e1 : ∀ T : gS, (moveS T k).2 4 = T.2 4 ∧ (moveS T k).1 23 = T.1 23 ∧ (moveS T k).1 24 = T.1 24 := by
      intro T
      unfold moveS
      split <;> exact ⟨rfl, rfl, rfl⟩
    have e2 : ∀ T : gS, okH T → okH (enterS T k) := by
      intro T hT
      unfold enterS
      split
      · refine okH_le hT rfl rfl (fun j hj => ?_)
        have hj : fset (T.1 24) k 2 j ≤ 1 := hj
        unfold fset at hj
        split at hj
        · omega
        · exact hj
      · exact hT
    refine e2 _ (okH_le (S := searchS S (S.1 22 k)) (okH_le h rfl rfl (fun _ z => z)) (e1 _).1 (e1 _).2.1 (fun j hj => ?_))
    rw [(e1 _).2.2] at hj
    exact hj
  · exact h
theorem okH_fleeI {S : gS} (h : okH S) : ∀ n : Nat, okH (fleeI S n)
  | 0 => h
  | n + 1 => okH_fleeB (okH_fleeI h n)
theorem drownS_b {S : gS} (h : okT S) (h2 : okH S) : okT (drownS S) ∧ okH (drownS S) := by
  have := drownI_b h h2 (S.2 4).toNat (by have := okT_i4 h; omega)
  exact ⟨this.1, this.2.1⟩
theorem hourP_b {S : gS} (h : okT S) (h2 : okH S) : okT (hourP S) ∧ okH (hourP S) := drownS_b (okT_fleeI (okT_called h) _) (okH_fleeI (okH_called h2) _)
theorem hourW_H {S : gS} (h : okH S) : okH (hourW S) := h
theorem hourS_b {S : gS} (h : okT S) (h2 : okH S) : okT (hourS S) ∧ okH (hourS S) := hourP_b (okT_hourW h) (hourW_H h2)
theorem hourP_i {S : gS} {j : Nat} (h : j ≠ 5) (h7 : j ≠ 7) : (hourP S).2 j = S.2 j := by
  refine (drownI_i _ h _).trans ((fleeI_i _ h7 _).trans ?_)
  unfold calledS
  split
  · exact clI_i _ h7 _
  · rfl
theorem hourS_0 {S : gS} : (hourS S).2 0 = S.2 0 + 1 := hourP_i (by decide) (by decide)
def hoursI (S : gS) (n : Nat) : gS := itr (fun _ T => hourS T) S n
theorem hoursI_b {S : gS} (h : okT S) (h2 : okH S) : ∀ n : Nat, okT (hoursI S n) ∧ okH (hoursI S n) ∧ (hoursI S n).2 0 = S.2 0 + n
  | 0 => ⟨h, h2, (Int.add_zero _).symm⟩
  | n + 1 => by
    obtain ⟨q1, q2, q3⟩ := hoursI_b h h2 n
    have := hourS_b q1 q2
    refine ⟨this.1, this.2, ?_⟩
    show (hourS (hoursI S n)).2 0 = _
    rw [hourS_0, q3]
    omega
/-! what a town tells -/
def cellTell (S : gS) (q w : Int) : Int := if w = 0 then S.1 2 q else if w = 1 then S.1 3 q else if w = 2 then S.1 4 q else if w = 3 then lev (S.1 2) (S.1 3) (S.1 4) q else if w = 4 then outS S q else bI (S.1 4 q < 3)
def wayS (S : gS) (k : Int) : gS := if S.1 24 k = 2 then S else if S.1 24 k = 3 then S else searchS S (S.1 22 k)
def wayV (S : gS) (k : Int) : Int := if S.1 24 k = 2 then 0 else if S.1 24 k = 3 then -1 else if roomS (searchS S (S.1 22 k)) ((searchS S (S.1 22 k)).1 23 k) = -1 then -1 else (searchS S (S.1 22 k)).1 29 ((searchS S (S.1 22 k)).1 17 (roomS (searchS S (S.1 22 k)) ((searchS S (S.1 22 k)).1 23 k)))
theorem okT_way {S : gS} {k : Int} (h : okT S) : okT (wayS S k) := by
  have := okT_22 h k
  unfold wayS
  split
  · exact h
  · split
    · exact h
    · exact okT_srch h (by omega)
def hTell (S : gS) (k w : Int) : Int := if w = 0 then S.1 22 k % 10 else if w = 1 then S.1 22 k / 10 else if w = 2 then S.1 23 k else if w = 3 then S.1 24 k else wayV S k
def hTellS (S : gS) (k w : Int) : gS := if w = 0 then S else if w = 1 then S else if w = 2 then S else if w = 3 then S else wayS S k
theorem okT_hTell {S : gS} {k w : Int} (h : okT S) : okT (hTellS S k w) := by
  unfold hTellS
  repeat' split
  all_goals first | exact h | exact okT_way h
def nTell (S : gS) (w : Int) : Int := if w = 0 then S.2 0 else if w = 1 then S.2 4 else if w = 2 then hsum S 0 else if w = 3 then hsum S 1 else if w = 4 then hsum S 2 else if w = 5 then S.2 5 else if w = 6 then wet (S.1 4) else if w = 7 then sm (S.1 4) 10 70 else if w = 8 then sm (S.1 3) 0 80 else ringN (S.1 4) (S.1 14) (S.1 15) (S.2 2).toNat
/-! copies: over the first n places -/
def cpB (g : Int → Int) : Nat → (Int → Int) → (Int → Int) := fun k f => fset f k (g k)
def cpI (f g : Int → Int) (n : Nat) : Int → Int := itr (cpB g) f n
theorem cpI_b {f g : Int → Int} {lo hi : Int} (h1 : bnd f lo hi) (h2 : bnd g lo hi) (n : Nat) : bnd (cpI f g n) lo hi := bnd_itr h1 (fun k _ hk => bnd_fset hk (h2 k)) n
theorem cpI_v {f g : Int → Int} : ∀ (n : Nat) (j : Int), cpI f g n j = if 0 ≤ j ∧ j < n then g j else f j
  | 0, j => by rw [if_neg (by omega)]; rfl
  | n + 1, j => by
    show fset (cpI f g n) n (g n) j = _
    unfold fset
    by_cases h : j = n
    · rw [if_pos h, if_pos (by omega), h]
    · rw [if_neg h, cpI_v n j]
      by_cases h2 : 0 ≤ j ∧ j < n
      · rw [if_pos h2, if_pos (by omega)]
      · rw [if_neg h2, if_neg (by omega)]
def landC (S T : gS) : gS := setA (setA (setA (setA S 2 (fcpy (T.1 2) (S.1 2) 80)) 3 (fcpy (T.1 3) (S.1 3) 80)) 4 (fcpy (T.1 4) (S.1 4) 80)) 6 (fcpy (T.1 6) (S.1 6) 12)
def pumpC (S T : gS) : gS := setI (setA (setA (setA (setA (setA S 8 (cpI (S.1 8) (T.1 8) (T.2 1).toNat)) 9 (cpI (S.1 9) (T.1 9) (T.2 1).toNat)) 10 (cpI (S.1 10) (T.1 10) (T.2 1).toNat)) 11 (cpI (S.1 11) (T.1 11) (T.2 1).toNat)) 12 (cpI (S.1 12) (T.1 12) (T.2 1).toNat)) 1 (T.2 1)
def gaugeC (S T : gS) : gS := setI (setA (setA S 14 (cpI (S.1 14) (T.1 14) (T.2 2).toNat)) 15 (cpI (S.1 15) (T.1 15) (T.2 2).toNat)) 2 (T.2 2)
def refC (S T : gS) : gS := setI (setA (setA (setA (setA S 17 (cpI (S.1 17) (T.1 17) (T.2 3).toNat)) 18 (cpI (S.1 18) (T.1 18) (T.2 3).toNat)) 19 (cpI (S.1 19) (T.1 19) (T.2 3).toNat)) 20 (cpI (S.1 20) (T.1 20) (T.2 3).toNat)) 3 (T.2 3)
def houC (S T : gS) : gS := setI (setI (setA (setA (setA S 22 (cpI (S.1 22) (T.1 22) (T.2 4).toNat)) 23 (cpI (S.1 23) (T.1 23) (T.2 4).toNat)) 24 (cpI (S.1 24) (T.1 24) (T.2 4).toNat)) 4 (T.2 4)) 5 (T.2 5)
def claC (S T : gS) : gS := setI (setA (setA S 26 (cpI (S.1 26) (T.1 26) (T.2 6).toNat)) 27 (cpI (S.1 27) (T.1 27) (T.2 6).toNat)) 6 (T.2 6)
def copyS (S T : gS) : gS := claC (houC (refC (gaugeC (pumpC (landC (setI S 0 (T.2 0)) T) T) T) T) T) T
theorem okT_landC {S T : gS} (h : okT S) (h2 : okT T) : okT (landC S T) := okT_s6 (okT_s4 (okT_s3 (okT_s2 h (bnd_fcpy (okT_2 h2) (okT_2 h))) (bnd_fcpy (okT_3 h2) (okT_3 h))) (bnd_fcpy (okT_4 h2) (okT_4 h))) (bnd_fcpy (okT_6 h2) (okT_6 h))
theorem okT_pumpC {S T : gS} (h : okT S) (h2 : okT T) : okT (pumpC S T) := okT_j1 (okT_s12 (okT_s11 (okT_s10 (okT_s9 (okT_s8 h (cpI_b (okT_8 h) (okT_8 h2) _)) (cpI_b (okT_9 h) (okT_9 h2) _)) (cpI_b (okT_10 h) (okT_10 h2) _)) (cpI_b (okT_11 h) (okT_11 h2) _))) (okT_i1 h2)
theorem okT_gaugeC {S T : gS} (h : okT S) (h2 : okT T) : okT (gaugeC S T) := okT_j2 (okT_s15 (okT_s14 h (cpI_b (okT_14 h) (okT_14 h2) _)) (cpI_b (okT_15 h) (okT_15 h2) _)) (okT_i2 h2)
theorem okT_refC {S T : gS} (h : okT S) (h2 : okT T) : okT (refC S T) := okT_j3 (okT_s20 (okT_s19 (okT_s18 (okT_s17 h (cpI_b (okT_17 h) (okT_17 h2) _)) (cpI_b (okT_18 h) (okT_18 h2) _)) (cpI_b (okT_19 h) (okT_19 h2) _))) (okT_i3 h2)
theorem okT_houC {S T : gS} (h : okT S) (h2 : okT T) : okT (houC S T) := okT_j5 (okT_j4 (okT_s24 (okT_s23 (okT_s22 h (cpI_b (okT_22 h) (okT_22 h2) _)) (cpI_b (okT_23 h) (okT_23 h2) _)) (cpI_b (okT_24 h) (okT_24 h2) _)) (okT_i4 h2))
theorem okT_claC {S T : gS} (h : okT S) (h2 : okT T) : okT (claC S T) := okT_j6 (okT_s27 (okT_s26 h (cpI_b (okT_26 h) (okT_26 h2) _))) (okT_i6 h2)
theorem okT_copy {S T : gS} (h : okT S) (h2 : okT T) : okT (copyS S T) := okT_claC (okT_houC (okT_refC (okT_gaugeC (okT_pumpC (okT_landC (okT_j0 h) h2) h2) h2) h2) h2) h2
