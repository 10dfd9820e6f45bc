/-! what the law asks of an hour: who is where, refuges, all people -/
def sN (f : Nat → Int) (n : Nat) : Int := itr (fun k s => s + f k) 0 n
theorem sN_s (f : Nat → Int) (n : Nat) : sN f (n + 1) = sN f n + f n := rfl
theorem sN_eq {f g : Nat → Int} : ∀ n : Nat, (∀ k, k < n → f k = g k) → sN f n = sN g n
  | 0, _ => rfl
  | n + 1, h => by rw [sN_s, sN_s, sN_eq n (fun k hk => h k (by omega)), h n (by omega)]
theorem sN_one {f g : Nat → Int} {k0 : Nat} : ∀ n : Nat, k0 < n → (∀ k, k < n → k ≠ k0 → f k = g k) → sN g n = sN f n + (g k0 - f k0)
  | 0, h, _ => absurd h (Nat.not_lt_zero _)
  | n + 1, h, hh => by
    rw [sN_s, sN_s]
    by_cases e : k0 = n
    · subst e
      rw [sN_eq (f := f) (g := g) k0 (fun k hk => hh k (by omega) (by omega))]
      omega
    · rw [sN_one n (by omega) (fun k hk hne => hh k (by omega) hne), hh n (by omega) (fun z => e z.symm)]
      omega
theorem sN_add {f g : Nat → Int} : ∀ n : Nat, sN (fun k => f k + g k) n = sN f n + sN g n
  | 0 => rfl
  | n + 1 => by
    rw [sN_s, sN_s, sN_s, sN_add n]
    omega
theorem sN_0 {f : Nat → Int} (n : Nat) (h : ∀ k, k < n → f k = 0) : sN f n = 0 := by
  have e : ∀ m : Nat, sN (fun _ => 0) m = 0 := by
    intro m
    induction m with
    | zero => rfl
    | succ m ih => rw [sN_s, ih]; rfl
  rw [sN_eq (g := fun _ => 0) n h, e]
theorem hsum_sN (T : gS) (st : Int) : hsum T st = sN (fun k : Nat => tod (T.1 24 (k : Int) = st) (T.1 23 (k : Int)) 0) (T.2 4).toNat := rfl
theorem sm_sN (f : Int → Int) (n : Nat) : sm f 0 n = sN (fun k : Nat => f (0 + (k : Int))) n := rfl
theorem hsum_ch {T U : gS} {k : Int} (hk : 0 ≤ k ∧ k < T.2 4) (h4 : U.2 4 = T.2 4) (hne : ∀ j : Int, j ≠ k → U.1 24 j = T.1 24 j ∧ U.1 23 j = T.1 23 j) (st : Int) :
    hsum U st = hsum T st + (tod (U.1 24 k = st) (U.1 23 k) 0 - tod (T.1 24 k = st) (T.1 23 k) 0) := by
  obtain ⟨n0, rfl⟩ : ∃ n0 : Nat, k = (n0 : Int) := ⟨k.toNat, by omega⟩
  rw [hsum_sN, hsum_sN, h4]
  exact sN_one (f := fun k : Nat => tod (T.1 24 (k : Int) = st) (T.1 23 (k : Int)) 0) (g := fun k : Nat => tod (U.1 24 (k : Int) = st) (U.1 23 (k : Int)) 0) _ (by omega) (fun j _ hj => by
    have q := hne (j : Int) (by omega)
    show tod (T.1 24 (j : Int) = st) (T.1 23 (j : Int)) 0 = tod (U.1 24 (j : Int) = st) (U.1 23 (j : Int)) 0
    rw [q.1, q.2])
theorem hsum_fr {T U : gS} (h4 : U.2 4 = T.2 4) (h24 : U.1 24 = T.1 24) (h23 : U.1 23 = T.1 23) (st : Int) : hsum U st = hsum T st := by
  unfold hsum
  rw [h4, h24, h23]
theorem sm_fset {f : Int → Int} {q v : Int} {n : Nat} (h : 0 ≤ q ∧ q < n) : sm (fset f q v) 0 n = sm f 0 n + (v - f q) := by
  obtain ⟨n0, rfl⟩ : ∃ n0 : Nat, q = (n0 : Int) := ⟨q.toNat, by omega⟩
  rw [sm_sN, sm_sN, sN_one (f := fun k : Nat => f (0 + (k : Int))) (g := fun k : Nat => fset f (n0 : Int) v (0 + (k : Int))) (k0 := n0) n (by omega) (fun j _ hj => by
    show f (0 + (j : Int)) = fset f (n0 : Int) v (0 + (j : Int))
    rw [fset_ne (by omega)])]
  show _ + (fset f (n0 : Int) v (0 + (n0 : Int)) - f (0 + (n0 : Int))) = _
  rw [Int.zero_add, fset_same]
def tot (T : gS) : Int := hsum T 0 + hsum T 1 + hsum T 2 + T.2 5
def pjk (T : gS) : Prop := ∀ k : Int, 0 ≤ k → k < T.2 4 → (T.1 24 k = 2 → 1 ≤ T.1 23 k) ∧ (T.1 24 k = 3 → T.1 23 k = 0)
def pjr (T : gS) : Prop := ∀ r : Int, 0 ≤ r → r < T.2 3 → 0 ≤ T.1 20 r ∧ T.1 20 r ≤ T.1 19 r ∧ T.1 19 r ≤ T.1 18 r
def pjs (T : gS) : Prop := sm (T.1 19) 0 (T.2 3).toNat = hsum T 2
def pjn (T : gS) : Prop := okT T ∧ okH T ∧ pjk T ∧ pjr T ∧ pjs T
def mono (T U : gS) : Prop := ∀ k : Int, 0 ≤ k → k < T.2 4 → T.1 24 k ≤ U.1 24 k ∧ (T.1 24 k = 2 → U.1 24 k = 2 ∧ U.1 23 k = T.1 23 k) ∧ U.1 23 k ≤ T.1 23 k
def stp (T U : gS) : Prop := U.2 4 = T.2 4 ∧ U.2 3 = T.2 3 ∧ U.1 18 = T.1 18 ∧ mono T U ∧ tot U = tot T ∧ pjn U
theorem stp_rf {T : gS} (h : pjn T) : stp T T := ⟨rfl, rfl, rfl, fun _ _ _ => ⟨Int.le_refl _, fun e => ⟨e, rfl⟩, Int.le_refl _⟩, rfl, h⟩
theorem stp_tr {T U V : gS} (h1 : stp T U) (h2 : stp U V) : stp T V := by
  obtain ⟨a1, a2, a3, a4, a5, a6⟩ := h1
  obtain ⟨b1, b2, b3, b4, b5, b6⟩ := h2
  refine ⟨b1.trans a1, b2.trans a2, b3.trans a3, fun k x y => ?_, b5.trans a5, b6⟩
  obtain ⟨p1, p2, p3⟩ := a4 k x y
  obtain ⟨q1, q2, q3⟩ := b4 k x (by rw [a1]; exact y)
  refine ⟨by omega, fun e => ?_, by omega⟩
  have r1 := p2 e
  have r2 := q2 r1.1
  exact ⟨r2.1, r2.2.trans r1.2⟩
theorem stp_of {T U : gS} (h : pjn T) (hU : okT U) (h4 : U.2 4 = T.2 4) (h3 : U.2 3 = T.2 3) (h5 : U.2 5 = T.2 5) (a18 : U.1 18 = T.1 18) (a19 : U.1 19 = T.1 19) (a20 : U.1 20 = T.1 20) (a23 : U.1 23 = T.1 23) (a24 : U.1 24 = T.1 24) : stp T U := by
  obtain ⟨h1, h2, hk, hr, hs⟩ := h
  refine ⟨h4, h3, a18, fun k x y => ?_, ?_, hU, ?_, ?_, ?_, ?_⟩
  · rw [a23, a24]
    exact ⟨Int.le_refl _, fun e => ⟨e, rfl⟩, Int.le_refl _⟩
  · unfold tot
    rw [hsum_fr h4 a24 a23, hsum_fr h4 a24 a23, hsum_fr h4 a24 a23, h5]
  · intro k x y z
    rw [a23]
    exact h2 k x (by rw [← h4]; exact y) (by rw [← a24]; exact z)
  · intro k x y
    rw [a23, a24]
    exact hk k x (by rw [← h4]; exact y)
  · intro r x y
    rw [a18, a19, a20]
    exact hr r x (by rw [← h3]; exact y)
  · unfold pjs
    rw [a19, h3, hsum_fr h4 a24 a23]
    exact hs
theorem stp_W {T : gS} (h : pjn T) : stp T (hourW T) := stp_of h (okT_hourW h.1) rfl rfl rfl rfl rfl rfl rfl rfl
theorem stp_srch {T : gS} {c : Int} (h : pjn T) (hc : 0 ≤ c ∧ c < 80) : stp T (searchS T c) := stp_of h (okT_srch h.1 hc) rfl rfl rfl rfl rfl rfl rfl rfl
theorem moveS_f (T : gS) (k : Int) : (moveS T k).2 = T.2 ∧ ∀ j : Nat, j ≠ 22 → (moveS T k).1 j = T.1 j := by
  unfold moveS
  split
  · exact ⟨rfl, fun j hj => if_neg hj⟩
  · exact ⟨rfl, fun _ _ => rfl⟩
theorem stp_move {T : gS} {k : Int} (h : pjn T) : stp T (moveS T k) := by
  obtain ⟨e1, e2⟩ := moveS_f T k
  exact stp_of h (okT_move h.1) (by rw [e1]) (by rw [e1]) (by rw [e1]) (e2 18 (by decide)) (e2 19 (by decide)) (e2 20 (by decide)) (e2 23 (by decide)) (e2 24 (by decide))
theorem stepC_f (T : gS) (k : Int) : (stepC T k).2 = T.2 ∧ ∀ j : Nat, j ≠ 26 → (stepC T k).1 j = T.1 j := by
  unfold stepC
  split
  · exact ⟨rfl, fun j hj => if_neg hj⟩
  · exact ⟨rfl, fun _ _ => rfl⟩
theorem stp_step {T : gS} {k : Int} (h : pjn T) : stp T (stepC T k) := by
  obtain ⟨e1, e2⟩ := stepC_f T k
  exact stp_of h (okT_step h.1) (by rw [e1]) (by rw [e1]) (by rw [e1]) (e2 18 (by decide)) (e2 19 (by decide)) (e2 20 (by decide)) (e2 23 (by decide)) (e2 24 (by decide))
theorem stp_enter {T : gS} {k : Int} (h : pjn T) (hk : 0 ≤ k ∧ k < T.2 4) (h1 : T.1 24 k = 1) : stp T (enterS T k) := by
  by_cases hc : hereS T k ≠ -1 ∧ T.1 23 k ≤ T.1 18 (hereS T k) - T.1 19 (hereS T k)
  · have e : enterS T k = setA (setA (setA T 19 (fset (T.1 19) (hereS T k) (T.1 19 (hereS T k) + T.1 23 k))) 20 (fset (T.1 20) (hereS T k) (T.1 20 (hereS T k) + 1))) 24 (fset (T.1 24) k 2) := if_pos hc
    have ok := okT_enter (k := k) h.1
    rw [e] at ok ⊢
    obtain ⟨hT, hH, pk, pr, ps⟩ := h
    have hr := fst_b (T.1 17) (T.1 22 k) (T.2 3).toNat
    have hr2 : -1 ≤ hereS T k ∧ hereS T k < (T.2 3).toNat := ⟨hr.1, hr.2.1⟩
    generalize hereS T k = r at hc ok hr2 ⊢
    have hp := hH k hk.1 hk.2 (by omega)
    have h0 : ∀ st : Int, hsum (setA (setA (setA T 19 (fset (T.1 19) r (T.1 19 r + T.1 23 k))) 20 (fset (T.1 20) r (T.1 20 r + 1))) 24 (fset (T.1 24) k 2)) st = hsum T st + (tod (2 = st) (T.1 23 k) 0 - tod (1 = st) (T.1 23 k) 0) := by
      intro st
      refine Eq.trans (hsum_ch (T := T) (k := k) hk ?_ ?_ st) ?_
      · rfl
      · exact fun j hj => ⟨fset_ne hj, rfl⟩
      show hsum T st + (tod (fset (T.1 24) k 2 k = st) (T.1 23 k) 0 - tod (T.1 24 k = st) (T.1 23 k) 0) = _
      rw [fset_same, h1]
    refine ⟨rfl, rfl, rfl, fun j x y => ?_, ?_, ok, ?_, ?_, ?_, ?_⟩
    · show T.1 24 j ≤ fset (T.1 24) k 2 j ∧ (T.1 24 j = 2 → fset (T.1 24) k 2 j = 2 ∧ T.1 23 j = T.1 23 j) ∧ T.1 23 j ≤ T.1 23 j
      by_cases ej : j = k
      · rw [ej, fset_same]
        exact ⟨by omega, fun _ => ⟨rfl, rfl⟩, Int.le_refl _⟩
      · rw [fset_ne ej]
        exact ⟨Int.le_refl _, fun z => ⟨z, rfl⟩, Int.le_refl _⟩
    · unfold tot
      rw [h0, h0, h0]
      show _ + T.2 5 = _
      rw [tod_f (b := (2 : Int) = 0) (by decide), tod_f (b := (1 : Int) = 0) (by decide), tod_f (b := (2 : Int) = 1) (by decide), tod_t (b := (1 : Int) = 1) rfl, tod_t (b := (2 : Int) = 2) rfl, tod_f (b := (1 : Int) = 2) (by decide)]
      omega
    · intro j x y z
      refine hH j x y ?_
      have z : fset (T.1 24) k 2 j ≤ 1 := z
      unfold fset at z
      split at z
      · omega
      · exact z
    · intro j x y
      show (fset (T.1 24) k 2 j = 2 → 1 ≤ T.1 23 j) ∧ (fset (T.1 24) k 2 j = 3 → T.1 23 j = 0)
      by_cases ej : j = k
      · rw [ej, fset_same]
        exact ⟨fun _ => hp, fun z => by omega⟩
      · rw [fset_ne ej]
        exact pk j x y
    · intro j x y
      show 0 ≤ fset (T.1 20) r (T.1 20 r + 1) j ∧ fset (T.1 20) r (T.1 20 r + 1) j ≤ fset (T.1 19) r (T.1 19 r + T.1 23 k) j ∧ fset (T.1 19) r (T.1 19 r + T.1 23 k) j ≤ T.1 18 j
      have q := pr j x y
      by_cases ej : j = r
      · subst ej
        rw [fset_same, fset_same]
        omega
      · rw [fset_ne ej, fset_ne ej]
        exact q
    · show sm (fset (T.1 19) r (T.1 19 r + T.1 23 k)) 0 (T.2 3).toNat = _
      rw [h0, tod_t (b := (2 : Int) = 2) rfl, tod_f (b := (1 : Int) = 2) (by decide), sm_fset (by omega), show sm (T.1 19) 0 (T.2 3).toNat = hsum T 2 from ps]
      omega
  · have e : enterS T k = T := if_neg hc
    rw [e]
    exact stp_rf h
theorem stp_fleeB {T : gS} {k : Nat} (h : pjn T) (hk : (k : Int) < T.2 4) : stp T (fleeB k T) := by
  unfold fleeB
  split
  · rename_i h1
    have s1 := stp_srch (c := T.1 22 k) h (by have := okT_22 h.1 k; omega)
    have s2 := stp_move (k := (k : Int)) s1.2.2.2.2.2
    have s12 := stp_tr s1 s2
    refine stp_tr s12 (stp_enter s2.2.2.2.2.2 ⟨by omega, by rw [s12.1]; exact hk⟩ ?_)
    rw [(moveS_f _ _).2 24 (by decide)]
    exact h1
  · exact stp_rf h
theorem stp_fleeI {T : gS} (h : pjn T) : ∀ n : Nat, (n : Int) ≤ T.2 4 → stp T (fleeI T n)
  | 0, _ => stp_rf h
  | n + 1, hn => by
    have s1 := stp_fleeI h n (by omega)
    exact stp_tr s1 (stp_fleeB (k := n) s1.2.2.2.2.2 (by rw [s1.1]; omega))
theorem stp_drownB {T : gS} {k : Nat} (h : pjn T) (hk : (k : Int) < T.2 4) : stp T (drownB k T) := by
  have ok := drownB_b (k := k) h.1 h.2.1 hk
  by_cases hc : (T.1 24 k = 0 ∨ T.1 24 k = 1) ∧ 5 ≤ T.1 4 (T.1 22 k)
  · have hp := h.2.1 k (by omega) hk (by omega)
    by_cases hd : T.1 23 k - 1 ≤ 0
    · have e : drownB k T = setI (setA (setA T 23 (fset (T.1 23) k (T.1 23 k - 1))) 24 (fset (T.1 24) k 3)) 5 (T.2 5 + 1) := (if_pos hc).trans (if_pos hd)
      rw [e] at ok ⊢
      obtain ⟨hT, hH, pk, pr, ps⟩ := h
      have h0 : ∀ st : Int, hsum (setI (setA (setA T 23 (fset (T.1 23) k (T.1 23 k - 1))) 24 (fset (T.1 24) k 3)) 5 (T.2 5 + 1)) st = hsum T st + (tod (3 = st) (T.1 23 k - 1) 0 - tod (T.1 24 k = st) (T.1 23 k) 0) := by
        intro st
        refine Eq.trans (hsum_ch (T := T) (k := (k : Int)) ⟨by omega, hk⟩ ?_ ?_ st) ?_
        · rfl
        · exact fun j hj => ⟨fset_ne hj, fset_ne hj⟩
        show hsum T st + (tod (fset (T.1 24) k 3 k = st) (fset (T.1 23) k (T.1 23 k - 1) k) 0 - tod (T.1 24 k = st) (T.1 23 k) 0) = _
        rw [fset_same, fset_same]
      refine ⟨rfl, rfl, rfl, fun j x y => ?_, ?_, ok.1, ok.2.1, ?_, pr, ?_⟩
      · show T.1 24 j ≤ fset (T.1 24) k 3 j ∧ (T.1 24 j = 2 → fset (T.1 24) k 3 j = 2 ∧ fset (T.1 23) k (T.1 23 k - 1) j = T.1 23 j) ∧ fset (T.1 23) k (T.1 23 k - 1) j ≤ T.1 23 j
        by_cases ej : j = (k : Int)
        · rw [ej, fset_same, fset_same]
          exact ⟨by omega, fun z => by omega, by omega⟩
        · rw [fset_ne ej, fset_ne ej]
          exact ⟨Int.le_refl _, fun z => ⟨z, rfl⟩, Int.le_refl _⟩
      · unfold tot
        rw [h0, h0, h0]
        show _ + (T.2 5 + 1) = _
        rw [tod_f (b := (3 : Int) = 0) (by decide), tod_f (b := (3 : Int) = 1) (by decide), tod_f (b := (3 : Int) = 2) (by decide), tod_f (b := T.1 24 k = 2) (by omega)]
        rcases hc.1 with z | z
        · rw [tod_t z, tod_f (b := T.1 24 k = 1) (by omega)]
          omega
        · rw [tod_t z, tod_f (b := T.1 24 k = 0) (by omega)]
          omega
      · intro j x y
        show (fset (T.1 24) k 3 j = 2 → 1 ≤ fset (T.1 23) k (T.1 23 k - 1) j) ∧ (fset (T.1 24) k 3 j = 3 → fset (T.1 23) k (T.1 23 k - 1) j = 0)
        by_cases ej : j = (k : Int)
        · rw [ej, fset_same, fset_same]
          exact ⟨fun z => by omega, fun _ => by omega⟩
        · rw [fset_ne ej, fset_ne ej]
          exact pk j x y
      · show sm (T.1 19) 0 (T.2 3).toNat = _
        rw [h0, show sm (T.1 19) 0 (T.2 3).toNat = hsum T 2 from ps, tod_f (b := (3 : Int) = 2) (by decide), tod_f (b := T.1 24 k = 2) (by omega)]
        omega
    · have e : drownB k T = setI (setA T 23 (fset (T.1 23) k (T.1 23 k - 1))) 5 (T.2 5 + 1) := (if_pos hc).trans (if_neg hd)
      rw [e] at ok ⊢
      obtain ⟨hT, hH, pk, pr, ps⟩ := h
      have h0 : ∀ st : Int, hsum (setI (setA T 23 (fset (T.1 23) k (T.1 23 k - 1))) 5 (T.2 5 + 1)) st = hsum T st + (tod (T.1 24 k = st) (T.1 23 k - 1) 0 - tod (T.1 24 k = st) (T.1 23 k) 0) := by
        intro st
        refine Eq.trans (hsum_ch (T := T) (k := (k : Int)) ⟨by omega, hk⟩ ?_ ?_ st) ?_
        · rfl
        · exact fun j hj => ⟨rfl, fset_ne hj⟩
        show hsum T st + (tod (T.1 24 k = st) (fset (T.1 23) k (T.1 23 k - 1) k) 0 - tod (T.1 24 k = st) (T.1 23 k) 0) = _
        rw [fset_same]
      refine ⟨rfl, rfl, rfl, fun j x y => ?_, ?_, ok.1, ok.2.1, ?_, pr, ?_⟩
      · show T.1 24 j ≤ T.1 24 j ∧ (T.1 24 j = 2 → T.1 24 j = 2 ∧ fset (T.1 23) k (T.1 23 k - 1) j = T.1 23 j) ∧ fset (T.1 23) k (T.1 23 k - 1) j ≤ T.1 23 j
        by_cases ej : j = (k : Int)
        · rw [ej, fset_same]
          exact ⟨Int.le_refl _, fun z => by omega, by omega⟩
        · rw [fset_ne ej]
          exact ⟨Int.le_refl _, fun z => ⟨z, rfl⟩, Int.le_refl _⟩
      · unfold tot
        rw [h0, h0, h0]
        show _ + (T.2 5 + 1) = _
        rw [tod_f (b := T.1 24 k = 2) (x := T.1 23 k - 1) (by omega), tod_f (b := T.1 24 k = 2) (by omega)]
        rcases hc.1 with z | z
        · rw [tod_t (b := T.1 24 k = 0) (x := T.1 23 k - 1) z, tod_t (b := T.1 24 k = 0) z, tod_f (b := T.1 24 k = 1) (x := T.1 23 k - 1) (by omega), tod_f (b := T.1 24 k = 1) (by omega)]
          omega
        · rw [tod_t (b := T.1 24 k = 1) (x := T.1 23 k - 1) z, tod_t (b := T.1 24 k = 1) z, tod_f (b := T.1 24 k = 0) (x := T.1 23 k - 1) (by omega), tod_f (b := T.1 24 k = 0) (by omega)]
          omega
      · intro j x y
        show (T.1 24 j = 2 → 1 ≤ fset (T.1 23) k (T.1 23 k - 1) j) ∧ (T.1 24 j = 3 → fset (T.1 23) k (T.1 23 k - 1) j = 0)
        by_cases ej : j = (k : Int)
        · rw [ej, fset_same]
          exact ⟨fun z => by omega, fun z => by omega⟩
        · rw [fset_ne ej]
          exact pk j x y
      · show sm (T.1 19) 0 (T.2 3).toNat = _
        rw [h0, show sm (T.1 19) 0 (T.2 3).toNat = hsum T 2 from ps, tod_f (b := T.1 24 k = 2) (x := T.1 23 k - 1) (by omega), tod_f (b := T.1 24 k = 2) (by omega)]
        omega
  · have e : drownB k T = T := if_neg hc
    rw [e]
    exact stp_rf h
theorem stp_drownI {T : gS} (h : pjn T) : ∀ n : Nat, (n : Int) ≤ T.2 4 → stp T (drownI T n)
  | 0, _ => stp_rf h
  | n + 1, hn => by
    have s1 := stp_drownI h n (by omega)
    exact stp_tr s1 (stp_drownB (k := n) s1.2.2.2.2.2 (by rw [s1.1]; omega))
/-- who is warned was at home -/
theorem warn_pt {hs hc : Int → Int} {q : Int} : ∀ (n : Nat) (j : Int), (warnI hs hc q n).1 j = hs j ∨ (hs j = 0 ∧ (warnI hs hc q n).1 j = 1)
  | 0, _ => Or.inl rfl
  | n + 1, j => by
    have h := warn_pt (hs := hs) (hc := hc) (q := q) n j
    show (warnB hc q n (warnI hs hc q n)).1 j = hs j ∨ (hs j = 0 ∧ (warnB hc q n (warnI hs hc q n)).1 j = 1)
    generalize warnI hs hc q n = z at h ⊢
    unfold warnB
    split
    · rename_i hc9
      by_cases e : j = (n : Int)
      · subst e
        right
        have e2 : fset z.1 (n : Int) 1 (n : Int) = 1 := fset_same _ _ _
        exact ⟨by omega, e2⟩
      · have e2 : fset z.1 (n : Int) 1 j = z.1 j := fset_ne e
        show fset z.1 (n : Int) 1 j = hs j ∨ (hs j = 0 ∧ fset z.1 (n : Int) 1 j = 1)
        rw [e2]
        exact h
    · exact h
theorem stp_hail {T : gS} {k : Int} (h : pjn T) : stp T (hailS T k) := by
  have ok := okT_hail (k := k) h.1
  have hw := warn_pt (hs := T.1 24) (hc := T.1 22) (q := T.1 26 k) (T.2 4).toNat
  obtain ⟨w, hw0⟩ : ∃ w, w = warnS T (T.1 26 k) := ⟨_, rfl⟩
  have e : hailS T k = setA (setA T 24 w.1) 27 (fset (T.1 27) k (T.1 27 k + w.2)) := by rw [hw0]; rfl
  have hw : ∀ j : Int, w.1 j = T.1 24 j ∨ (T.1 24 j = 0 ∧ w.1 j = 1) := fun j => by rw [hw0]; exact hw j
  rw [e] at ok ⊢
  clear e hw0
  obtain ⟨hT, hH, pk, pr, ps⟩ := h
  have h2 : hsum (setA (setA T 24 w.1) 27 (fset (T.1 27) k (T.1 27 k + w.2))) 2 = hsum T 2 := by
    rw [hsum_sN, hsum_sN]
    refine sN_eq _ (fun j _ => ?_)
    show tod (w.1 (j : Int) = 2) (T.1 23 (j : Int)) 0 = tod (T.1 24 (j : Int) = 2) (T.1 23 (j : Int)) 0
    rcases hw (j : Int) with z | z
    · rw [z]
    · rw [tod_f (by omega), tod_f (by omega)]
  have h01 : hsum (setA (setA T 24 w.1) 27 (fset (T.1 27) k (T.1 27 k + w.2))) 0 + hsum (setA (setA T 24 w.1) 27 (fset (T.1 27) k (T.1 27 k + w.2))) 1 = hsum T 0 + hsum T 1 := by
    rw [hsum_sN, hsum_sN, hsum_sN, hsum_sN, ← sN_add, ← sN_add]
    refine sN_eq _ (fun j _ => ?_)
    show tod (w.1 (j : Int) = 0) (T.1 23 (j : Int)) 0 + tod (w.1 (j : Int) = 1) (T.1 23 (j : Int)) 0 = tod (T.1 24 (j : Int) = 0) (T.1 23 (j : Int)) 0 + tod (T.1 24 (j : Int) = 1) (T.1 23 (j : Int)) 0
    rcases hw (j : Int) with z | z
    · rw [z]
    · rw [tod_f (by omega), tod_t z.2, tod_t z.1, tod_f (by omega)]
      omega
  refine ⟨rfl, rfl, rfl, fun j x y => ?_, ?_, ok, ?_, ?_, pr, ?_⟩
  · show T.1 24 j ≤ w.1 j ∧ (T.1 24 j = 2 → w.1 j = 2 ∧ T.1 23 j = T.1 23 j) ∧ T.1 23 j ≤ T.1 23 j
    have := hw j
    exact ⟨by omega, fun z => ⟨by omega, rfl⟩, Int.le_refl _⟩
  · unfold tot
    show _ + T.2 5 = _
    omega
  · intro j x y z
    have z : w.1 j ≤ 1 := z
    refine hH j x y ?_
    have := hw j
    omega
  · intro j x y
    show (w.1 j = 2 → 1 ≤ T.1 23 j) ∧ (w.1 j = 3 → T.1 23 j = 0)
    have q := pk j x y
    have := hw j
    exact ⟨fun z => q.1 (by omega), fun z => q.2 (by omega)⟩
  · show sm (T.1 19) 0 (T.2 3).toNat = _
    rw [h2]
    exact ps
theorem stp_clI {T : gS} (h : pjn T) : ∀ n : Nat, stp T (clI T n)
  | 0 => stp_rf h
  | n + 1 => by
    have s1 := stp_clI h n
    have p1 := s1.2.2.2.2.2
    have s2 := stp_srch (c := (clI T n).1 26 n) p1 (by have := okT_26 p1.1 n; omega)
    have s3 := stp_step (k := (n : Int)) s2.2.2.2.2.2
    have s4 := stp_hail (k := (n : Int)) s3.2.2.2.2.2
    exact stp_tr s1 (stp_tr s2 (stp_tr s3 s4))
theorem stp_hour {T : gS} (h : pjn T) : stp T (hourS T) := by
  have s1 := stp_W h
  have s2 : stp (hourW T) (calledS (hourW T)) := by
    unfold calledS
    split
    · exact stp_clI s1.2.2.2.2.2 _
    · exact stp_rf s1.2.2.2.2.2
  have p2 := s2.2.2.2.2.2
  have s3 : stp (calledS (hourW T)) (fleeS (calledS (hourW T))) := stp_fleeI p2 _ (by have := okT_i4 p2.1; omega)
  have p3 := s3.2.2.2.2.2
  have s4 : stp (fleeS (calledS (hourW T))) (drownS (fleeS (calledS (hourW T)))) := stp_drownI p3 _ (by have := okT_i4 p3.1; omega)
  exact stp_tr s1 (stp_tr s2 (stp_tr s3 s4))
theorem stp_hours {T : gS} (h : pjn T) : ∀ n : Nat, stp T (hoursI T n)
  | 0 => stp_rf h
  | n + 1 => by
    have s1 := stp_hours h n
    exact stp_tr s1 (stp_hour s1.2.2.2.2.2)
theorem hoursI_i2 (T : gS) : ∀ n : Nat, (hoursI T n).2 2 = T.2 2
  | 0 => rfl
  | n + 1 => by
    have h := hoursI_i2 T n
    show (hourS (hoursI T n)).2 2 = _
    rw [← h]
    exact hourP_i (by decide) (by decide)
/-! what is foreseen comes -/
theorem setA_self (S : gS) (a : Nat) : setA S a (S.1 a) = S := by
  refine Prod.ext ?_ rfl
  funext j
  show (if j = a then S.1 a else S.1 j) = S.1 j
  split
  · rename_i e; rw [e]
  · rfl
theorem setI_self (S : gS) (a : Nat) : setI S a (S.2 a) = S := by
  refine Prod.ext rfl ?_
  funext j
  show (if j = a then S.2 a else S.2 j) = S.2 j
  split
  · rename_i e; rw [e]
  · rfl
theorem fcpy_self (f : Int → Int) (n : Int) : fcpy f f n = f := by
  funext j
  unfold fcpy
  split <;> rfl
theorem becS_self (S : gS) : becS S S = S := by
  unfold becS
  rw [fcpy_self, fcpy_self, fcpy_self, fcpy_self, fcpy_self, fcpy_self, fcpy_self, fcpy_self]
  rw [setA_self, setA_self, setA_self, setA_self, setA_self, setA_self, setA_self, setA_self, setI_self, setI_self]
theorem fore_eq {T H M S : gS} (i : inv T M S) (hH0 : okT H) (n : Nat) : (hoursI (copyS H T) n).2 5 = (hoursI T n).2 5 ∧ hsum (hoursI (copyS H T) n) 2 = hsum (hoursI T n) 2 ∧ wet ((hoursI (copyS H T) n).1 4) = wet ((hoursI T n).1 4) ∧ okT (hoursI (copyS H T) n) := by
  have hH := inv_H i
  obtain ⟨hA, hT, hM, hS, hP, -, -⟩ := i
  have c := sim_copy (H := H) (K := S) hM hA
  rw [becS_self] at c
  have s1 := sim_hours hT hH hM hS hP hA n
  have s2 := sim_hours (okT_copy hH0 hT) (okH_copy hH) hM hS hP c n
  have bM := (mhsI_b hM hS hP n).1
  have b1 := hoursI_b hT hH n
  have b2 := hoursI_b (okT_copy hH0 hT) (okH_copy (S := H) hH) n
  have e1 := s1.1.2.2.1
  have e2 := s2.1.2.2.1
  refine ⟨?_, ?_, ?_, b2.1⟩
  · rw [e1.2.1, e2.2.1]
  · rw [hsum_eq e1 bM, hsum_eq e2 bM]
  · rw [wet_eq s1.1.1.1.2.2.1 (okT_4 b1.1), wet_eq s2.1.1.1.2.2.1 (okT_4 b2.1)]
/-! asking: what a town's ways hold is nobody's business -/
theorem setW_W (S : gS) (x y : gWy) : setW (setW S x) y = setW S y := by
  refine Prod.ext (funext fun j => ?_) (funext fun j => ?_)
  · show (if j = 31 then y.2.2.1 else if j = 30 then y.2.1 else if j = 29 then y.1 else if j = 31 then x.2.2.1 else if j = 30 then x.2.1 else if j = 29 then x.1 else S.1 j) = (if j = 31 then y.2.2.1 else if j = 30 then y.2.1 else if j = 29 then y.1 else S.1 j)
    by_cases h1 : j = 31
    · rw [if_pos h1, if_pos h1]
    · by_cases h2 : j = 30
      · rw [if_neg h1, if_pos h2, if_neg h1, if_pos h2]
      · by_cases h3 : j = 29
        · rw [if_neg h1, if_neg h2, if_pos h3, if_neg h1, if_neg h2, if_pos h3]
        · rw [if_neg h1, if_neg h2, if_neg h3, if_neg h1, if_neg h2, if_neg h3, if_neg h1, if_neg h2, if_neg h3]
  · show (if j = 7 then y.2.2.2 else if j = 7 then x.2.2.2 else S.2 j) = (if j = 7 then y.2.2.2 else S.2 j)
    by_cases h1 : j = 7
    · rw [if_pos h1, if_pos h1]
    · rw [if_neg h1, if_neg h1, if_neg h1]
theorem setW_self (S : gS) : setW S (S.1 29, S.1 30, S.1 31, S.2 7) = S := by
  show setI (setA (setA (setA S 29 (S.1 29)) 30 (S.1 30)) 31 (S.1 31)) 7 (S.2 7) = S
  rw [setA_self, setA_self, setA_self, setI_self]
theorem hTS_W (S : gS) (k w : Int) : ∃ x, hTellS S k w = setW S x := by
  have z : ∃ x, S = setW S x := ⟨_, (setW_self S).symm⟩
  unfold hTellS
  split
  · exact z
  · split
    · exact z
    · split
      · exact z
      · split
        · exact z
        · unfold wayS
          split
          · exact z
          · split
            · exact z
            · exact ⟨_, rfl⟩
theorem pe_W {S : gS} {h : Nat} {x : gDM} (hx : ∃ z, x.2 = setW S z) : ∀ n : Nat, ∃ z, (itr (peB h) x n).2 = setW S z
  | 0 => hx
  | n + 1 => by
    obtain ⟨z, hz⟩ := pe_W (S := S) (h := h) hx n
    obtain ⟨y, hy⟩ := hTS_W (itr (peB h) x n).2 h n
    refine ⟨y, ?_⟩
    show hTellS (itr (peB h) x n).2 h n = _
    rw [hy, hz, setW_W]
theorem peI_W {S : gS} {d : Int64} : ∀ n : Nat, ∃ z, (peI S d n).2 = setW S z
  | 0 => ⟨_, (setW_self S).symm⟩
  | n + 1 => pe_W (peI_W n) 5
/-- the checksum: what it leaves, and that it says the same again -/
theorem dig_same {T M S : gS} (i : inv T M S) (hp : pjn T) : inv (ce7 T (ceD T)).2 M S ∧ stp T (ce7 T (ceD T)).2 ∧ mono (ce7 T (ceD T)).2 T ∧ (∀ j : Nat, j ≠ 7 → (ce7 T (ceD T)).2.2 j = T.2 j) ∧ (∀ j : Nat, j < 29 → (ce7 T (ceD T)).2.1 j = T.1 j) ∧ ceP (ce7 T (ceD T)).2 (ceD (ce7 T (ceD T)).2) = ceP T (ceD T) := by
  obtain ⟨x, hx⟩ := peI_W (S := T) (d := ceD T) (T.2 4).toNat
  have hx : (ce7 T (ceD T)).2 = setW T x := hx
  obtain ⟨hA, hT, hM, hS, hP, hb, hz⟩ := i
  have q := dig_eq hT hM hS hA
  have okx : okT (setW T x) := by rw [← hx]; exact q.2.2.1
  rw [hx]
  have iW : inv (setW T x) M S := ⟨hA, okx, hM, hS, hP, hb, hz⟩
  have q2 := dig_eq okx hM hS iW.1
  refine ⟨iW, stp_of hp okx rfl rfl rfl rfl rfl rfl rfl rfl, fun _ _ _ => ⟨Int.le_refl _, fun e => ⟨e, rfl⟩, Int.le_refl _⟩, fun j hj => if_neg hj, fun j hj => ?_, q2.1.trans q.1.symm⟩
  show (if j = 31 then x.2.2.1 else if j = 30 then x.2.1 else if j = 29 then x.1 else T.1 j) = T.1 j
  rw [if_neg (by omega), if_neg (by omega), if_neg (by omega)]
/-- a gauge rings at once, where it's told so -/
theorem ring_now {T H : gS} {g : Int} (hT : okT T) (hg : 0 ≤ g ∧ g < T.2 2) : cgR (copyS H T) g = 0 ↔ gTell T g 4 = 1 := by
  have n2 := okT_i2 hT
  have e14 : (copyS H T).1 14 g = T.1 14 g := cpI_in hg.1 (by omega)
  have e15 : (copyS H T).1 15 g = T.1 15 g := cpI_in hg.1 (by omega)
  have b14 := okT_14 hT g
  have e4 : (copyS H T).1 4 (T.1 14 g) = T.1 4 (T.1 14 g) := fcpy_in (by omega) (by omega)
  have e0 : cgF (copyS H T) g 0 = gTell T g 4 := by
    show bI ((copyS H T).1 15 g ≤ (copyS H T).1 4 ((copyS H T).1 14 g)) = bI (T.1 15 g ≤ T.1 4 (T.1 14 g))
    rw [e15, e14, e4]
  rw [← e0]
  unfold cgR
  generalize cgF (copyS H T) g = f
  have key : ∀ n : Nat, 0 < n → (fstI f 1 n = 0 ↔ f 0 = 1) := by
    intro n hn
    have hb := fst_b f 1 n
    constructor
    · intro h
      have q := hb.2.2 (by rw [h]; decide)
      rw [h] at q
      exact q
    · intro h
      exact fst_yes (k := 0) rfl h hn
  exact key 49 (by decide)
