/-! the people beside the model's -/
def simR (r : Int) (T M S : gS) : Prop := T.2 3 = M.2 3 ∧ M.2 3 ≤ r ∧ (∀ k : Int, 0 ≤ k → k < M.2 3 → T.1 17 k = S.1 6 (2 * k) ∧ T.1 18 k = S.1 6 (2 * k + 1)) ∧ ∀ k : Int, 0 ≤ k → k < r → T.1 19 k = pinI S k (M.2 4).toNat ∧ T.1 20 k = gstI S k (M.2 4).toNat
def simH (T M S : gS) : Prop := T.2 4 = M.2 4 ∧ T.2 5 = S.2 1 ∧ ∀ k : Int, 0 ≤ k → k < M.2 4 → T.1 22 k = S.1 7 (4 * k) ∧ T.1 23 k = S.1 7 (4 * k + 1) ∧ T.1 24 k = S.1 7 (4 * k + 2)
def simC (T M S : gS) : Prop := T.2 6 = M.2 5 ∧ ∀ k : Int, 0 ≤ k → k < M.2 5 → T.1 26 k = S.1 8 (2 * k) ∧ T.1 27 k = S.1 8 (2 * k + 1)
def simU (r : Int) (T M S : gS) : Prop := simR r T M S ∧ simH T M S ∧ simC T M S
def sim (p r : Int) (T M S : gS) : Prop := simW p T M S ∧ simU r T M S
theorem simU_M {r : Int} {T M N S : gS} (h2 : N.2 = M.2) (h : simU r T M S) : simU r T N S := by
  unfold simU simR simH simC at h ⊢
  rw [h2]
  exact h
theorem sim_M {p r : Int} {T M N S : gS} (h1 : N.1 1 = M.1 1) (h2 : N.2 = M.2) (h : sim p r T M S) : sim p r T N S := ⟨simW_M h1 h2 h.1, simU_M h2 h.2⟩
/-! people in refuges -/
theorem pin_cong {S U : gS} {r : Int} : ∀ n : Nat, (∀ k : Int, 0 ≤ k → k < n → (U.1 7 (4 * k + 2) = 2 ↔ S.1 7 (4 * k + 2) = 2) ∧ (S.1 7 (4 * k + 2) = 2 → U.1 7 (4 * k + 3) = S.1 7 (4 * k + 3) ∧ U.1 7 (4 * k + 1) = S.1 7 (4 * k + 1))) → pinI U r n = pinI S r n ∧ gstI U r n = gstI S r n
  | 0, _ => ⟨rfl, rfl⟩
  | n + 1, h => by
    obtain ⟨i1, i2⟩ := pin_cong (r := r) n (fun k a b => h k a (by omega))
    obtain ⟨g1, g2⟩ := h n (by omega) (by omega)
    show pinI U r n + tod (U.1 7 (4 * (n : Int) + 2) = 2 ∧ U.1 7 (4 * (n : Int) + 3) = r) (U.1 7 (4 * (n : Int) + 1)) 0 = pinI S r n + tod (S.1 7 (4 * (n : Int) + 2) = 2 ∧ S.1 7 (4 * (n : Int) + 3) = r) (S.1 7 (4 * (n : Int) + 1)) 0 ∧ gstI U r n + bI (U.1 7 (4 * (n : Int) + 2) = 2 ∧ U.1 7 (4 * (n : Int) + 3) = r) = gstI S r n + bI (S.1 7 (4 * (n : Int) + 2) = 2 ∧ S.1 7 (4 * (n : Int) + 3) = r)
    rw [i1, i2]
    by_cases c : S.1 7 (4 * (n : Int) + 2) = 2
    · have g3 := g2 c
      have g4 := g1.mpr c
      rw [g3.1, g3.2, g4, c]
      exact ⟨rfl, rfl⟩
    · have c2 : ¬ U.1 7 (4 * (n : Int) + 2) = 2 := fun y => c (g1.mp y)
      rw [tod_f (fun y => c2 y.1), tod_f (fun y => c y.1), bI_f (fun y => c2 y.1), bI_f (fun y => c y.1)]
      exact ⟨rfl, rfl⟩
theorem pin_add {S U : gS} {r h z : Int} (hU : U.1 7 = fset (fset (S.1 7) (4 * h + 2) 2) (4 * h + 3) z) (hS : ¬ S.1 7 (4 * h + 2) = 2) (h0 : 0 ≤ h) : ∀ n : Nat, pinI U r n = pinI S r n + (if h < n ∧ z = r then S.1 7 (4 * h + 1) else 0) ∧ gstI U r n = gstI S r n + (if h < n ∧ z = r then 1 else 0)
  | 0 => by
    rw [if_neg (by omega), if_neg (by omega)]
    exact ⟨rfl, rfl⟩
  | n + 1 => by
    obtain ⟨i1, i2⟩ := pin_add (r := r) hU hS h0 n
    show pinI U r n + tod (U.1 7 (4 * (n : Int) + 2) = 2 ∧ U.1 7 (4 * (n : Int) + 3) = r) (U.1 7 (4 * (n : Int) + 1)) 0 = pinI S r n + tod (S.1 7 (4 * (n : Int) + 2) = 2 ∧ S.1 7 (4 * (n : Int) + 3) = r) (S.1 7 (4 * (n : Int) + 1)) 0 + _ ∧ gstI U r n + bI (U.1 7 (4 * (n : Int) + 2) = 2 ∧ U.1 7 (4 * (n : Int) + 3) = r) = gstI S r n + bI (S.1 7 (4 * (n : Int) + 2) = 2 ∧ S.1 7 (4 * (n : Int) + 3) = r) + _
    rw [i1, i2, hU]
    by_cases e : (n : Int) = h
    · rw [e, fset_same, fset_ne (show 4 * h + 2 ≠ 4 * h + 3 by omega), fset_same, fset_ne (show 4 * h + 1 ≠ 4 * h + 3 by omega), fset_ne (show 4 * h + 1 ≠ 4 * h + 2 by omega)]
      have a1 : tod (S.1 7 (4 * h + 2) = 2 ∧ S.1 7 (4 * h + 3) = r) (S.1 7 (4 * h + 1)) 0 = 0 := tod_f (fun y => hS y.1)
      have a2 : bI (S.1 7 (4 * h + 2) = 2 ∧ S.1 7 (4 * h + 3) = r) = 0 := bI_f (fun y => hS y.1)
      have b1 : ∀ x : Int, (if h < h ∧ z = r then x else 0) = 0 := fun x => if_neg (by omega)
      rw [a1, a2, b1, b1]
      by_cases c : z = r
      · have a3 : tod ((2 : Int) = 2 ∧ z = r) (S.1 7 (4 * h + 1)) 0 = S.1 7 (4 * h + 1) := tod_t ⟨rfl, c⟩
        have a4 : bI ((2 : Int) = 2 ∧ z = r) = 1 := bI_t ⟨rfl, c⟩
        have b2 : ∀ x : Int, (if h < ((n + 1 : Nat) : Int) ∧ z = r then x else 0) = x := fun x => if_pos ⟨by omega, c⟩
        rw [a3, a4, b2, b2]
        exact ⟨by omega, by omega⟩
      · have a3 : tod ((2 : Int) = 2 ∧ z = r) (S.1 7 (4 * h + 1)) 0 = 0 := tod_f (fun y => c y.2)
        have a4 : bI ((2 : Int) = 2 ∧ z = r) = 0 := bI_f (fun y => c y.2)
        have b2 : ∀ x : Int, (if h < ((n + 1 : Nat) : Int) ∧ z = r then x else 0) = 0 := fun x => if_neg (fun y => c y.2)
        rw [a3, a4, b2, b2]
        exact ⟨by omega, by omega⟩
    · rw [fset_ne (show 4 * (n : Int) + 2 ≠ 4 * h + 3 by omega), fset_ne (show 4 * (n : Int) + 2 ≠ 4 * h + 2 by omega), fset_ne (show 4 * (n : Int) + 3 ≠ 4 * h + 3 by omega), fset_ne (show 4 * (n : Int) + 3 ≠ 4 * h + 2 by omega), fset_ne (show 4 * (n : Int) + 1 ≠ 4 * h + 3 by omega), fset_ne (show 4 * (n : Int) + 1 ≠ 4 * h + 2 by omega)]
      have e2 : (h < ((n + 1 : Nat) : Int) ∧ z = r) ↔ (h < (n : Int) ∧ z = r) := by omega
      by_cases c : h < (n : Int) ∧ z = r
      · rw [if_pos c, if_pos c, if_pos (e2.mpr c), if_pos (e2.mpr c)]; omega
      · rw [if_neg c, if_neg c, if_neg (fun y => c (e2.mp y)), if_neg (fun y => c (e2.mp y))]; omega
/-! choices -/
def chX (v : Int → Int) (a : Int) (to : Int → Int) (n : Int) (x : Int × Int) (y : gBs) : Prop := x.1 = y.2.1 ∧ (-1 ≤ x.1 ∧ x.1 < n) ∧ (x.1 = -1 → x.2 = -1) ∧ (x.1 ≠ -1 → x.2 = to x.1 ∧ (0 ≤ x.2 ∧ x.2 < 80) ∧ y.2.2 = dst v a x.2 ∧ dst v a x.2 ≠ -1)
theorem ch_step {v stp to : Int → Int} {a n c : Int} {x x2 : Int × Int} {y y2 : gBs} (el : Prop) [Decidable el] (h : chX v a to n x y) (hn : 0 ≤ n) (hs : ∀ q : Int, 0 ≤ q → q < 80 → stp q = dst v a q) (hc : 0 ≤ c ∧ c < 80) (hto : to n = c)
    (hx : x2 = if el ∧ (stp c ≠ -1 ∧ (x.2 = -1 ∨ stp c < stp x.2)) then (n, c) else x)
    (hy : y2.2.1 = if el ∧ ¬ (dst v a c = -1 ∨ (y.2.1 ≠ -1 ∧ y.2.2 ≤ dst v a c)) then n else y.2.1)
    (hy2 : y2.2.2 = if el ∧ ¬ (dst v a c = -1 ∨ (y.2.1 ≠ -1 ∧ y.2.2 ≤ dst v a c)) then dst v a c else y.2.2) : chX v a to (n + 1) x2 y2 := by
  obtain ⟨h1, h2, h3, h4⟩ := h
  have e1 := hs c hc.1 hc.2
  rw [e1] at hx
  have key : (el ∧ (dst v a c ≠ -1 ∧ (x.2 = -1 ∨ dst v a c < stp x.2))) ↔ (el ∧ ¬ (dst v a c = -1 ∨ (y.2.1 ≠ -1 ∧ y.2.2 ≤ dst v a c))) := by
    by_cases z : x.1 = -1
    · have z2 := h3 z
      rw [← h1]
      constructor
      · intro w; exact ⟨w.1, by omega⟩
      · intro w; exact ⟨w.1, by omega⟩
    · obtain ⟨g1, g2, g3, g4⟩ := h4 z
      have e2 := hs x.2 g2.1 g2.2
      rw [e2, ← h1, g3]
      constructor
      · intro w; exact ⟨w.1, by omega⟩
      · intro w; exact ⟨w.1, by omega⟩
  by_cases w : el ∧ ¬ (dst v a c = -1 ∨ (y.2.1 ≠ -1 ∧ y.2.2 ≤ dst v a c))
  · rw [if_pos w] at hy hy2
    rw [if_pos (key.mpr w)] at hx
    rw [hx]
    refine ⟨hy.symm, ⟨by show -1 ≤ n; omega, by show n < n + 1; omega⟩, fun z => ?_, fun _ => ⟨hto.symm, hc, hy2, (key.mpr w).2.1⟩⟩
    have z : n = -1 := z
    omega
  · rw [if_neg w] at hy hy2
    rw [if_neg (fun z => w (key.mp z))] at hx
    rw [hx]
    refine ⟨h1.trans hy.symm, ⟨h2.1, by omega⟩, h3, fun z => ?_⟩
    obtain ⟨g1, g2, g3, g4⟩ := h4 z
    exact ⟨g1, g2, hy2.trans g3, g4⟩
theorem ch_if {α : Type} {p q : Prop} [Decidable p] [Decidable q] {a b c : α} (f : α → Int) (z w : Int) (ha : f a = w) (hb : f b = w) (hc : f c = z) : f (if ¬ p then a else if q then b else c) = if p ∧ ¬ q then z else w := by
  by_cases h1 : p
  · rw [if_neg (fun y => y h1)]
    by_cases h2 : q
    · rw [if_pos h2, if_neg (fun y => y.2 h2)]; exact hb
    · rw [if_neg h2, if_pos ⟨h1, h2⟩]; exact hc
  · rw [if_pos h1, if_neg (fun y => h1 y.1)]; exact ha
theorem room_ch {r h : Int} {T M S : gS} {stp : Int → Int} (hT : okT T) (hR : simR r T M S) (hs : ∀ q : Int, 0 ≤ q → q < 80 → stp q = dst (S.1 3) (S.1 7 (4 * h)) q) : ∀ n : Nat, (n : Int) ≤ M.2 3 → chX (S.1 3) (S.1 7 (4 * h)) (T.1 17) n (roomI (T.1 17) (T.1 18) (T.1 19) stp (S.1 7 (4 * h + 1)) n) (rfI M S h n)
  | 0, _ => ⟨rfl, by simp [roomI, itr], fun _ => rfl, fun z => absurd rfl z⟩
  | n + 1, hn => by
    have ih := room_ch hT hR hs n (by omega)
    have g1 := hR.2.2.1 n (by omega) (by omega)
    have g2 := hR.2.2.2 n (by omega) (by have := hR.2.1; omega)
    have b := okT_17 hT n
    rw [show ((n + 1 : Nat) : Int) = (n : Int) + 1 by omega]
    refine ch_step (stp := stp) (c := T.1 17 n) (S.1 7 (4 * h + 1) ≤ T.1 18 n - T.1 19 n) ih (by omega) hs (by omega) rfl rfl ?_ ?_
    · rw [g1.1, g1.2, g2.1]
      exact ch_if (fun z : gBs => z.2.1) _ _ rfl rfl rfl
    · rw [g1.1, g1.2, g2.1]
      exact ch_if (fun z : gBs => z.2.2) _ _ rfl rfl rfl
theorem home_ch {c : Int} {T M S : gS} {stp : Int → Int} (hT : okT T) (hH : simH T M S) (hs : ∀ q : Int, 0 ≤ q → q < 80 → stp q = dst (S.1 3) (S.1 8 (2 * c)) q) : ∀ n : Nat, (n : Int) ≤ M.2 4 → chX (S.1 3) (S.1 8 (2 * c)) (T.1 22) n (homeI (T.1 24) (T.1 22) stp n) (mcI M S c n)
  | 0, _ => ⟨rfl, by simp [homeI, itr], fun _ => rfl, fun z => absurd rfl z⟩
  | n + 1, hn => by
    have ih := home_ch hT hH hs n (by omega)
    have g1 := hH.2.2 n (by omega) (by omega)
    have b := okT_22 hT n
    rw [show ((n + 1 : Nat) : Int) = (n : Int) + 1 by omega]
    refine ch_step (stp := stp) (c := T.1 22 n) (T.1 24 n = 0) ih (by omega) hs (by omega) rfl rfl ?_ ?_
    · rw [g1.1, g1.2.2]
      exact ch_if (fun z : gBs => z.2.1) _ _ rfl rfl rfl
    · rw [g1.1, g1.2.2]
      exact ch_if (fun z : gBs => z.2.2) _ _ rfl rfl rfl
/-! what a search leaves -/
theorem setW_29 (S : gS) (x : gWy) : (setW S x).1 29 = x.1 := rfl
theorem setW_30 (S : gS) (x : gWy) : (setW S x).1 30 = x.2.1 := rfl
theorem srchS_eq {T : gS} {v : Int → Int} {a : Int} (hT : okT T) (hw : eqR (T.1 4) v 80) (ha : 0 ≤ a ∧ a < 80) : (∀ q : Int, 0 ≤ q → q < 80 → (searchS T a).1 29 q = dst v a q) ∧ ∀ q : Int, 0 ≤ q → q < 80 → dst v a q ≠ -1 → (searchS T a).1 30 q = dsC v a q := by
  unfold searchS srchX
  rw [setW_29, setW_30]
  exact ⟨fun q x y => (srch_dst hw ha ⟨x, y⟩ (okT_29 hT) (okT_31 hT)).1, fun q x y z => (srch_dst hw ha ⟨x, y⟩ (okT_29 hT) (okT_31 hT)).2 z⟩
theorem sim_srch {p r a : Int} {T M S : gS} (h : sim p r T M S) : sim p r (searchS T a) M S := h
theorem stpM_1 {M S : gS} {a b : Int} : (stpM M S a b).1 1 = M.1 1 := by
  unfold stpM
  split <;> rfl
theorem rfI_1 {M S : gS} {h : Int} : ∀ n : Nat, (rfI M S h n).1.1 1 = M.1 1
  | 0 => rfl
  | n + 1 => by
    have ih := rfI_1 (M := M) (S := S) (h := h) n
    show (rfB S h (M.2 4).toNat n (rfI M S h n)).1.1 1 = M.1 1
    generalize rfI M S h n = x at ih
    unfold rfB
    split
    · exact ih
    · split
      · exact stpM_1.trans ih
      · exact stpM_1.trans ih
theorem mcI_1 {M S : gS} {c : Int} : ∀ n : Nat, (mcI M S c n).1.1 1 = M.1 1
  | 0 => rfl
  | n + 1 => by
    have ih := mcI_1 (M := M) (S := S) (c := c) n
    show (mcB S c n (mcI M S c n)).1.1 1 = M.1 1
    generalize mcI M S c n = x at ih
    unfold mcB
    split
    · exact ih
    · split
      · exact stpM_1.trans ih
      · exact stpM_1.trans ih
theorem flM_1 {M S : gS} {h : Int} : (flM M S h).1 1 = M.1 1 := by
  unfold flM
  split
  · exact stpM_1.trans (rfI_1 _)
  · exact rfI_1 _
theorem mCallM_1 {M S : gS} {c : Int} : (mCallM M S c).1 1 = M.1 1 := by
  unfold mCallM
  split
  · exact stpM_1.trans (mcI_1 _)
  · exact mcI_1 _
theorem fst_eq {f g : Int → Int} {p : Int} : ∀ n : Nat, eqR f g n → fstI f p n = fstI g p n
  | 0, _ => rfl
  | n + 1, h => by
    have ih := fst_eq (p := p) n (fun q a b => h q a (by omega))
    show fstB f p n (fstI f p n) = fstB g p n (fstI g p n)
    rw [ih]
    unfold fstB
    rw [h n (by omega) (by omega)]
/-! refuges -/
theorem roomS_eq {p r k : Int} {U M S : gS} (hT : okT U) (hM : okM M) (h : sim p r U M S) (hk : 0 ≤ k ∧ k < M.2 4) (hs : ∀ q : Int, 0 ≤ q → q < 80 → U.1 29 q = dst (S.1 3) (S.1 7 (4 * k)) q) :
    roomS U (U.1 23 k) = (rfX M S k).2.1 ∧ (-1 ≤ roomS U (U.1 23 k) ∧ roomS U (U.1 23 k) < M.2 3) ∧ (roomS U (U.1 23 k) ≠ -1 → (0 ≤ U.1 17 (roomS U (U.1 23 k)) ∧ U.1 17 (roomS U (U.1 23 k)) < 80) ∧ dst (S.1 3) (S.1 7 (4 * k)) (U.1 17 (roomS U (U.1 23 k))) ≠ -1) := by
  have hR := h.2.1
  have hH := h.2.2.1.2.2 k hk.1 hk.2
  have hn := okM_i3 hM
  have g := room_ch (h := k) hT hR hs (M.2 3).toNat (by omega)
  unfold roomS rfX
  rw [hR.1, hH.2.1]
  obtain ⟨g1, g2, g3, g4⟩ := g
  refine ⟨g1, ⟨g2.1, by omega⟩, fun z => ?_⟩
  obtain ⟨q1, q2, q3, q4⟩ := g4 z
  rw [← q1]
  exact ⟨q2, q4⟩
theorem sim_move {p r k : Int} {U M S : gS} (hT : okT U) (hM : okM M) (h : sim p r U M S) (hk : 0 ≤ k ∧ k < M.2 4) (hs : ∀ q : Int, 0 ≤ q → q < 80 → U.1 29 q = dst (S.1 3) (S.1 7 (4 * k)) q) (hf : ∀ q : Int, 0 ≤ q → q < 80 → dst (S.1 3) (S.1 7 (4 * k)) q ≠ -1 → U.1 30 q = dsC (S.1 3) (S.1 7 (4 * k)) q) : sim p r (moveS U k) M (flS M S k) := by
  obtain ⟨e1, e2, e3⟩ := roomS_eq hT hM h hk hs
  obtain ⟨hW, hR, hH, hC⟩ := h
  unfold moveS flS
  rw [← e1]
  by_cases c : roomS U (U.1 23 k) ≠ -1
  · rw [if_pos c, if_pos c]
    obtain ⟨e4, e5⟩ := e3 c
    have e6 := hf _ e4.1 e4.2 e5
    have e7 := (hR.2.2.1 (roomS U (U.1 23 k)) (by omega) e2.2).1
    rw [e6, e7]
    generalize dsC (S.1 3) (S.1 7 (4 * k)) (S.1 6 (2 * roomS U (U.1 23 k))) = z
    refine ⟨hW, ⟨hR.1, hR.2.1, hR.2.2.1, fun j a b => ?_⟩, ⟨hH.1, hH.2.1, fun j a b => ?_⟩, hC⟩
    · have g := pin_cong (S := S) (U := setA S 7 (fset (S.1 7) (4 * k) z)) (r := j) (M.2 4).toNat (fun i _ _ => by
        show (fset (S.1 7) (4 * k) z (4 * i + 2) = 2 ↔ _) ∧ (_ → fset (S.1 7) (4 * k) z (4 * i + 3) = _ ∧ fset (S.1 7) (4 * k) z (4 * i + 1) = _)
        rw [fset_ne (by omega), fset_ne (by omega), fset_ne (by omega)]
        exact ⟨Iff.rfl, fun _ => ⟨rfl, rfl⟩⟩)
      rw [g.1, g.2]
      exact hR.2.2.2 j a b
    · have g := hH.2.2 j a b
      show fset (U.1 22) k z j = fset (S.1 7) (4 * k) z (4 * j) ∧ U.1 23 j = fset (S.1 7) (4 * k) z (4 * j + 1) ∧ U.1 24 j = fset (S.1 7) (4 * k) z (4 * j + 2)
      rw [fset_ne (show 4 * j + 1 ≠ 4 * k by omega), fset_ne (show 4 * j + 2 ≠ 4 * k by omega)]
      refine ⟨?_, g.2⟩
      by_cases e : j = k
      · rw [e, fset_same, fset_same]
      · rw [fset_ne e, fset_ne (by omega)]
        exact g.1
  · rw [if_neg c, if_neg c]
    exact ⟨hW, hR, hH, hC⟩
theorem sim_enter {p r k : Int} {U M S : gS} (hM : okM M) (h : sim p r U M S) (hk : 0 ≤ k ∧ k < M.2 4) (hst : S.1 7 (4 * k + 2) = 1) : sim p r (enterS U k) M (enS M S k) := by
  obtain ⟨hW, hR, hH, hC⟩ := h
  have hn := okM_i3 hM
  have h4 := okM_i4 hM
  have gk := hH.2.2 k hk.1 hk.2
  have e1 : hereS U k = hrM M S k := by
    unfold hereS hrM
    rw [hR.1, gk.1]
    exact fst_eq _ (fun q a b => (hR.2.2.1 q a (by omega)).1)
  have hb := fst_b (fun j => S.1 6 (2 * j)) (S.1 7 (4 * k)) (M.2 3).toNat
  have hb : -1 ≤ hrM M S k ∧ hrM M S k < M.2 3 := ⟨hb.1, by have := hb.2.1; unfold hrM; omega⟩
  unfold enterS enS
  rw [e1]
  generalize hrM M S k = z at hb
  by_cases c : z = -1
  · rw [if_neg (fun y => y.1 c), if_pos (Or.inl c)]
    exact ⟨hW, hR, hH, hC⟩
  · have gr := hR.2.2.1 z (by omega) hb.2
    have gp := hR.2.2.2 z (by omega) (by have := hR.2.1; omega)
    rw [gr.2, gp.1, gp.2, gk.2.1]
    by_cases c2 : S.1 7 (4 * k + 1) ≤ S.1 6 (2 * z + 1) - pinI S z (M.2 4).toNat
    · rw [if_pos ⟨c, c2⟩, if_neg (by omega)]
      refine ⟨hW, ⟨hR.1, hR.2.1, hR.2.2.1, fun j a b => ?_⟩, ⟨hH.1, hH.2.1, fun j a b => ?_⟩, hC⟩
      · have g := pin_add (S := S) (U := setA S 7 (fset (fset (S.1 7) (4 * k + 2) 2) (4 * k + 3) z)) (r := j) (h := k) (z := z) rfl (by omega) hk.1 (M.2 4).toNat
        rw [g.1, g.2]
        have q := hR.2.2.2 j a b
        show fset (U.1 19) z (pinI S z (M.2 4).toNat + S.1 7 (4 * k + 1)) j = _ ∧ fset (U.1 20) z (gstI S z (M.2 4).toNat + 1) j = _
        by_cases e : j = z
        · rw [e, fset_same, fset_same, if_pos ⟨by omega, rfl⟩, if_pos ⟨by omega, rfl⟩]
          exact ⟨rfl, rfl⟩
        · rw [fset_ne e, fset_ne e, if_neg (fun y => e y.2.symm), if_neg (fun y => e y.2.symm)]
          exact ⟨by rw [q.1]; omega, by rw [q.2]; omega⟩
      · have g := hH.2.2 j a b
        show U.1 22 j = fset (fset (S.1 7) (4 * k + 2) 2) (4 * k + 3) z (4 * j) ∧ U.1 23 j = fset (fset (S.1 7) (4 * k + 2) 2) (4 * k + 3) z (4 * j + 1) ∧ fset (U.1 24) k 2 j = fset (fset (S.1 7) (4 * k + 2) 2) (4 * k + 3) z (4 * j + 2)
        rw [fset_ne (show 4 * j ≠ 4 * k + 3 by omega), fset_ne (show 4 * j ≠ 4 * k + 2 by omega), fset_ne (show 4 * j + 1 ≠ 4 * k + 3 by omega), fset_ne (show 4 * j + 1 ≠ 4 * k + 2 by omega), fset_ne (show 4 * j + 2 ≠ 4 * k + 3 by omega)]
        refine ⟨g.1, g.2.1, ?_⟩
        by_cases e : j = k
        · rw [e, fset_same, fset_same]
        · rw [fset_ne e, fset_ne (by omega)]
          exact g.2.2
    · rw [if_neg (fun y => c2 y.2), if_pos (Or.inr c2)]
      exact ⟨hW, hR, hH, hC⟩
theorem sim_fleeB {p r : Int} {k : Nat} {T M S : gS} (hT : okT T) (hM : okM M) (hS : okS S) (h : sim p r T M S) (hk : (k : Int) < M.2 4) : sim p r (fleeB k T) (flB k (M, S)).1 (flB k (M, S)).2 := by
  have gk := h.2.2.1.2.2 k (by omega) hk
  unfold fleeB flB
  rw [gk.2.2]
  by_cases c : S.1 7 (4 * (k : Int) + 2) = 1
  · rw [if_pos c, if_pos c]
    have hr := okT_22 hT k
    obtain ⟨e1, e2⟩ := srchS_eq (a := T.1 22 k) hT h.1.1.2.2.1 (by omega)
    have h1 : sim p r (searchS T (T.1 22 k)) M S := h
    have t1 := okT_srch (c := T.1 22 k) hT (by omega)
    rw [gk.1] at e1 e2 h1 t1 ⊢
    generalize searchS T (S.1 7 (4 * (k : Int))) = U at e1 e2 h1 t1
    have h2 := sim_move t1 hM h1 ⟨by omega, hk⟩ e1 e2
    have h3 := sim_enter hM h2 ⟨by omega, hk⟩ (by
      unfold flS
      split
      · show fset (S.1 7) (4 * (k : Int)) _ (4 * (k : Int) + 2) = 1
        rw [fset_ne (by omega)]; exact c
      · exact c)
    exact sim_M flM_1 (okM_flM hM hS).2 h3
  · rw [if_neg c, if_neg c]
    exact h
theorem sim_fleeI {p r : Int} {T M S : gS} (hT : okT T) (hM : okM M) (hS : okS S) (h : sim p r T M S) : ∀ n : Nat, (n : Int) ≤ M.2 4 → sim p r (fleeI T n) (flI M S n).1 (flI M S n).2
  | 0, _ => h
  | n + 1, hn => by
    obtain ⟨q1, q2, q3⟩ := flI_b hM hS n
    have ih := sim_fleeI hT hM hS h n (by omega)
    exact sim_fleeB (okT_fleeI hT n) q1 q2 ih (by show (n : Int) < (flI M S n).1.2 4; rw [q3]; omega)
/-! who drowns -/
theorem sim_drownB {p r : Int} {k : Nat} {T M S : gS} (hT : okT T) (hS : okS S) (hP : okP S (M.2 4)) (h : sim p r T M S) (hk : (k : Int) < M.2 4) : sim p r (drownB k T) M (mdS S k) := by
  have h' := h
  obtain ⟨hW, hR, hH, hC⟩ := h
  have gk := hH.2.2 k (by omega) hk
  have b1 := okS_72 hS k
  have b2 := hP k (by omega) hk
  have b3 := okT_22 hT k
  have b4 := hW.1.2.2.1 (T.1 22 k) (by omega) (by omega)
  unfold drownB mdS
  rw [b4, gk.2.2, gk.2.1, gk.1]
  by_cases c : 1 < S.1 7 (4 * (k : Int) + 2) ∨ S.1 3 (S.1 7 (4 * (k : Int))) < 5
  · rw [if_neg (by omega), if_pos c]
    exact h'
  · have b5 := b2 (by omega)
    have hlost : T.2 5 + 1 = S.2 1 + 1 := by rw [hH.2.1]
    rw [if_pos (by omega), if_neg c]
    by_cases c2 : S.1 7 (4 * (k : Int) + 1) - 1 = 0
    · rw [if_pos (by omega), if_pos c2]
      refine ⟨hW, ⟨hR.1, hR.2.1, hR.2.2.1, fun j a b => ?_⟩, ⟨hH.1, hlost, fun j a b => ?_⟩, hC⟩
      · have g := pin_cong (S := S) (U := setI (setA S 7 (fset (fset (S.1 7) (4 * (k : Int) + 1) (S.1 7 (4 * (k : Int) + 1) - 1)) (4 * (k : Int) + 2) 3)) 1 (S.2 1 + 1)) (r := j) (M.2 4).toNat (fun i _ _ => by
          show (fset (fset (S.1 7) (4 * (k : Int) + 1) (S.1 7 (4 * (k : Int) + 1) - 1)) (4 * (k : Int) + 2) 3 (4 * i + 2) = 2 ↔ _) ∧ (_ → fset (fset (S.1 7) (4 * (k : Int) + 1) (S.1 7 (4 * (k : Int) + 1) - 1)) (4 * (k : Int) + 2) 3 (4 * i + 3) = _ ∧ fset (fset (S.1 7) (4 * (k : Int) + 1) (S.1 7 (4 * (k : Int) + 1) - 1)) (4 * (k : Int) + 2) 3 (4 * i + 1) = _)
          by_cases e : i = k
          · rw [e, fset_same]
            exact ⟨by omega, fun y => by omega⟩
          · rw [fset_ne (show 4 * i + 2 ≠ 4 * (k : Int) + 2 by omega), fset_ne (show 4 * i + 2 ≠ 4 * (k : Int) + 1 by omega), fset_ne (show 4 * i + 3 ≠ 4 * (k : Int) + 2 by omega), fset_ne (show 4 * i + 3 ≠ 4 * (k : Int) + 1 by omega), fset_ne (show 4 * i + 1 ≠ 4 * (k : Int) + 2 by omega), fset_ne (show 4 * i + 1 ≠ 4 * (k : Int) + 1 by omega)]
            exact ⟨Iff.rfl, fun _ => ⟨rfl, rfl⟩⟩)
        rw [g.1, g.2]
        exact hR.2.2.2 j a b
      · have g := hH.2.2 j a b
        show T.1 22 j = fset (fset (S.1 7) (4 * (k : Int) + 1) (S.1 7 (4 * (k : Int) + 1) - 1)) (4 * (k : Int) + 2) 3 (4 * j) ∧ fset (T.1 23) k (S.1 7 (4 * (k : Int) + 1) - 1) j = fset (fset (S.1 7) (4 * (k : Int) + 1) (S.1 7 (4 * (k : Int) + 1) - 1)) (4 * (k : Int) + 2) 3 (4 * j + 1) ∧ fset (T.1 24) k 3 j = fset (fset (S.1 7) (4 * (k : Int) + 1) (S.1 7 (4 * (k : Int) + 1) - 1)) (4 * (k : Int) + 2) 3 (4 * j + 2)
        rw [fset_ne (show 4 * j ≠ 4 * (k : Int) + 2 by omega), fset_ne (show 4 * j ≠ 4 * (k : Int) + 1 by omega), fset_ne (show 4 * j + 1 ≠ 4 * (k : Int) + 2 by omega)]
        by_cases e : j = k
        · rw [e, fset_same, fset_same, fset_same, fset_same]
          exact ⟨gk.1, rfl, rfl⟩
        · rw [fset_ne e, fset_ne e, fset_ne (show 4 * j + 1 ≠ 4 * (k : Int) + 1 by omega), fset_ne (show 4 * j + 2 ≠ 4 * (k : Int) + 2 by omega), fset_ne (show 4 * j + 2 ≠ 4 * (k : Int) + 1 by omega)]
          exact g
    · rw [if_neg (by omega), if_neg c2]
      refine ⟨hW, ⟨hR.1, hR.2.1, hR.2.2.1, fun j a b => ?_⟩, ⟨hH.1, hlost, fun j a b => ?_⟩, hC⟩
      · have g := pin_cong (S := S) (U := setI (setA S 7 (fset (S.1 7) (4 * (k : Int) + 1) (S.1 7 (4 * (k : Int) + 1) - 1))) 1 (S.2 1 + 1)) (r := j) (M.2 4).toNat (fun i _ _ => by
          show (fset (S.1 7) (4 * (k : Int) + 1) (S.1 7 (4 * (k : Int) + 1) - 1) (4 * i + 2) = 2 ↔ _) ∧ (_ → fset (S.1 7) (4 * (k : Int) + 1) (S.1 7 (4 * (k : Int) + 1) - 1) (4 * i + 3) = _ ∧ fset (S.1 7) (4 * (k : Int) + 1) (S.1 7 (4 * (k : Int) + 1) - 1) (4 * i + 1) = _)
          rw [fset_ne (show 4 * i + 2 ≠ 4 * (k : Int) + 1 by omega), fset_ne (show 4 * i + 3 ≠ 4 * (k : Int) + 1 by omega)]
          refine ⟨Iff.rfl, fun y => ⟨rfl, ?_⟩⟩
          by_cases e : i = k
          · rw [e] at y; omega
          · rw [fset_ne (by omega)])
        rw [g.1, g.2]
        exact hR.2.2.2 j a b
      · have g := hH.2.2 j a b
        show T.1 22 j = fset (S.1 7) (4 * (k : Int) + 1) (S.1 7 (4 * (k : Int) + 1) - 1) (4 * j) ∧ fset (T.1 23) k (S.1 7 (4 * (k : Int) + 1) - 1) j = fset (S.1 7) (4 * (k : Int) + 1) (S.1 7 (4 * (k : Int) + 1) - 1) (4 * j + 1) ∧ T.1 24 j = fset (S.1 7) (4 * (k : Int) + 1) (S.1 7 (4 * (k : Int) + 1) - 1) (4 * j + 2)
        rw [fset_ne (show 4 * j ≠ 4 * (k : Int) + 1 by omega), fset_ne (show 4 * j + 2 ≠ 4 * (k : Int) + 1 by omega)]
        refine ⟨g.1, ?_, g.2.2⟩
        by_cases e : j = k
        · rw [e, fset_same, fset_same]
        · rw [fset_ne e, fset_ne (by omega)]
          exact g.2.1
theorem sim_drownI {p r : Int} {T M S : gS} (hT : okT T) (hH : okH T) (hS : okS S) (hP : okP S (M.2 4)) (h : sim p r T M S) : ∀ n : Nat, (n : Int) ≤ M.2 4 → sim p r (drownI T n) M (mdI S n)
  | 0, _ => h
  | n + 1, hn => by
    have ih := sim_drownI hT hH hS hP h n (by omega)
    have q := mdI_b hS hP n (by omega)
    have t := drownI_b hT hH n (by have := h.2.2.1.1; omega)
    exact sim_drownB t.1 q.1 q.2 ih (by omega)
/-! callers -/
theorem near_all : (List.range 80).all (fun a => (List.range 80).all fun b => decide (near (a : Int) (b : Int) = nearM (a : Int) (b : Int))) = true := by decide +kernel
theorem near_eq {a b : Int} (ha : 0 ≤ a ∧ a < 80) (hb : 0 ≤ b ∧ b < 80) : near a b = nearM a b := by
  have h1 := List.all_eq_true.mp near_all a.toNat (List.mem_range.mpr (by omega))
  have h2 := List.all_eq_true.mp h1 b.toNat (List.mem_range.mpr (by omega))
  rw [show ((a.toNat : Nat) : Int) = a by omega, show ((b.toNat : Nat) : Int) = b by omega] at h2
  exact of_decide_eq_true h2
theorem sim_stepC {p r : Int} {k : Int} {U M S : gS} (hT : okT U) (hM : okM M) (h : sim p r U M S) (hk : 0 ≤ k ∧ k < M.2 5) (hs : ∀ q : Int, 0 ≤ q → q < 80 → U.1 29 q = dst (S.1 3) (S.1 8 (2 * k)) q) (hf : ∀ q : Int, 0 ≤ q → q < 80 → dst (S.1 3) (S.1 8 (2 * k)) q ≠ -1 → U.1 30 q = dsC (S.1 3) (S.1 8 (2 * k)) q) : sim p r (stepC U k) M (mStep M S k) := by
  obtain ⟨hW, hR, hH, hC⟩ := h
  have hn := okM_i4 hM
  have g := home_ch (c := k) hT hH hs (M.2 4).toNat (by omega)
  have e0 : homeS U = (homeI (U.1 24) (U.1 22) (U.1 29) (M.2 4).toNat).1 := by unfold homeS; rw [hH.1]
  obtain ⟨g1, g2, g3, g4⟩ := g
  rw [← e0] at g1 g2 g4
  have g1 : homeS U = (mBest M S k).2.1 := g1
  unfold stepC mStep
  rw [← g1]
  by_cases c : homeS U ≠ -1
  · rw [if_pos c, if_pos c]
    obtain ⟨q1, q2, q3, q4⟩ := g4 c
    rw [q1] at q2 q4
    have e6 := hf _ q2.1 q2.2 q4
    have e7 := (hH.2.2 (homeS U) (by omega) (by omega)).1
    rw [e6, e7]
    generalize dsC (S.1 3) (S.1 8 (2 * k)) (S.1 7 (4 * homeS U)) = z
    refine ⟨hW, hR, hH, ⟨hC.1, fun j a b => ?_⟩⟩
    have g := hC.2 j a b
    show fset (U.1 26) k z j = fset (S.1 8) (2 * k) z (2 * j) ∧ U.1 27 j = fset (S.1 8) (2 * k) z (2 * j + 1)
    rw [fset_ne (show 2 * j + 1 ≠ 2 * k by omega)]
    refine ⟨?_, g.2⟩
    by_cases e : j = k
    · rw [e, fset_same, fset_same]
    · rw [fset_ne e, fset_ne (by omega)]
      exact g.1
  · rw [if_neg c, if_neg c]
    exact ⟨hW, hR, hH, hC⟩
theorem warn_eq {k q : Int} {U M S : gS} (hT : okT U) (hH : simH U M S) (hq : S.1 8 (2 * k) = q) (hb : 0 ≤ q ∧ q < 80) : ∀ n : Nat, (n : Int) ≤ M.2 4 →
    (∀ j : Int, 0 ≤ j → j < M.2 4 → (warnI (U.1 24) (U.1 22) q n).1 j = (mhI S k n).1 7 (4 * j + 2)) ∧ (∀ j : Int, (mhI S k n).1 8 j = if j = 2 * k + 1 then S.1 8 (2 * k + 1) + (warnI (U.1 24) (U.1 22) q n).2 else S.1 8 j) ∧
    (∀ j : Int, (mhI S k n).1 7 (4 * j) = S.1 7 (4 * j) ∧ (mhI S k n).1 7 (4 * j + 1) = S.1 7 (4 * j + 1) ∧ (mhI S k n).1 7 (4 * j + 3) = S.1 7 (4 * j + 3) ∧ ((mhI S k n).1 7 (4 * j + 2) = 2 ↔ S.1 7 (4 * j + 2) = 2)) ∧
    (∀ j : Nat, j ≠ 7 → j ≠ 8 → (mhI S k n).1 j = S.1 j) ∧ (mhI S k n).2 = S.2
  | 0, _ => ⟨fun j a b => (hH.2.2 j a b).2.2, fun j => by
      show S.1 8 j = if j = 2 * k + 1 then S.1 8 (2 * k + 1) + 0 else S.1 8 j
      by_cases e : j = 2 * k + 1
      · rw [if_pos e, e]; omega
      · rw [if_neg e], fun j => ⟨rfl, rfl, rfl, Iff.rfl⟩, fun _ _ _ => rfl, rfl⟩
  | n + 1, hn => by
    obtain ⟨i1, i2, i3, i4, i5⟩ := warn_eq hT hH hq hb n (by omega)
    have e1 : warnI (U.1 24) (U.1 22) q (n + 1) = warnB (U.1 22) q n (warnI (U.1 24) (U.1 22) q n) := rfl
    have e2 : mhI S k (n + 1) = mhB k n (mhI S k n) := rfl
    rw [e1, e2]
    generalize warnI (U.1 24) (U.1 22) q n = x at i1 i2
    generalize mhI S k n = y at i1 i2 i3 i4 i5
    have g := hH.2.2 n (by omega) (by omega)
    have b := okT_22 hT n
    have c1 : x.1 n = y.1 7 (4 * (n : Int) + 2) := i1 n (by omega) (by omega)
    have c2 : near q (U.1 22 n) = nearM (y.1 8 (2 * k)) (y.1 7 (4 * (n : Int))) := by
      rw [i2 (2 * k), if_neg (by omega), hq, (i3 n).1, ← g.1]
      exact near_eq hb (by omega)
    unfold warnB mhB
    rw [c1, c2]
    by_cases c : y.1 7 (4 * (n : Int) + 2) = 0 ∧ nearM (y.1 8 (2 * k)) (y.1 7 (4 * (n : Int))) ≠ 0
    · rw [if_pos c, if_pos c]
      refine ⟨fun j a b9 => ?_, fun j => ?_, fun j => ?_, fun j a b9 => ?_, i5⟩
      · show fset x.1 n 1 j = fset (y.1 7) (4 * (n : Int) + 2) 1 (4 * j + 2)
        by_cases e : j = n
        · rw [e, fset_same, fset_same]
        · rw [fset_ne e, fset_ne (by omega)]
          exact i1 j a b9
      · show fset (y.1 8) (2 * k + 1) (y.1 8 (2 * k + 1) + 1) j = if j = 2 * k + 1 then S.1 8 (2 * k + 1) + (x.2 + 1) else S.1 8 j
        by_cases e : j = 2 * k + 1
        · rw [e, fset_same, if_pos rfl, i2 (2 * k + 1), if_pos rfl]; omega
        · rw [fset_ne e, if_neg e, i2 j, if_neg e]
      · have q9 := i3 j
        show fset (y.1 7) (4 * (n : Int) + 2) 1 (4 * j) = _ ∧ fset (y.1 7) (4 * (n : Int) + 2) 1 (4 * j + 1) = _ ∧ fset (y.1 7) (4 * (n : Int) + 2) 1 (4 * j + 3) = _ ∧ (fset (y.1 7) (4 * (n : Int) + 2) 1 (4 * j + 2) = 2 ↔ _)
        rw [fset_ne (show 4 * j ≠ 4 * (n : Int) + 2 by omega), fset_ne (show 4 * j + 1 ≠ 4 * (n : Int) + 2 by omega), fset_ne (show 4 * j + 3 ≠ 4 * (n : Int) + 2 by omega)]
        refine ⟨q9.1, q9.2.1, q9.2.2.1, ?_⟩
        by_cases e : j = n
        · have c3 := c.1
          have q10 := q9.2.2.2
          rw [e] at q10
          rw [e, fset_same]
          constructor
          · intro y9; omega
          · intro y9
            have := q10.mpr y9
            omega
        · rw [fset_ne (by omega)]
          exact q9.2.2.2
      · rw [← i4 j a b9]
        show (if j = 8 then _ else if j = 7 then _ else y.1 j) = _
        rw [if_neg b9, if_neg a]
    · rw [if_neg c, if_neg c]
      exact ⟨i1, i2, i3, i4, i5⟩
theorem sim_hail {p r k : Int} {U M S : gS} (hT : okT U) (hM : okM M) (h : sim p r U M S) (hk : 0 ≤ k ∧ k < M.2 5) : sim p r (hailS U k) M (mhI S k (M.2 4).toNat) := by
  obtain ⟨⟨hL, hP, hG⟩, hR, hH, hC⟩ := h
  have hn := okM_i4 hM
  have gk := hC.2 k hk.1 hk.2
  have b := okT_26 hT k
  have w := warn_eq (k := k) (q := U.1 26 k) hT hH gk.1.symm (by omega) (M.2 4).toNat (by omega)
  have e0 : warnS U (U.1 26 k) = warnI (U.1 24) (U.1 22) (U.1 26 k) (M.2 4).toNat := by unfold warnS; rw [hH.1]
  unfold hailS
  rw [e0]
  generalize warnI (U.1 24) (U.1 22) (U.1 26 k) (M.2 4).toNat = x at w
  generalize hyy : mhI S k (M.2 4).toNat = y at w
  obtain ⟨w1, w2, w3, w4, w5⟩ := w
  refine ⟨⟨⟨?_, ?_, ?_, hL.2.2.2⟩, ⟨hP.1, hP.2.1, ?_, ?_⟩, ⟨hG.1, ?_⟩⟩, ⟨hR.1, hR.2.1, ?_, fun j a b9 => ?_⟩, ⟨hH.1, ?_, fun j a b9 => ?_⟩, ⟨hC.1, fun j a b9 => ?_⟩⟩
  · rw [w4 1 (by decide) (by decide)]; exact hL.1
  · rw [w4 2 (by decide) (by decide)]; exact hL.2.1
  · rw [w4 3 (by decide) (by decide)]; exact hL.2.2.1
  · rw [w4 4 (by decide) (by decide)]; exact hP.2.2.1
  · rw [w4 4 (by decide) (by decide)]; exact hP.2.2.2
  · rw [w4 5 (by decide) (by decide)]; exact hG.2
  · rw [w4 6 (by decide) (by decide)]; exact hR.2.2.1
  · have g := pin_cong (S := S) (U := y) (r := j) (M.2 4).toNat (fun i _ _ => ⟨(w3 i).2.2.2, fun _ => ⟨(w3 i).2.2.1, (w3 i).2.1⟩⟩)
    rw [g.1, g.2]
    exact hR.2.2.2 j a b9
  · rw [w5]; exact hH.2.1
  · have g := hH.2.2 j a b9
    show U.1 22 j = y.1 7 (4 * j) ∧ U.1 23 j = y.1 7 (4 * j + 1) ∧ x.1 j = y.1 7 (4 * j + 2)
    rw [(w3 j).1, (w3 j).2.1]
    exact ⟨g.1, g.2.1, w1 j a b9⟩
  · have g := hC.2 j a b9
    show U.1 26 j = y.1 8 (2 * j) ∧ fset (U.1 27) k (U.1 27 k + x.2) j = y.1 8 (2 * j + 1)
    rw [w2 (2 * j), w2 (2 * j + 1), if_neg (by omega)]
    refine ⟨g.1, ?_⟩
    by_cases e : j = k
    · rw [e, fset_same, if_pos rfl, gk.2]
    · rw [fset_ne e, if_neg (by omega)]
      exact g.2
theorem sim_clB {p r : Int} {k : Nat} {T M S : gS} (hT : okT T) (hM : okM M) (hS : okS S) (h : sim p r T M S) (hk : (k : Int) < M.2 5) : sim p r (clB k T) (mCallM M S k) (mCallS M S k) := by
  have gk := h.2.2.2.2 k (by omega) hk
  have hr := okT_26 hT k
  obtain ⟨e1, e2⟩ := srchS_eq (a := T.1 26 k) hT h.1.1.2.2.1 (by omega)
  have h1 : sim p r (searchS T (T.1 26 k)) M S := h
  have t1 := okT_srch (c := T.1 26 k) hT (by omega)
  show sim p r (hailS (stepC (searchS T (T.1 26 k)) k) k) (mCallM M S k) (mCallS M S k)
  rw [gk.1] at e1 e2 h1 t1 ⊢
  generalize searchS T (S.1 8 (2 * (k : Int))) = U at e1 e2 h1 t1
  have h2 := sim_stepC t1 hM h1 ⟨by omega, hk⟩ e1 e2
  have h3 := sim_hail (okT_step t1) hM h2 ⟨by omega, hk⟩
  exact sim_M mCallM_1 (mCallM_2 hM hS) h3
theorem sim_clI {p r : Int} {T M S : gS} (hT : okT T) (hM : okM M) (hS : okS S) (h : sim p r T M S) : ∀ n : Nat, (n : Int) ≤ M.2 5 → sim p r (clI T n) (mclI M S n).1 (mclI M S n).2
  | 0, _ => h
  | n + 1, hn => by
    obtain ⟨q1, q2, q3⟩ := mclI_b hM hS n
    have ih := sim_clI hT hM hS h n (by omega)
    exact sim_clB (okT_clI hT n) q1 q2 ih (by show (n : Int) < (mclI M S n).1.2 5; rw [q3]; omega)
/-! an hour -/
theorem sim_called {p r : Int} {T M S : gS} (hT : okT T) (hM : okM M) (hS : okS S) (h : sim p r T M S) : sim p r (calledS T) (mCld M S).1 (mCld M S).2 := by
  have e := ring_eq hT h.1.1.2.2.1 h.1.2.2
  have hn := okM_i5 hM
  unfold calledS mCld
  rw [e]
  by_cases c : 0 < mRing M S
  · rw [if_pos c, if_pos c]
    unfold clS
    rw [h.2.2.2.1]
    exact sim_clI hT hM hS h _ (by omega)
  · rw [if_neg c, if_neg c]
    exact h
theorem sim_hourP {p r : Int} {T M S : gS} (hT : okT T) (hH : okH T) (hM : okM M) (hS : okS S) (hP : okP S (M.2 4)) (h : sim p r T M S) : sim p r (hourP T) (mHou M S).1 (mdI (mHou M S).2 (M.2 4).toNat) := by
  have h4 := okM_i4 hM
  have h1 := sim_called hT hM hS h
  obtain ⟨m1, m2, m3⟩ := mCld_b hM hS
  have m4 : okP (mCld M S).2 (M.2 4) := okP_mCld hP
  have t1 := okT_called hT
  have t2 := okH_called hH
  have h2 := sim_fleeI t1 m1 m2 h1 (M.2 4).toNat (by rw [m3]; omega)
  have e1 : fleeS (calledS T) = fleeI (calledS T) (M.2 4).toNat := by
    unfold fleeS
    rw [h1.2.2.1.1, m3]
  obtain ⟨n1, n2, n3⟩ := mHou_b hM hS
  have n4 : okP (mHou M S).2 (M.2 4) := mHou_P hP
  have h3 : sim p r (fleeS (calledS T)) (mHou M S).1 (mHou M S).2 := by
    rw [e1]
    exact h2
  have t3 : okT (fleeS (calledS T)) := okT_fleeI t1 _
  have t4 : okH (fleeS (calledS T)) := okH_fleeI t2 _
  show sim p r (drownS (fleeS (calledS T))) (mHou M S).1 (mdI (mHou M S).2 (M.2 4).toNat)
  have e2 : drownS (fleeS (calledS T)) = drownI (fleeS (calledS T)) (M.2 4).toNat := by
    unfold drownS
    rw [h3.2.2.1.1, n3]
  rw [e2]
  exact sim_drownI t3 t4 n2 (by rw [n3]; exact n4) h3 (M.2 4).toNat (by rw [n3]; omega)
theorem simU_water {r : Int} {T M S : gS} (h : simU r T M S) : simU r (waterS T) (mWatM M S) (mWat M S) := by
  have f := drI_f (mflowS M (mRise M S)) (M.2 1).toNat
  obtain ⟨f1, f2⟩ := f
  have f1 : ∀ j : Nat, j ≠ 3 → j ≠ 4 → (mWat M S).1 j = (mflowS M (mRise M S)).1 j := f1
  have f2 : (mWat M S).2 = (mflowS M (mRise M S)).2 := f2
  have g6 : (mWat M S).1 6 = S.1 6 := f1 6 (by decide) (by decide)
  have g7 : (mWat M S).1 7 = S.1 7 := f1 7 (by decide) (by decide)
  have g8 : (mWat M S).1 8 = S.1 8 := f1 8 (by decide) (by decide)
  have g1 : (mWat M S).2 1 = S.2 1 := by rw [f2]; rfl
  obtain ⟨hR, hH, hC⟩ := h
  refine ⟨⟨hR.1, hR.2.1, ?_, fun j a b => ?_⟩, ⟨hH.1, hH.2.1.trans g1.symm, ?_⟩, ⟨hC.1, ?_⟩⟩
  · rw [g6]; exact hR.2.2.1
  · have g := pin_cong (S := S) (U := mWat M S) (r := j) (M.2 4).toNat (fun i _ _ => by rw [g7]; exact ⟨Iff.rfl, fun _ => ⟨rfl, rfl⟩⟩)
    show T.1 19 j = pinI (mWat M S) j (M.2 4).toNat ∧ T.1 20 j = gstI (mWat M S) j (M.2 4).toNat
    rw [g.1, g.2]
    exact hR.2.2.2 j a b
  · rw [g7]; exact hH.2.2
  · rw [g8]; exact hC.2
theorem mWat_2 {M S : gS} : (mWat M S).2 = S.2 := (drI_f (mflowS M (mRise M S)) (M.2 1).toNat).2
theorem mWatM_2 {M S : gS} : (mWatM M S).2 = M.2 := rfl
/-- all of it, with the hour -/
def simA (p r : Int) (T M S : gS) : Prop := sim p r T M S ∧ T.2 0 = S.2 0
theorem sim_hour {p r : Int} {T M S : gS} (hT : okT T) (hH : okH T) (hM : okM M) (hS : okS S) (hP : okP S (M.2 4)) (h : simA p r T M S) : simA p r (hourS T) (mHourM M S) (mHourS M S) := by
  have h1 := sim_water hT hM hS h.2 h.1.1
  have h2 := simU_water h.1.2
  have t1 := okT_water hT
  have h3 : sim p r (hourW T) (mWatM M S) (mWat M S) := ⟨h1, h2⟩
  have h4 := sim_hourP (okT_hourW hT) (hourW_H hH) (okM_mWat hM hS) (okS_mWat hM hS) (okP_mWat hP) h3
  refine ⟨h4, ?_⟩
  rw [hourS_0, mHourS_0, h.2]
theorem sim_hours {p r : Int} {T M S : gS} (hT : okT T) (hH : okH T) (hM : okM M) (hS : okS S) (hP : okP S (M.2 4)) (h : simA p r T M S) : ∀ n : Nat, simA p r (hoursI T n) (mhsI M S n).1 (mhsI M S n).2
  | 0 => h
  | n + 1 => by
    have ih := sim_hours hT hH hM hS hP h n
    obtain ⟨a1, a2, a3⟩ := hoursI_b hT hH n
    obtain ⟨b1, b2, b3, b4, b5⟩ := mhsI_b hM hS hP n
    exact sim_hour a1 a2 b1 b2 (by show okP (mhsI M S n).2 ((mhsI M S n).1.2 4); rw [b4]; exact b3) ih
