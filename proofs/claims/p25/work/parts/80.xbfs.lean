/-! walks through cells that can be walked -/
def rch (w : Int → Int) : Nat → Int → Int → Prop
  | 0, a, b => a = b
  | n + 1, a, b => ∃ d : Nat, d < 4 ∧ nbr a d ≠ -1 ∧ w (nbr a d) < 3 ∧ rch w n (nbr a d) b
theorem rch_snoc {w : Int → Int} {p : Int} {d : Nat} (hd : d < 4) (h1 : nbr p d ≠ -1) (h2 : w (nbr p d) < 3) : ∀ (n : Nat) (a : Int), rch w n a p → rch w (n + 1) a (nbr p d)
  | 0, a, h => by
    have h : a = p := h
    rw [h]
    exact ⟨d, hd, h1, h2, rfl⟩
  | n + 1, a, h => by
    obtain ⟨d1, q1, q2, q3, q4⟩ := h
    exact ⟨d1, q1, q2, q3, rch_snoc hd h1 h2 n _ q4⟩
theorem nbr_in {k : Int} {d : Int} (hk : 0 ≤ k ∧ k < 80) (h : nbr k d ≠ -1) : 0 ≤ nbr k d ∧ nbr k d < 80 := by
  have := nbr_b (d := d) hk
  omega
theorem nbr_sym_all : (List.range 80).all (fun k => (List.range 4).all fun d => decide (nbr (k : Int) (d : Int) = -1) || (List.range 4).any fun d2 => decide (nbr (nbr (k : Int) (d : Int)) (d2 : Int) = (k : Int))) = true := by decide +kernel
theorem nbr_sym {k : Int} {d : Nat} (hk : 0 ≤ k ∧ k < 80) (hd : d < 4) (h : nbr k d ≠ -1) : ∃ d2 : Nat, d2 < 4 ∧ nbr (nbr k d) d2 = k := by
  have h1 := List.all_eq_true.mp nbr_sym_all k.toNat (List.mem_range.mpr (by omega))
  have h2 := List.all_eq_true.mp h1 d (List.mem_range.mpr hd)
  rw [show ((k.toNat : Nat) : Int) = k by omega] at h2
  rcases Bool.or_eq_true _ _ ▸ h2 with h3 | h3
  · exact absurd (of_decide_eq_true h3) h
  · obtain ⟨d2, q1, q2⟩ := List.any_eq_true.mp h3
    exact ⟨d2, List.mem_range.mp q1, of_decide_eq_true q2⟩
theorem nbr_inj_all : (List.range 80).all (fun k => (List.range 4).all fun d => (List.range 4).all fun d2 => decide (nbr (k : Int) (d : Int) = -1) || decide (d = d2) || !decide (nbr (k : Int) (d : Int) = nbr (k : Int) (d2 : Int))) = true := by decide +kernel
/-- the end of a walk -/
theorem rch_end {w : Int → Int} : ∀ (n : Nat) (a b : Int), 0 ≤ a ∧ a < 80 → rch w n a b → w a < 3 → (w b < 3 ∧ 0 ≤ b ∧ b < 80)
  | 0, a, b, ha, h, hw => by
    have h : a = b := h
    rw [← h]
    exact ⟨hw, ha⟩
  | n + 1, a, b, ha, h, hw => by
    obtain ⟨d, h1, h2, h3, h4⟩ := h
    exact rch_end n _ b (nbr_in ha h2) h4 h3
theorem rch_rev {w : Int → Int} : ∀ (n : Nat) (a b : Int), 0 ≤ a ∧ a < 80 → w a < 3 → rch w n a b → rch w n b a
  | 0, a, b, ha, hw, h => Eq.symm (show a = b from h)
  | n + 1, a, b, ha, hw, h => by
    obtain ⟨d, h1, h2, h3, h4⟩ := h
    have h5 := rch_rev n _ b (nbr_in ha h2) h3 h4
    obtain ⟨d2, q1, q2⟩ := nbr_sym ha h1 h2
    have h6 := rch_snoc (w := w) (p := nbr a d) (d := d2) q1 (by rw [q2]; omega) (by rw [q2]; exact hw) n b h5
    rw [q2] at h6
    exact h6
def eqR (f g : Int → Int) (n : Int) : Prop := ∀ q : Int, 0 ≤ q → q < n → f q = g q
theorem rch_cong {w v : Int → Int} (h : eqR w v 80) : ∀ (n : Nat) (a b : Int), 0 ≤ a ∧ a < 80 → rch w n a b → rch v n a b
  | 0, _, _, _, h2 => h2
  | n + 1, a, b, ha, h2 => by
    obtain ⟨d, q1, q2, q3, q4⟩ := h2
    have hr := nbr_in ha q2
    exact ⟨d, q1, q2, by rw [← h _ hr.1 hr.2]; exact q3, rch_cong h n _ b hr q4⟩
/-! the class's search and the model's reckoning are one -/
def pj (x : gWy) : gWm := (x.1, x.2.2.1, x.2.2.2)
theorem pj_1 (x : gWy) : (pj x).1 = x.1 := rfl
theorem goB_pj {p : Int} {w : Int → Int} {d : Nat} {x : gWy} {k hi : Int} (h : okR hi (pj x)) (hp : x.2.2.1 k = p) (hpr : 0 ≤ p ∧ p < 80) : pj (goB p w d x) = rkB w k d (pj x) := by
  by_cases hc : nbr p d ≠ -1 ∧ x.1 (nbr p d) = -1 ∧ w (nbr p d) < 3
  · have hr : x.2.2.2 < 80 := okR_room (x := pj x) h (nbr_in hpr hc.1) hc.2.1
    unfold goB
    rw [if_pos ⟨hc.1, hc.2.1, hc.2.2, hr⟩]
    show _ = if (nbr (x.2.2.1 k) d ≠ -1 ∧ w (nbr (x.2.2.1 k) d) < 3) ∧ x.1 (nbr (x.2.2.1 k) d) = -1 then _ else _
    rw [if_pos ⟨⟨by rw [hp]; exact hc.1, by rw [hp]; exact hc.2.2⟩, by rw [hp]; exact hc.2.1⟩]
    show _ = (fset x.1 (nbr (x.2.2.1 k) d) (x.1 (x.2.2.1 k) + 1), fset x.2.2.1 x.2.2.2 (nbr (x.2.2.1 k) d), x.2.2.2 + 1)
    rw [hp]
    rfl
  · unfold goB
    rw [if_neg (fun z => hc ⟨z.1, z.2.1, z.2.2.1⟩)]
    show _ = if (nbr (x.2.2.1 k) d ≠ -1 ∧ w (nbr (x.2.2.1 k) d) < 3) ∧ x.1 (nbr (x.2.2.1 k) d) = -1 then _ else _
    rw [hp, if_neg (fun z => hc ⟨z.1.1, z.2, z.1.2⟩)]
theorem goI_pj {p : Int} {w : Int → Int} {x : gWy} {k hi : Int} (h : okR hi (pj x)) (hp : x.2.2.1 k = p) (hpr : 0 ≤ p ∧ p < 80) (h0 : 0 ≤ k) (hk : k < x.2.2.2) : ∀ n : Nat, hi + n ≤ 1000 → pj (goI w p x n) = rkJ w k (pj x) n ∧ okR (hi + n) (pj (goI w p x n)) ∧ (goI w p x n).2.2.1 k = p ∧ k < (goI w p x n).2.2.2
  | 0, _ => ⟨rfl, by simpa [goI, itr] using h, hp, hk⟩
  | n + 1, hn => by
    obtain ⟨q1, q2, q3, q4⟩ := goI_pj (w := w) h hp hpr h0 hk n (by omega)
    have e : pj (goI w p x (n + 1)) = rkB w k n (pj (goI w p x n)) := goB_pj (d := n) q2 q3 hpr
    refine ⟨?_, ?_, ?_, ?_⟩
    · rw [e, q1]; rfl
    · rw [e, show hi + ((n + 1 : Nat) : Int) = hi + n + 1 by omega]
      exact rkB_b q2 (by omega)
    · show (goB p w n (goI w p x n)).2.2.1 k = p
      unfold goB
      split
      · show fset (goI w p x n).2.2.1 (goI w p x n).2.2.2 _ k = p
        rw [fset_ne (by omega)]
        exact q3
      · exact q3
    · show k < (goB p w n (goI w p x n)).2.2.2
      unfold goB
      split
      · show k < (goI w p x n).2.2.2 + 1
        omega
      · exact q4
/-- what the search keeps -/
def ky (s dl : Int → Int) (q : Int) : Int := 4 * s q + dl q
def bfE (c : Int) (x : gWy) (dl : Int → Int) : Prop := x.2.2.1 0 = c ∧ x.1 c = 0 ∧ dl c = 3 ∧ x.2.1 c = c
def bfD (x : gWy) : Prop := ∀ q : Int, 0 ≤ q → q < 80 → x.1 q ≠ -1 → ∃ i : Int, 0 ≤ i ∧ i < x.2.2.2 ∧ x.2.2.1 i = q
def bfF (w : Int → Int) (c : Int) (x : gWy) (dl : Int → Int) : Prop := ∀ q : Int, 0 ≤ q → q < 80 → q ≠ c → x.1 q ≠ -1 → 1 ≤ x.1 q ∧ (0 ≤ dl q ∧ dl q < 4) ∧ x.2.1 q = nbr c (dl q) ∧ nbr c (dl q) ≠ -1 ∧ w (nbr c (dl q)) < 3 ∧ rch w (x.1 q - 1).toNat (nbr c (dl q)) q
def bfG (x : gWy) (dl : Int → Int) : Prop := ∀ i j : Int, 0 ≤ i → i ≤ j → j < x.2.2.2 → ky x.1 dl (x.2.2.1 i) ≤ ky x.1 dl (x.2.2.1 j)
def bfH (k : Int) (j : Int) (x : gWy) (dl : Int → Int) : Prop := k < x.2.2.2 → ∀ i : Int, 0 ≤ i → i < x.2.2.2 → ky x.1 dl (x.2.2.1 i) ≤ ky x.1 dl (x.2.2.1 k) + (if k = 0 then j else 4)
def bfI (w : Int → Int) (k j : Int) (x : gWy) (dl : Int → Int) : Prop := ∀ (i : Int) (d : Nat), 0 ≤ i → i < x.2.2.2 → d < 4 → (i < k ∨ (i = k ∧ (d : Int) < j)) → nbr (x.2.2.1 i) d ≠ -1 → w (nbr (x.2.2.1 i) d) < 3 → x.1 (nbr (x.2.2.1 i) d) ≠ -1 ∧ ky x.1 dl (nbr (x.2.2.1 i) d) ≤ (if i = 0 then 4 + (d : Int) else ky x.1 dl (x.2.2.1 i) + 4)
def bfX (w : Int → Int) (c k j : Int) (x : gWy) (dl : Int → Int) : Prop := (0 ≤ k ∧ k ≤ x.2.2.2 ∧ 1 ≤ x.2.2.2) ∧ bfE c x dl ∧ bfD x ∧ bfF w c x dl ∧ bfG x dl ∧ bfH k j x dl ∧ bfI w k j x dl
theorem ky_ne {s dl : Int → Int} {q a b z : Int} (h : z ≠ q) : ky (fset s q a) (fset dl q b) z = ky s dl z := by
  unfold ky
  rw [fset_ne h, fset_ne h]
theorem ky_eq {s dl : Int → Int} {q a b : Int} : ky (fset s q a) (fset dl q b) q = 4 * a + b := by
  unfold ky
  rw [fset_same, fset_same]
theorem bf_step {w : Int → Int} {c k hi p : Int} {d : Nat} {x : gWy} {dl : Int → Int} (hd : d < 4) (hR : okR hi (pj x)) (hk : k < x.2.2.2) (hp : x.2.2.1 k = p) (h : bfX w c k d x dl) : ∃ dl2, bfX w c k (d + 1) (goB p w d x) dl2 := by
  obtain ⟨⟨k0, k1, k2⟩, ⟨e1, e2, e3, e4⟩, hD, hF, hG, hH, hI⟩ := h
  obtain ⟨r1, r2, r3, r4, r5, r6⟩ := id hR
  have rb : ∀ i : Int, 0 ≤ x.2.2.1 i ∧ x.2.2.1 i ≤ 79 := r2
  have rd : ∀ i j : Int, 0 ≤ i → i < j → j < x.2.2.2 → x.2.2.1 i ≠ x.2.2.1 j := r5
  have rp : ∀ i : Int, 0 ≤ i → i < x.2.2.2 → 0 ≤ x.1 (x.2.2.1 i) := r6
  have r4 : x.2.2.2 ≤ 80 := r4
  have hpr : 0 ≤ p ∧ p < 80 := by have := rb k; omega
  have hH := hH hk
  by_cases hc : nbr p d ≠ -1 ∧ x.1 (nbr p d) = -1 ∧ w (nbr p d) < 3 ∧ x.2.2.2 < 80
  · have eg : goB p w d x = (fset x.1 (nbr p d) (x.1 p + 1), fset x.2.1 (nbr p d) (tod (x.1 p = 0) (nbr p d) (x.2.1 p)), fset x.2.2.1 x.2.2.2 (nbr p d), x.2.2.2 + 1) := if_pos hc
    rw [eg]
    have hq := nbr_in hpr hc.1
    have ne : ∀ i : Int, 0 ≤ i → i < x.2.2.2 → x.2.2.1 i ≠ nbr p d := fun i a b z => by
      have := rp i a b
      rw [z, hc.2.1] at this
      omega
    have pn : p ≠ nbr p d := hp ▸ ne k k0 hk
    have cn : c ≠ nbr p d := e1 ▸ ne 0 (Int.le_refl 0) (by omega)
    have pc : k = 0 → p = c := fun z => by rw [← hp, z]; exact e1
    have pc2 : ¬ k = 0 → p ≠ c := fun z => by
      have := rd 0 k (Int.le_refl 0) (by omega) hk
      rw [hp, e1] at this
      exact fun y => this y.symm
    have sp := rp k k0 hk
    rw [hp] at sp
    have q0 := hc.1
    have qw := hc.2.2.1
    generalize hqq : nbr p d = q at hq ne pn cn q0 qw ⊢
    have kq : 4 * (x.1 p + 1) + (if k = 0 then (d : Int) else dl p) = if k = 0 then 4 + (d : Int) else ky x.1 dl p + 4 := by
      by_cases z : k = 0
      · rw [if_pos z, if_pos z, pc z, e2]; omega
      · rw [if_neg z, if_neg z]; unfold ky; omega
    have kc3 : k = 0 → ky x.1 dl (x.2.2.1 k) = 3 := fun z => by
      rw [hp, pc z]; unfold ky; rw [e2, e3]; omega
    have rr : ∀ i : Int, i < x.2.2.2 → fset x.2.2.1 x.2.2.2 q i = x.2.2.1 i := fun i a => fset_ne (by omega)
    refine ⟨fset dl q (if k = 0 then (d : Int) else dl p), ⟨k0, by show k ≤ x.2.2.2 + 1; omega, by show 1 ≤ x.2.2.2 + 1; omega⟩, ⟨?_, ?_, ?_, ?_⟩, ?_, ?_, ?_, ?_, ?_⟩
    · exact (rr 0 (by omega)).trans e1
    · exact (fset_ne cn).trans e2
    · exact (fset_ne cn).trans e3
    · exact (fset_ne cn).trans e4
    · intro z a b h1
      have h1 : fset x.1 q (x.1 p + 1) z ≠ -1 := h1
      show ∃ i : Int, 0 ≤ i ∧ i < x.2.2.2 + 1 ∧ fset x.2.2.1 x.2.2.2 q i = z
      by_cases hz : z = q
      · exact ⟨x.2.2.2, by omega, by omega, by rw [fset_same, hz]⟩
      · rw [fset_ne hz] at h1
        obtain ⟨i, i1, i2, i3⟩ := hD z a b h1
        exact ⟨i, i1, by omega, by rw [rr i i2]; exact i3⟩
    · intro z a b zc h1
      have h1 : fset x.1 q (x.1 p + 1) z ≠ -1 := h1
      show 1 ≤ fset x.1 q (x.1 p + 1) z ∧ (0 ≤ fset dl q (if k = 0 then (d : Int) else dl p) z ∧ fset dl q (if k = 0 then (d : Int) else dl p) z < 4) ∧ fset x.2.1 q (tod (x.1 p = 0) q (x.2.1 p)) z = nbr c (fset dl q (if k = 0 then (d : Int) else dl p) z) ∧ nbr c (fset dl q (if k = 0 then (d : Int) else dl p) z) ≠ -1 ∧ w (nbr c (fset dl q (if k = 0 then (d : Int) else dl p) z)) < 3 ∧ rch w (fset x.1 q (x.1 p + 1) z - 1).toNat (nbr c (fset dl q (if k = 0 then (d : Int) else dl p) z)) z
      by_cases hz : z = q
      · subst hz
        rw [fset_same, fset_same, fset_same]
        by_cases k9 : k = 0
        · rw [if_pos k9, ← pc k9, hqq, show x.1 p = 0 by rw [pc k9]; exact e2]
          exact ⟨by omega, ⟨by omega, by omega⟩, if_pos rfl, q0, qw, rfl⟩
        · rw [if_neg k9]
          obtain ⟨f1, f2, f3, f4, f5, f6⟩ := hF p hpr.1 hpr.2 (pc2 k9) (by omega)
          refine ⟨by omega, f2, ?_, f4, f5, ?_⟩
          · rw [← f3]; exact if_neg (by omega)
          · have := rch_snoc (w := w) (p := p) (d := d) hd (by rw [hqq]; exact q0) (by rw [hqq]; exact qw) _ _ f6
            rw [hqq] at this
            rw [show (x.1 p + 1 - 1).toNat = (x.1 p - 1).toNat + 1 by omega]
            exact this
      · rw [fset_ne hz] at h1
        rw [fset_ne hz, fset_ne hz, fset_ne hz]
        exact hF z a b zc h1
    · intro i j a b hj
      have hj : j < x.2.2.2 + 1 := hj
      show ky (fset x.1 q (x.1 p + 1)) (fset dl q (if k = 0 then (d : Int) else dl p)) (fset x.2.2.1 x.2.2.2 q i) ≤ ky (fset x.1 q (x.1 p + 1)) (fset dl q (if k = 0 then (d : Int) else dl p)) (fset x.2.2.1 x.2.2.2 q j)
      by_cases hj2 : j < x.2.2.2
      · rw [rr i (by omega), rr j hj2, ky_ne (ne i a (by omega)), ky_ne (ne j (by omega) hj2)]
        exact hG i j a b hj2
      · have ej : j = x.2.2.2 := by omega
        rw [ej, fset_same, ky_eq, kq]
        by_cases hi2 : i < x.2.2.2
        · rw [rr i hi2, ky_ne (ne i a hi2)]
          have h1 := hH i a hi2
          by_cases k9 : k = 0
          · rw [if_pos k9] at h1 ⊢
            have := kc3 k9
            omega
          · rw [if_neg k9] at h1 ⊢
            rw [hp] at h1
            exact h1
        · rw [show i = x.2.2.2 by omega, fset_same, ky_eq, kq]
          exact Int.le_refl _
    · intro _ i a hi2
      have hi2 : i < x.2.2.2 + 1 := hi2
      show ky (fset x.1 q (x.1 p + 1)) (fset dl q (if k = 0 then (d : Int) else dl p)) (fset x.2.2.1 x.2.2.2 q i) ≤ ky (fset x.1 q (x.1 p + 1)) (fset dl q (if k = 0 then (d : Int) else dl p)) (fset x.2.2.1 x.2.2.2 q k) + _
      rw [rr k hk, ky_ne (ne k k0 hk)]
      by_cases hi3 : i < x.2.2.2
      · rw [rr i hi3, ky_ne (ne i a hi3)]
        have h1 := hH i a hi3
        by_cases k9 : k = 0
        · rw [if_pos k9] at h1 ⊢
          omega
        · rw [if_neg k9] at h1 ⊢
          exact h1
      · rw [show i = x.2.2.2 by omega, fset_same, ky_eq, kq]
        by_cases k9 : k = 0
        · rw [if_pos k9, if_pos k9]
          have := kc3 k9
          omega
        · rw [if_neg k9, if_neg k9, hp]
          exact Int.le_refl _
    · intro i d2 a hi2 hd2 ho h1 h2
      have hi3 : i < x.2.2.2 := by omega
      have h1 : nbr (fset x.2.2.1 x.2.2.2 q i) d2 ≠ -1 := h1
      have h2 : w (nbr (fset x.2.2.1 x.2.2.2 q i) d2) < 3 := h2
      show fset x.1 q (x.1 p + 1) (nbr (fset x.2.2.1 x.2.2.2 q i) d2) ≠ -1 ∧ ky (fset x.1 q (x.1 p + 1)) (fset dl q (if k = 0 then (d : Int) else dl p)) (nbr (fset x.2.2.1 x.2.2.2 q i) d2) ≤ (if i = 0 then 4 + (d2 : Int) else ky (fset x.1 q (x.1 p + 1)) (fset dl q (if k = 0 then (d : Int) else dl p)) (fset x.2.2.1 x.2.2.2 q i) + 4)
      rw [rr i hi3] at h1 h2 ⊢
      rw [ky_ne (ne i a hi3)]
      by_cases hn : i = k ∧ d2 = d
      · rw [hn.1, hn.2, hp, hqq, fset_same, ky_eq, kq]
        exact ⟨by omega, Int.le_refl _⟩
      · obtain ⟨g1, g2⟩ := hI i d2 a hi3 hd2 (by omega) h1 h2
        have z9 : nbr (x.2.2.1 i) d2 ≠ q := fun z => g1 (by rw [z, ← hqq]; exact hc.2.1)
        rw [fset_ne z9, ky_ne z9]
        exact ⟨g1, g2⟩
  · have eg : goB p w d x = x := if_neg hc
    rw [eg]
    refine ⟨dl, ⟨k0, k1, k2⟩, ⟨e1, e2, e3, e4⟩, hD, hF, hG, ?_, ?_⟩
    · intro _ i a b
      have h1 := hH i a b
      by_cases k9 : k = 0
      · rw [if_pos k9] at h1 ⊢
        omega
      · rw [if_neg k9] at h1 ⊢
        exact h1
    · intro i d2 a hi2 hd2 ho h1 h2
      by_cases hn : i = k ∧ d2 = d
      · rw [hn.1, hn.2] at h1 h2 ⊢
        rw [hp] at h1 h2 ⊢
        have hq := nbr_in hpr h1
        have s1 : x.1 (nbr p d) ≠ -1 := fun z => hc ⟨h1, z, h2, okR_room (x := pj x) hR hq z⟩
        obtain ⟨i9, i1, i2, i3⟩ := hD _ hq.1 hq.2 s1
        have h3 := hH i9 i1 i2
        rw [i3, hp] at h3
        refine ⟨s1, ?_⟩
        by_cases k9 : k = 0
        · rw [if_pos k9] at h3 ⊢
          have : ky x.1 dl p = 3 := by
            rw [← hp, k9, e1]; unfold ky; rw [e2, e3]; omega
          omega
        · rw [if_neg k9] at h3 ⊢
          exact h3
      · exact hI i d2 a hi2 hd2 (by omega) h1 h2
theorem bf_go {w : Int → Int} {c k hi p : Int} {x : gWy} {dl : Int → Int} (hR : okR hi (pj x)) (h0 : 0 ≤ k) (hk : k < x.2.2.2) (hp : x.2.2.1 k = p) (h : bfX w c k 0 x dl) : ∀ n : Nat, n ≤ 4 → hi + n ≤ 1000 → ∃ dl2, bfX w c k n (goI w p x n) dl2
  | 0, _, _ => ⟨dl, h⟩
  | n + 1, hn, hh => by
    obtain ⟨dl2, q⟩ := bf_go hR h0 hk hp h n (by omega) (by omega)
    have hpr : 0 ≤ p ∧ p < 80 := by have : 0 ≤ x.2.2.1 k ∧ x.2.2.1 k ≤ 79 := hR.2.1 k; omega
    obtain ⟨_, a2, a3, a4⟩ := goI_pj (w := w) hR hp hpr h0 hk n (by omega)
    exact bf_step (d := n) (by omega) a2 a4 a3 q
theorem bf_next {w : Int → Int} {c k : Int} {x : gWy} {dl : Int → Int} (hk : k < x.2.2.2) (h : bfX w c k 4 x dl) : bfX w c (k + 1) 0 x dl := by
  obtain ⟨⟨k0, k1, k2⟩, hE, hD, hF, hG, hH, hI⟩ := h
  refine ⟨⟨by omega, by omega, k2⟩, hE, hD, hF, hG, ?_, ?_⟩
  · intro h1 i a b
    have h2 := hH hk i a b
    have h3 := hG k (k + 1) k0 (by omega) h1
    rw [if_neg (by omega)]
    have h4 : (if k = 0 then (4 : Int) else 4) = 4 := by split <;> rfl
    rw [h4] at h2
    omega
  · intro i d a b hd ho
    exact hI i d a b hd (by omega)
theorem srchI_pj {w : Int → Int} {x : gWy} {c : Int} {dl : Int → Int} (hR : okR 0 (pj x)) (h : bfX w c 0 0 x dl) : ∀ n : Nat, n ≤ 80 → pj (srchI w x n) = rkI w (pj x) n ∧ okR (4 * n) (pj (srchI w x n)) ∧ ∃ (k : Int) (dl2 : Int → Int), bfX w c k 0 (srchI w x n) dl2 ∧ k ≤ n ∧ (k = n ∨ k = (srchI w x n).2.2.2)
  | 0, _ => ⟨rfl, by simpa [srchI, itr] using hR, 0, dl, h, by simp, Or.inl rfl⟩
  | n + 1, hn => by
    obtain ⟨q1, q2, k, dl2, q3, q4, q5⟩ := srchI_pj hR h n (by omega)
    have e1 : srchI w x (n + 1) = srchB w n (srchI w x n) := rfl
    have e2 : rkI w (pj x) (n + 1) = rkO w n (rkI w (pj x) n) := rfl
    rw [e1, e2, ← q1]
    generalize srchI w x n = y at q1 q2 q3 q5
    clear e1 e2 q1
    unfold srchB rkO
    by_cases hc : (n : Int) < y.2.2.2
    · rw [if_pos hc, if_pos (show (n : Int) < (pj y).2.2 from hc)]
      have ek : k = n := by omega
      subst ek
      have hpr : 0 ≤ y.2.2.1 n ∧ y.2.2.1 n < 80 := by have : 0 ≤ y.2.2.1 n ∧ y.2.2.1 n ≤ 79 := q2.2.1 n; omega
      obtain ⟨a1, a2, a3, a4⟩ := goI_pj (w := w) q2 rfl hpr (by omega) hc 4 (by omega)
      obtain ⟨dl3, b1⟩ := bf_go q2 (by omega) hc rfl q3 4 (by omega) (by omega)
      have b2 := bf_next a4 b1
      refine ⟨a1, ?_, (n : Int) + 1, dl3, b2, by omega, Or.inl (by omega)⟩
      rw [show 4 * ((n + 1 : Nat) : Int) = 4 * (n : Int) + (4 : Nat) by omega]
      exact a2
    · rw [if_neg hc, if_neg (show ¬ (n : Int) < (pj y).2.2 from hc)]
      have k1 := q3.1.2.1
      refine ⟨rfl, ?_, k, dl2, q3, by omega, Or.inr (by omega)⟩
      obtain ⟨z1, z2⟩ := q2
      exact ⟨fun j => by have := z1 j; omega, z2⟩
theorem srch0_X {w s f r : Int → Int} {c : Int} (hc : 0 ≤ c ∧ c < 80) (h1 : bnd s (-1) 1000) (h3 : bnd r 0 79) : okR 0 (pj (srch0 s f r c)) ∧ bfX w c 0 0 (srch0 s f r c) (fun _ => 3) := by
  refine ⟨rk0_b hc h1 h3, ⟨by omega, by show (0 : Int) ≤ 1; omega, Int.le_refl 1⟩, ⟨fset_same r 0 c, fset_same (itr noneB s 80) c 0, rfl, fset_same f c c⟩, ?_, ?_, ?_, ?_, ?_⟩
  · intro q a b h
    have h : fset (itr noneB s 80) c 0 q ≠ -1 := h
    by_cases e : q = c
    · exact ⟨0, by omega, by show (0 : Int) < 1; omega, by rw [e]; exact fset_same r 0 c⟩
    · rw [fset_ne e, none_in a b] at h
      exact absurd rfl h
  · intro q a b e h
    have h : fset (itr noneB s 80) c 0 q ≠ -1 := h
    rw [fset_ne e, none_in a b] at h
    exact absurd rfl h
  · intro i j a b hj
    have hj : j < 1 := hj
    rw [show i = j by omega]
    exact Int.le_refl _
  · intro _ i a b
    have b : i < 1 := b
    rw [show i = 0 by omega, if_pos rfl]
    omega
  · intro i d a b hd ho
    omega
/-- what a search tells: the first in length, then in direction -/
theorem srch_end {w s f r : Int → Int} {c : Int} (hc : 0 ≤ c ∧ c < 80) (h1 : bnd s (-1) 1000) (h3 : bnd r 0 79) :
    (srchI w (srch0 s f r c) 80).1 = (rkI w (rk0 s r c) 80).1 ∧ ∃ dl : Int → Int, bfE c (srchI w (srch0 s f r c) 80) dl ∧ bfF w c (srchI w (srch0 s f r c) 80) dl ∧
    ∀ (d n : Nat) (q : Int), d < 4 → nbr c d ≠ -1 → w (nbr c d) < 3 → rch w n (nbr c d) q → (srchI w (srch0 s f r c) 80).1 q ≠ -1 ∧ ky (srchI w (srch0 s f r c) 80).1 dl q ≤ 4 * ((n : Int) + 1) + d := by
  obtain ⟨a1, a2⟩ := srch0_X (w := w) (f := f) hc h1 h3
  obtain ⟨b1, b2, k, dl, b3, b4, b5⟩ := srchI_pj a1 a2 80 (Nat.le_refl 80)
  have e0 : pj (srch0 s f r c) = rk0 s r c := rfl
  rw [e0] at b1
  have e1 : (srchI w (srch0 s f r c) 80).1 = (rkI w (rk0 s r c) 80).1 := (pj_1 _).symm.trans (by rw [b1])
  refine ⟨e1, dl, ?_⟩
  clear e0 e1 b1 a1 a2
  generalize srchI w (srch0 s f r c) 80 = y at b2 b3 b5
  obtain ⟨⟨k0, k1, k2⟩, hE, hD, hF, hG, hH, hI⟩ := b3
  have hm : y.2.2.2 ≤ 80 := b2.2.2.2.1
  have hk : k = y.2.2.2 := by omega
  refine ⟨hE, hF, ?_⟩
  have key : ∀ (n : Nat) (p q K : Int), 0 ≤ p ∧ p < 80 → y.1 p ≠ -1 → ky y.1 dl p ≤ K → rch w n p q → y.1 q ≠ -1 ∧ ky y.1 dl q ≤ K + 4 * n := by
    intro n
    induction n with
    | zero =>
      intro p q K hp h4 h5 h6
      have h6 : p = q := h6
      rw [← h6]
      exact ⟨h4, by omega⟩
    | succ n ih =>
      intro p q K hp h4 h5 h6
      obtain ⟨d, g1, g2, g3, g4⟩ := h6
      obtain ⟨i, i1, i2, i3⟩ := hD p hp.1 hp.2 h4
      have g5 := hI i d i1 i2 g1 (Or.inl (by omega)) (by rw [i3]; exact g2) (by rw [i3]; exact g3)
      rw [i3] at g5
      have g6 : ky y.1 dl (nbr p d) ≤ K + 4 := by
        have g7 := g5.2
        by_cases z : i = 0
        · rw [if_pos z] at g7
          have : ky y.1 dl p = 3 := by
            rw [← i3, z, hE.1]; unfold ky; rw [hE.2.1, hE.2.2.1]; omega
          omega
        · rw [if_neg z] at g7
          omega
      have := ih _ q (K + 4) (nbr_in hp g2) g5.1 g6 g4
      refine ⟨this.1, ?_⟩
      have := this.2
      omega
  intro d n q hd h4 h5 h6
  have g5 := hI 0 d (Int.le_refl 0) (by omega) hd (Or.inl (by omega)) (by rw [hE.1]; exact h4) (by rw [hE.1]; exact h5)
  rw [hE.1, if_pos rfl] at g5
  have := key n _ q _ (nbr_in hc h4) g5.1 g5.2 h6
  exact ⟨this.1, by have := this.2; omega⟩
/-! the steps of the model -/
theorem farD_s {w : Int → Int} {b p : Int} (hb : 0 ≤ b ∧ b < 80) (hp : 0 ≤ p ∧ p < 80) (h : farD w b p ≠ -1) : w b < 3 ∧ 0 ≤ farD w b p ∧ rch w (farD w b p).toNat b p := by
  have hn : bnd (fun _ => -1) (-1) 1000 := fun _ => (by decide : (-1 : Int) ≤ -1 ∧ (-1 : Int) ≤ 1000)
  have hr : bnd (fun _ => (0 : Int)) 0 79 := fun _ => (by decide : (0 : Int) ≤ 0 ∧ (0 : Int) ≤ 79)
  obtain ⟨e, dl, hE, hF, -⟩ := srch_end (w := w) (f := fun _ => 0) hb hn hr
  by_cases hw : b ≠ -1 ∧ w b < 3
  · have e2 : farD w b p = (srchI w (srch0 (fun _ => -1) (fun _ => 0) (fun _ => 0) b) 80).1 p := by
      unfold farD rkM
      rw [if_pos hw]
      generalize rkI w (rk0 (fun _ => -1) (fun _ => 0) b) 80 = u at e ⊢
      generalize srchI w (srch0 (fun _ => -1) (fun _ => 0) (fun _ => 0) b) 80 = v at e ⊢
      exact (congrFun e p).symm
    rw [e2] at h ⊢
    clear e e2
    generalize srchI w (srch0 (fun _ => -1) (fun _ => 0) (fun _ => 0) b) 80 = y at hE hF h
    refine ⟨hw.2, ?_⟩
    by_cases z : p = b
    · rw [z, hE.2.1]
      exact ⟨Int.le_refl 0, rfl⟩
    · obtain ⟨f1, f2, f3, f4, f5, f6⟩ := hF p hp.1 hp.2 z h
      refine ⟨by omega, ?_⟩
      rw [show (y.1 p).toNat = (y.1 p - 1).toNat + 1 by omega]
      refine ⟨(dl p).toNat, by omega, ?_⟩
      rw [show (((dl p).toNat : Nat) : Int) = dl p by omega]
      exact ⟨f4, f5, f6⟩
  · have e2 : farD w b p = itr noneB (fun _ => -1) 80 p := by
      unfold farD rkM
      rw [if_neg hw]
    rw [e2] at h
    exact absurd (none_in hp.1 hp.2) h
theorem farD_c {w : Int → Int} {b p : Int} (hb : 0 ≤ b ∧ b < 80) (hp : 0 ≤ p ∧ p < 80) (hw : w b < 3) {n : Nat} (h : rch w n b p) : farD w b p ≠ -1 ∧ farD w b p ≤ n := by
  have hn : bnd (fun _ => -1) (-1) 1000 := fun _ => (by decide : (-1 : Int) ≤ -1 ∧ (-1 : Int) ≤ 1000)
  have hr : bnd (fun _ => (0 : Int)) 0 79 := fun _ => (by decide : (0 : Int) ≤ 0 ∧ (0 : Int) ≤ 79)
  obtain ⟨e, dl, hE, hF, hC⟩ := srch_end (w := w) (f := fun _ => 0) hb hn hr
  have e2 : farD w b p = (srchI w (srch0 (fun _ => -1) (fun _ => 0) (fun _ => 0) b) 80).1 p := by
    unfold farD rkM
    rw [if_pos ⟨by omega, hw⟩]
    generalize rkI w (rk0 (fun _ => -1) (fun _ => 0) b) 80 = u at e ⊢
    generalize srchI w (srch0 (fun _ => -1) (fun _ => 0) (fun _ => 0) b) 80 = v at e ⊢
    exact (congrFun e p).symm
  rw [e2]
  clear e e2
  generalize srchI w (srch0 (fun _ => -1) (fun _ => 0) (fun _ => 0) b) 80 = y at hE hF hC
  by_cases z : p = b
  · rw [z, hE.2.1]
    exact ⟨by omega, by omega⟩
  · cases n with
    | zero => exact absurd (show b = p from h).symm z
    | succ n =>
      obtain ⟨d, g1, g2, g3, g4⟩ := h
      obtain ⟨g5, g6⟩ := hC d n p g1 g2 g3 g4
      have f2 := (hF p hp.1 hp.2 z g5).2.1
      unfold ky at g6
      exact ⟨g5, by omega⟩
theorem fir_min {f : Int → Int} {c : Int} : ∀ n : Nat, n ≤ 4 → ∀ d : Nat, d < n → nbr c d ≠ -1 → f (nbr c d) ≠ -1 → itr (firB f c) (-1) n ≠ -1 ∧ (f (nbr c (itr (firB f c) (-1) n)) < f (nbr c d) ∨ (f (nbr c (itr (firB f c) (-1) n)) = f (nbr c d) ∧ itr (firB f c) (-1) n ≤ d))
  | 0, _, d, hd, _, _ => absurd hd (Nat.not_lt_zero d)
  | n + 1, hn, d, hd, h1, h2 => by
    have ih := fir_min (f := f) (c := c) n (by omega) d
    have hb := fir_b (f := f) (c := c) n
    show firB f c n (itr (firB f c) (-1) n) ≠ -1 ∧ (f (nbr c (firB f c n (itr (firB f c) (-1) n))) < f (nbr c d) ∨ (f (nbr c (firB f c n (itr (firB f c) (-1) n))) = f (nbr c d) ∧ firB f c n (itr (firB f c) (-1) n) ≤ d))
    generalize itr (firB f c) (-1) n = z at ih hb
    unfold firB
    by_cases hc : (nbr c n ≠ -1 ∧ f (nbr c n) ≠ -1) ∧ (z = -1 ∨ f (nbr c n) < f (nbr c z))
    · rw [if_pos hc]
      refine ⟨by omega, ?_⟩
      by_cases e : d = n
      · rw [e]; exact Or.inr ⟨rfl, Int.le_refl _⟩
      · have := ih (by omega) h1 h2
        rcases hc.2 with h3 | h3
        · exact absurd h3 this.1
        · left; omega
    · rw [if_neg hc]
      by_cases e : d = n
      · rw [e] at h1 h2 ⊢
        have h4 : z ≠ -1 ∧ f (nbr c z) ≤ f (nbr c n) := by
          refine ⟨fun y => hc ⟨⟨h1, h2⟩, Or.inl y⟩, ?_⟩
          have : ¬ f (nbr c n) < f (nbr c z) := fun y => hc ⟨⟨h1, h2⟩, Or.inr y⟩
          omega
        exact ⟨h4.1, by omega⟩
      · exact ih (by omega) h1 h2
/-- the class's search tells the model's steps, and the first of them -/
theorem srch_dst {w v s f r : Int → Int} {c q : Int} (hwv : eqR w v 80) (hc : 0 ≤ c ∧ c < 80) (hq : 0 ≤ q ∧ q < 80) (h1 : bnd s (-1) 1000) (h3 : bnd r 0 79) :
    (srchI w (srch0 s f r c) 80).1 q = dst v c q ∧ (dst v c q ≠ -1 → (srchI w (srch0 s f r c) 80).2.1 q = dsC v c q) := by
  obtain ⟨-, dl, hE, hF, hC⟩ := srch_end (w := w) (f := f) hc h1 h3
  generalize srchI w (srch0 s f r c) 80 = y at hE hF hC
  have hvw : eqR v w 80 := fun z a b => (hwv z a b).symm
  unfold dst dsC
  by_cases e : c = q
  · rw [if_pos e, if_pos e, ← e]
    exact ⟨hE.2.1, fun _ => hE.2.2.2⟩
  · rw [if_neg e, if_neg e]
    -- the class's way, as the model has it
    have hs : y.1 q ≠ -1 → 1 ≤ y.1 q ∧ (0 ≤ dl q ∧ dl q < 4) ∧ y.2.1 q = nbr c (dl q) ∧ nbr c (dl q) ≠ -1 ∧ farD v q (nbr c (dl q)) ≠ -1 ∧ farD v q (nbr c (dl q)) ≤ y.1 q - 1 := by
      intro h
      obtain ⟨f1, f2, f3, f4, f5, f6⟩ := hF q hq.1 hq.2 (fun z => e z.symm) h
      have hr := nbr_in hc f4
      have f7 := rch_cong hwv _ _ _ hr f6
      have f8 : v (nbr c (dl q)) < 3 := by rw [← hwv _ hr.1 hr.2]; exact f5
      have f9 := rch_end _ _ _ hr f7 f8
      have f10 := farD_c (w := v) hq hr f9.1 (rch_rev _ _ _ hr f8 f7)
      exact ⟨f1, f2, f3, f4, f10.1, by have := f10.2; omega⟩
    have hb := firI_b (farD v q) c
    have hm := fir_min (f := farD v q) (c := c) 4 (Nat.le_refl 4)
    have hm : ∀ d : Nat, d < 4 → nbr c d ≠ -1 → farD v q (nbr c d) ≠ -1 → firI (farD v q) c ≠ -1 ∧ (farD v q (nbr c (firI (farD v q) c)) < farD v q (nbr c d) ∨ (farD v q (nbr c (firI (farD v q) c)) = farD v q (nbr c d) ∧ firI (farD v q) c ≤ d)) := hm
    generalize firI (farD v q) c = z at hb hm
    by_cases hz : z = -1
    · rw [if_pos hz]
      refine ⟨?_, fun y => absurd rfl y⟩
      by_cases h : y.1 q = -1
      · exact h
      · obtain ⟨f1, f2, f3, f4, f5, f6⟩ := hs h
        have := hm (dl q).toNat (by omega)
        rw [show (((dl q).toNat : Nat) : Int) = dl q by omega] at this
        exact absurd hz (this f4 f5).1
    · rw [if_neg hz]
      obtain ⟨z1, z2⟩ := hb.2.2 hz
      have hr := nbr_in hc z1
      obtain ⟨g1, g2, g3⟩ := farD_s hq hr z2
      have g4 := rch_end _ _ _ hq g3 g1
      have g5 := rch_cong hvw _ _ _ hr (rch_rev _ _ _ hq g1 g3)
      have g6 : w (nbr c z) < 3 := by rw [hwv _ hr.1 hr.2]; exact g4.1
      have g7 := hC z.toNat (farD v q (nbr c z)).toNat q (by omega)
      rw [show ((z.toNat : Nat) : Int) = z by omega, show (((farD v q (nbr c z)).toNat : Nat) : Int) = farD v q (nbr c z) by omega] at g7
      obtain ⟨g8, g9⟩ := g7 z1 g6 g5
      obtain ⟨f1, f2, f3, f4, f5, f6⟩ := hs g8
      have g10 := hm (dl q).toNat (by omega)
      rw [show (((dl q).toNat : Nat) : Int) = dl q by omega] at g10
      have g11 := (g10 f4 f5).2
      unfold ky at g9
      have e1 : y.1 q = farD v q (nbr c z) + 1 := by omega
      have e2 : dl q = z := by omega
      refine ⟨e1, fun _ => ?_⟩
      rw [f3, e2]
