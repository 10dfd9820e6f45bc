/-! a town in the making -/
def bld (T : gS) : Prop := (∃ M S : gS, inv T M S) ∧ (∀ j : Int, T.1 19 j = 0 ∧ T.1 20 j = 0 ∧ T.1 24 j = 0) ∧ (∀ k : Int, 0 ≤ k → k < T.2 4 → 1 ≤ T.1 23 k) ∧ (∀ r : Int, 0 ≤ r → r < T.2 3 → 1 ≤ T.1 18 r) ∧ T.2 0 = 0 ∧ T.2 5 = 0
theorem bld_T {T : gS} (h : bld T) : okT T := by
  obtain ⟨⟨M, S, i⟩, -⟩ := h
  exact i.2.1
theorem b_ground {T : gS} {x y g : Int} (h : bld T) (hc : tC x y) (hg : 0 ≤ g ∧ g ≤ 9) : bld (setA T 2 (fset (T.1 2) (10 * y + x) g)) := by
  obtain ⟨⟨M, S, i⟩, h1⟩ := h
  exact ⟨⟨_, _, (o_setGround i hc hg).2⟩, h1⟩
theorem b_lay {T : gS} {x y v : Int} (h : bld T) (hc : tC x y) (hv : 0 ≤ v ∧ v ≤ 5) : bld (setA T 3 (fset (T.1 3) (10 * y + x) v)) := by
  obtain ⟨⟨M, S, i⟩, h1⟩ := h
  exact ⟨⟨_, _, (o_lay i hc).2 hv⟩, h1⟩
theorem b_river {T : gS} {k v : Int} (h : bld T) (hk : 0 ≤ k ∧ k ≤ 11) (hv : 0 ≤ v ∧ v ≤ 12) : bld (setA T 6 (fset (T.1 6) k v)) := by
  obtain ⟨⟨M, S, i⟩, h1⟩ := h
  exact ⟨⟨_, _, (o_setRiver i hk hv).2⟩, h1⟩
def pumpT (T : gS) (q p f : Int) : gS := if T.2 1 < 5 ∧ fstI (T.1 8) q (T.2 1).toNat = -1 then setUpS T q p f else T
theorem b_pump {T : gS} {x y p f : Int} (h : bld T) (hc : tC x y) (hp : (1 ≤ p ∧ p ≤ 5) ∧ 0 ≤ f ∧ f ≤ 30) : bld (pumpT T (10 * y + x) p f) := by
  unfold pumpT
  split
  · rename_i h9
    obtain ⟨⟨M, S, i⟩, h1⟩ := h
    exact ⟨⟨_, _, (o_addPump i hc).2 hp h9.1⟩, h1⟩
  · exact h
theorem pumpT_f (T : gS) (q p f : Int) : (∀ j : Nat, j ≠ 1 → (pumpT T q p f).2 j = T.2 j) ∧ ∀ j : Nat, 12 < j → (pumpT T q p f).1 j = T.1 j := by
  unfold pumpT
  split
  · refine ⟨fun j hj => if_neg hj, fun j hj => ?_⟩
    show (if j = 11 then _ else if j = 10 then _ else if j = 9 then _ else if j = 8 then _ else T.1 j) = T.1 j
    rw [if_neg (by omega), if_neg (by omega), if_neg (by omega), if_neg (by omega)]
  · exact ⟨fun _ _ => rfl, fun _ _ => rfl⟩
theorem b_gauge {T : gS} {x y mk : Int} (h : bld T) (hc : tC x y) (hm : 1 ≤ mk ∧ mk ≤ 20) (hn : T.2 2 < 4) : bld (hangS T (10 * y + x) mk) := by
  obtain ⟨⟨M, S, i⟩, h1⟩ := h
  exact ⟨⟨_, _, (o_addGauge i hc).2 hm hn⟩, h1⟩
theorem b_refuge {T : gS} {x y rm : Int} (h : bld T) (hc : tC x y) (hm : 1 ≤ rm ∧ rm ≤ 20) (hn : T.2 3 < 4) : bld (openS T (10 * y + x) rm) := by
  obtain ⟨⟨M, S, i⟩, h1, h2, h3, h4, h5⟩ := h
  refine ⟨⟨_, _, (o_addRefuge i hc).2 hm hn⟩, h1, h2, fun r a b => ?_, h4, h5⟩
  have b : r < T.2 3 + 1 := b
  show 1 ≤ fset (T.1 18) (T.2 3) rm r
  unfold fset
  split
  · omega
  · exact h3 r a (by omega)
theorem b_settle {T : gS} {x y n : Int} (h : bld T) (hc : tC x y) (hm : 1 ≤ n ∧ n ≤ 6) (hn : T.2 4 < 10) : bld (inS T (10 * y + x) n) := by
  obtain ⟨⟨M, S, i⟩, h1, h2, h3, h4, h5⟩ := h
  refine ⟨⟨_, _, (o_settle i hc).2 hm hn⟩, fun j => ⟨(h1 j).1, (h1 j).2.1, ?_⟩, fun k a b => ?_, h3, h4, h5⟩
  · show fset (T.1 24) (T.2 4) 0 j = 0
    unfold fset
    split
    · rfl
    · exact (h1 j).2.2
  · have b : k < T.2 4 + 1 := b
    show 1 ≤ fset (T.1 23) (T.2 4) n k
    unfold fset
    split
    · omega
    · exact h2 k a (by omega)
theorem b_caller {T : gS} {x y : Int} (h : bld T) (hc : tC x y) (hn : T.2 6 < 3) : bld (postS T (10 * y + x)) := by
  obtain ⟨⟨M, S, i⟩, h1⟩ := h
  exact ⟨⟨_, _, (o_addCaller i hc).2 hn⟩, h1⟩
/-- a second gauge or refuge, in another row of cells -/
theorem fst_far {f : Int → Int} {x y n a : Int} (hx : 0 ≤ x ∧ x < 10) (hn : n = 0 ∨ n = 1) (h : n = 1 → f 0 % 10 ≤ a) (ha : n = 1 → a < x) : fstI f (10 * y + x) n.toNat = -1 := by
  rcases hn with e | e
  · rw [e]
    rfl
  · rw [e]
    have h := h e
    have ha := ha e
    exact fst_no (k := 0) rfl (fun z => by
      have z : f 0 = 10 * y + x := z
      omega)
/-! a town that lives -/
def jl (all t : Int) (T : gS) : Prop := (∃ M S : gS, inv T M S) ∧ pjn T ∧ (T.2 2 = 2 ∧ T.2 3 = 2 ∧ T.2 4 = 5) ∧ (0 ≤ T.2 0 ∧ T.2 0 ≤ t) ∧ (∀ r : Int, 0 ≤ r → r < 2 → 1 ≤ T.1 18 r) ∧ tot T = all
theorem j_of {T : gS} (h : bld T) (hn : T.2 2 = 2 ∧ T.2 3 = 2 ∧ T.2 4 = 5) : jl (nTell T 2) 0 T := by
  obtain ⟨⟨M, S, i⟩, h1, h2, h3, h4, h5⟩ := h
  have s0 : ∀ st : Int, st ≠ 0 → hsum T st = 0 := fun st hst => by
    rw [hsum_sN]
    exact sN_0 _ (fun k _ => tod_f (by rw [(h1 (k : Int)).2.2]; omega))
  refine ⟨⟨M, S, i⟩, ⟨i.2.1, inv_H i, fun k a b => ⟨fun z => ?_, fun z => ?_⟩, fun r a b => ?_, ?_⟩, hn, by omega, fun r a b => h3 r a (by omega), ?_⟩
  · have := (h1 k).2.2; omega
  · have := (h1 k).2.2; omega
  · have := h1 r; have := h3 r a b; omega
  · show sm (T.1 19) 0 (T.2 3).toNat = hsum T 2
    rw [s0 2 (by decide), sm_sN]
    exact sN_0 _ (fun k _ => (h1 _).1)
  · unfold tot
    rw [s0 1 (by decide), s0 2 (by decide), h5]
    show hsum T 0 + 0 + 0 + 0 = hsum T 0
    omega
theorem j_ground {T : gS} {all t x y g : Int} (h : jl all t T) (hc : tC x y) (hg : 0 ≤ g ∧ g ≤ 9) : jl all t (setA T 2 (fset (T.1 2) (10 * y + x) g)) := by
  obtain ⟨⟨M, S, i⟩, hp, h1, h2, h3, h4⟩ := h
  have i2 := (o_setGround i hc hg).2
  have s := stp_of hp i2.2.1 rfl rfl rfl rfl rfl rfl rfl rfl
  exact ⟨⟨_, _, i2⟩, s.2.2.2.2.2, h1, h2, h3, s.2.2.2.2.1.trans h4⟩
theorem j_river {T : gS} {all t k v : Int} (h : jl all t T) (hk : 0 ≤ k ∧ k ≤ 11) (hv : 0 ≤ v ∧ v ≤ 12) : jl all t (setA T 6 (fset (T.1 6) k v)) := by
  obtain ⟨⟨M, S, i⟩, hp, h1, h2, h3, h4⟩ := h
  have i2 := (o_setRiver i hk hv).2
  have s := stp_of hp i2.2.1 rfl rfl rfl rfl rfl rfl rfl rfl
  exact ⟨⟨_, _, i2⟩, s.2.2.2.2.2, h1, h2, h3, s.2.2.2.2.1.trans h4⟩
theorem j_dig {T : gS} {all t : Int} (h : jl all t T) : jl all t (ce7 T (ceD T)).2 ∧ (∀ j : Nat, j < 29 → (ce7 T (ceD T)).2.1 j = T.1 j) ∧ (∀ j : Nat, j ≠ 7 → (ce7 T (ceD T)).2.2 j = T.2 j) ∧ ceP (ce7 T (ceD T)).2 (ceD (ce7 T (ceD T)).2) = ceP T (ceD T) := by
  obtain ⟨⟨M, S, i⟩, hp, h1, h2, h3, h4⟩ := h
  obtain ⟨q1, q2, q3, q4, q5, q6⟩ := dig_same i hp
  refine ⟨⟨⟨M, S, q1⟩, q2.2.2.2.2.2, ?_, ?_, ?_, q2.2.2.2.2.1.trans h4⟩, q5, q4, q6⟩
  · rw [q4 2 (by decide), q4 3 (by decide), q4 4 (by decide)]
    exact h1
  · rw [q4 0 (by decide)]
    exact h2
  · rw [q5 18 (by decide)]
    exact h3
theorem j_pass {T : gS} {all t : Int} {n : Nat} (h : jl all t T) : jl all (t + n) (hoursI T n) ∧ mono T (hoursI T n) := by
  obtain ⟨⟨M, S, i⟩, hp, h1, h2, h3, h4⟩ := h
  have s := stp_hours hp n
  have b := hoursI_b hp.1 hp.2.1 n
  refine ⟨⟨⟨_, _, (o_pass (n := n) i).2.1⟩, s.2.2.2.2.2, ?_, ?_, ?_, s.2.2.2.2.1.trans h4⟩, s.2.2.2.1⟩
  · rw [hoursI_i2, s.2.1, s.1]
    exact h1
  · rw [b.2.2]
    omega
  · rw [s.2.2.1]
    exact h3
theorem j_fore {T H : gS} {all t : Int} (h : jl all t T) (hH0 : okT H) (n : Nat) : okT (hoursI (copyS H T) n) ∧ cForV T (hoursI (copyS H T) n) 0 = nTell (hoursI T n) 4 ∧ cForV T (hoursI (copyS H T) n) 1 = (hoursI T n).2 5 - T.2 5 ∧ cForV T (hoursI (copyS H T) n) 2 = nTell (hoursI T n) 6 := by
  obtain ⟨⟨M, S, i⟩, hp, h1, h2, h3, h4⟩ := h
  obtain ⟨q1, q2, q3, q4⟩ := fore_eq i hH0 n
  refine ⟨q4, q2, ?_, q3⟩
  show (hoursI (copyS H T) n).2 5 - T.2 5 = _
  rw [q1]
/-! the people, counted by their states -/
def arB (T : gS) : Nat → (Int → Int) → (Int → Int) := fun k f => fset f (T.1 24 k) (f (T.1 24 k) + T.1 23 k)
def arI (T : gS) (n : Nat) : Int → Int := itr (arB T) (fun _ => 0) n
theorem ar_v (T : gS) (st : Int) : ∀ n : Nat, arI T n st = sN (fun k : Nat => tod (T.1 24 (k : Int) = st) (T.1 23 (k : Int)) 0) n
  | 0 => rfl
  | n + 1 => by
    have h := ar_v T st n
    rw [sN_s, ← h]
    show fset (arI T n) (T.1 24 n) (arI T n (T.1 24 n) + T.1 23 n) st = arI T n st + tod (T.1 24 (n : Int) = st) (T.1 23 (n : Int)) 0
    by_cases e : T.1 24 (n : Int) = st
    · rw [tod_t e, e, fset_same]
    · rw [tod_f e, fset_ne (fun z => e z.symm), Int.add_zero]
theorem ar_5 {T : gS} (h : T.2 4 = 5) (st : Int) : arI T 5 st = hsum T st := by
  rw [ar_v, hsum_sN, h]
  rfl
theorem j_end {T : gS} {all t : Int} (h : jl all t T) : arI T 5 0 = nTell T 2 ∧ arI T 5 1 = nTell T 3 ∧ arI T 5 2 = nTell T 4 ∧ T.1 19 0 + T.1 19 1 = arI T 5 2 ∧ all - arI T 5 0 - arI T 5 1 - arI T 5 2 = nTell T 5 := by
  obtain ⟨⟨M, S, i⟩, hp, h1, h2, h3, h4⟩ := h
  rw [ar_5 h1.2.2, ar_5 h1.2.2, ar_5 h1.2.2]
  refine ⟨rfl, rfl, rfl, ?_, ?_⟩
  · have e : sm (T.1 19) 0 (T.2 3).toNat = hsum T 2 := hp.2.2.2.2
    rw [← e, h1.2.1]
    show _ = 0 + T.1 19 (0 + 0) + T.1 19 (0 + 1)
    rw [Int.zero_add, Int.zero_add, Int.zero_add]
  · rw [← h4]
    unfold tot
    show _ = T.2 5
    omega
/-- what the law looks at in a household -/
theorem j_who {T : gS} {all t k : Int} (h : jl all t T) (hk : 0 ≤ k ∧ k < 5) : (0 ≤ T.1 24 k ∧ T.1 24 k ≤ 3) ∧ (0 ≤ T.1 23 k ∧ T.1 23 k ≤ 6) ∧ (T.1 24 k = 3 ↔ T.1 23 k = 0) := by
  obtain ⟨⟨M, S, i⟩, hp, h1, h2, h3, h4⟩ := h
  have a := okT_24 hp.1 k; have b := okT_23 hp.1 k
  have c := hp.2.1 k hk.1 (by omega)
  have d := hp.2.2.1 k hk.1 (by omega)
  refine ⟨a, b, fun z => d.2 z, fun z => ?_⟩
  by_cases e1 : T.1 24 k ≤ 1
  · have := c e1; omega
  · by_cases e2 : T.1 24 k = 2
    · have := d.1 e2; omega
    · omega
theorem j_ref {T : gS} {all t k : Int} (h : jl all t T) (hk : 0 ≤ k ∧ k < 2) : (1 ≤ T.1 18 k ∧ T.1 18 k ≤ 20) ∧ 0 ≤ T.1 20 k ∧ T.1 20 k ≤ T.1 19 k ∧ T.1 19 k ≤ T.1 18 k := by
  obtain ⟨⟨M, S, i⟩, hp, h1, h2, h3, h4⟩ := h
  have a := okT_18 hp.1 k; have b := okT_19 hp.1 k
  have c := hp.2.2.2.1 k hk.1 (by omega)
  have d := h3 k hk.1 hk.2
  omega
theorem j_cell {T : gS} {all t q : Int} (h : jl all t T) : (0 ≤ cellTell T q 2 ∧ cellTell T q 2 ≤ 40) ∧ cellTell T q 3 = cellTell T q 0 + cellTell T q 1 + cellTell T q 2 ∧ (0 ≤ cellTell T q 0 ∧ cellTell T q 0 ≤ 9) ∧ (0 ≤ cellTell T q 1 ∧ cellTell T q 1 ≤ 6) := by
  have hT := h.2.1.1
  exact ⟨okT_4 hT q, rfl, okT_2 hT q, okT_3 hT q⟩
