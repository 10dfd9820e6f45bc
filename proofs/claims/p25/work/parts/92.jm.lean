/-! what is foreseen from a town, seen from the same town with other ways in hand -/
theorem fore_eq2 {T U H M S : gS} (i : inv T M S) (iU : inv U M S) (hH0 : okT H) (n : Nat) : (hoursI (copyS H T) n).2 5 = (hoursI U n).2 5 ∧ hsum (hoursI (copyS H T) n) 2 = hsum (hoursI U n) 2 ∧ wet ((hoursI (copyS H T) n).1 4) = wet ((hoursI U n).1 4) := by
  have hHU := inv_H iU
  have hHT := inv_H i
  obtain ⟨hU1, hUT, -, -, -, -, -⟩ := iU
  obtain ⟨hA, hT, hM, hS, hP, -, -⟩ := i
  have c := sim_copy (H := H) (K := S) hM hA
  rw [becS_self] at c
  have s1 := sim_hours hUT hHU hM hS hP hU1 n
  have s2 := sim_hours (okT_copy hH0 hT) (okH_copy hHT) hM hS hP c n
  have bM := (mhsI_b hM hS hP n).1
  have b1 := hoursI_b hUT hHU n
  have b2 := hoursI_b (okT_copy hH0 hT) (okH_copy (S := H) hHT) n
  have e1 := s1.1.2.2.1
  have e2 := s2.1.2.2.1
  refine ⟨?_, ?_, ?_⟩
  · rw [e1.2.1, e2.2.1]
  · rw [hsum_eq e1 bM, hsum_eq e2 bM]
  · rw [wet_eq s1.1.1.1.2.2.1 (okT_4 b1.1), wet_eq s2.1.1.1.2.2.1 (okT_4 b2.1)]
theorem okT_fore {T H : gS} {all t : Int} (h : jl all t T) (hH0 : okT H) (n : Nat) : okT (hoursI (copyS H T) n) := (hoursI_b (okT_copy hH0 h.2.1.1) (okH_copy (S := H) h.2.1.2.1) n).1
theorem okT_ring {T H : gS} {all t : Int} (h : jl all t T) (hH0 : okT H) (n : Nat) : okT (hWI (copyS H T) n) := (hWI_b (okT_copy hH0 h.2.1.1) n).1
/-- foreseen before the second checksum, passed behind it -/
theorem j_fore2 {T H : gS} {all t : Int} (h : jl all t T) (hH0 : okT H) (n : Nat) : cForV T (hoursI (copyS H T) n) 0 = nTell (hoursI (ce7 T (ceD T)).2 n) 4 ∧ cForV T (hoursI (copyS H T) n) 1 = (hoursI (ce7 T (ceD T)).2 n).2 5 - (ce7 T (ceD T)).2.2 5 ∧ cForV T (hoursI (copyS H T) n) 2 = nTell (hoursI (ce7 T (ceD T)).2 n) 6 := by
  obtain ⟨⟨M, S, i⟩, hp, -⟩ := h
  have q := dig_same i hp
  obtain ⟨q1, q2, q3⟩ := fore_eq2 i q.1 hH0 n
  refine ⟨q2, ?_, q3⟩
  show (hoursI (copyS H T) n).2 5 - T.2 5 = _
  rw [q1, q.2.2.2.1 5 (by decide)]
/-- the gauge's two answers, before and behind the second checksum -/
theorem j_ring {T H : gS} {all t : Int} (h : jl all t T) : (cgR (copyS H T) 1 = 0 ↔ gTell (ce7 T (ceD T)).2 1 4 = 1) ∧ (-1 ≤ cgR (copyS H T) 1 ∧ cgR (copyS H T) 1 ≤ 49) ∧ (0 ≤ gTell (ce7 T (ceD T)).2 1 4 ∧ gTell (ce7 T (ceD T)).2 1 4 ≤ 1) := by
  have q := (j_dig h).2.1
  have e : gTell (ce7 T (ceD T)).2 1 4 = gTell T 1 4 := by
    show bI ((ce7 T (ceD T)).2.1 15 1 ≤ (ce7 T (ceD T)).2.1 4 ((ce7 T (ceD T)).2.1 14 1)) = bI (T.1 15 1 ≤ T.1 4 (T.1 14 1))
    rw [q 15 (by decide), q 4 (by decide), q 14 (by decide)]
  have hb := fst_b (cgF (copyS H T) 1) 1 49
  refine ⟨?_, ?_, ?_⟩
  · rw [e]
    exact ring_now h.2.1.1 ⟨by decide, by rw [h.2.2.1.1]; decide⟩
  · unfold cgR
    omega
  · have := bI_01 ((ce7 T (ceD T)).2.1 15 1 ≤ (ce7 T (ceD T)).2.1 4 ((ce7 T (ceD T)).2.1 14 1))
    show 0 ≤ bI ((ce7 T (ceD T)).2.1 15 1 ≤ (ce7 T (ceD T)).2.1 4 ((ce7 T (ceD T)).2.1 14 1)) ∧ bI ((ce7 T (ceD T)).2.1 15 1 ≤ (ce7 T (ceD T)).2.1 4 ((ce7 T (ceD T)).2.1 14 1)) ≤ 1
    omega
theorem wet_n (w : Int → Int) : ∀ n : Nat, 0 ≤ itr (wetB w) 0 n ∧ itr (wetB w) 0 n ≤ n
  | 0 => by simp [itr]
  | n + 1 => by
    have h := wet_n w n
    have := bI_01 (0 < w (10 + (n : Int)))
    show 0 ≤ wetB w n (itr (wetB w) 0 n) ∧ wetB w n (itr (wetB w) 0 n) ≤ _
    generalize itr (wetB w) 0 n = z at h ⊢
    show 0 ≤ z + bI (0 < w (10 + (n : Int))) ∧ z + bI (0 < w (10 + (n : Int))) ≤ ((n + 1 : Nat) : Int)
    omega
theorem j_cnt {T : gS} {all t : Int} (h : jl all t T) : (0 ≤ nTell T 2 ∧ nTell T 2 ≤ 60) ∧ (0 ≤ nTell T 3 ∧ nTell T 3 ≤ 60) ∧ (0 ≤ nTell T 4 ∧ nTell T 4 ≤ 60) ∧ nTell T 5 = all - nTell T 2 - nTell T 3 - nTell T 4 ∧ (0 ≤ nTell T 6 ∧ nTell T 6 ≤ 70) ∧ T.2 5 = nTell T 5 := by
  obtain ⟨-, hp, h1, h2, h3, h4⟩ := h
  refine ⟨hsum_b hp.1, hsum_b hp.1, hsum_b hp.1, ?_, wet_n _ 70, rfl⟩
  rw [← h4]
  unfold tot
  show T.2 5 = hsum T 0 + hsum T 1 + hsum T 2 + T.2 5 - hsum T 0 - hsum T 1 - hsum T 2
  omega
