/-! a call of the class's and the model's, as one fact -/
abbrev wB (E : gE) (am sd ed : Nat → Nat) (M S K : gS) : va_W := wM E am (sd 0) (ed 0) M ++ (wS E sd S ++ wS E ed K)
def okA (T H M S K : gS) (n : Int) : Prop := inv T M S ∧ okT H ∧ okS K ∧ 0 ≤ T.2 0 ∧ T.2 0 ≤ n
def opR (l : Launch) (E : gE) (sa : gTx) (o oc : Nat) (ad bd am sd ed : Nat → Nat) (T H : gS) (f : Nat → Int64) (M S K : gS) (n : Int) (yW : MethodName) (cW : ByteArray) (nW : Nat) (hh : List (Nat × Nat × Nat × Nat)) (yM : MethodName) (cM : ByteArray) (nM : Nat) (rtM : FieldType) (rmM : Room) (As : List Value) (pb : Int → Prop) : Prop :=
  ∃ (t b : Int) (T2 H2 : gS) (f2 : Nat → Int64) (M2 S2 K2 : gS) (wb wb2 wr : va_W) (fs : List Value),
    gKW l E yW cW nW (some .int) hh rW (.ref o :: (As ++ [.ref oc])) (wC E o ad bd oc T H f) sa (some (.int (iI t))) (wC E o ad bd oc T2 H2 f2) ∧
    gK l E yM cM nM (some rtM) rmM (.ref (am 0) :: As) wb (some (.int (iI b))) wb2 ∧
    wB E am sd ed M S K = wb ++ wr ∧ wB E am sd ed M2 S2 K2 = wb2 ++ wr ∧ wb[0]? = some (am 0, .inr (10, fs)) ∧
    okA T2 H2 M2 S2 K2 (n + 36) ∧ M2.2 0 = t ∧ (0 ≤ t ∧ t ≤ 3) ∧ (t = 0 → f2 0 = lI b) ∧ pb b
section OPR
variable {l : Launch} {E : gE} {sa : gTx} {o oc : Nat} {ad bd am sd ed : Nat → Nat} {T H : gS} {f : Nat → Int64} {M S K : gS} {n : Int} {yW : MethodName} {cW : ByteArray} {nW : Nat} {hh : List (Nat × Nat × Nat × Nat)} {yM : MethodName} {cM : ByteArray} {nM : Nat} {rtM : FieldType} {rmM : Room} {As : List Value} {pb : Int → Prop}
theorem q_ref (i : okA T H M S K n) (t : Int) (ht : 1 ≤ t ∧ t ≤ 3) (hp : pb 0)
    (hW : gKW l E yW cW nW (some .int) hh rW (.ref o :: (As ++ [.ref oc])) (wC E o ad bd oc T H f) sa (some (.int (iI t))) (wC E o ad bd oc T H f))
    (hM : gK l E yM cM nM (some rtM) rmM (.ref (am 0) :: As) (wM E am (sd 0) (ed 0) M ++ wS E sd S) (some (.int (iI 0))) (wM E am (sd 0) (ed 0) (setI M 0 t) ++ wS E sd S)) : opR l E sa o oc ad bd am sd ed T H f M S K n yW cW nW hh yM cM nM rtM rmM As pb := by
  obtain ⟨i1, i2, i3, i4, i5⟩ := i
  exact ⟨t, 0, T, H, f, setI M 0 t, S, K, _, _, wS E ed K, _, hW, hM, (List.append_assoc _ _ _).symm, (List.append_assoc _ _ _).symm, rfl, ⟨inv_0 i1, i2, i3, i4, by omega⟩, rfl, ⟨by omega, ht.2⟩, fun z => by omega, hp⟩
theorem q_ref2 (i : okA T H M S K n) (t : Int) (ht : 1 ≤ t ∧ t ≤ 3) (hp : pb 0)
    (hW : gKW l E yW cW nW (some .int) hh rW (.ref o :: (As ++ [.ref oc])) (wC E o ad bd oc T H f) sa (some (.int (iI t))) (wC E o ad bd oc T H f))
    (hM : gK l E yM cM nM (some rtM) rmM (.ref (am 0) :: As) (wB E am sd ed M S K) (some (.int (iI 0))) (wB E am sd ed (setI M 0 t) S K)) : opR l E sa o oc ad bd am sd ed T H f M S K n yW cW nW hh yM cM nM rtM rmM As pb := by
  obtain ⟨i1, i2, i3, i4, i5⟩ := i
  exact ⟨t, 0, T, H, f, setI M 0 t, S, K, _, _, [], _, hW, hM, (List.append_nil _).symm, (List.append_nil _).symm, rfl, ⟨inv_0 i1, i2, i3, i4, by omega⟩, rfl, ⟨by omega, ht.2⟩, fun z => by omega, hp⟩
theorem q_fair {T2 H2 M2 S2 : gS} {a b : Int} (hab : a = b) (hp : pb b) (h0 : M2.2 0 = 0) (i : okA T2 H2 M2 S2 K (n + 36))
    (hW : gKW l E yW cW nW (some .int) hh rW (.ref o :: (As ++ [.ref oc])) (wC E o ad bd oc T H f) sa (some (.int (iI 0))) (wC E o ad bd oc T2 H2 (vp_updL f 0 (lI a))))
    (hM : gK l E yM cM nM (some rtM) rmM (.ref (am 0) :: As) (wM E am (sd 0) (ed 0) M ++ wS E sd S) (some (.int (iI b))) (wM E am (sd 0) (ed 0) M2 ++ wS E sd S2)) : opR l E sa o oc ad bd am sd ed T H f M S K n yW cW nW hh yM cM nM rtM rmM As pb :=
  ⟨0, b, T2, H2, _, M2, S2, K, _, _, wS E ed K, _, hW, hM, (List.append_assoc _ _ _).symm, (List.append_assoc _ _ _).symm, rfl, i, h0, ⟨Int.le_refl 0, by omega⟩, fun _ => by rw [hab]; exact if_pos rfl, hp⟩
theorem q_fair2 {T2 H2 M2 S2 K2 : gS} {a b : Int} (hab : a = b) (hp : pb b) (h0 : M2.2 0 = 0) (i : okA T2 H2 M2 S2 K2 (n + 36))
    (hW : gKW l E yW cW nW (some .int) hh rW (.ref o :: (As ++ [.ref oc])) (wC E o ad bd oc T H f) sa (some (.int (iI 0))) (wC E o ad bd oc T2 H2 (vp_updL f 0 (lI a))))
    (hM : gK l E yM cM nM (some rtM) rmM (.ref (am 0) :: As) (wB E am sd ed M S K) (some (.int (iI b))) (wB E am sd ed M2 S2 K2)) : opR l E sa o oc ad bd am sd ed T H f M S K n yW cW nW hh yM cM nM rtM rmM As pb :=
  ⟨0, b, T2, H2, _, M2, S2, K2, _, _, [], _, hW, hM, (List.append_nil _).symm, (List.append_nil _).symm, rfl, i, h0, ⟨Int.le_refl 0, by omega⟩, fun _ => by rw [hab]; exact if_pos rfl, hp⟩
end OPR
theorem o_house {T M S : gS} {a w : Int} (i : inv T M S) (ha : 0 ≤ a ∧ a < M.2 4) (hw : 0 ≤ w ∧ w ≤ 4) : hTell T a w = mHtl (setI M 0 0) S a w ∧ inv (hTellS T a w) (mHtlM (setI M 0 0) S a w) S ∧ (mHtlM (setI M 0 0) S a w).2 0 = 0 ∧ (hTellS T a w).2 0 = T.2 0 := by
  have i0 := inv_0 (t := 0) i
  obtain ⟨h, t, m, s, p, b, z⟩ := i0
  have e := okM_htl (h := a) (what := w) m s
  have e27 : (hTellS T a w).1 27 = T.1 27 := by
    unfold hTellS wayS
    repeat' split
    all_goals rfl
  refine ⟨htl_eq t m s h.1 ha hw, ⟨sim_hTell m s h, okT_hTell t, e.1, s, ?_, b, fun k a9 b9 => ?_⟩, ?_, ?_⟩
  · rw [e.2]; exact p
  · rw [e.2] at a9; rw [e27]; exact z k a9 b9
  · rw [e.2]; rfl
  · exact hTellS_i (by decide)
theorem q_setGround (l : Launch) (E : gE) (sa : gTx) (hfl : l.stackTraces = false) (o oc : Nat) (ad bd am sd ed : Nat → Nat) (T H : gS) (f : Nat → Int64) (M S K : gS) (n9 : Int) (hn9 : n9 ≤ 1000000) (x : Int) (y : Int) (g : Int) (h_x : (-2147483648 ≤ x ∧ x ≤ 2147483647)) (h_y : (-2147483648 ≤ y ∧ y ≤ 2147483647)) (h_g : (-2147483648 ≤ g ∧ g ≤ 2147483647)) (i : okA T H M S K n9) : opR l E sa o oc ad bd am sd ed T H f M S K n9 yL_setGround cL_setGround 6 [(0, 12, 15, 13), (0, 12, 19, 15)] yX11_setGround cX11_setGround 5 .int r_X11_setGround [.int (iI x), .int (iI y), .int (iI g)] (fun _ => True) := by
  obtain ⟨i1, i2, i3, i4, i5⟩ := id i
  have k := k_X11_setGround l E am (ed 0) M sd S x y g i1.2.2.1 i1.2.2.2.1  h_x h_y h_g
  by_cases hc : tC x y
  · by_cases h : 0 ≤ g ∧ g ≤ 9
    · have e : tSG x y g = 0 := by unfold tSG; rw [if_pos hc, if_pos h]
      rw [e, if_pos rfl, if_pos rfl] at k
      obtain ⟨e1, i9⟩ := o_setGround i1 hc h
      exact q_fair e1 trivial rfl ⟨i9, i2, i3, i4, by show T.2 0 ≤ n9 + 36; omega⟩ (w_setGround_0 l E sa hfl o oc ad bd T H f x y g i1.2.1 h_x h_y h_g hc h) k
    · have e : tSG x y g = 2 := by unfold tSG; rw [if_pos hc, if_neg h]
      rw [e, if_neg (by decide), if_neg (by decide)] at k
      exact q_ref i 2 (by omega) trivial (w_setGround_a l E sa hfl o oc ad bd T H f x y g i1.2.1 h_x h_y h_g hc h) k
  · have e : tSG x y g = 1 := by unfold tSG; rw [if_neg hc]
    rw [e, if_neg (by decide), if_neg (by decide)] at k
    exact q_ref i 1 (by omega) trivial (w_setGround_i l E sa hfl o oc ad bd T H f x y g i1.2.1 h_x h_y h_g hc) k
theorem q_lay (l : Launch) (E : gE) (sa : gTx) (hfl : l.stackTraces = false) (o oc : Nat) (ad bd am sd ed : Nat → Nat) (T H : gS) (f : Nat → Int64) (M S K : gS) (n9 : Int) (hn9 : n9 ≤ 1000000) (x : Int) (y : Int) (b : Int) (h_x : (-2147483648 ≤ x ∧ x ≤ 2147483647)) (h_y : (-2147483648 ≤ y ∧ y ≤ 2147483647)) (h_b : (-2147483648 ≤ b ∧ b ≤ 2147483647)) (i : okA T H M S K n9) : opR l E sa o oc ad bd am sd ed T H f M S K n9 yL_lay cL_lay 6 [(0, 12, 15, 13), (0, 12, 19, 15), (0, 12, 23, 20)] yX11_lay cX11_lay 6 .int r_X11_lay [.int (iI x), .int (iI y), .int (iI b)] (fun _ => True) := by
  obtain ⟨i1, i2, i3, i4, i5⟩ := id i
  have k := k_X11_lay l E am (ed 0) M sd S x y b i1.2.2.1 i1.2.2.2.1  h_x h_y h_b
  by_cases hc : tC x y
  · by_cases h : 0 ≤ b ∧ b ≤ 5
    · obtain ⟨e1, e2⟩ := o_lay (v := b) i1 hc
      by_cases h2 : sm (T.1 3) 0 80 - T.1 3 (10 * y + x) + b ≤ 40
      · have i9 := e2 h
        have e : tLY S x y b = 0 := by unfold tLY; rw [if_pos hc, if_pos h, if_pos (by rw [← e1]; exact h2)]
        rw [e, if_pos rfl, if_pos rfl] at k
        exact q_fair e1 trivial rfl ⟨i9, i2, i3, i4, by show T.2 0 ≤ n9 + 36; omega⟩ (w_lay_0 l E sa hfl o oc ad bd T H f x y b i1.2.1 h_x h_y h_b hc h h2) k
      · have e : tLY S x y b = 3 := by unfold tLY; rw [if_pos hc, if_pos h, if_neg (by rw [← e1]; exact h2)]
        rw [e, if_neg (by decide), if_neg (by decide)] at k
        exact q_ref i 3 (by omega) trivial (w_lay_s l E sa hfl o oc ad bd T H f x y b i1.2.1 h_x h_y h_b hc h h2) k
    · have e : tLY S x y b = 2 := by unfold tLY; rw [if_pos hc, if_neg h]
      rw [e, if_neg (by decide), if_neg (by decide)] at k
      exact q_ref i 2 (by omega) trivial (w_lay_a l E sa hfl o oc ad bd T H f x y b i1.2.1 h_x h_y h_b hc h) k
  · have e : tLY S x y b = 1 := by unfold tLY; rw [if_neg hc]
    rw [e, if_neg (by decide), if_neg (by decide)] at k
    exact q_ref i 1 (by omega) trivial (w_lay_i l E sa hfl o oc ad bd T H f x y b i1.2.1 h_x h_y h_b hc) k
theorem q_setRiver (l : Launch) (E : gE) (sa : gTx) (hfl : l.stackTraces = false) (o oc : Nat) (ad bd am sd ed : Nat → Nat) (T H : gS) (f : Nat → Int64) (M S K : gS) (n9 : Int) (hn9 : n9 ≤ 1000000) (k : Int) (v : Int) (h_k : (-2147483648 ≤ k ∧ k ≤ 2147483647)) (h_v : (-2147483648 ≤ v ∧ v ≤ 2147483647)) (i : okA T H M S K n9) : opR l E sa o oc ad bd am sd ed T H f M S K n9 yL_setRiver cL_setRiver 5 [(0, 10, 13, 13), (0, 10, 17, 15)] yX11_setRiver cX11_setRiver 4 .int r_X11_setRiver [.int (iI k), .int (iI v)] (fun _ => True) := by
  obtain ⟨i1, i2, i3, i4, i5⟩ := id i
  have k0 := k_X11_setRiver l E am (ed 0) M sd S k v i1.2.2.1 i1.2.2.2.1  h_k h_v
  by_cases h : 0 ≤ k ∧ k ≤ 11
  · by_cases h2 : 0 ≤ v ∧ v ≤ 12
    · obtain ⟨e1, i9⟩ := o_setRiver i1 h h2
      have e : tSR k v = 0 := by unfold tSR; rw [if_pos h, if_pos h2]
      rw [e, if_pos rfl, if_pos rfl] at k0
      exact q_fair e1 trivial rfl ⟨i9, i2, i3, i4, by show T.2 0 ≤ n9 + 36; omega⟩ (w_setRiver_0 l E sa hfl o oc ad bd T H f k v i1.2.1 h_k h_v h h2) k0
    · have e : tSR k v = 2 := by unfold tSR; rw [if_pos h, if_neg h2]
      rw [e, if_neg (by decide), if_neg (by decide)] at k0
      exact q_ref i 2 (by omega) trivial (w_setRiver_a l E sa hfl o oc ad bd T H f k v i1.2.1 h_k h_v h h2) k0
  · have e : tSR k v = 1 := by unfold tSR; rw [if_neg h]
    rw [e, if_neg (by decide), if_neg (by decide)] at k0
    exact q_ref i 1 (by omega) trivial (w_setRiver_i l E sa hfl o oc ad bd T H f k v i1.2.1 h_k h_v h) k0
theorem q_addPump (l : Launch) (E : gE) (sa : gTx) (hfl : l.stackTraces = false) (o oc : Nat) (ad bd am sd ed : Nat → Nat) (T H : gS) (f : Nat → Int64) (M S K : gS) (n9 : Int) (hn9 : n9 ≤ 1000000) (x : Int) (y : Int) (p : Int) (f9 : Int) (h_x : (-2147483648 ≤ x ∧ x ≤ 2147483647)) (h_y : (-2147483648 ≤ y ∧ y ≤ 2147483647)) (h_p : (-2147483648 ≤ p ∧ p ≤ 2147483647)) (h_f9 : (-2147483648 ≤ f9 ∧ f9 ≤ 2147483647)) (i : okA T H M S K n9) : opR l E sa o oc ad bd am sd ed T H f M S K n9 yL_addPump cL_addPump 7 [(0, 14, 17, 13), (0, 14, 21, 15), (0, 14, 25, 20)] yX11_addPump cX11_addPump 6 .int r_X11_addPump [.int (iI x), .int (iI y), .int (iI p), .int (iI f9)] (fun _ => True) := by
  obtain ⟨i1, i2, i3, i4, i5⟩ := id i
  have nn := okM_i1 i1.2.2.1
  have k := k_X11_addPump l E am (ed 0) M sd S x y p f9 i1.2.2.1 i1.2.2.2.1  h_x h_y h_p h_f9
  by_cases hc : tC x y
  · by_cases h : (1 ≤ p ∧ p ≤ 5) ∧ 0 ≤ f9 ∧ f9 ≤ 30
    · obtain ⟨⟨e1, e2⟩, e3⟩ := o_addPump (pw := p) (fu := f9) i1 hc
      by_cases h2 : T.2 1 < 5 ∧ fstI (T.1 8) (10 * y + x) (T.2 1).toNat = -1
      · have i9 := e3 h h2.1
        have e : tAP M S x y p f9 = 0 := by unfold tAP; rw [if_pos hc, if_pos h, if_neg (by rw [← e2]; omega)]
        rw [e, if_pos rfl, if_pos rfl, if_pos rfl] at k
        exact q_fair (by omega) trivial rfl ⟨i9, i2, i3, i4, by show T.2 0 ≤ n9 + 36; omega⟩ (w_addPump_0 l E sa hfl o oc ad bd T H f x y p f9 i1.2.1 h_x h_y h_p h_f9 hc h h2) k
      · have e : tAP M S x y p f9 = 3 := by unfold tAP; rw [if_pos hc, if_pos h, if_pos (by rw [← e2]; omega)]
        rw [e, if_neg (by decide), if_neg (by decide), if_neg (by decide)] at k
        exact q_ref i 3 (by omega) trivial (w_addPump_s l E sa hfl o oc ad bd T H f x y p f9 i1.2.1 h_x h_y h_p h_f9 hc h h2) k
    · have e : tAP M S x y p f9 = 2 := by unfold tAP; rw [if_pos hc, if_neg h]
      rw [e, if_neg (by decide), if_neg (by decide), if_neg (by decide)] at k
      exact q_ref i 2 (by omega) trivial (w_addPump_a l E sa hfl o oc ad bd T H f x y p f9 i1.2.1 h_x h_y h_p h_f9 hc h) k
  · have e : tAP M S x y p f9 = 1 := by unfold tAP; rw [if_neg hc]
    rw [e, if_neg (by decide), if_neg (by decide), if_neg (by decide)] at k
    exact q_ref i 1 (by omega) trivial (w_addPump_i l E sa hfl o oc ad bd T H f x y p f9 i1.2.1 h_x h_y h_p h_f9 hc) k
theorem q_addGauge (l : Launch) (E : gE) (sa : gTx) (hfl : l.stackTraces = false) (o oc : Nat) (ad bd am sd ed : Nat → Nat) (T H : gS) (f : Nat → Int64) (M S K : gS) (n9 : Int) (hn9 : n9 ≤ 1000000) (x : Int) (y : Int) (mk : Int) (h_x : (-2147483648 ≤ x ∧ x ≤ 2147483647)) (h_y : (-2147483648 ≤ y ∧ y ≤ 2147483647)) (h_mk : (-2147483648 ≤ mk ∧ mk ≤ 2147483647)) (i : okA T H M S K n9) : opR l E sa o oc ad bd am sd ed T H f M S K n9 yL_addGauge cL_addGauge 6 [(0, 12, 15, 13), (0, 12, 19, 15), (0, 12, 23, 20)] yX11_addGauge cX11_addGauge 5 .int r_X11_addGauge [.int (iI x), .int (iI y), .int (iI mk)] (fun _ => True) := by
  obtain ⟨i1, i2, i3, i4, i5⟩ := id i
  have nn := okM_i2 i1.2.2.1
  have k := k_X11_addGauge l E am (ed 0) M sd S x y mk i1.2.2.1 i1.2.2.2.1  h_x h_y h_mk
  by_cases hc : tC x y
  · by_cases h : 1 ≤ mk ∧ mk ≤ 20
    · obtain ⟨⟨e1, e2⟩, e3⟩ := o_addGauge (mk := mk) i1 hc
      by_cases h2 : T.2 2 < 4 ∧ fstI (T.1 14) (10 * y + x) (T.2 2).toNat = -1
      · have i9 := e3 h h2.1
        have e : tAG M S x y mk = 0 := by unfold tAG; rw [if_pos hc, if_pos h, if_neg (by rw [← e2]; omega)]
        rw [e, if_pos rfl, if_pos rfl, if_pos rfl] at k
        exact q_fair (by omega) trivial rfl ⟨i9, i2, i3, i4, by show T.2 0 ≤ n9 + 36; omega⟩ (w_addGauge_0 l E sa hfl o oc ad bd T H f x y mk i1.2.1 h_x h_y h_mk hc h h2) k
      · have e : tAG M S x y mk = 3 := by unfold tAG; rw [if_pos hc, if_pos h, if_pos (by rw [← e2]; omega)]
        rw [e, if_neg (by decide), if_neg (by decide), if_neg (by decide)] at k
        exact q_ref i 3 (by omega) trivial (w_addGauge_s l E sa hfl o oc ad bd T H f x y mk i1.2.1 h_x h_y h_mk hc h h2) k
    · have e : tAG M S x y mk = 2 := by unfold tAG; rw [if_pos hc, if_neg h]
      rw [e, if_neg (by decide), if_neg (by decide), if_neg (by decide)] at k
      exact q_ref i 2 (by omega) trivial (w_addGauge_a l E sa hfl o oc ad bd T H f x y mk i1.2.1 h_x h_y h_mk hc h) k
  · have e : tAG M S x y mk = 1 := by unfold tAG; rw [if_neg hc]
    rw [e, if_neg (by decide), if_neg (by decide), if_neg (by decide)] at k
    exact q_ref i 1 (by omega) trivial (w_addGauge_i l E sa hfl o oc ad bd T H f x y mk i1.2.1 h_x h_y h_mk hc) k
theorem q_addRefuge (l : Launch) (E : gE) (sa : gTx) (hfl : l.stackTraces = false) (o oc : Nat) (ad bd am sd ed : Nat → Nat) (T H : gS) (f : Nat → Int64) (M S K : gS) (n9 : Int) (hn9 : n9 ≤ 1000000) (x : Int) (y : Int) (rm : Int) (h_x : (-2147483648 ≤ x ∧ x ≤ 2147483647)) (h_y : (-2147483648 ≤ y ∧ y ≤ 2147483647)) (h_rm : (-2147483648 ≤ rm ∧ rm ≤ 2147483647)) (i : okA T H M S K n9) : opR l E sa o oc ad bd am sd ed T H f M S K n9 yL_addRefuge cL_addRefuge 6 [(0, 12, 15, 13), (0, 12, 19, 15), (0, 12, 23, 20)] yX11_addRefuge cX11_addRefuge 5 .int r_X11_addRefuge [.int (iI x), .int (iI y), .int (iI rm)] (fun _ => True) := by
  obtain ⟨i1, i2, i3, i4, i5⟩ := id i
  have nn := okM_i3 i1.2.2.1
  have k := k_X11_addRefuge l E am (ed 0) M sd S x y rm i1.2.2.1 i1.2.2.2.1  h_x h_y h_rm
  by_cases hc : tC x y
  · by_cases h : 1 ≤ rm ∧ rm ≤ 20
    · obtain ⟨⟨e1, e2⟩, e3⟩ := o_addRefuge (rm := rm) i1 hc
      by_cases h2 : T.2 3 < 4 ∧ fstI (T.1 17) (10 * y + x) (T.2 3).toNat = -1
      · have i9 := e3 h h2.1
        have e : tAR M S x y rm = 0 := by unfold tAR; rw [if_pos hc, if_pos h, if_neg (by rw [← e2]; omega)]
        rw [e, if_pos rfl, if_pos rfl, if_pos rfl] at k
        exact q_fair (by omega) trivial rfl ⟨i9, i2, i3, i4, by show T.2 0 ≤ n9 + 36; omega⟩ (w_addRefuge_0 l E sa hfl o oc ad bd T H f x y rm i1.2.1 h_x h_y h_rm hc h h2) k
      · have e : tAR M S x y rm = 3 := by unfold tAR; rw [if_pos hc, if_pos h, if_pos (by rw [← e2]; omega)]
        rw [e, if_neg (by decide), if_neg (by decide), if_neg (by decide)] at k
        exact q_ref i 3 (by omega) trivial (w_addRefuge_s l E sa hfl o oc ad bd T H f x y rm i1.2.1 h_x h_y h_rm hc h h2) k
    · have e : tAR M S x y rm = 2 := by unfold tAR; rw [if_pos hc, if_neg h]
      rw [e, if_neg (by decide), if_neg (by decide), if_neg (by decide)] at k
      exact q_ref i 2 (by omega) trivial (w_addRefuge_a l E sa hfl o oc ad bd T H f x y rm i1.2.1 h_x h_y h_rm hc h) k
  · have e : tAR M S x y rm = 1 := by unfold tAR; rw [if_neg hc]
    rw [e, if_neg (by decide), if_neg (by decide), if_neg (by decide)] at k
    exact q_ref i 1 (by omega) trivial (w_addRefuge_i l E sa hfl o oc ad bd T H f x y rm i1.2.1 h_x h_y h_rm hc) k
theorem q_run (l : Launch) (E : gE) (sa : gTx) (hfl : l.stackTraces = false) (o oc : Nat) (ad bd am sd ed : Nat → Nat) (T H : gS) (f : Nat → Int64) (M S K : gS) (n9 : Int) (hn9 : n9 ≤ 1000000) (p : Int) (h_p : (-2147483648 ≤ p ∧ p ≤ 2147483647)) (i : okA T H M S K n9) : opR l E sa o oc ad bd am sd ed T H f M S K n9 yL_run cL_run 4 [(0, 16, 19, 13)] yX11_run cX11_run 2 .boolean r_X11_run [.int (iI p)] (fun b => b = 0 ∨ b = 1) := by
  obtain ⟨i1, i2, i3, i4, i5⟩ := id i
  have k := k_X11_run l E am (ed 0) M sd S p i1.2.2.1 i1.2.2.2.1  h_p
  have e0 := i1.1.1.1.2.1.1
  by_cases h : 0 ≤ p ∧ p < T.2 1
  · obtain ⟨e1, i9⟩ := o_run (k := p) i1 ⟨h.1, by omega⟩
    have e : tRN M p = 0 := by unfold tRN; rw [if_pos ⟨h.1, by omega⟩]
    rw [e, if_pos rfl, if_pos rfl] at k
    exact q_fair e1 (bI_01 _) rfl ⟨i9, i2, i3, i4, by show T.2 0 ≤ n9 + 36; omega⟩ (w_run_0 l E sa hfl o oc ad bd T H f p i1.2.1 h_p h) k
  · have e : tRN M p = 1 := by unfold tRN; rw [if_neg (by omega)]
    rw [e, if_neg (by decide), if_neg (by decide)] at k
    exact q_ref i 1 (by omega) (Or.inl rfl) (w_run_i l E sa hfl o oc ad bd T H f p i1.2.1 h_p h) k
theorem q_settle (l : Launch) (E : gE) (sa : gTx) (hfl : l.stackTraces = false) (o oc : Nat) (ad bd am sd ed : Nat → Nat) (T H : gS) (f : Nat → Int64) (M S K : gS) (n9 : Int) (hn9 : n9 ≤ 1000000) (x : Int) (y : Int) (n : Int) (h_x : (-2147483648 ≤ x ∧ x ≤ 2147483647)) (h_y : (-2147483648 ≤ y ∧ y ≤ 2147483647)) (h_n : (-2147483648 ≤ n ∧ n ≤ 2147483647)) (i : okA T H M S K n9) : opR l E sa o oc ad bd am sd ed T H f M S K n9 yL_settle cL_settle 6 [(0, 12, 15, 13), (0, 12, 19, 15), (0, 12, 23, 20)] yX11_settle cX11_settle 5 .int r_X11_settle [.int (iI x), .int (iI y), .int (iI n)] (fun _ => True) := by
  obtain ⟨i1, i2, i3, i4, i5⟩ := id i
  have k := k_X11_settle l E am (ed 0) M sd S x y n i1.2.2.1 i1.2.2.2.1  h_x h_y h_n
  have nn := okM_i4 i1.2.2.1
  by_cases hc : tC x y
  · by_cases h : 1 ≤ n ∧ n ≤ 6
    · obtain ⟨e1, e3⟩ := o_settle (n := n) i1 hc
      by_cases h2 : T.2 4 < 10
      · have i9 := e3 h h2
        have e : tSE M x y n = 0 := by unfold tSE; rw [if_pos hc, if_pos h, if_neg (by omega)]
        rw [e, if_pos rfl, if_pos rfl, if_pos rfl] at k
        exact q_fair (by omega) trivial rfl ⟨i9, i2, i3, i4, by show T.2 0 ≤ n9 + 36; omega⟩ (w_settle_0 l E sa hfl o oc ad bd T H f x y n i1.2.1 h_x h_y h_n hc h h2) k
      · have e : tSE M x y n = 3 := by unfold tSE; rw [if_pos hc, if_pos h, if_pos (by omega)]
        rw [e, if_neg (by decide), if_neg (by decide), if_neg (by decide)] at k
        exact q_ref i 3 (by omega) trivial (w_settle_s l E sa hfl o oc ad bd T H f x y n i1.2.1 h_x h_y h_n hc h h2) k
    · have e : tSE M x y n = 2 := by unfold tSE; rw [if_pos hc, if_neg h]
      rw [e, if_neg (by decide), if_neg (by decide), if_neg (by decide)] at k
      exact q_ref i 2 (by omega) trivial (w_settle_a l E sa hfl o oc ad bd T H f x y n i1.2.1 h_x h_y h_n hc h) k
  · have e : tSE M x y n = 1 := by unfold tSE; rw [if_neg hc]
    rw [e, if_neg (by decide), if_neg (by decide), if_neg (by decide)] at k
    exact q_ref i 1 (by omega) trivial (w_settle_i l E sa hfl o oc ad bd T H f x y n i1.2.1 h_x h_y h_n hc) k
theorem q_addCaller (l : Launch) (E : gE) (sa : gTx) (hfl : l.stackTraces = false) (o oc : Nat) (ad bd am sd ed : Nat → Nat) (T H : gS) (f : Nat → Int64) (M S K : gS) (n9 : Int) (hn9 : n9 ≤ 1000000) (x : Int) (y : Int) (h_x : (-2147483648 ≤ x ∧ x ≤ 2147483647)) (h_y : (-2147483648 ≤ y ∧ y ≤ 2147483647)) (i : okA T H M S K n9) : opR l E sa o oc ad bd am sd ed T H f M S K n9 yL_addCaller cL_addCaller 5 [(0, 10, 13, 13), (0, 10, 17, 20)] yX11_addCaller cX11_addCaller 3 .int r_X11_addCaller [.int (iI x), .int (iI y)] (fun _ => True) := by
  obtain ⟨i1, i2, i3, i4, i5⟩ := id i
  have k := k_X11_addCaller l E am (ed 0) M sd S x y i1.2.2.1 i1.2.2.2.1  h_x h_y
  have nn := okM_i5 i1.2.2.1
  by_cases hc : tC x y
  · obtain ⟨e1, e3⟩ := o_addCaller i1 hc
    by_cases h2 : T.2 6 < 3
    · have i9 := e3 h2
      have e : tAC M x y = 0 := by unfold tAC; rw [if_pos hc, if_neg (by omega)]
      rw [e, if_pos rfl, if_pos rfl, if_pos rfl] at k
      exact q_fair (by omega) trivial rfl ⟨i9, i2, i3, i4, by show T.2 0 ≤ n9 + 36; omega⟩ (w_addCaller_0 l E sa hfl o oc ad bd T H f x y i1.2.1 h_x h_y hc h2) k
    · have e : tAC M x y = 2 := by unfold tAC; rw [if_pos hc, if_pos (by omega)]
      rw [e, if_neg (by decide), if_neg (by decide), if_neg (by decide)] at k
      exact q_ref i 2 (by omega) trivial (w_addCaller_s l E sa hfl o oc ad bd T H f x y i1.2.1 h_x h_y hc h2) k
  · have e : tAC M x y = 1 := by unfold tAC; rw [if_neg hc]
    rw [e, if_neg (by decide), if_neg (by decide), if_neg (by decide)] at k
    exact q_ref i 1 (by omega) trivial (w_addCaller_i l E sa hfl o oc ad bd T H f x y i1.2.1 h_x h_y hc) k
theorem q_cell (l : Launch) (E : gE) (sa : gTx) (hfl : l.stackTraces = false) (o oc : Nat) (ad bd am sd ed : Nat → Nat) (T H : gS) (f : Nat → Int64) (M S K : gS) (n9 : Int) (hn9 : n9 ≤ 1000000) (x : Int) (y : Int) (what : Int) (h_x : (-2147483648 ≤ x ∧ x ≤ 2147483647)) (h_y : (-2147483648 ≤ y ∧ y ≤ 2147483647)) (h_what : (-2147483648 ≤ what ∧ what ≤ 2147483647)) (i : okA T H M S K n9) : opR l E sa o oc ad bd am sd ed T H f M S K n9 yL_cell cL_cell 6 [(0, 12, 15, 13)] yX11_cell cX11_cell 4 .int r_X11_cell [.int (iI x), .int (iI y), .int (iI what)] (fun _ => True) := by
  obtain ⟨i1, i2, i3, i4, i5⟩ := id i
  have k := k_X11_cell l E am (ed 0) M sd S x y what i1.2.2.1 i1.2.2.2.1  h_x h_y h_what
  by_cases hc : tC x y
  · by_cases h : 0 ≤ what ∧ what ≤ 5
    · have e1 := cel_eq (w := what) i1.2.2.1 i1.2.2.2.1 i1.1.1 (tC_q hc)
      have e : tIn (tC x y) (0 ≤ what ∧ what ≤ 5) = 0 := by unfold tIn; rw [if_pos hc, if_pos h]
      rw [e, if_pos rfl] at k
      exact q_fair e1 trivial rfl ⟨inv_0 i1, i2, i3, i4, by omega⟩ (w_cell_0 l E sa hfl o oc ad bd T H f x y what i1.2.1 h_x h_y h_what hc h) k
    · have e : tIn (tC x y) (0 ≤ what ∧ what ≤ 5) = 1 := by unfold tIn; rw [if_pos hc, if_neg h]
      rw [e, if_neg (by decide)] at k
      exact q_ref i 1 (by omega) trivial (w_cell_w l E sa hfl o oc ad bd T H f x y what i1.2.1 h_x h_y h_what hc h) k
  · have e : tIn (tC x y) (0 ≤ what ∧ what ≤ 5) = 1 := by unfold tIn; rw [if_neg hc]
    rw [e, if_neg (by decide)] at k
    exact q_ref i 1 (by omega) trivial (w_cell_i l E sa hfl o oc ad bd T H f x y what i1.2.1 h_x h_y h_what hc) k
theorem q_pump (l : Launch) (E : gE) (sa : gTx) (hfl : l.stackTraces = false) (o oc : Nat) (ad bd am sd ed : Nat → Nat) (T H : gS) (f : Nat → Int64) (M S K : gS) (n9 : Int) (hn9 : n9 ≤ 1000000) (a : Int) (what : Int) (h_a : (-2147483648 ≤ a ∧ a ≤ 2147483647)) (h_what : (-2147483648 ≤ what ∧ what ≤ 2147483647)) (i : okA T H M S K n9) : opR l E sa o oc ad bd am sd ed T H f M S K n9 yL_pump cL_pump 5 [(0, 10, 13, 13)] yX11_pump cX11_pump 3 .int r_X11_pump [.int (iI a), .int (iI what)] (fun _ => True) := by
  obtain ⟨i1, i2, i3, i4, i5⟩ := id i
  have k := k_X11_pump l E am (ed 0) M sd S a what i1.2.2.1 i1.2.2.2.1  h_a h_what
  have e0 := i1.1.1.1.2.1.1
  by_cases h : (0 ≤ a ∧ a < T.2 1) ∧ 0 ≤ what ∧ what ≤ 5
  · have e1 := pmp_eq i1.2.1 i1.1.1.1.2.1 ⟨h.1.1, by omega⟩ h.2
    have e : tIn (0 ≤ a ∧ a ≤ M.2 1 - 1) (0 ≤ what ∧ what ≤ 5) = 0 := by unfold tIn; rw [if_pos (by omega), if_pos h.2]
    rw [e, if_pos rfl] at k
    exact q_fair e1 trivial rfl ⟨inv_0 i1, i2, i3, i4, by omega⟩ (w_pump_0 l E sa hfl o oc ad bd T H f a what i1.2.1 h_a h_what h.1 h.2) k
  · have e : tIn (0 ≤ a ∧ a ≤ M.2 1 - 1) (0 ≤ what ∧ what ≤ 5) = 1 := by unfold tIn; by_cases z : 0 ≤ a ∧ a ≤ M.2 1 - 1 <;> (first | rw [if_pos z, if_neg (by omega)] | rw [if_neg z])
    rw [e, if_neg (by decide)] at k
    exact q_ref i 1 (by omega) trivial (w_pump_i l E sa hfl o oc ad bd T H f a what i1.2.1 h_a h_what h) k
theorem q_gauge (l : Launch) (E : gE) (sa : gTx) (hfl : l.stackTraces = false) (o oc : Nat) (ad bd am sd ed : Nat → Nat) (T H : gS) (f : Nat → Int64) (M S K : gS) (n9 : Int) (hn9 : n9 ≤ 1000000) (a : Int) (what : Int) (h_a : (-2147483648 ≤ a ∧ a ≤ 2147483647)) (h_what : (-2147483648 ≤ what ∧ what ≤ 2147483647)) (i : okA T H M S K n9) : opR l E sa o oc ad bd am sd ed T H f M S K n9 yL_gauge cL_gauge 5 [(0, 10, 13, 13)] yX11_gauge cX11_gauge 3 .int r_X11_gauge [.int (iI a), .int (iI what)] (fun _ => True) := by
  obtain ⟨i1, i2, i3, i4, i5⟩ := id i
  have k := k_X11_gauge l E am (ed 0) M sd S a what i1.2.2.1 i1.2.2.2.1  h_a h_what
  have e0 := i1.1.1.1.2.2.1
  by_cases h : (0 ≤ a ∧ a < T.2 2) ∧ 0 ≤ what ∧ what ≤ 4
  · have e1 := gau_eq (w := what) i1.2.1 i1.1.1.1.1.2.2.1 i1.1.1.1.2.2 ⟨h.1.1, by omega⟩
    have e : tIn (0 ≤ a ∧ a ≤ M.2 2 - 1) (0 ≤ what ∧ what ≤ 4) = 0 := by unfold tIn; rw [if_pos (by omega), if_pos h.2]
    rw [e, if_pos rfl] at k
    exact q_fair e1 trivial rfl ⟨inv_0 i1, i2, i3, i4, by omega⟩ (w_gauge_0 l E sa hfl o oc ad bd T H f a what i1.2.1 h_a h_what h.1 h.2) k
  · have e : tIn (0 ≤ a ∧ a ≤ M.2 2 - 1) (0 ≤ what ∧ what ≤ 4) = 1 := by unfold tIn; by_cases z : 0 ≤ a ∧ a ≤ M.2 2 - 1 <;> (first | rw [if_pos z, if_neg (by omega)] | rw [if_neg z])
    rw [e, if_neg (by decide)] at k
    exact q_ref i 1 (by omega) trivial (w_gauge_i l E sa hfl o oc ad bd T H f a what i1.2.1 h_a h_what h) k
theorem q_refuge (l : Launch) (E : gE) (sa : gTx) (hfl : l.stackTraces = false) (o oc : Nat) (ad bd am sd ed : Nat → Nat) (T H : gS) (f : Nat → Int64) (M S K : gS) (n9 : Int) (hn9 : n9 ≤ 1000000) (a : Int) (what : Int) (h_a : (-2147483648 ≤ a ∧ a ≤ 2147483647)) (h_what : (-2147483648 ≤ what ∧ what ≤ 2147483647)) (i : okA T H M S K n9) : opR l E sa o oc ad bd am sd ed T H f M S K n9 yL_refuge cL_refuge 5 [(0, 10, 13, 13)] yX11_refuge cX11_refuge 3 .int r_X11_refuge [.int (iI a), .int (iI what)] (fun _ => True) := by
  obtain ⟨i1, i2, i3, i4, i5⟩ := id i
  have k := k_X11_refuge l E am (ed 0) M sd S a what i1.2.2.1 i1.2.2.2.1  h_a h_what
  have e0 := i1.1.1.2.1.1
  by_cases h : (0 ≤ a ∧ a < T.2 3) ∧ 0 ≤ what ∧ what ≤ 4
  · have e1 := ref_eq (w := what) i1.1.1.2.1 ⟨h.1.1, by omega⟩
    have e : tIn (0 ≤ a ∧ a ≤ M.2 3 - 1) (0 ≤ what ∧ what ≤ 4) = 0 := by unfold tIn; rw [if_pos (by omega), if_pos h.2]
    rw [e, if_pos rfl] at k
    exact q_fair e1 trivial rfl ⟨inv_0 i1, i2, i3, i4, by omega⟩ (w_refuge_0 l E sa hfl o oc ad bd T H f a what i1.2.1 h_a h_what h.1 h.2) k
  · have e : tIn (0 ≤ a ∧ a ≤ M.2 3 - 1) (0 ≤ what ∧ what ≤ 4) = 1 := by unfold tIn; by_cases z : 0 ≤ a ∧ a ≤ M.2 3 - 1 <;> (first | rw [if_pos z, if_neg (by omega)] | rw [if_neg z])
    rw [e, if_neg (by decide)] at k
    exact q_ref i 1 (by omega) trivial (w_refuge_i l E sa hfl o oc ad bd T H f a what i1.2.1 h_a h_what h) k
theorem q_caller (l : Launch) (E : gE) (sa : gTx) (hfl : l.stackTraces = false) (o oc : Nat) (ad bd am sd ed : Nat → Nat) (T H : gS) (f : Nat → Int64) (M S K : gS) (n9 : Int) (hn9 : n9 ≤ 1000000) (a : Int) (what : Int) (h_a : (-2147483648 ≤ a ∧ a ≤ 2147483647)) (h_what : (-2147483648 ≤ what ∧ what ≤ 2147483647)) (i : okA T H M S K n9) : opR l E sa o oc ad bd am sd ed T H f M S K n9 yL_caller cL_caller 5 [(0, 10, 13, 13)] yX11_caller cX11_caller 3 .int r_X11_caller [.int (iI a), .int (iI what)] (fun _ => True) := by
  obtain ⟨i1, i2, i3, i4, i5⟩ := id i
  have k := k_X11_caller l E am (ed 0) M sd S a what i1.2.2.1 i1.2.2.2.1  h_a h_what
  have e0 := i1.1.1.2.2.2.1
  by_cases h : (0 ≤ a ∧ a < T.2 6) ∧ 0 ≤ what ∧ what ≤ 2
  · have e1 := ctl_eq (w := what) i1.1.1.2.2.2 ⟨h.1.1, by omega⟩
    have e : tIn (0 ≤ a ∧ a ≤ M.2 5 - 1) (0 ≤ what ∧ what ≤ 2) = 0 := by unfold tIn; rw [if_pos (by omega), if_pos h.2]
    rw [e, if_pos rfl] at k
    exact q_fair e1 trivial rfl ⟨inv_0 i1, i2, i3, i4, by omega⟩ (w_caller_0 l E sa hfl o oc ad bd T H f a what i1.2.1 h_a h_what h.1 h.2) k
  · have e : tIn (0 ≤ a ∧ a ≤ M.2 5 - 1) (0 ≤ what ∧ what ≤ 2) = 1 := by unfold tIn; by_cases z : 0 ≤ a ∧ a ≤ M.2 5 - 1 <;> (first | rw [if_pos z, if_neg (by omega)] | rw [if_neg z])
    rw [e, if_neg (by decide)] at k
    exact q_ref i 1 (by omega) trivial (w_caller_i l E sa hfl o oc ad bd T H f a what i1.2.1 h_a h_what h) k
theorem q_household (l : Launch) (E : gE) (sa : gTx) (hfl : l.stackTraces = false) (o oc : Nat) (ad bd am sd ed : Nat → Nat) (T H : gS) (f : Nat → Int64) (M S K : gS) (n9 : Int) (hn9 : n9 ≤ 1000000) (a : Int) (what : Int) (h_a : (-2147483648 ≤ a ∧ a ≤ 2147483647)) (h_what : (-2147483648 ≤ what ∧ what ≤ 2147483647)) (i : okA T H M S K n9) : opR l E sa o oc ad bd am sd ed T H f M S K n9 yL_household cL_household 5 [(0, 10, 13, 13)] yX11_household cX11_household 3 .int r_X11_household [.int (iI a), .int (iI what)] (fun _ => True) := by
  obtain ⟨i1, i2, i3, i4, i5⟩ := id i
  have k := k_X11_household l E am (ed 0) M sd S a what i1.2.2.1 i1.2.2.2.1  h_a h_what
  have e0 := i1.1.1.2.2.1.1
  by_cases h : (0 ≤ a ∧ a < T.2 4) ∧ 0 ≤ what ∧ what ≤ 4
  · obtain ⟨e1, i9, e3, e4⟩ := o_house i1 ⟨h.1.1, by omega⟩ h.2
    have e : tIn (0 ≤ a ∧ a ≤ M.2 4 - 1) (0 ≤ what ∧ what ≤ 4) = 0 := by unfold tIn; rw [if_pos (by omega), if_pos h.2]
    rw [e, if_pos rfl, if_pos rfl] at k
    exact q_fair e1 trivial e3 ⟨i9, i2, i3, by rw [e4]; exact i4, by rw [e4]; omega⟩ (w_household_0 l E sa hfl o oc ad bd T H f a what i1.2.1 h_a h_what h.1 h.2) k
  · have e : tIn (0 ≤ a ∧ a ≤ M.2 4 - 1) (0 ≤ what ∧ what ≤ 4) = 1 := by unfold tIn; by_cases z : 0 ≤ a ∧ a ≤ M.2 4 - 1 <;> (first | rw [if_pos z, if_neg (by omega)] | rw [if_neg z])
    rw [e, if_neg (by decide), if_neg (by decide)] at k
    exact q_ref i 1 (by omega) trivial (w_household_i l E sa hfl o oc ad bd T H f a what i1.2.1 h_a h_what h) k
theorem q_count (l : Launch) (E : gE) (sa : gTx) (hfl : l.stackTraces = false) (o oc : Nat) (ad bd am sd ed : Nat → Nat) (T H : gS) (f : Nat → Int64) (M S K : gS) (n9 : Int) (hn9 : n9 ≤ 1000000) (what : Int) (h_what : (-2147483648 ≤ what ∧ what ≤ 2147483647)) (i : okA T H M S K n9) : opR l E sa o oc ad bd am sd ed T H f M S K n9 yL_count cL_count 4 [(0, 9, 12, 13)] yX11_count cX11_count 2 .int r_X11_count [.int (iI what)] (fun _ => True) := by
  obtain ⟨i1, i2, i3, i4, i5⟩ := id i
  have k := k_X11_count l E am (ed 0) M sd S what i1.2.2.1 i1.2.2.2.1  h_what
  by_cases h : 0 ≤ what ∧ what ≤ 9
  · have e1 := cnt_eq (w := what) i1.2.1 (inv_0 (t := 0) i1).2.2.1 (inv_0 (t := 0) i1).1
    have e : tIn (0 ≤ what ∧ what ≤ 9) True = 0 := by unfold tIn; rw [if_pos h, if_pos trivial]
    rw [e, if_pos rfl] at k
    exact q_fair e1 trivial rfl ⟨inv_0 i1, i2, i3, i4, by omega⟩ (w_count_0 l E sa hfl o oc ad bd T H f what i1.2.1 h_what h) k
  · have e : tIn (0 ≤ what ∧ what ≤ 9) True = 1 := by unfold tIn; rw [if_neg h]
    rw [e, if_neg (by decide)] at k
    exact q_ref i 1 (by omega) trivial (w_count_i l E sa hfl o oc ad bd T H f what i1.2.1 h_what h) k
theorem q_pass (l : Launch) (E : gE) (sa : gTx) (hfl : l.stackTraces = false) (o oc : Nat) (ad bd am sd ed : Nat → Nat) (T H : gS) (f : Nat → Int64) (M S K : gS) (n9 : Int) (hn9 : n9 ≤ 1000000) (n : Int) (h_n : (-2147483648 ≤ n ∧ n ≤ 2147483647)) (i : okA T H M S K n9) : opR l E sa o oc ad bd am sd ed T H f M S K n9 yL_pass cL_pass 4 [(0, 9, 12, 15)] yX11_pass cX11_pass 3 .int r_X11_pass [.int (iI n)] (fun _ => True) := by
  obtain ⟨i1, i2, i3, i4, i5⟩ := id i
  have eh := i1.1.2
  have k := k_X11_pass l E am (ed 0) M sd S n i1.2.2.1 i1.2.2.2.1 i1.2.2.2.2.1 ⟨by omega, by omega⟩ h_n
  by_cases h : 1 ≤ n ∧ n ≤ 36
  · have e : tPS n = 0 := by unfold tPS; rw [if_pos h]
    rw [e, if_pos rfl, if_pos rfl, if_pos rfl] at k
    obtain ⟨k9, rfl⟩ := Int.eq_ofNat_of_zero_le (show 0 ≤ n by omega)
    rw [show ((k9 : Int)).toNat = k9 from rfl] at k
    obtain ⟨e1, i9, e3, e4⟩ := o_pass (n := k9) i1
    exact q_fair e1 trivial e4 ⟨i9, i2, i3, by rw [e3]; omega, by rw [e3]; omega⟩ (w_pass_0 l E sa hfl o oc ad bd T H f k9 i1.2.1  ⟨by omega, by omega⟩ (inv_H i1) ⟨by omega, by omega⟩) k
  · have e : tPS n = 1 := by unfold tPS; rw [if_neg h]
    rw [e, if_neg (by decide), if_neg (by decide), if_neg (by decide)] at k
    exact q_ref i 1 (by omega) trivial (w_pass_a l E sa hfl o oc ad bd T H f n i1.2.1 h_n h) k
theorem q_foresee (l : Launch) (E : gE) (sa : gTx) (hfl : l.stackTraces = false) (o oc : Nat) (ad bd am sd ed : Nat → Nat) (T H : gS) (f : Nat → Int64) (M S K : gS) (n9 : Int) (hn9 : n9 ≤ 1000000) (n : Int) (what : Int) (h_n : (-2147483648 ≤ n ∧ n ≤ 2147483647)) (h_what : (-2147483648 ≤ what ∧ what ≤ 2147483647)) (i : okA T H M S K n9) : opR l E sa o oc ad bd am sd ed T H f M S K n9 yL_foresee cL_foresee 5 [(0, 10, 13, 15), (0, 10, 17, 13)] yX11_foresee cX11_foresee 3 .int r_X11_foresee [.int (iI n), .int (iI what)] (fun _ => True) := by
  obtain ⟨i1, i2, i3, i4, i5⟩ := id i
  have eh := i1.1.2
  have k := k_X11_foresee l E am M sd S ed K n what i1.2.2.1 i1.2.2.2.1 i3 i1.2.2.2.2.1 ⟨by omega, by omega⟩ h_n h_what
  by_cases h : 1 ≤ n ∧ n ≤ 36
  · by_cases h2 : 0 ≤ what ∧ what ≤ 3
    · have e : tFS n what = 0 := by unfold tFS; rw [if_pos h, if_pos h2]
      rw [e, if_pos rfl, if_pos rfl, if_pos rfl] at k
      obtain ⟨k9, rfl⟩ := Int.eq_ofNat_of_zero_le (show 0 ≤ n by omega)
      rw [show ((k9 : Int)).toNat = k9 from rfl] at k
      have i0 := inv_0 (t := 0) i1
      have m0 := i0.2.2.1
      have s0 := okS_bec i0.2.2.2.1 i3
      have p0 := okP_bec (H := K) (okM_i4 m0).2 i0.2.2.2.2.1
      have t0 := okT_copy i2 i0.2.1
      have c0 := sim_copy (H := H) (K := K) m0 i0.1
      have c1 := sim_hours t0 (okH_copy (inv_H i0)) m0 s0 p0 c0 k9
      obtain ⟨a1, a2, a3⟩ := hoursI_b t0 (okH_copy (inv_H i0)) k9
      obtain ⟨b1, b2, b3, b4, b5⟩ := mhsI_b m0 s0 p0 k9
      have e1 := for_eq (w := what) a1 b1 i1.1 c1
      have i9 := inv_M i0 (mhsI_1 (setI M 0 0) (becS S K) k9) (fun j _ => by rw [b4]) b1
      exact q_fair2 e1 trivial (by rw [b4]; rfl) ⟨i9, a1, b2, i4, by omega⟩ (w_foresee_0 l E sa hfl o oc ad bd T H f k9 what i1.2.1 h_what i2 ⟨by omega, by omega⟩ (inv_H i1) ⟨by omega, by omega⟩ h2) k
    · have e : tFS n what = 2 := by unfold tFS; rw [if_pos h, if_neg h2]
      rw [e, if_neg (by decide), if_neg (by decide), if_neg (by decide)] at k
      exact q_ref2 i 2 (by omega) trivial (w_foresee_i l E sa hfl o oc ad bd T H f n what i1.2.1 h_n h_what h h2) k
  · have e : tFS n what = 1 := by unfold tFS; rw [if_neg h]
    rw [e, if_neg (by decide), if_neg (by decide), if_neg (by decide)] at k
    exact q_ref2 i 1 (by omega) trivial (w_foresee_a l E sa hfl o oc ad bd T H f n what i1.2.1 h_n h_what h) k
theorem q_rings (l : Launch) (E : gE) (sa : gTx) (hfl : l.stackTraces = false) (o oc : Nat) (ad bd am sd ed : Nat → Nat) (T H : gS) (f : Nat → Int64) (M S K : gS) (n9 : Int) (hn9 : n9 ≤ 1000000) (g : Int) (h_g : (-2147483648 ≤ g ∧ g ≤ 2147483647)) (i : okA T H M S K n9) : opR l E sa o oc ad bd am sd ed T H f M S K n9 yL_rings cL_rings 4 [(0, 9, 12, 13)] yX11_rings_ cX11_rings_ 3 .int r_X11_rings_ [.int (iI g)] (fun _ => True) := by
  obtain ⟨i1, i2, i3, i4, i5⟩ := id i
  have eh := i1.1.2
  have e0 := i1.1.1.1.2.2.1
  have k := k_X11_rings_ l E am M sd S ed K g i1.2.2.1 i1.2.2.2.1 i3 i1.2.2.2.2.1 ⟨by omega, by omega⟩ h_g
  by_cases h : 0 ≤ g ∧ g < T.2 2
  · have e : tIn (0 ≤ g ∧ g ≤ M.2 2 - 1) True = 0 := by unfold tIn; rw [if_pos (by omega), if_pos trivial]
    rw [e, if_pos rfl, if_pos rfl, if_pos rfl] at k
    have i0 := inv_0 (t := 0) i1
    have m0 := i0.2.2.1
    have s0 := okS_bec i0.2.2.2.1 i3
    have p0 := okP_bec (H := K) (okM_i4 m0).2 i0.2.2.2.2.1
    have t0 := okT_copy i2 i0.2.1
    have c0 := sim_copy (H := H) (K := K) m0 i0.1
    have e1 := rg_eq (g := g) t0 m0 s0 p0 ⟨c0.1.1, c0.2⟩ ⟨h.1, by show g < M.2 2; omega⟩
    obtain ⟨b1, b2, b3, b4, b5⟩ := mhsI_b m0 s0 p0 (rgN (setI M 0 0) (becS S K) g)
    have i9 := inv_M i0 (mhsI_1 (setI M 0 0) (becS S K) (rgN (setI M 0 0) (becS S K) g)) (fun j _ => by rw [b4]) b1
    exact q_fair2 e1 trivial (by rw [b4]; rfl) ⟨i9, (hWI_b t0 _).1, b2, i4, by omega⟩ (w_rings_0 l E sa hfl o oc ad bd T H f g i1.2.1 h_g i2 ⟨by omega, by omega⟩ h) k
  · have e : tIn (0 ≤ g ∧ g ≤ M.2 2 - 1) True = 1 := by unfold tIn; rw [if_neg (by omega)]
    rw [e, if_neg (by decide), if_neg (by decide), if_neg (by decide)] at k
    exact q_ref2 i 1 (by omega) trivial (w_rings_i l E sa hfl o oc ad bd T H f g i1.2.1 h_g h) k
theorem q_advise (l : Launch) (E : gE) (sa : gTx) (hfl : l.stackTraces = false) (o oc : Nat) (ad bd am sd ed : Nat → Nat) (T H : gS) (f : Nat → Int64) (M S K : gS) (n9 : Int) (hn9 : n9 ≤ 1000000) (n : Int) (h_n : (-2147483648 ≤ n ∧ n ≤ 2147483647)) (i : okA T H M S K n9) : opR l E sa o oc ad bd am sd ed T H f M S K n9 yL_advise cL_advise 4 [(0, 9, 12, 15)] yX11_advise cX11_advise 6 .int r_X11_advise [.int (iI n)] (fun _ => True) := by
  obtain ⟨i1, i2, i3, i4, i5⟩ := id i
  have eh := i1.1.2
  have k := k_X11_advise l E am M sd S ed K n i1.2.2.1 i1.2.2.2.1 i3 i1.2.2.2.2.1 ⟨by omega, by omega⟩ i1.2.2.2.2.2.1 h_n
  by_cases h : 1 ≤ n ∧ n ≤ 6
  · have e : tAD n = 0 := by unfold tAD; rw [if_pos h]
    rw [e, if_pos rfl, if_pos rfl, if_pos rfl] at k
    obtain ⟨k9, rfl⟩ := Int.eq_ofNat_of_zero_le (show 0 ≤ n by omega)
    rw [show ((k9 : Int)).toNat = k9 from rfl] at k
    have i0 := inv_0 (t := 0) i1
    have m0 := i0.2.2.1
    have e1 := ad_eq (n := k9) i0.2.1 i2 m0 i0.2.2.2.1 i3 i0.2.2.2.2.1 i0.2.2.2.2.2.1 i0.1 (fun _ _ _ => trivial) 10 (by omega)
    have a1 := caI_b (n := k9) i0.2.1 i2 10 (by omega)
    obtain ⟨b1, b2, b3, b4⟩ := adI_b (n := k9) m0 i0.2.2.2.1 i3 i0.2.2.2.2.1 i0.2.2.2.2.2.1 10 (by omega)
    have i9 := inv_M i0 e1.2 (fun j _ => by rw [b3]) b1
    exact q_fair2 (congrArg Prod.fst e1.1) trivial (by rw [b3]; rfl) ⟨i9, a1.1, b2, i4, by omega⟩ (w_advise_0 l E sa hfl o oc ad bd T H f k9 i1.2.1  i2 ⟨by omega, by omega⟩ ⟨by omega, by omega⟩) k
  · have e : tAD n = 1 := by unfold tAD; rw [if_neg h]
    rw [e, if_neg (by decide), if_neg (by decide), if_neg (by decide)] at k
    exact q_ref2 i 1 (by omega) trivial (w_advise_a l E sa hfl o oc ad bd T H f n i1.2.1 h_n h) k
