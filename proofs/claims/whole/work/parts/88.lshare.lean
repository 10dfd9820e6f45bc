set_option maxHeartbeats 4000000 in
set_option maxRecDepth 100000 in
theorem lc_share {E : gE} {p : Program} {l : Launch} {e : Env} {s : State} {m : MethodId} {args : Array Value} {below : List Frame} {meth : Method} {c : Code} {A : Nat → Prop} {kc ks : Nat} {Q : State → Prop} {o oc b : Nat} {ad bd am sd ed : Nat → Nat} {T H M S K : gS} {f : Nat → Int64} {i n9 : Int} (C : gC E p s m args meth c cL_law 9 RL (some .boolean) A) (hr : kc ≤ 600000 ∧ ks ≤ 6000000) (iA : okA T H M S K n9)
    (kk : ∀ (T2 H2 M2 S2 K2 : gS) (f2 : Nat → Int64), okA T2 H2 M2 S2 K2 (n9 + 36) → gG E p l e room_1 s m args below meth c A 9 (kc + 500) (ks + 3000) Q (wC E o ad bd oc T2 H2 f2 ++ wB E am sd ed M2 S2 K2) 1598 (lvL i oc (am 0) o b) []) : gG E p l e room_1 s m args below meth c A 9 kc ks Q (wC E o ad bd oc T H f ++ wB E am sd ed M S K) 1543 (lvL i oc (am 0) o b) [] := by
  obtain ⟨i1, i2, i3, i4, i5⟩ := id iA
  have kend : ∀ lv : List (Nat × Value), lv_pick lv [2, 3, 4, 5, 6] = lvL i oc (am 0) o b → gG E p l e room_1 s m args below meth c A 9 kc ks Q (wC E o ad bd oc T H f ++ wB E am sd ed (setI M 0 0) S K) 1581 lv [] := by
    intro lv hlv
    refine g_widen (kc' := kc + 500) (ks' := ks + 3000) (by omega) (by omega) ?_
    refine g_goto C dL_law_1581 1598 (by decide) ?_
    exact g_to [2, 3, 4, 5, 6] (kk T H (setI M 0 0) S K f ⟨inv_0 i1, i2, i3, i4, by omega⟩) rfl hlv rfl
  refine g_aload_n C dL_law_1543 rfl 3 rfl ?_
  refine g_callV (As := []) (rv := some (.double (shr (hsum T 2) (hsum T 2 + hsum T 0 + hsum T 1)))) (w0 := [(o, .inr (8, [.ref (ad 0), .ref (bd 0)]))] ++ wT E ad T) (w1 := [(o, .inr (8, [.ref (ad 0), .ref (bd 0)]))] ++ wT E ad T) C ((wT E bd H ++ [(oc, cj E 1 f)]) ++ wB E am sd ed M S K) (k_X9_share l E o (bd 0) ad T i1.2.1) mX9_share iX9_share wd251 0 8 rfl rfl rfl rfl rfl (Nat.le_of_ble_eq_true rfl) ⟨Nat.le_of_ble_eq_true rfl, Nat.le_of_ble_eq_true rfl⟩ ⟨by show kc + 0 ≤ 669734; omega, by show ks + 0 ≤ 7086902; omega⟩ rfl dL_law_1544 rfl ?_
  refine g_dstore C dL_law_1547 rfl (by decide) rfl ?_
  refine g_aload_n C dL_law_1549 rfl 3 rfl ?_
  refine g_perm (ws1 := wB E am sd ed M S K ++ wC E o ad bd oc T H f) List.perm_append_comm ?_
  refine g_callV (As := []) (rv := some (.double (shr (ppI S 2 (M.2 4).toNat) (ppI S 0 (M.2 4).toNat + ppI S 1 (M.2 4).toNat + ppI S 2 (M.2 4).toNat)))) (w0 := wM E am (sd 0) (ed 0) M ++ wS E sd S) (w1 := wM E am (sd 0) (ed 0) (setI M 0 0) ++ wS E sd S) C (wS E ed K ++ wC E o ad bd oc T H f) (k_X11_share l E am (ed 0) M sd S i1.2.2.1 i1.2.2.2.1) mX11_share iX11_share wd1214 0 10 rfl rfl rfl rfl rfl (Nat.le_of_ble_eq_true rfl) ⟨Nat.le_of_ble_eq_true rfl, Nat.le_of_ble_eq_true rfl⟩ ⟨by show kc + 0 + 0 ≤ 669734; omega, by show ks + 0 + 0 ≤ 7086902; omega⟩ (by simp only [List.append_assoc]) dL_law_1550 rfl ?_
  refine g_dstore C dL_law_1553 rfl (by decide) rfl ?_
  refine g_perm (ws1 := wC E o ad bd oc T H f ++ wB E am sd ed (setI M 0 0) S K) (by rw [show (wM E am (sd 0) (ed 0) (setI M 0 0) ++ wS E sd S) ++ (wS E ed K ++ wC E o ad bd oc T H f) = wB E am sd ed (setI M 0 0) S K ++ wC E o ad bd oc T H f from by simp only [List.append_assoc]]; exact List.perm_append_comm) ?_
  rw [← share_eq i1.1.1.2.2.1 i1.2.2.1]
  generalize (shr (hsum T 2) (hsum T 2 + hsum T 0 + hsum T 1)) = z
  refine g_dload C dL_law_1555 rfl 1 rfl ?_
  refine g_dload C dL_law_1557 rfl 0 rfl ?_
  refine g_dcmp C dL_law_1559 rfl ?_
  have hz := iI_rng (Op.cmpValue (FP.dcmp z z) .l)
  generalize hq : (Op.cmpValue (FP.dcmp z z) .l).toInt = q at hz ⊢
  refine g_if_eq C dL_law_1560 1581 (by decide) rfl hz (fun _ => kend _ rfl) (fun c1 => ?_)
  refine g_dload C dL_law_1563 rfl 1 rfl ?_
  refine g_dload C dL_law_1565 rfl 1 rfl ?_
  refine g_dcmp C dL_law_1567 rfl ?_
  rw [hq]
  refine g_if_eq C dL_law_1568 1579 (by decide) rfl hz (fun z => absurd z c1) (fun _ => ?_)
  refine g_dload C dL_law_1571 rfl 0 rfl ?_
  refine g_dload C dL_law_1573 rfl 0 rfl ?_
  refine g_dcmp C dL_law_1575 rfl ?_
  rw [hq]
  exact g_if_ne C dL_law_1576 1581 (by decide) rfl hz (fun _ => kend _ rfl) (fun z => absurd z c1)
theorem hTellS_27 {S : gS} {k w : Int} : (hTellS S k w).1 27 = S.1 27 := by
  unfold hTellS wayS
  repeat' split
  all_goals rfl
theorem peB_27 {h : Nat} {x : gDM} : ∀ n : Nat, (itr (peB h) x n).2.1 27 = x.2.1 27
  | 0 => rfl
  | n + 1 => by
    have h1 := peB_27 (h := h) (x := x) n
    exact hTellS_27.trans h1
theorem peI_27 {S : gS} {d : Int64} : ∀ n : Nat, (peI S d n).2.1 27 = S.1 27
  | 0 => rfl
  | n + 1 => by
    have h1 := peI_27 (S := S) (d := d) n
    exact (peB_27 5).trans h1
theorem o_digest {T M S : gS} (i : inv T M S) : ceP T (ceD T) = dg8 (setI M 0 0) S ∧ inv (ce7 T (ceD T)).2 (dg7 (setI M 0 0) S).2 S ∧ (ce7 T (ceD T)).2.2 0 = T.2 0 := by
  have i0 := inv_0 (t := 0) i
  obtain ⟨h, t, m, s, p, b, z⟩ := i0
  obtain ⟨d1, d2, d3, d4, d5⟩ := dig_eq t m s h
  have e := (peI_b (d := ceD T) t (T.2 4).toNat).2 0 (by decide)
  refine ⟨d1, ⟨d2, d3, d4, s, ?_, b, fun k a9 b9 => ?_⟩, e⟩
  · rw [d5]; exact p
  · rw [d5] at a9
    show (peI T (ceD T) (T.2 4).toNat).2.1 27 k = 0
    rw [peI_27]
    exact z k a9 b9
set_option maxHeartbeats 4000000 in
set_option maxRecDepth 100000 in
theorem lc_digest {E : gE} {p : Program} {l : Launch} {e : Env} {s : State} {m : MethodId} {args : Array Value} {below : List Frame} {meth : Method} {c : Code} {A : Nat → Prop} {kc ks : Nat} {Q : State → Prop} {o oc b : Nat} {ad bd am sd ed : Nat → Nat} {T H M S K : gS} {f : Nat → Int64} {i n9 : Int} (C : gC E p s m args meth c cL_law 9 RL (some .boolean) A) (hr : kc ≤ 600000 ∧ ks ≤ 6000000) (iA : okA T H M S K n9)
    (kk : ∀ (T2 H2 M2 S2 K2 : gS) (f2 : Nat → Int64), okA T2 H2 M2 S2 K2 (n9 + 36) → gG E p l e room_1 s m args below meth c A 9 (kc + 500) (ks + 3000) Q (wC E o ad bd oc T2 H2 f2 ++ wB E am sd ed M2 S2 K2) 1598 (lvL i oc (am 0) o b) []) : gG E p l e room_1 s m args below meth c A 9 kc ks Q (wC E o ad bd oc T H f ++ wB E am sd ed M S K) 1584 (lvL i oc (am 0) o b) [] := by
  obtain ⟨i1, i2, i3, i4, i5⟩ := id iA
  obtain ⟨e1, e2, e3⟩ := o_digest i1
  refine g_aload_n C dL_law_1584 rfl 3 rfl ?_
  refine g_callV (As := []) (rv := some (.long (ceP T (ceD T)))) (w0 := [(o, .inr (8, [.ref (ad 0), .ref (bd 0)]))] ++ wT E ad T) (w1 := [(o, .inr (8, [.ref (ad 0), .ref (bd 0)]))] ++ wT E ad (ce7 T (ceD T)).2) C ((wT E bd H ++ [(oc, cj E 1 f)]) ++ wB E am sd ed M S K) (k_X9_digest l E o (bd 0) ad T i1.2.1) mX9_digest iX9_digest wd259 0 8 rfl rfl rfl rfl rfl (Nat.le_of_ble_eq_true rfl) ⟨Nat.le_of_ble_eq_true rfl, Nat.le_of_ble_eq_true rfl⟩ ⟨by show kc + 0 ≤ 669734; omega, by show ks + 0 ≤ 7086902; omega⟩ rfl dL_law_1585 rfl ?_
  refine g_aload_n C dL_law_1588 rfl 2 rfl ?_
  refine g_perm (ws1 := wB E am sd ed M S K ++ wC E o ad bd oc (ce7 T (ceD T)).2 H f) List.perm_append_comm ?_
  refine g_callV (As := []) (rv := some (.long (dg8 (setI M 0 0) S))) (w0 := wM E am (sd 0) (ed 0) M ++ wS E sd S) (w1 := wM E am (sd 0) (ed 0) (dg7 (setI M 0 0) S).2 ++ wS E sd S) C (wS E ed K ++ wC E o ad bd oc (ce7 T (ceD T)).2 H f) (k_X11_digest l E am (ed 0) M sd S i1.2.2.1 i1.2.2.2.1) mX11_digest iX11_digest wd1218 0 10 rfl rfl rfl rfl rfl (Nat.le_of_ble_eq_true rfl) ⟨Nat.le_of_ble_eq_true rfl, Nat.le_of_ble_eq_true rfl⟩ ⟨by show kc + 0 + 490 ≤ 669734; omega, by show ks + 0 + 2980 ≤ 7086902; omega⟩ (by simp only [List.append_assoc]) dL_law_1589 rfl ?_
  refine g_perm (ws1 := wC E o ad bd oc (ce7 T (ceD T)).2 H f ++ wB E am sd ed (dg7 (setI M 0 0) S).2 S K) (by rw [show (wM E am (sd 0) (ed 0) (dg7 (setI M 0 0) S).2 ++ wS E sd S) ++ (wS E ed K ++ wC E o ad bd oc (ce7 T (ceD T)).2 H f) = wB E am sd ed (dg7 (setI M 0 0) S).2 S K ++ wC E o ad bd oc (ce7 T (ceD T)).2 H f from by simp only [List.append_assoc]]; exact List.perm_append_comm) ?_
  have kx := kk (ce7 T (ceD T)).2 H (dg7 (setI M 0 0) S).2 S K f ⟨e2, i2, i3, by rw [e3]; exact i4, by rw [e3]; omega⟩
  generalize (ce7 T (ceD T)).2 = T2 at kx ⊢
  generalize (dg7 (setI M 0 0) S).2 = M2 at kx ⊢
  refine g_widen (kc' := kc + 500) (ks' := ks + 3000) (by show kc + 0 + 490 ≤ kc + 500; omega) (by show ks + 0 + 2980 ≤ ks + 3000; omega) ?_
  refine g_lcmpE C e1 dL_law_1592 rfl ?_
  exact g_if_eq C dL_law_1593 1598 (by decide) rfl (by omega) (fun _ => kx) (fun z => absurd rfl z)
