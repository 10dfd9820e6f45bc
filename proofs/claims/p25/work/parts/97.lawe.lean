/-! the cells -/
set_option maxHeartbeats 8000000 in
set_option maxRecDepth 100000 in
theorem law_e {E : gE} {zp : Program} {l : Launch} {ze : Env} {zs : State} {zm : MethodId} {za : Array Value} {zb : List Frame} {zh : Method} {zc : Code} {zA : Nat → Prop} {zQ : State → Prop} {sa : gTx} {b L : Nat} {xs : Nat → Int32} {o : Nat} {ad bd : Nat → Nat} {kc ks : Nat} {V H : gS} {all t2 : Int} {j k : Nat} (C : gC E zp zs zm za zh zc cL_law 16 RL (some .boolean) zA) (SX : gSX sa b L xs zA zs) (hL : L ≤ 260) (hkc : kc ≤ 1000) (hks : ks ≤ 10000) (hk : k < 80) (JV : jl all t2 V) (kk : gG E zp l ze room_1 zs zm za zb zh zc zA 16 kc ks zQ ([(o, .inr (8, [.ref (ad 0), .ref (bd 0)]))] ++ (wT E ad V ++ (wT E bd H))) 598 [(14, .int (iI ((k : Int) + 1))), (3, .int (iI (j : Int))), (2, .int (iI all)), (1, .ref o), (0, .ref b)] []) : gG E zp l ze room_1 zs zm za zb zh zc zA 16 kc ks zQ ([(o, .inr (8, [.ref (ad 0), .ref (bd 0)]))] ++ (wT E ad V ++ (wT E bd H))) 598 [(14, .int (iI (k : Int))), (3, .int (iI (j : Int))), (2, .int (iI all)), (1, .ref o), (0, .ref b)] [] := by
  have jc := j_cell JV (q := 10 * ((k : Int) / (10)) + ((k : Int) % (10)))
  refine g_iload C dL_law_598 rfl 0 rfl ?_
  refine g_bipush C dL_law_600 rfl rfl ?_
  refine g_icmp_ge C dL_law_602 716 (by decide) rfl (by omega) (by omega) (fun c602 => ?_) (fun c602 => ?_)
  · exfalso; omega
  refine g_aload_n C dL_law_605 rfl 3 rfl ?_
  refine g_iload C dL_law_606 rfl 0 rfl ?_
  refine g_bipush C dL_law_608 rfl rfl ?_
  refine g_irem C dL_law_610 rfl (by omega) (by omega) ?_
  refine g_iload C dL_law_611 rfl 0 rfl ?_
  refine g_bipush C dL_law_613 rfl rfl ?_
  refine g_idiv C dL_law_615 rfl (by omega) (by omega) ?_
  refine g_iconst C dL_law_616 rfl ?_
  refine g_callVf (As := [.int (iI ((k : Int) % (10))), .int (iI ((k : Int) / (10))), .int (iI (2))]) (rv := some (.int (iI (cellTell V (10 * ((k : Int) / (10)) + ((k : Int) % (10))) (2))))) (w1 := [(o, .inr (8, [.ref (ad 0), .ref (bd 0)]))] ++ (wT E ad V)) (kc' := kc) (ks' := ks) C (wT E bd H) (k_X9_cell l E o (bd 0) ad V ((k : Int) % (10)) ((k : Int) / (10)) (2) JV.2.1.1 (by omega) (by omega) (by omega) ⟨⟨by omega, by omega⟩, by omega, by omega⟩ ⟨by omega, by omega⟩) mX9_cell iX9_cell wp128 0 8 rfl rfl rfl rfl rfl (Nat.le_of_ble_eq_true rfl) ⟨Nat.le_of_ble_eq_true rfl, Nat.le_of_ble_eq_true rfl⟩ ⟨by show kc + 0 ≤ 600104; omega, by show ks + 0 ≤ 7301314; omega⟩ rfl rfl (by simp only [List.append_assoc]) dL_law_617 rfl ?_
  refine g_ws (ws1 := [(o, .inr (8, [.ref (ad 0), .ref (bd 0)]))] ++ (wT E ad V ++ (wT E bd H))) (by simp only [List.append_assoc]) ?_
  refine g_if_lt C dL_law_620 708 (by decide) rfl (by omega) (fun c620 => ?_) (fun c620 => ?_)
  · exfalso; omega
  refine g_aload_n C dL_law_623 rfl 3 rfl ?_
  refine g_iload C dL_law_624 rfl 0 rfl ?_
  refine g_bipush C dL_law_626 rfl rfl ?_
  refine g_irem C dL_law_628 rfl (by omega) (by omega) ?_
  refine g_iload C dL_law_629 rfl 0 rfl ?_
  refine g_bipush C dL_law_631 rfl rfl ?_
  refine g_idiv C dL_law_633 rfl (by omega) (by omega) ?_
  refine g_iconst C dL_law_634 rfl ?_
  refine g_callVf (As := [.int (iI ((k : Int) % (10))), .int (iI ((k : Int) / (10))), .int (iI (2))]) (rv := some (.int (iI (cellTell V (10 * ((k : Int) / (10)) + ((k : Int) % (10))) (2))))) (w1 := [(o, .inr (8, [.ref (ad 0), .ref (bd 0)]))] ++ (wT E ad V)) (kc' := kc) (ks' := ks) C (wT E bd H) (k_X9_cell l E o (bd 0) ad V ((k : Int) % (10)) ((k : Int) / (10)) (2) JV.2.1.1 (by omega) (by omega) (by omega) ⟨⟨by omega, by omega⟩, by omega, by omega⟩ ⟨by omega, by omega⟩) mX9_cell iX9_cell wp128 0 8 rfl rfl rfl rfl rfl (Nat.le_of_ble_eq_true rfl) ⟨Nat.le_of_ble_eq_true rfl, Nat.le_of_ble_eq_true rfl⟩ ⟨by show kc + 0 ≤ 600104; omega, by show ks + 0 ≤ 7301314; omega⟩ rfl rfl (by simp only [List.append_assoc]) dL_law_635 rfl ?_
  refine g_ws (ws1 := [(o, .inr (8, [.ref (ad 0), .ref (bd 0)]))] ++ (wT E ad V ++ (wT E bd H))) (by simp only [List.append_assoc]) ?_
  refine g_bipush C dL_law_638 rfl rfl ?_
  refine g_icmp_gt C dL_law_640 708 (by decide) rfl (by omega) (by omega) (fun c640 => ?_) (fun c640 => ?_)
  · exfalso; omega
  refine g_aload_n C dL_law_643 rfl 3 rfl ?_
  refine g_iload C dL_law_644 rfl 0 rfl ?_
  refine g_bipush C dL_law_646 rfl rfl ?_
  refine g_irem C dL_law_648 rfl (by omega) (by omega) ?_
  refine g_iload C dL_law_649 rfl 0 rfl ?_
  refine g_bipush C dL_law_651 rfl rfl ?_
  refine g_idiv C dL_law_653 rfl (by omega) (by omega) ?_
  refine g_iconst C dL_law_654 rfl ?_
  refine g_callVf (As := [.int (iI ((k : Int) % (10))), .int (iI ((k : Int) / (10))), .int (iI (3))]) (rv := some (.int (iI (cellTell V (10 * ((k : Int) / (10)) + ((k : Int) % (10))) (3))))) (w1 := [(o, .inr (8, [.ref (ad 0), .ref (bd 0)]))] ++ (wT E ad V)) (kc' := kc) (ks' := ks) C (wT E bd H) (k_X9_cell l E o (bd 0) ad V ((k : Int) % (10)) ((k : Int) / (10)) (3) JV.2.1.1 (by omega) (by omega) (by omega) ⟨⟨by omega, by omega⟩, by omega, by omega⟩ ⟨by omega, by omega⟩) mX9_cell iX9_cell wp128 0 8 rfl rfl rfl rfl rfl (Nat.le_of_ble_eq_true rfl) ⟨Nat.le_of_ble_eq_true rfl, Nat.le_of_ble_eq_true rfl⟩ ⟨by show kc + 0 ≤ 600104; omega, by show ks + 0 ≤ 7301314; omega⟩ rfl rfl (by simp only [List.append_assoc]) dL_law_655 rfl ?_
  refine g_ws (ws1 := [(o, .inr (8, [.ref (ad 0), .ref (bd 0)]))] ++ (wT E ad V ++ (wT E bd H))) (by simp only [List.append_assoc]) ?_
  refine g_aload_n C dL_law_658 rfl 3 rfl ?_
  refine g_iload C dL_law_659 rfl 0 rfl ?_
  refine g_bipush C dL_law_661 rfl rfl ?_
  refine g_irem C dL_law_663 rfl (by omega) (by omega) ?_
  refine g_iload C dL_law_664 rfl 0 rfl ?_
  refine g_bipush C dL_law_666 rfl rfl ?_
  refine g_idiv C dL_law_668 rfl (by omega) (by omega) ?_
  refine g_iconst C dL_law_669 rfl ?_
  refine g_callVf (As := [.int (iI ((k : Int) % (10))), .int (iI ((k : Int) / (10))), .int (iI (0))]) (rv := some (.int (iI (cellTell V (10 * ((k : Int) / (10)) + ((k : Int) % (10))) (0))))) (w1 := [(o, .inr (8, [.ref (ad 0), .ref (bd 0)]))] ++ (wT E ad V)) (kc' := kc) (ks' := ks) C (wT E bd H) (k_X9_cell l E o (bd 0) ad V ((k : Int) % (10)) ((k : Int) / (10)) (0) JV.2.1.1 (by omega) (by omega) (by omega) ⟨⟨by omega, by omega⟩, by omega, by omega⟩ ⟨by omega, by omega⟩) mX9_cell iX9_cell wp128 0 8 rfl rfl rfl rfl rfl (Nat.le_of_ble_eq_true rfl) ⟨Nat.le_of_ble_eq_true rfl, Nat.le_of_ble_eq_true rfl⟩ ⟨by show kc + 0 ≤ 600104; omega, by show ks + 0 ≤ 7301314; omega⟩ rfl rfl (by simp only [List.append_assoc]) dL_law_670 rfl ?_
  refine g_ws (ws1 := [(o, .inr (8, [.ref (ad 0), .ref (bd 0)]))] ++ (wT E ad V ++ (wT E bd H))) (by simp only [List.append_assoc]) ?_
  refine g_aload_n C dL_law_673 rfl 3 rfl ?_
  refine g_iload C dL_law_674 rfl 0 rfl ?_
  refine g_bipush C dL_law_676 rfl rfl ?_
  refine g_irem C dL_law_678 rfl (by omega) (by omega) ?_
  refine g_iload C dL_law_679 rfl 0 rfl ?_
  refine g_bipush C dL_law_681 rfl rfl ?_
  refine g_idiv C dL_law_683 rfl (by omega) (by omega) ?_
  refine g_iconst C dL_law_684 rfl ?_
  refine g_callVf (As := [.int (iI ((k : Int) % (10))), .int (iI ((k : Int) / (10))), .int (iI (1))]) (rv := some (.int (iI (cellTell V (10 * ((k : Int) / (10)) + ((k : Int) % (10))) (1))))) (w1 := [(o, .inr (8, [.ref (ad 0), .ref (bd 0)]))] ++ (wT E ad V)) (kc' := kc) (ks' := ks) C (wT E bd H) (k_X9_cell l E o (bd 0) ad V ((k : Int) % (10)) ((k : Int) / (10)) (1) JV.2.1.1 (by omega) (by omega) (by omega) ⟨⟨by omega, by omega⟩, by omega, by omega⟩ ⟨by omega, by omega⟩) mX9_cell iX9_cell wp128 0 8 rfl rfl rfl rfl rfl (Nat.le_of_ble_eq_true rfl) ⟨Nat.le_of_ble_eq_true rfl, Nat.le_of_ble_eq_true rfl⟩ ⟨by show kc + 0 ≤ 600104; omega, by show ks + 0 ≤ 7301314; omega⟩ rfl rfl (by simp only [List.append_assoc]) dL_law_685 rfl ?_
  refine g_ws (ws1 := [(o, .inr (8, [.ref (ad 0), .ref (bd 0)]))] ++ (wT E ad V ++ (wT E bd H))) (by simp only [List.append_assoc]) ?_
  refine g_iadd C dL_law_688 rfl ?_
  refine g_aload_n C dL_law_689 rfl 3 rfl ?_
  refine g_iload C dL_law_690 rfl 0 rfl ?_
  refine g_bipush C dL_law_692 rfl rfl ?_
  refine g_irem C dL_law_694 rfl (by omega) (by omega) ?_
  refine g_iload C dL_law_695 rfl 0 rfl ?_
  refine g_bipush C dL_law_697 rfl rfl ?_
  refine g_idiv C dL_law_699 rfl (by omega) (by omega) ?_
  refine g_iconst C dL_law_700 rfl ?_
  refine g_callVf (As := [.int (iI ((k : Int) % (10))), .int (iI ((k : Int) / (10))), .int (iI (2))]) (rv := some (.int (iI (cellTell V (10 * ((k : Int) / (10)) + ((k : Int) % (10))) (2))))) (w1 := [(o, .inr (8, [.ref (ad 0), .ref (bd 0)]))] ++ (wT E ad V)) (kc' := kc) (ks' := ks) C (wT E bd H) (k_X9_cell l E o (bd 0) ad V ((k : Int) % (10)) ((k : Int) / (10)) (2) JV.2.1.1 (by omega) (by omega) (by omega) ⟨⟨by omega, by omega⟩, by omega, by omega⟩ ⟨by omega, by omega⟩) mX9_cell iX9_cell wp128 0 8 rfl rfl rfl rfl rfl (Nat.le_of_ble_eq_true rfl) ⟨Nat.le_of_ble_eq_true rfl, Nat.le_of_ble_eq_true rfl⟩ ⟨by show kc + 0 ≤ 600104; omega, by show ks + 0 ≤ 7301314; omega⟩ rfl rfl (by simp only [List.append_assoc]) dL_law_701 rfl ?_
  refine g_ws (ws1 := [(o, .inr (8, [.ref (ad 0), .ref (bd 0)]))] ++ (wT E ad V ++ (wT E bd H))) (by simp only [List.append_assoc]) ?_
  refine g_iadd C dL_law_704 rfl ?_
  refine g_icmp_eq C dL_law_705 710 (by decide) rfl (by omega) (by omega) (fun c705 => ?_) (fun c705 => ?_)
  rotate_left
  · exfalso; omega
  refine g_iinc (lv' := [(14, .int (iI ((k : Int) + 1))), (3, .int (iI (j : Int))), (2, .int (iI all)), (1, .ref o), (0, .ref b)]) C dL_law_710 rfl 0 rfl (by decide) rfl ?_
  refine g_goto C dL_law_713 598 (by decide) ?_
  exact g_to [0, 1, 2, 3, 4] kk rfl rfl rfl
