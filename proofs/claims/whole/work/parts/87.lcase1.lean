set_option maxHeartbeats 4000000 in
set_option maxRecDepth 100000 in
theorem lc_setGround {E : gE} {p : Program} {l : Launch} {e : Env} {s : State} {m : MethodId} {args : Array Value} {below : List Frame} {meth : Method} {c : Code} {A : Nat → Prop} {kc ks : Nat} {Q : State → Prop} {o oc b L : Nat} {xs : Nat → Int32} {ad bd am sd ed : Nat → Nat} {T H M S K : gS} {f : Nat → Int64} {i n9 : Int} {sa : gTx} (hfl : l.stackTraces = false) (C : gC E p s m args meth c cL_law 9 RL (some .boolean) A) (hX : gX sa A s s.heap) (hNc : gNc s) (hXs : va_X b L xs s s.heap) (hbl : b < s.heap.size) (hbA : ¬ A b) (hL : L ≤ 2560) (hi : 0 ≤ i ∧ i + 5 ≤ (L : Int)) (hn : 0 ≤ n9 ∧ n9 ≤ 100000) (hr : kc ≤ 600000 ∧ ks ≤ 6000000) (iA : okA T H M S K n9)
    (kk : ∀ (T2 H2 M2 S2 K2 : gS) (f2 : Nat → Int64), okA T2 H2 M2 S2 K2 (n9 + 36) → gG E p l e room_1 s m args below meth c A 9 (kc + 500) (ks + 3000) Q (wC E o ad bd oc T2 H2 f2 ++ wB E am sd ed M2 S2 K2) 1598 (lvL i oc (am 0) o b) []) : gG E p l e room_1 s m args below meth c A 9 kc ks Q (wC E o ad bd oc T H f ++ wB E am sd ed M S K) 140 (lvL i oc (am 0) o b) [] := by
  refine g_aload_n C dL_law_140 rfl 3 rfl ?_
  refine g_arg (k := 1) C hXs hbl hbA 4 0 rfl rfl (by omega) (by omega) dL_law_141 dL_law_142 dL_law_144 dL_law_145 dL_law_146 rfl ?_
  refine g_arg (k := 2) C hXs hbl hbA 4 0 rfl rfl (by omega) (by omega) dL_law_147 dL_law_148 dL_law_150 dL_law_151 dL_law_152 rfl ?_
  refine g_arg (k := 3) C hXs hbl hbA 4 0 rfl rfl (by omega) (by omega) dL_law_153 dL_law_154 dL_law_156 dL_law_157 dL_law_158 rfl ?_
  refine g_aload_n C dL_law_159 rfl 1 rfl ?_
  obtain ⟨t, b9, T2, H2, f2, M2, S2, K2, wb, wb2, wr, fs, hW, hM, e1, e2, e3, iA2, h0, ht, hf, hp⟩ := q_setGround l E sa hfl o oc ad bd am sd ed T H f M S K n9 (by omega) (xv xs (i + 1)) (xv xs (i + 2)) (xv xs (i + 3)) (xv_b xs _) (xv_b xs _) (xv_b xs _) iA
  refine g_callSW (n := 5) (As := [.ref o, .int (iI (xv xs (i + 1))), .int (iI (xv xs (i + 2))), .int (iI (xv xs (i + 3))), .ref oc]) (w0 := wC E o ad bd oc T H f) (w1 := wC E o ad bd oc T2 H2 f2) (rv := some (.int (iI t))) (wB E am sd ed M S K) C hX hNc hW wd404 wd0 ⟨by decide, by decide⟩ (by decide +kernel) wd403 wd402 rfl rfl (Nat.le_of_ble_eq_true rfl) ⟨Nat.le_of_ble_eq_true rfl, Nat.le_of_ble_eq_true rfl⟩ ⟨by show kc + 1 ≤ 669734; omega, by show ks + 6 ≤ 7086902; omega⟩ rfl dL_law_160 rfl ?_
  refine g_istore C dL_law_163 rfl (by decide) rfl ?_
  refine g_aload_n C dL_law_165 rfl 3 rfl ?_
  refine g_arg (k := 1) C hXs hbl hbA 5 1 rfl rfl (by omega) (by omega) dL_law_166 dL_law_167 dL_law_169 dL_law_170 dL_law_171 rfl ?_
  refine g_arg (k := 2) C hXs hbl hbA 5 1 rfl rfl (by omega) (by omega) dL_law_172 dL_law_173 dL_law_175 dL_law_176 dL_law_177 rfl ?_
  refine g_arg (k := 3) C hXs hbl hbA 5 1 rfl rfl (by omega) (by omega) dL_law_178 dL_law_179 dL_law_181 dL_law_182 dL_law_183 rfl ?_
  refine g_perm (ws1 := wB E am sd ed M S K ++ wC E o ad bd oc T2 H2 f2) List.perm_append_comm ?_
  refine g_callV (As := [.int (iI (xv xs (i + 1))), .int (iI (xv xs (i + 2))), .int (iI (xv xs (i + 3)))]) (w0 := wb) (w1 := wb2) (rv := some (.int (iI b9))) C (wr ++ wC E o ad bd oc T2 H2 f2) hM mX11_setGround iX11_setGround wd978 0 10 e3 rfl rfl rfl rfl (Nat.le_of_ble_eq_true rfl) ⟨Nat.le_of_ble_eq_true rfl, Nat.le_of_ble_eq_true rfl⟩ ⟨by show kc + 1 + r_X11_setGround.cells ≤ 669734; exact Nat.le_trans (Nat.add_le_add_left (show r_X11_setGround.cells ≤ 10 from Nat.le_of_ble_eq_true rfl) _) (by omega), by show ks + 6 + r_X11_setGround.slots ≤ 7086902; exact Nat.le_trans (Nat.add_le_add_left (show r_X11_setGround.slots ≤ 100 from Nat.le_of_ble_eq_true rfl) _) (by omega)⟩ (by rw [e1, List.append_assoc]) dL_law_184 rfl ?_
  refine g_istore C dL_law_187 rfl (by decide) rfl ?_
  refine g_ws (ws1 := wB E am sd ed M2 S2 K2 ++ wC E o ad bd oc T2 H2 f2) (by rw [e2, List.append_assoc]) ?_
  refine g_widen (kc' := kc + 500) (ks' := ks + 3000) (by show kc + 1 + r_X11_setGround.cells ≤ kc + 500; exact Nat.le_trans (Nat.add_le_add_left (show r_X11_setGround.cells ≤ 10 from Nat.le_of_ble_eq_true rfl) _) (by omega)) (by show ks + 6 + r_X11_setGround.slots ≤ ks + 3000; exact Nat.le_trans (Nat.add_le_add_left (show r_X11_setGround.slots ≤ 100 from Nat.le_of_ble_eq_true rfl) _) (by omega)) ?_
  refine g_to (lv1 := (6, .int (iI b9)) :: (5, .int (iI t)) :: lvL i oc (am 0) o b) [0, 1, 2, 3, 4, 5, 6] ?_ rfl rfl rfl
  exact g_tail C ⟨by omega, by omega⟩ h0 ht hf dL_law_189 dL_law_190 dL_law_193 dL_law_195 dL_law_200 dL_law_202 dL_law_205 dL_law_206 dL_law_207 dL_law_208 dL_law_210 dL_law_211 dL_law_212 dL_law_217 (by decide) (kk T2 H2 M2 S2 K2 f2 iA2)
set_option maxHeartbeats 4000000 in
set_option maxRecDepth 100000 in
theorem lc_lay {E : gE} {p : Program} {l : Launch} {e : Env} {s : State} {m : MethodId} {args : Array Value} {below : List Frame} {meth : Method} {c : Code} {A : Nat → Prop} {kc ks : Nat} {Q : State → Prop} {o oc b L : Nat} {xs : Nat → Int32} {ad bd am sd ed : Nat → Nat} {T H M S K : gS} {f : Nat → Int64} {i n9 : Int} {sa : gTx} (hfl : l.stackTraces = false) (C : gC E p s m args meth c cL_law 9 RL (some .boolean) A) (hX : gX sa A s s.heap) (hNc : gNc s) (hXs : va_X b L xs s s.heap) (hbl : b < s.heap.size) (hbA : ¬ A b) (hL : L ≤ 2560) (hi : 0 ≤ i ∧ i + 5 ≤ (L : Int)) (hn : 0 ≤ n9 ∧ n9 ≤ 100000) (hr : kc ≤ 600000 ∧ ks ≤ 6000000) (iA : okA T H M S K n9)
    (kk : ∀ (T2 H2 M2 S2 K2 : gS) (f2 : Nat → Int64), okA T2 H2 M2 S2 K2 (n9 + 36) → gG E p l e room_1 s m args below meth c A 9 (kc + 500) (ks + 3000) Q (wC E o ad bd oc T2 H2 f2 ++ wB E am sd ed M2 S2 K2) 1598 (lvL i oc (am 0) o b) []) : gG E p l e room_1 s m args below meth c A 9 kc ks Q (wC E o ad bd oc T H f ++ wB E am sd ed M S K) 220 (lvL i oc (am 0) o b) [] := by
  refine g_aload_n C dL_law_220 rfl 3 rfl ?_
  refine g_arg (k := 1) C hXs hbl hbA 4 0 rfl rfl (by omega) (by omega) dL_law_221 dL_law_222 dL_law_224 dL_law_225 dL_law_226 rfl ?_
  refine g_arg (k := 2) C hXs hbl hbA 4 0 rfl rfl (by omega) (by omega) dL_law_227 dL_law_228 dL_law_230 dL_law_231 dL_law_232 rfl ?_
  refine g_arg (k := 3) C hXs hbl hbA 4 0 rfl rfl (by omega) (by omega) dL_law_233 dL_law_234 dL_law_236 dL_law_237 dL_law_238 rfl ?_
  refine g_aload_n C dL_law_239 rfl 1 rfl ?_
  obtain ⟨t, b9, T2, H2, f2, M2, S2, K2, wb, wb2, wr, fs, hW, hM, e1, e2, e3, iA2, h0, ht, hf, hp⟩ := q_lay l E sa hfl o oc ad bd am sd ed T H f M S K n9 (by omega) (xv xs (i + 1)) (xv xs (i + 2)) (xv xs (i + 3)) (xv_b xs _) (xv_b xs _) (xv_b xs _) iA
  refine g_callSW (n := 5) (As := [.ref o, .int (iI (xv xs (i + 1))), .int (iI (xv xs (i + 2))), .int (iI (xv xs (i + 3))), .ref oc]) (w0 := wC E o ad bd oc T H f) (w1 := wC E o ad bd oc T2 H2 f2) (rv := some (.int (iI t))) (wB E am sd ed M S K) C hX hNc hW wd512 wd0 ⟨by decide, by decide⟩ (by decide +kernel) wd511 wd510 rfl rfl (Nat.le_of_ble_eq_true rfl) ⟨Nat.le_of_ble_eq_true rfl, Nat.le_of_ble_eq_true rfl⟩ ⟨by show kc + 1 ≤ 669734; omega, by show ks + 6 ≤ 7086902; omega⟩ rfl dL_law_240 rfl ?_
  refine g_istore C dL_law_243 rfl (by decide) rfl ?_
  refine g_aload_n C dL_law_245 rfl 3 rfl ?_
  refine g_arg (k := 1) C hXs hbl hbA 5 1 rfl rfl (by omega) (by omega) dL_law_246 dL_law_247 dL_law_249 dL_law_250 dL_law_251 rfl ?_
  refine g_arg (k := 2) C hXs hbl hbA 5 1 rfl rfl (by omega) (by omega) dL_law_252 dL_law_253 dL_law_255 dL_law_256 dL_law_257 rfl ?_
  refine g_arg (k := 3) C hXs hbl hbA 5 1 rfl rfl (by omega) (by omega) dL_law_258 dL_law_259 dL_law_261 dL_law_262 dL_law_263 rfl ?_
  refine g_perm (ws1 := wB E am sd ed M S K ++ wC E o ad bd oc T2 H2 f2) List.perm_append_comm ?_
  refine g_callV (As := [.int (iI (xv xs (i + 1))), .int (iI (xv xs (i + 2))), .int (iI (xv xs (i + 3)))]) (w0 := wb) (w1 := wb2) (rv := some (.int (iI b9))) C (wr ++ wC E o ad bd oc T2 H2 f2) hM mX11_lay iX11_lay wd992 0 10 e3 rfl rfl rfl rfl (Nat.le_of_ble_eq_true rfl) ⟨Nat.le_of_ble_eq_true rfl, Nat.le_of_ble_eq_true rfl⟩ ⟨by show kc + 1 + r_X11_lay.cells ≤ 669734; exact Nat.le_trans (Nat.add_le_add_left (show r_X11_lay.cells ≤ 10 from Nat.le_of_ble_eq_true rfl) _) (by omega), by show ks + 6 + r_X11_lay.slots ≤ 7086902; exact Nat.le_trans (Nat.add_le_add_left (show r_X11_lay.slots ≤ 100 from Nat.le_of_ble_eq_true rfl) _) (by omega)⟩ (by rw [e1, List.append_assoc]) dL_law_264 rfl ?_
  refine g_istore C dL_law_267 rfl (by decide) rfl ?_
  refine g_ws (ws1 := wB E am sd ed M2 S2 K2 ++ wC E o ad bd oc T2 H2 f2) (by rw [e2, List.append_assoc]) ?_
  refine g_widen (kc' := kc + 500) (ks' := ks + 3000) (by show kc + 1 + r_X11_lay.cells ≤ kc + 500; exact Nat.le_trans (Nat.add_le_add_left (show r_X11_lay.cells ≤ 10 from Nat.le_of_ble_eq_true rfl) _) (by omega)) (by show ks + 6 + r_X11_lay.slots ≤ ks + 3000; exact Nat.le_trans (Nat.add_le_add_left (show r_X11_lay.slots ≤ 100 from Nat.le_of_ble_eq_true rfl) _) (by omega)) ?_
  refine g_to (lv1 := (6, .int (iI b9)) :: (5, .int (iI t)) :: lvL i oc (am 0) o b) [0, 1, 2, 3, 4, 5, 6] ?_ rfl rfl rfl
  exact g_tail C ⟨by omega, by omega⟩ h0 ht hf dL_law_269 dL_law_270 dL_law_273 dL_law_275 dL_law_280 dL_law_282 dL_law_285 dL_law_286 dL_law_287 dL_law_288 dL_law_290 dL_law_291 dL_law_292 dL_law_297 (by decide) (kk T2 H2 M2 S2 K2 f2 iA2)
set_option maxHeartbeats 4000000 in
set_option maxRecDepth 100000 in
theorem lc_setRiver {E : gE} {p : Program} {l : Launch} {e : Env} {s : State} {m : MethodId} {args : Array Value} {below : List Frame} {meth : Method} {c : Code} {A : Nat → Prop} {kc ks : Nat} {Q : State → Prop} {o oc b L : Nat} {xs : Nat → Int32} {ad bd am sd ed : Nat → Nat} {T H M S K : gS} {f : Nat → Int64} {i n9 : Int} {sa : gTx} (hfl : l.stackTraces = false) (C : gC E p s m args meth c cL_law 9 RL (some .boolean) A) (hX : gX sa A s s.heap) (hNc : gNc s) (hXs : va_X b L xs s s.heap) (hbl : b < s.heap.size) (hbA : ¬ A b) (hL : L ≤ 2560) (hi : 0 ≤ i ∧ i + 5 ≤ (L : Int)) (hn : 0 ≤ n9 ∧ n9 ≤ 100000) (hr : kc ≤ 600000 ∧ ks ≤ 6000000) (iA : okA T H M S K n9)
    (kk : ∀ (T2 H2 M2 S2 K2 : gS) (f2 : Nat → Int64), okA T2 H2 M2 S2 K2 (n9 + 36) → gG E p l e room_1 s m args below meth c A 9 (kc + 500) (ks + 3000) Q (wC E o ad bd oc T2 H2 f2 ++ wB E am sd ed M2 S2 K2) 1598 (lvL i oc (am 0) o b) []) : gG E p l e room_1 s m args below meth c A 9 kc ks Q (wC E o ad bd oc T H f ++ wB E am sd ed M S K) 300 (lvL i oc (am 0) o b) [] := by
  refine g_aload_n C dL_law_300 rfl 3 rfl ?_
  refine g_arg (k := 1) C hXs hbl hbA 4 0 rfl rfl (by omega) (by omega) dL_law_301 dL_law_302 dL_law_304 dL_law_305 dL_law_306 rfl ?_
  refine g_arg (k := 2) C hXs hbl hbA 4 0 rfl rfl (by omega) (by omega) dL_law_307 dL_law_308 dL_law_310 dL_law_311 dL_law_312 rfl ?_
  refine g_aload_n C dL_law_313 rfl 1 rfl ?_
  obtain ⟨t, b9, T2, H2, f2, M2, S2, K2, wb, wb2, wr, fs, hW, hM, e1, e2, e3, iA2, h0, ht, hf, hp⟩ := q_setRiver l E sa hfl o oc ad bd am sd ed T H f M S K n9 (by omega) (xv xs (i + 1)) (xv xs (i + 2)) (xv_b xs _) (xv_b xs _) iA
  refine g_callSW (n := 4) (As := [.ref o, .int (iI (xv xs (i + 1))), .int (iI (xv xs (i + 2))), .ref oc]) (w0 := wC E o ad bd oc T H f) (w1 := wC E o ad bd oc T2 H2 f2) (rv := some (.int (iI t))) (wB E am sd ed M S K) C hX hNc hW wd540 wd0 ⟨by decide, by decide⟩ (by decide +kernel) wd539 wd538 rfl rfl (Nat.le_of_ble_eq_true rfl) ⟨Nat.le_of_ble_eq_true rfl, Nat.le_of_ble_eq_true rfl⟩ ⟨by show kc + 1 ≤ 669734; omega, by show ks + 6 ≤ 7086902; omega⟩ rfl dL_law_314 rfl ?_
  refine g_istore C dL_law_317 rfl (by decide) rfl ?_
  refine g_aload_n C dL_law_319 rfl 3 rfl ?_
  refine g_arg (k := 1) C hXs hbl hbA 5 1 rfl rfl (by omega) (by omega) dL_law_320 dL_law_321 dL_law_323 dL_law_324 dL_law_325 rfl ?_
  refine g_arg (k := 2) C hXs hbl hbA 5 1 rfl rfl (by omega) (by omega) dL_law_326 dL_law_327 dL_law_329 dL_law_330 dL_law_331 rfl ?_
  refine g_perm (ws1 := wB E am sd ed M S K ++ wC E o ad bd oc T2 H2 f2) List.perm_append_comm ?_
  refine g_callV (As := [.int (iI (xv xs (i + 1))), .int (iI (xv xs (i + 2)))]) (w0 := wb) (w1 := wb2) (rv := some (.int (iI b9))) C (wr ++ wC E o ad bd oc T2 H2 f2) hM mX11_setRiver iX11_setRiver wd999 0 10 e3 rfl rfl rfl rfl (Nat.le_of_ble_eq_true rfl) ⟨Nat.le_of_ble_eq_true rfl, Nat.le_of_ble_eq_true rfl⟩ ⟨by show kc + 1 + r_X11_setRiver.cells ≤ 669734; exact Nat.le_trans (Nat.add_le_add_left (show r_X11_setRiver.cells ≤ 10 from Nat.le_of_ble_eq_true rfl) _) (by omega), by show ks + 6 + r_X11_setRiver.slots ≤ 7086902; exact Nat.le_trans (Nat.add_le_add_left (show r_X11_setRiver.slots ≤ 100 from Nat.le_of_ble_eq_true rfl) _) (by omega)⟩ (by rw [e1, List.append_assoc]) dL_law_332 rfl ?_
  refine g_istore C dL_law_335 rfl (by decide) rfl ?_
  refine g_ws (ws1 := wB E am sd ed M2 S2 K2 ++ wC E o ad bd oc T2 H2 f2) (by rw [e2, List.append_assoc]) ?_
  refine g_widen (kc' := kc + 500) (ks' := ks + 3000) (by show kc + 1 + r_X11_setRiver.cells ≤ kc + 500; exact Nat.le_trans (Nat.add_le_add_left (show r_X11_setRiver.cells ≤ 10 from Nat.le_of_ble_eq_true rfl) _) (by omega)) (by show ks + 6 + r_X11_setRiver.slots ≤ ks + 3000; exact Nat.le_trans (Nat.add_le_add_left (show r_X11_setRiver.slots ≤ 100 from Nat.le_of_ble_eq_true rfl) _) (by omega)) ?_
  refine g_to (lv1 := (6, .int (iI b9)) :: (5, .int (iI t)) :: lvL i oc (am 0) o b) [0, 1, 2, 3, 4, 5, 6] ?_ rfl rfl rfl
  exact g_tail C ⟨by omega, by omega⟩ h0 ht hf dL_law_337 dL_law_338 dL_law_341 dL_law_343 dL_law_348 dL_law_350 dL_law_353 dL_law_354 dL_law_355 dL_law_356 dL_law_358 dL_law_359 dL_law_360 dL_law_365 (by decide) (kk T2 H2 M2 S2 K2 f2 iA2)
set_option maxHeartbeats 4000000 in
set_option maxRecDepth 100000 in
theorem lc_addPump {E : gE} {p : Program} {l : Launch} {e : Env} {s : State} {m : MethodId} {args : Array Value} {below : List Frame} {meth : Method} {c : Code} {A : Nat → Prop} {kc ks : Nat} {Q : State → Prop} {o oc b L : Nat} {xs : Nat → Int32} {ad bd am sd ed : Nat → Nat} {T H M S K : gS} {f : Nat → Int64} {i n9 : Int} {sa : gTx} (hfl : l.stackTraces = false) (C : gC E p s m args meth c cL_law 9 RL (some .boolean) A) (hX : gX sa A s s.heap) (hNc : gNc s) (hXs : va_X b L xs s s.heap) (hbl : b < s.heap.size) (hbA : ¬ A b) (hL : L ≤ 2560) (hi : 0 ≤ i ∧ i + 5 ≤ (L : Int)) (hn : 0 ≤ n9 ∧ n9 ≤ 100000) (hr : kc ≤ 600000 ∧ ks ≤ 6000000) (iA : okA T H M S K n9)
    (kk : ∀ (T2 H2 M2 S2 K2 : gS) (f2 : Nat → Int64), okA T2 H2 M2 S2 K2 (n9 + 36) → gG E p l e room_1 s m args below meth c A 9 (kc + 500) (ks + 3000) Q (wC E o ad bd oc T2 H2 f2 ++ wB E am sd ed M2 S2 K2) 1598 (lvL i oc (am 0) o b) []) : gG E p l e room_1 s m args below meth c A 9 kc ks Q (wC E o ad bd oc T H f ++ wB E am sd ed M S K) 368 (lvL i oc (am 0) o b) [] := by
  refine g_aload_n C dL_law_368 rfl 3 rfl ?_
  refine g_arg (k := 1) C hXs hbl hbA 4 0 rfl rfl (by omega) (by omega) dL_law_369 dL_law_370 dL_law_372 dL_law_373 dL_law_374 rfl ?_
  refine g_arg (k := 2) C hXs hbl hbA 4 0 rfl rfl (by omega) (by omega) dL_law_375 dL_law_376 dL_law_378 dL_law_379 dL_law_380 rfl ?_
  refine g_arg (k := 3) C hXs hbl hbA 4 0 rfl rfl (by omega) (by omega) dL_law_381 dL_law_382 dL_law_384 dL_law_385 dL_law_386 rfl ?_
  refine g_arg (k := 4) C hXs hbl hbA 4 0 rfl rfl (by omega) (by omega) dL_law_387 dL_law_388 dL_law_390 dL_law_391 dL_law_392 rfl ?_
  refine g_aload_n C dL_law_393 rfl 1 rfl ?_
  obtain ⟨t, b9, T2, H2, f2, M2, S2, K2, wb, wb2, wr, fs, hW, hM, e1, e2, e3, iA2, h0, ht, hf, hp⟩ := q_addPump l E sa hfl o oc ad bd am sd ed T H f M S K n9 (by omega) (xv xs (i + 1)) (xv xs (i + 2)) (xv xs (i + 3)) (xv xs (i + 4)) (xv_b xs _) (xv_b xs _) (xv_b xs _) (xv_b xs _) iA
  refine g_callSW (n := 6) (As := [.ref o, .int (iI (xv xs (i + 1))), .int (iI (xv xs (i + 2))), .int (iI (xv xs (i + 3))), .int (iI (xv xs (i + 4))), .ref oc]) (w0 := wC E o ad bd oc T H f) (w1 := wC E o ad bd oc T2 H2 f2) (rv := some (.int (iI t))) (wB E am sd ed M S K) C hX hNc hW wd547 wd0 ⟨by decide, by decide⟩ (by decide +kernel) wd546 wd545 rfl rfl (Nat.le_of_ble_eq_true rfl) ⟨Nat.le_of_ble_eq_true rfl, Nat.le_of_ble_eq_true rfl⟩ ⟨by show kc + 1 ≤ 669734; omega, by show ks + 6 ≤ 7086902; omega⟩ rfl dL_law_394 rfl ?_
  refine g_istore C dL_law_397 rfl (by decide) rfl ?_
  refine g_aload_n C dL_law_399 rfl 3 rfl ?_
  refine g_arg (k := 1) C hXs hbl hbA 5 1 rfl rfl (by omega) (by omega) dL_law_400 dL_law_401 dL_law_403 dL_law_404 dL_law_405 rfl ?_
  refine g_arg (k := 2) C hXs hbl hbA 5 1 rfl rfl (by omega) (by omega) dL_law_406 dL_law_407 dL_law_409 dL_law_410 dL_law_411 rfl ?_
  refine g_arg (k := 3) C hXs hbl hbA 5 1 rfl rfl (by omega) (by omega) dL_law_412 dL_law_413 dL_law_415 dL_law_416 dL_law_417 rfl ?_
  refine g_arg (k := 4) C hXs hbl hbA 5 1 rfl rfl (by omega) (by omega) dL_law_418 dL_law_419 dL_law_421 dL_law_422 dL_law_423 rfl ?_
  refine g_perm (ws1 := wB E am sd ed M S K ++ wC E o ad bd oc T2 H2 f2) List.perm_append_comm ?_
  refine g_callV (As := [.int (iI (xv xs (i + 1))), .int (iI (xv xs (i + 2))), .int (iI (xv xs (i + 3))), .int (iI (xv xs (i + 4)))]) (w0 := wb) (w1 := wb2) (rv := some (.int (iI b9))) C (wr ++ wC E o ad bd oc T2 H2 f2) hM mX11_addPump iX11_addPump wd1003 0 10 e3 rfl rfl rfl rfl (Nat.le_of_ble_eq_true rfl) ⟨Nat.le_of_ble_eq_true rfl, Nat.le_of_ble_eq_true rfl⟩ ⟨by show kc + 1 + r_X11_addPump.cells ≤ 669734; exact Nat.le_trans (Nat.add_le_add_left (show r_X11_addPump.cells ≤ 10 from Nat.le_of_ble_eq_true rfl) _) (by omega), by show ks + 6 + r_X11_addPump.slots ≤ 7086902; exact Nat.le_trans (Nat.add_le_add_left (show r_X11_addPump.slots ≤ 100 from Nat.le_of_ble_eq_true rfl) _) (by omega)⟩ (by rw [e1, List.append_assoc]) dL_law_424 rfl ?_
  refine g_istore C dL_law_427 rfl (by decide) rfl ?_
  refine g_ws (ws1 := wB E am sd ed M2 S2 K2 ++ wC E o ad bd oc T2 H2 f2) (by rw [e2, List.append_assoc]) ?_
  refine g_widen (kc' := kc + 500) (ks' := ks + 3000) (by show kc + 1 + r_X11_addPump.cells ≤ kc + 500; exact Nat.le_trans (Nat.add_le_add_left (show r_X11_addPump.cells ≤ 10 from Nat.le_of_ble_eq_true rfl) _) (by omega)) (by show ks + 6 + r_X11_addPump.slots ≤ ks + 3000; exact Nat.le_trans (Nat.add_le_add_left (show r_X11_addPump.slots ≤ 100 from Nat.le_of_ble_eq_true rfl) _) (by omega)) ?_
  refine g_to (lv1 := (6, .int (iI b9)) :: (5, .int (iI t)) :: lvL i oc (am 0) o b) [0, 1, 2, 3, 4, 5, 6] ?_ rfl rfl rfl
  exact g_tail C ⟨by omega, by omega⟩ h0 ht hf dL_law_429 dL_law_430 dL_law_433 dL_law_435 dL_law_440 dL_law_442 dL_law_445 dL_law_446 dL_law_447 dL_law_448 dL_law_450 dL_law_451 dL_law_452 dL_law_457 (by decide) (kk T2 H2 M2 S2 K2 f2 iA2)
set_option maxHeartbeats 4000000 in
set_option maxRecDepth 100000 in
theorem lc_run {E : gE} {p : Program} {l : Launch} {e : Env} {s : State} {m : MethodId} {args : Array Value} {below : List Frame} {meth : Method} {c : Code} {A : Nat → Prop} {kc ks : Nat} {Q : State → Prop} {o oc b L : Nat} {xs : Nat → Int32} {ad bd am sd ed : Nat → Nat} {T H M S K : gS} {f : Nat → Int64} {i n9 : Int} {sa : gTx} (hfl : l.stackTraces = false) (C : gC E p s m args meth c cL_law 9 RL (some .boolean) A) (hX : gX sa A s s.heap) (hNc : gNc s) (hXs : va_X b L xs s s.heap) (hbl : b < s.heap.size) (hbA : ¬ A b) (hL : L ≤ 2560) (hi : 0 ≤ i ∧ i + 5 ≤ (L : Int)) (hn : 0 ≤ n9 ∧ n9 ≤ 100000) (hr : kc ≤ 600000 ∧ ks ≤ 6000000) (iA : okA T H M S K n9)
    (kk : ∀ (T2 H2 M2 S2 K2 : gS) (f2 : Nat → Int64), okA T2 H2 M2 S2 K2 (n9 + 36) → gG E p l e room_1 s m args below meth c A 9 (kc + 500) (ks + 3000) Q (wC E o ad bd oc T2 H2 f2 ++ wB E am sd ed M2 S2 K2) 1598 (lvL i oc (am 0) o b) []) : gG E p l e room_1 s m args below meth c A 9 kc ks Q (wC E o ad bd oc T H f ++ wB E am sd ed M S K) 460 (lvL i oc (am 0) o b) [] := by
  refine g_aload_n C dL_law_460 rfl 3 rfl ?_
  refine g_arg (k := 1) C hXs hbl hbA 4 0 rfl rfl (by omega) (by omega) dL_law_461 dL_law_462 dL_law_464 dL_law_465 dL_law_466 rfl ?_
  refine g_aload_n C dL_law_467 rfl 1 rfl ?_
  obtain ⟨t, b9, T2, H2, f2, M2, S2, K2, wb, wb2, wr, fs, hW, hM, e1, e2, e3, iA2, h0, ht, hf, hp⟩ := q_run l E sa hfl o oc ad bd am sd ed T H f M S K n9 (by omega) (xv xs (i + 1)) (xv_b xs _) iA
  refine g_callSW (n := 3) (As := [.ref o, .int (iI (xv xs (i + 1))), .ref oc]) (w0 := wC E o ad bd oc T H f) (w1 := wC E o ad bd oc T2 H2 f2) (rv := some (.int (iI t))) (wB E am sd ed M S K) C hX hNc hW wd582 wd0 ⟨by decide, by decide⟩ (by decide +kernel) wd581 wd580 rfl rfl (Nat.le_of_ble_eq_true rfl) ⟨Nat.le_of_ble_eq_true rfl, Nat.le_of_ble_eq_true rfl⟩ ⟨by show kc + 1 ≤ 669734; omega, by show ks + 6 ≤ 7086902; omega⟩ rfl dL_law_468 rfl ?_
  refine g_istore C dL_law_471 rfl (by decide) rfl ?_
  refine g_aload_n C dL_law_473 rfl 3 rfl ?_
  refine g_arg (k := 1) C hXs hbl hbA 5 1 rfl rfl (by omega) (by omega) dL_law_474 dL_law_475 dL_law_477 dL_law_478 dL_law_479 rfl ?_
  refine g_perm (ws1 := wB E am sd ed M S K ++ wC E o ad bd oc T2 H2 f2) List.perm_append_comm ?_
  refine g_callV (As := [.int (iI (xv xs (i + 1)))]) (w0 := wb) (w1 := wb2) (rv := some (.int (iI b9))) C (wr ++ wC E o ad bd oc T2 H2 f2) hM mX11_run iX11_run wd1010 0 10 e3 rfl rfl rfl rfl (Nat.le_of_ble_eq_true rfl) ⟨Nat.le_of_ble_eq_true rfl, Nat.le_of_ble_eq_true rfl⟩ ⟨by show kc + 1 + r_X11_run.cells ≤ 669734; exact Nat.le_trans (Nat.add_le_add_left (show r_X11_run.cells ≤ 10 from Nat.le_of_ble_eq_true rfl) _) (by omega), by show ks + 6 + r_X11_run.slots ≤ 7086902; exact Nat.le_trans (Nat.add_le_add_left (show r_X11_run.slots ≤ 100 from Nat.le_of_ble_eq_true rfl) _) (by omega)⟩ (by rw [e1, List.append_assoc]) dL_law_480 rfl ?_
  refine g_istore C dL_law_483 rfl (by decide) rfl ?_
  refine g_ws (ws1 := wB E am sd ed M2 S2 K2 ++ wC E o ad bd oc T2 H2 f2) (by rw [e2, List.append_assoc]) ?_
  refine g_widen (kc' := kc + 500) (ks' := ks + 3000) (by show kc + 1 + r_X11_run.cells ≤ kc + 500; exact Nat.le_trans (Nat.add_le_add_left (show r_X11_run.cells ≤ 10 from Nat.le_of_ble_eq_true rfl) _) (by omega)) (by show ks + 6 + r_X11_run.slots ≤ ks + 3000; exact Nat.le_trans (Nat.add_le_add_left (show r_X11_run.slots ≤ 100 from Nat.le_of_ble_eq_true rfl) _) (by omega)) ?_
  refine g_to (lv1 := (6, .int (iI b9)) :: (5, .int (iI t)) :: lvL i oc (am 0) o b) [0, 1, 2, 3, 4, 5, 6] ?_ rfl rfl rfl
  exact g_tailZ C ⟨by omega, by omega⟩ h0 ht hf hp (kk T2 H2 M2 S2 K2 f2 iA2)
set_option maxHeartbeats 4000000 in
set_option maxRecDepth 100000 in
theorem lc_addGauge {E : gE} {p : Program} {l : Launch} {e : Env} {s : State} {m : MethodId} {args : Array Value} {below : List Frame} {meth : Method} {c : Code} {A : Nat → Prop} {kc ks : Nat} {Q : State → Prop} {o oc b L : Nat} {xs : Nat → Int32} {ad bd am sd ed : Nat → Nat} {T H M S K : gS} {f : Nat → Int64} {i n9 : Int} {sa : gTx} (hfl : l.stackTraces = false) (C : gC E p s m args meth c cL_law 9 RL (some .boolean) A) (hX : gX sa A s s.heap) (hNc : gNc s) (hXs : va_X b L xs s s.heap) (hbl : b < s.heap.size) (hbA : ¬ A b) (hL : L ≤ 2560) (hi : 0 ≤ i ∧ i + 5 ≤ (L : Int)) (hn : 0 ≤ n9 ∧ n9 ≤ 100000) (hr : kc ≤ 600000 ∧ ks ≤ 6000000) (iA : okA T H M S K n9)
    (kk : ∀ (T2 H2 M2 S2 K2 : gS) (f2 : Nat → Int64), okA T2 H2 M2 S2 K2 (n9 + 36) → gG E p l e room_1 s m args below meth c A 9 (kc + 500) (ks + 3000) Q (wC E o ad bd oc T2 H2 f2 ++ wB E am sd ed M2 S2 K2) 1598 (lvL i oc (am 0) o b) []) : gG E p l e room_1 s m args below meth c A 9 kc ks Q (wC E o ad bd oc T H f ++ wB E am sd ed M S K) 523 (lvL i oc (am 0) o b) [] := by
  refine g_aload_n C dL_law_523 rfl 3 rfl ?_
  refine g_arg (k := 1) C hXs hbl hbA 4 0 rfl rfl (by omega) (by omega) dL_law_524 dL_law_525 dL_law_527 dL_law_528 dL_law_529 rfl ?_
  refine g_arg (k := 2) C hXs hbl hbA 4 0 rfl rfl (by omega) (by omega) dL_law_530 dL_law_531 dL_law_533 dL_law_534 dL_law_535 rfl ?_
  refine g_arg (k := 3) C hXs hbl hbA 4 0 rfl rfl (by omega) (by omega) dL_law_536 dL_law_537 dL_law_539 dL_law_540 dL_law_541 rfl ?_
  refine g_aload_n C dL_law_542 rfl 1 rfl ?_
  obtain ⟨t, b9, T2, H2, f2, M2, S2, K2, wb, wb2, wr, fs, hW, hM, e1, e2, e3, iA2, h0, ht, hf, hp⟩ := q_addGauge l E sa hfl o oc ad bd am sd ed T H f M S K n9 (by omega) (xv xs (i + 1)) (xv xs (i + 2)) (xv xs (i + 3)) (xv_b xs _) (xv_b xs _) (xv_b xs _) iA
  refine g_callSW (n := 5) (As := [.ref o, .int (iI (xv xs (i + 1))), .int (iI (xv xs (i + 2))), .int (iI (xv xs (i + 3))), .ref oc]) (w0 := wC E o ad bd oc T H f) (w1 := wC E o ad bd oc T2 H2 f2) (rv := some (.int (iI t))) (wB E am sd ed M S K) C hX hNc hW wd595 wd0 ⟨by decide, by decide⟩ (by decide +kernel) wd594 wd593 rfl rfl (Nat.le_of_ble_eq_true rfl) ⟨Nat.le_of_ble_eq_true rfl, Nat.le_of_ble_eq_true rfl⟩ ⟨by show kc + 1 ≤ 669734; omega, by show ks + 6 ≤ 7086902; omega⟩ rfl dL_law_543 rfl ?_
  refine g_istore C dL_law_546 rfl (by decide) rfl ?_
  refine g_aload_n C dL_law_548 rfl 3 rfl ?_
  refine g_arg (k := 1) C hXs hbl hbA 5 1 rfl rfl (by omega) (by omega) dL_law_549 dL_law_550 dL_law_552 dL_law_553 dL_law_554 rfl ?_
  refine g_arg (k := 2) C hXs hbl hbA 5 1 rfl rfl (by omega) (by omega) dL_law_555 dL_law_556 dL_law_558 dL_law_559 dL_law_560 rfl ?_
  refine g_arg (k := 3) C hXs hbl hbA 5 1 rfl rfl (by omega) (by omega) dL_law_561 dL_law_562 dL_law_564 dL_law_565 dL_law_566 rfl ?_
  refine g_perm (ws1 := wB E am sd ed M S K ++ wC E o ad bd oc T2 H2 f2) List.perm_append_comm ?_
  refine g_callV (As := [.int (iI (xv xs (i + 1))), .int (iI (xv xs (i + 2))), .int (iI (xv xs (i + 3)))]) (w0 := wb) (w1 := wb2) (rv := some (.int (iI b9))) C (wr ++ wC E o ad bd oc T2 H2 f2) hM mX11_addGauge iX11_addGauge wd1014 0 10 e3 rfl rfl rfl rfl (Nat.le_of_ble_eq_true rfl) ⟨Nat.le_of_ble_eq_true rfl, Nat.le_of_ble_eq_true rfl⟩ ⟨by show kc + 1 + r_X11_addGauge.cells ≤ 669734; exact Nat.le_trans (Nat.add_le_add_left (show r_X11_addGauge.cells ≤ 10 from Nat.le_of_ble_eq_true rfl) _) (by omega), by show ks + 6 + r_X11_addGauge.slots ≤ 7086902; exact Nat.le_trans (Nat.add_le_add_left (show r_X11_addGauge.slots ≤ 100 from Nat.le_of_ble_eq_true rfl) _) (by omega)⟩ (by rw [e1, List.append_assoc]) dL_law_567 rfl ?_
  refine g_istore C dL_law_570 rfl (by decide) rfl ?_
  refine g_ws (ws1 := wB E am sd ed M2 S2 K2 ++ wC E o ad bd oc T2 H2 f2) (by rw [e2, List.append_assoc]) ?_
  refine g_widen (kc' := kc + 500) (ks' := ks + 3000) (by show kc + 1 + r_X11_addGauge.cells ≤ kc + 500; exact Nat.le_trans (Nat.add_le_add_left (show r_X11_addGauge.cells ≤ 10 from Nat.le_of_ble_eq_true rfl) _) (by omega)) (by show ks + 6 + r_X11_addGauge.slots ≤ ks + 3000; exact Nat.le_trans (Nat.add_le_add_left (show r_X11_addGauge.slots ≤ 100 from Nat.le_of_ble_eq_true rfl) _) (by omega)) ?_
  refine g_to (lv1 := (6, .int (iI b9)) :: (5, .int (iI t)) :: lvL i oc (am 0) o b) [0, 1, 2, 3, 4, 5, 6] ?_ rfl rfl rfl
  exact g_tail C ⟨by omega, by omega⟩ h0 ht hf dL_law_572 dL_law_573 dL_law_576 dL_law_578 dL_law_583 dL_law_585 dL_law_588 dL_law_589 dL_law_590 dL_law_591 dL_law_593 dL_law_594 dL_law_595 dL_law_600 (by decide) (kk T2 H2 M2 S2 K2 f2 iA2)
set_option maxHeartbeats 4000000 in
set_option maxRecDepth 100000 in
theorem lc_addRefuge {E : gE} {p : Program} {l : Launch} {e : Env} {s : State} {m : MethodId} {args : Array Value} {below : List Frame} {meth : Method} {c : Code} {A : Nat → Prop} {kc ks : Nat} {Q : State → Prop} {o oc b L : Nat} {xs : Nat → Int32} {ad bd am sd ed : Nat → Nat} {T H M S K : gS} {f : Nat → Int64} {i n9 : Int} {sa : gTx} (hfl : l.stackTraces = false) (C : gC E p s m args meth c cL_law 9 RL (some .boolean) A) (hX : gX sa A s s.heap) (hNc : gNc s) (hXs : va_X b L xs s s.heap) (hbl : b < s.heap.size) (hbA : ¬ A b) (hL : L ≤ 2560) (hi : 0 ≤ i ∧ i + 5 ≤ (L : Int)) (hn : 0 ≤ n9 ∧ n9 ≤ 100000) (hr : kc ≤ 600000 ∧ ks ≤ 6000000) (iA : okA T H M S K n9)
    (kk : ∀ (T2 H2 M2 S2 K2 : gS) (f2 : Nat → Int64), okA T2 H2 M2 S2 K2 (n9 + 36) → gG E p l e room_1 s m args below meth c A 9 (kc + 500) (ks + 3000) Q (wC E o ad bd oc T2 H2 f2 ++ wB E am sd ed M2 S2 K2) 1598 (lvL i oc (am 0) o b) []) : gG E p l e room_1 s m args below meth c A 9 kc ks Q (wC E o ad bd oc T H f ++ wB E am sd ed M S K) 603 (lvL i oc (am 0) o b) [] := by
  refine g_aload_n C dL_law_603 rfl 3 rfl ?_
  refine g_arg (k := 1) C hXs hbl hbA 4 0 rfl rfl (by omega) (by omega) dL_law_604 dL_law_605 dL_law_607 dL_law_608 dL_law_609 rfl ?_
  refine g_arg (k := 2) C hXs hbl hbA 4 0 rfl rfl (by omega) (by omega) dL_law_610 dL_law_611 dL_law_613 dL_law_614 dL_law_615 rfl ?_
  refine g_arg (k := 3) C hXs hbl hbA 4 0 rfl rfl (by omega) (by omega) dL_law_616 dL_law_617 dL_law_619 dL_law_620 dL_law_621 rfl ?_
  refine g_aload_n C dL_law_622 rfl 1 rfl ?_
  obtain ⟨t, b9, T2, H2, f2, M2, S2, K2, wb, wb2, wr, fs, hW, hM, e1, e2, e3, iA2, h0, ht, hf, hp⟩ := q_addRefuge l E sa hfl o oc ad bd am sd ed T H f M S K n9 (by omega) (xv xs (i + 1)) (xv xs (i + 2)) (xv xs (i + 3)) (xv_b xs _) (xv_b xs _) (xv_b xs _) iA
  refine g_callSW (n := 5) (As := [.ref o, .int (iI (xv xs (i + 1))), .int (iI (xv xs (i + 2))), .int (iI (xv xs (i + 3))), .ref oc]) (w0 := wC E o ad bd oc T H f) (w1 := wC E o ad bd oc T2 H2 f2) (rv := some (.int (iI t))) (wB E am sd ed M S K) C hX hNc hW wd609 wd0 ⟨by decide, by decide⟩ (by decide +kernel) wd608 wd607 rfl rfl (Nat.le_of_ble_eq_true rfl) ⟨Nat.le_of_ble_eq_true rfl, Nat.le_of_ble_eq_true rfl⟩ ⟨by show kc + 1 ≤ 669734; omega, by show ks + 6 ≤ 7086902; omega⟩ rfl dL_law_623 rfl ?_
  refine g_istore C dL_law_626 rfl (by decide) rfl ?_
  refine g_aload_n C dL_law_628 rfl 3 rfl ?_
  refine g_arg (k := 1) C hXs hbl hbA 5 1 rfl rfl (by omega) (by omega) dL_law_629 dL_law_630 dL_law_632 dL_law_633 dL_law_634 rfl ?_
  refine g_arg (k := 2) C hXs hbl hbA 5 1 rfl rfl (by omega) (by omega) dL_law_635 dL_law_636 dL_law_638 dL_law_639 dL_law_640 rfl ?_
  refine g_arg (k := 3) C hXs hbl hbA 5 1 rfl rfl (by omega) (by omega) dL_law_641 dL_law_642 dL_law_644 dL_law_645 dL_law_646 rfl ?_
  refine g_perm (ws1 := wB E am sd ed M S K ++ wC E o ad bd oc T2 H2 f2) List.perm_append_comm ?_
  refine g_callV (As := [.int (iI (xv xs (i + 1))), .int (iI (xv xs (i + 2))), .int (iI (xv xs (i + 3)))]) (w0 := wb) (w1 := wb2) (rv := some (.int (iI b9))) C (wr ++ wC E o ad bd oc T2 H2 f2) hM mX11_addRefuge iX11_addRefuge wd1018 0 10 e3 rfl rfl rfl rfl (Nat.le_of_ble_eq_true rfl) ⟨Nat.le_of_ble_eq_true rfl, Nat.le_of_ble_eq_true rfl⟩ ⟨by show kc + 1 + r_X11_addRefuge.cells ≤ 669734; exact Nat.le_trans (Nat.add_le_add_left (show r_X11_addRefuge.cells ≤ 10 from Nat.le_of_ble_eq_true rfl) _) (by omega), by show ks + 6 + r_X11_addRefuge.slots ≤ 7086902; exact Nat.le_trans (Nat.add_le_add_left (show r_X11_addRefuge.slots ≤ 100 from Nat.le_of_ble_eq_true rfl) _) (by omega)⟩ (by rw [e1, List.append_assoc]) dL_law_647 rfl ?_
  refine g_istore C dL_law_650 rfl (by decide) rfl ?_
  refine g_ws (ws1 := wB E am sd ed M2 S2 K2 ++ wC E o ad bd oc T2 H2 f2) (by rw [e2, List.append_assoc]) ?_
  refine g_widen (kc' := kc + 500) (ks' := ks + 3000) (by show kc + 1 + r_X11_addRefuge.cells ≤ kc + 500; exact Nat.le_trans (Nat.add_le_add_left (show r_X11_addRefuge.cells ≤ 10 from Nat.le_of_ble_eq_true rfl) _) (by omega)) (by show ks + 6 + r_X11_addRefuge.slots ≤ ks + 3000; exact Nat.le_trans (Nat.add_le_add_left (show r_X11_addRefuge.slots ≤ 100 from Nat.le_of_ble_eq_true rfl) _) (by omega)) ?_
  refine g_to (lv1 := (6, .int (iI b9)) :: (5, .int (iI t)) :: lvL i oc (am 0) o b) [0, 1, 2, 3, 4, 5, 6] ?_ rfl rfl rfl
  exact g_tail C ⟨by omega, by omega⟩ h0 ht hf dL_law_652 dL_law_653 dL_law_656 dL_law_658 dL_law_663 dL_law_665 dL_law_668 dL_law_669 dL_law_670 dL_law_671 dL_law_673 dL_law_674 dL_law_675 dL_law_680 (by decide) (kk T2 H2 M2 S2 K2 f2 iA2)
set_option maxHeartbeats 4000000 in
set_option maxRecDepth 100000 in
theorem lc_settle {E : gE} {p : Program} {l : Launch} {e : Env} {s : State} {m : MethodId} {args : Array Value} {below : List Frame} {meth : Method} {c : Code} {A : Nat → Prop} {kc ks : Nat} {Q : State → Prop} {o oc b L : Nat} {xs : Nat → Int32} {ad bd am sd ed : Nat → Nat} {T H M S K : gS} {f : Nat → Int64} {i n9 : Int} {sa : gTx} (hfl : l.stackTraces = false) (C : gC E p s m args meth c cL_law 9 RL (some .boolean) A) (hX : gX sa A s s.heap) (hNc : gNc s) (hXs : va_X b L xs s s.heap) (hbl : b < s.heap.size) (hbA : ¬ A b) (hL : L ≤ 2560) (hi : 0 ≤ i ∧ i + 5 ≤ (L : Int)) (hn : 0 ≤ n9 ∧ n9 ≤ 100000) (hr : kc ≤ 600000 ∧ ks ≤ 6000000) (iA : okA T H M S K n9)
    (kk : ∀ (T2 H2 M2 S2 K2 : gS) (f2 : Nat → Int64), okA T2 H2 M2 S2 K2 (n9 + 36) → gG E p l e room_1 s m args below meth c A 9 (kc + 500) (ks + 3000) Q (wC E o ad bd oc T2 H2 f2 ++ wB E am sd ed M2 S2 K2) 1598 (lvL i oc (am 0) o b) []) : gG E p l e room_1 s m args below meth c A 9 kc ks Q (wC E o ad bd oc T H f ++ wB E am sd ed M S K) 683 (lvL i oc (am 0) o b) [] := by
  refine g_aload_n C dL_law_683 rfl 3 rfl ?_
  refine g_arg (k := 1) C hXs hbl hbA 4 0 rfl rfl (by omega) (by omega) dL_law_684 dL_law_685 dL_law_687 dL_law_688 dL_law_689 rfl ?_
  refine g_arg (k := 2) C hXs hbl hbA 4 0 rfl rfl (by omega) (by omega) dL_law_690 dL_law_691 dL_law_693 dL_law_694 dL_law_695 rfl ?_
  refine g_arg (k := 3) C hXs hbl hbA 4 0 rfl rfl (by omega) (by omega) dL_law_696 dL_law_697 dL_law_699 dL_law_700 dL_law_701 rfl ?_
  refine g_aload_n C dL_law_702 rfl 1 rfl ?_
  obtain ⟨t, b9, T2, H2, f2, M2, S2, K2, wb, wb2, wr, fs, hW, hM, e1, e2, e3, iA2, h0, ht, hf, hp⟩ := q_settle l E sa hfl o oc ad bd am sd ed T H f M S K n9 (by omega) (xv xs (i + 1)) (xv xs (i + 2)) (xv xs (i + 3)) (xv_b xs _) (xv_b xs _) (xv_b xs _) iA
  refine g_callSW (n := 5) (As := [.ref o, .int (iI (xv xs (i + 1))), .int (iI (xv xs (i + 2))), .int (iI (xv xs (i + 3))), .ref oc]) (w0 := wC E o ad bd oc T H f) (w1 := wC E o ad bd oc T2 H2 f2) (rv := some (.int (iI t))) (wB E am sd ed M S K) C hX hNc hW wd623 wd0 ⟨by decide, by decide⟩ (by decide +kernel) wd622 wd621 rfl rfl (Nat.le_of_ble_eq_true rfl) ⟨Nat.le_of_ble_eq_true rfl, Nat.le_of_ble_eq_true rfl⟩ ⟨by show kc + 1 ≤ 669734; omega, by show ks + 6 ≤ 7086902; omega⟩ rfl dL_law_703 rfl ?_
  refine g_istore C dL_law_706 rfl (by decide) rfl ?_
  refine g_aload_n C dL_law_708 rfl 3 rfl ?_
  refine g_arg (k := 1) C hXs hbl hbA 5 1 rfl rfl (by omega) (by omega) dL_law_709 dL_law_710 dL_law_712 dL_law_713 dL_law_714 rfl ?_
  refine g_arg (k := 2) C hXs hbl hbA 5 1 rfl rfl (by omega) (by omega) dL_law_715 dL_law_716 dL_law_718 dL_law_719 dL_law_720 rfl ?_
  refine g_arg (k := 3) C hXs hbl hbA 5 1 rfl rfl (by omega) (by omega) dL_law_721 dL_law_722 dL_law_724 dL_law_725 dL_law_726 rfl ?_
  refine g_perm (ws1 := wB E am sd ed M S K ++ wC E o ad bd oc T2 H2 f2) List.perm_append_comm ?_
  refine g_callV (As := [.int (iI (xv xs (i + 1))), .int (iI (xv xs (i + 2))), .int (iI (xv xs (i + 3)))]) (w0 := wb) (w1 := wb2) (rv := some (.int (iI b9))) C (wr ++ wC E o ad bd oc T2 H2 f2) hM mX11_settle iX11_settle wd1022 0 10 e3 rfl rfl rfl rfl (Nat.le_of_ble_eq_true rfl) ⟨Nat.le_of_ble_eq_true rfl, Nat.le_of_ble_eq_true rfl⟩ ⟨by show kc + 1 + r_X11_settle.cells ≤ 669734; exact Nat.le_trans (Nat.add_le_add_left (show r_X11_settle.cells ≤ 10 from Nat.le_of_ble_eq_true rfl) _) (by omega), by show ks + 6 + r_X11_settle.slots ≤ 7086902; exact Nat.le_trans (Nat.add_le_add_left (show r_X11_settle.slots ≤ 100 from Nat.le_of_ble_eq_true rfl) _) (by omega)⟩ (by rw [e1, List.append_assoc]) dL_law_727 rfl ?_
  refine g_istore C dL_law_730 rfl (by decide) rfl ?_
  refine g_ws (ws1 := wB E am sd ed M2 S2 K2 ++ wC E o ad bd oc T2 H2 f2) (by rw [e2, List.append_assoc]) ?_
  refine g_widen (kc' := kc + 500) (ks' := ks + 3000) (by show kc + 1 + r_X11_settle.cells ≤ kc + 500; exact Nat.le_trans (Nat.add_le_add_left (show r_X11_settle.cells ≤ 10 from Nat.le_of_ble_eq_true rfl) _) (by omega)) (by show ks + 6 + r_X11_settle.slots ≤ ks + 3000; exact Nat.le_trans (Nat.add_le_add_left (show r_X11_settle.slots ≤ 100 from Nat.le_of_ble_eq_true rfl) _) (by omega)) ?_
  refine g_to (lv1 := (6, .int (iI b9)) :: (5, .int (iI t)) :: lvL i oc (am 0) o b) [0, 1, 2, 3, 4, 5, 6] ?_ rfl rfl rfl
  exact g_tail C ⟨by omega, by omega⟩ h0 ht hf dL_law_732 dL_law_733 dL_law_736 dL_law_738 dL_law_743 dL_law_745 dL_law_748 dL_law_749 dL_law_750 dL_law_751 dL_law_753 dL_law_754 dL_law_755 dL_law_760 (by decide) (kk T2 H2 M2 S2 K2 f2 iA2)
set_option maxHeartbeats 4000000 in
set_option maxRecDepth 100000 in
theorem lc_addCaller {E : gE} {p : Program} {l : Launch} {e : Env} {s : State} {m : MethodId} {args : Array Value} {below : List Frame} {meth : Method} {c : Code} {A : Nat → Prop} {kc ks : Nat} {Q : State → Prop} {o oc b L : Nat} {xs : Nat → Int32} {ad bd am sd ed : Nat → Nat} {T H M S K : gS} {f : Nat → Int64} {i n9 : Int} {sa : gTx} (hfl : l.stackTraces = false) (C : gC E p s m args meth c cL_law 9 RL (some .boolean) A) (hX : gX sa A s s.heap) (hNc : gNc s) (hXs : va_X b L xs s s.heap) (hbl : b < s.heap.size) (hbA : ¬ A b) (hL : L ≤ 2560) (hi : 0 ≤ i ∧ i + 5 ≤ (L : Int)) (hn : 0 ≤ n9 ∧ n9 ≤ 100000) (hr : kc ≤ 600000 ∧ ks ≤ 6000000) (iA : okA T H M S K n9)
    (kk : ∀ (T2 H2 M2 S2 K2 : gS) (f2 : Nat → Int64), okA T2 H2 M2 S2 K2 (n9 + 36) → gG E p l e room_1 s m args below meth c A 9 (kc + 500) (ks + 3000) Q (wC E o ad bd oc T2 H2 f2 ++ wB E am sd ed M2 S2 K2) 1598 (lvL i oc (am 0) o b) []) : gG E p l e room_1 s m args below meth c A 9 kc ks Q (wC E o ad bd oc T H f ++ wB E am sd ed M S K) 763 (lvL i oc (am 0) o b) [] := by
  refine g_aload_n C dL_law_763 rfl 3 rfl ?_
  refine g_arg (k := 1) C hXs hbl hbA 4 0 rfl rfl (by omega) (by omega) dL_law_764 dL_law_765 dL_law_767 dL_law_768 dL_law_769 rfl ?_
  refine g_arg (k := 2) C hXs hbl hbA 4 0 rfl rfl (by omega) (by omega) dL_law_770 dL_law_771 dL_law_773 dL_law_774 dL_law_775 rfl ?_
  refine g_aload_n C dL_law_776 rfl 1 rfl ?_
  obtain ⟨t, b9, T2, H2, f2, M2, S2, K2, wb, wb2, wr, fs, hW, hM, e1, e2, e3, iA2, h0, ht, hf, hp⟩ := q_addCaller l E sa hfl o oc ad bd am sd ed T H f M S K n9 (by omega) (xv xs (i + 1)) (xv xs (i + 2)) (xv_b xs _) (xv_b xs _) iA
  refine g_callSW (n := 4) (As := [.ref o, .int (iI (xv xs (i + 1))), .int (iI (xv xs (i + 2))), .ref oc]) (w0 := wC E o ad bd oc T H f) (w1 := wC E o ad bd oc T2 H2 f2) (rv := some (.int (iI t))) (wB E am sd ed M S K) C hX hNc hW wd638 wd0 ⟨by decide, by decide⟩ (by decide +kernel) wd637 wd636 rfl rfl (Nat.le_of_ble_eq_true rfl) ⟨Nat.le_of_ble_eq_true rfl, Nat.le_of_ble_eq_true rfl⟩ ⟨by show kc + 1 ≤ 669734; omega, by show ks + 6 ≤ 7086902; omega⟩ rfl dL_law_777 rfl ?_
  refine g_istore C dL_law_780 rfl (by decide) rfl ?_
  refine g_aload_n C dL_law_782 rfl 3 rfl ?_
  refine g_arg (k := 1) C hXs hbl hbA 5 1 rfl rfl (by omega) (by omega) dL_law_783 dL_law_784 dL_law_786 dL_law_787 dL_law_788 rfl ?_
  refine g_arg (k := 2) C hXs hbl hbA 5 1 rfl rfl (by omega) (by omega) dL_law_789 dL_law_790 dL_law_792 dL_law_793 dL_law_794 rfl ?_
  refine g_perm (ws1 := wB E am sd ed M S K ++ wC E o ad bd oc T2 H2 f2) List.perm_append_comm ?_
  refine g_callV (As := [.int (iI (xv xs (i + 1))), .int (iI (xv xs (i + 2)))]) (w0 := wb) (w1 := wb2) (rv := some (.int (iI b9))) C (wr ++ wC E o ad bd oc T2 H2 f2) hM mX11_addCaller iX11_addCaller wd1026 0 10 e3 rfl rfl rfl rfl (Nat.le_of_ble_eq_true rfl) ⟨Nat.le_of_ble_eq_true rfl, Nat.le_of_ble_eq_true rfl⟩ ⟨by show kc + 1 + r_X11_addCaller.cells ≤ 669734; exact Nat.le_trans (Nat.add_le_add_left (show r_X11_addCaller.cells ≤ 10 from Nat.le_of_ble_eq_true rfl) _) (by omega), by show ks + 6 + r_X11_addCaller.slots ≤ 7086902; exact Nat.le_trans (Nat.add_le_add_left (show r_X11_addCaller.slots ≤ 100 from Nat.le_of_ble_eq_true rfl) _) (by omega)⟩ (by rw [e1, List.append_assoc]) dL_law_795 rfl ?_
  refine g_istore C dL_law_798 rfl (by decide) rfl ?_
  refine g_ws (ws1 := wB E am sd ed M2 S2 K2 ++ wC E o ad bd oc T2 H2 f2) (by rw [e2, List.append_assoc]) ?_
  refine g_widen (kc' := kc + 500) (ks' := ks + 3000) (by show kc + 1 + r_X11_addCaller.cells ≤ kc + 500; exact Nat.le_trans (Nat.add_le_add_left (show r_X11_addCaller.cells ≤ 10 from Nat.le_of_ble_eq_true rfl) _) (by omega)) (by show ks + 6 + r_X11_addCaller.slots ≤ ks + 3000; exact Nat.le_trans (Nat.add_le_add_left (show r_X11_addCaller.slots ≤ 100 from Nat.le_of_ble_eq_true rfl) _) (by omega)) ?_
  refine g_to (lv1 := (6, .int (iI b9)) :: (5, .int (iI t)) :: lvL i oc (am 0) o b) [0, 1, 2, 3, 4, 5, 6] ?_ rfl rfl rfl
  exact g_tail C ⟨by omega, by omega⟩ h0 ht hf dL_law_800 dL_law_801 dL_law_804 dL_law_806 dL_law_811 dL_law_813 dL_law_816 dL_law_817 dL_law_818 dL_law_819 dL_law_821 dL_law_822 dL_law_823 dL_law_828 (by decide) (kk T2 H2 M2 S2 K2 f2 iA2)
set_option maxHeartbeats 4000000 in
set_option maxRecDepth 100000 in
theorem lc_cell {E : gE} {p : Program} {l : Launch} {e : Env} {s : State} {m : MethodId} {args : Array Value} {below : List Frame} {meth : Method} {c : Code} {A : Nat → Prop} {kc ks : Nat} {Q : State → Prop} {o oc b L : Nat} {xs : Nat → Int32} {ad bd am sd ed : Nat → Nat} {T H M S K : gS} {f : Nat → Int64} {i n9 : Int} {sa : gTx} (hfl : l.stackTraces = false) (C : gC E p s m args meth c cL_law 9 RL (some .boolean) A) (hX : gX sa A s s.heap) (hNc : gNc s) (hXs : va_X b L xs s s.heap) (hbl : b < s.heap.size) (hbA : ¬ A b) (hL : L ≤ 2560) (hi : 0 ≤ i ∧ i + 5 ≤ (L : Int)) (hn : 0 ≤ n9 ∧ n9 ≤ 100000) (hr : kc ≤ 600000 ∧ ks ≤ 6000000) (iA : okA T H M S K n9)
    (kk : ∀ (T2 H2 M2 S2 K2 : gS) (f2 : Nat → Int64), okA T2 H2 M2 S2 K2 (n9 + 36) → gG E p l e room_1 s m args below meth c A 9 (kc + 500) (ks + 3000) Q (wC E o ad bd oc T2 H2 f2 ++ wB E am sd ed M2 S2 K2) 1598 (lvL i oc (am 0) o b) []) : gG E p l e room_1 s m args below meth c A 9 kc ks Q (wC E o ad bd oc T H f ++ wB E am sd ed M S K) 831 (lvL i oc (am 0) o b) [] := by
  refine g_aload_n C dL_law_831 rfl 3 rfl ?_
  refine g_arg (k := 1) C hXs hbl hbA 4 0 rfl rfl (by omega) (by omega) dL_law_832 dL_law_833 dL_law_835 dL_law_836 dL_law_837 rfl ?_
  refine g_arg (k := 2) C hXs hbl hbA 4 0 rfl rfl (by omega) (by omega) dL_law_838 dL_law_839 dL_law_841 dL_law_842 dL_law_843 rfl ?_
  refine g_arg (k := 3) C hXs hbl hbA 4 0 rfl rfl (by omega) (by omega) dL_law_844 dL_law_845 dL_law_847 dL_law_848 dL_law_849 rfl ?_
  refine g_aload_n C dL_law_850 rfl 1 rfl ?_
  obtain ⟨t, b9, T2, H2, f2, M2, S2, K2, wb, wb2, wr, fs, hW, hM, e1, e2, e3, iA2, h0, ht, hf, hp⟩ := q_cell l E sa hfl o oc ad bd am sd ed T H f M S K n9 (by omega) (xv xs (i + 1)) (xv xs (i + 2)) (xv xs (i + 3)) (xv_b xs _) (xv_b xs _) (xv_b xs _) iA
  refine g_callSW (n := 5) (As := [.ref o, .int (iI (xv xs (i + 1))), .int (iI (xv xs (i + 2))), .int (iI (xv xs (i + 3))), .ref oc]) (w0 := wC E o ad bd oc T H f) (w1 := wC E o ad bd oc T2 H2 f2) (rv := some (.int (iI t))) (wB E am sd ed M S K) C hX hNc hW wd652 wd0 ⟨by decide, by decide⟩ (by decide +kernel) wd651 wd650 rfl rfl (Nat.le_of_ble_eq_true rfl) ⟨Nat.le_of_ble_eq_true rfl, Nat.le_of_ble_eq_true rfl⟩ ⟨by show kc + 1 ≤ 669734; omega, by show ks + 6 ≤ 7086902; omega⟩ rfl dL_law_851 rfl ?_
  refine g_istore C dL_law_854 rfl (by decide) rfl ?_
  refine g_aload_n C dL_law_856 rfl 3 rfl ?_
  refine g_arg (k := 1) C hXs hbl hbA 5 1 rfl rfl (by omega) (by omega) dL_law_857 dL_law_858 dL_law_860 dL_law_861 dL_law_862 rfl ?_
  refine g_arg (k := 2) C hXs hbl hbA 5 1 rfl rfl (by omega) (by omega) dL_law_863 dL_law_864 dL_law_866 dL_law_867 dL_law_868 rfl ?_
  refine g_arg (k := 3) C hXs hbl hbA 5 1 rfl rfl (by omega) (by omega) dL_law_869 dL_law_870 dL_law_872 dL_law_873 dL_law_874 rfl ?_
  refine g_perm (ws1 := wB E am sd ed M S K ++ wC E o ad bd oc T2 H2 f2) List.perm_append_comm ?_
  refine g_callV (As := [.int (iI (xv xs (i + 1))), .int (iI (xv xs (i + 2))), .int (iI (xv xs (i + 3)))]) (w0 := wb) (w1 := wb2) (rv := some (.int (iI b9))) C (wr ++ wC E o ad bd oc T2 H2 f2) hM mX11_cell iX11_cell wd1030 0 10 e3 rfl rfl rfl rfl (Nat.le_of_ble_eq_true rfl) ⟨Nat.le_of_ble_eq_true rfl, Nat.le_of_ble_eq_true rfl⟩ ⟨by show kc + 1 + r_X11_cell.cells ≤ 669734; exact Nat.le_trans (Nat.add_le_add_left (show r_X11_cell.cells ≤ 10 from Nat.le_of_ble_eq_true rfl) _) (by omega), by show ks + 6 + r_X11_cell.slots ≤ 7086902; exact Nat.le_trans (Nat.add_le_add_left (show r_X11_cell.slots ≤ 100 from Nat.le_of_ble_eq_true rfl) _) (by omega)⟩ (by rw [e1, List.append_assoc]) dL_law_875 rfl ?_
  refine g_istore C dL_law_878 rfl (by decide) rfl ?_
  refine g_ws (ws1 := wB E am sd ed M2 S2 K2 ++ wC E o ad bd oc T2 H2 f2) (by rw [e2, List.append_assoc]) ?_
  refine g_widen (kc' := kc + 500) (ks' := ks + 3000) (by show kc + 1 + r_X11_cell.cells ≤ kc + 500; exact Nat.le_trans (Nat.add_le_add_left (show r_X11_cell.cells ≤ 10 from Nat.le_of_ble_eq_true rfl) _) (by omega)) (by show ks + 6 + r_X11_cell.slots ≤ ks + 3000; exact Nat.le_trans (Nat.add_le_add_left (show r_X11_cell.slots ≤ 100 from Nat.le_of_ble_eq_true rfl) _) (by omega)) ?_
  refine g_to (lv1 := (6, .int (iI b9)) :: (5, .int (iI t)) :: lvL i oc (am 0) o b) [0, 1, 2, 3, 4, 5, 6] ?_ rfl rfl rfl
  exact g_tail C ⟨by omega, by omega⟩ h0 ht hf dL_law_880 dL_law_881 dL_law_884 dL_law_886 dL_law_891 dL_law_893 dL_law_896 dL_law_897 dL_law_898 dL_law_899 dL_law_901 dL_law_902 dL_law_903 dL_law_908 (by decide) (kk T2 H2 M2 S2 K2 f2 iA2)
