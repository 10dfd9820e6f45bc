/-! rows of long locals with numbers past 3 -/
section GR9
variable {E : gE} {p : Program} {l : Launch} {e : Env} {R : Room} {s : State} {m : MethodId} {args : Array Value} {below : List Frame} {meth : Method} {c : Code} {A : Nat → Prop} {nL kc ks : Nat} {Q : State → Prop} {ws ws' : va_W} {pc pc' : Nat} {lv lv' : List (Nat × Value)} {st : List Value}
variable {cc : ByteArray} {own : String} {ret : Option FieldType}
theorem g_lload (C : gC E p s m args meth c cc nL own ret A) {i : Nat} {x : Int64} (hd : decode cc pc = .ok (.lload i, 2)) (hp : pc + 2 = pc') (j : Nat) (hj : lv[j]? = some (i, .long x)) (kk : gG E p l e R s m args below meth c A nL kc ks Q ws pc' lv (.long x :: st)) : gG E p l e R s m args below meth c A nL kc ks Q ws pc lv st := by
  subst hp
  exact fun H locs ls hP hD hS hl => lv_lload C.1 C.2.1 hd (lv_at hl j hj) (kk H locs ls hP hD hS hl)
theorem g_lstore (C : gC E p s m args meth c cc nL own ret A) {i : Nat} {x : Int64} (hd : decode cc pc = .ok (.lstore i, 2)) (hp : pc + 2 = pc') (hn : i + 1 < nL) (hl : (i, Value.long x) :: lv.filter (fun q => !(q.1 == i) && (!(q.1 == i + 1) && !(q.1 + 1 == i && q.2.category == 2))) = lv') (kk : gG E p l e R s m args below meth c A nL kc ks Q ws pc' lv' st) : gG E p l e R s m args below meth c A nL kc ks Q ws pc lv (.long x :: st) := by
  subst hp
  exact fun H locs ls hP hD hS h => lv_lstore C.1 C.2.1 hd h hn hl (fun ls' h' => kk H locs ls' hP hD hS h')
end GR9
