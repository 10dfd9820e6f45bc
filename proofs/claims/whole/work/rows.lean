section
-- ===== PART A: goes FIRST, ahead of the names: the tables' words, and 'selects' of the private methods out of them =====
/-- a private method of a class that the tables say can be made, by its rows of tables_1 -/
def lw_okq (q : MethodName × Nat) : Prop := (q.1.cls ≠ "java/lang/invoke/MethodHandle" ∧ q.1.cls ≠ "java/lang/invoke/VarHandle") ∧ Cond.instantiable q.1.cls q.2 ∈ tables_1 ∧ Cond.privateMethod q.1 ∈ tables_1 ∧ Cond.instanceMethod q.1 ∈ tables_1
theorem lw_p0 : lw_okq (⟨"FloodWardens", "digestOfTools", "(J)J"⟩, 2) := ⟨⟨by decide +kernel, by decide +kernel⟩, List.mem_of_getElem? (i := 22) (by decide +kernel), List.mem_of_getElem? (i := 311) (by decide +kernel), List.mem_of_getElem? (i := 312) (by decide +kernel)⟩
theorem lw_p1 : lw_okq (⟨"FloodWardens", "digestOfPeople", "(J)J"⟩, 2) := ⟨⟨by decide +kernel, by decide +kernel⟩, List.mem_of_getElem? (i := 22) (by decide +kernel), List.mem_of_getElem? (i := 351) (by decide +kernel), List.mem_of_getElem? (i := 352) (by decide +kernel)⟩
theorem lw_p2 : lw_okq (⟨"java/lang/Throwable", "fillInStackTrace", "(I)Ljava/lang/Throwable;"⟩, 6) := ⟨⟨by decide +kernel, by decide +kernel⟩, List.mem_of_getElem? (i := 459) (by decide +kernel), List.mem_of_getElem? (i := 457) (by decide +kernel), List.mem_of_getElem? (i := 458) (by decide +kernel)⟩
theorem lw_p3 : lw_okq (⟨"FloodWardens", "waterBehind", "(II)I"⟩, 2) := ⟨⟨by decide +kernel, by decide +kernel⟩, List.mem_of_getElem? (i := 22) (by decide +kernel), List.mem_of_getElem? (i := 877) (by decide +kernel), List.mem_of_getElem? (i := 878) (by decide +kernel)⟩
theorem lw_p4 : lw_okq (⟨"FloodWardensModel", "no", "(I)I"⟩, 13) := ⟨⟨by decide +kernel, by decide +kernel⟩, List.mem_of_getElem? (i := 882) (by decide +kernel), List.mem_of_getElem? (i := 989) (by decide +kernel), List.mem_of_getElem? (i := 990) (by decide +kernel)⟩
theorem lw_p5 : lw_okq (⟨"FloodWardensModel", "cellTold", "(II)I"⟩, 13) := ⟨⟨by decide +kernel, by decide +kernel⟩, List.mem_of_getElem? (i := 882) (by decide +kernel), List.mem_of_getElem? (i := 1035) (by decide +kernel), List.mem_of_getElem? (i := 1036) (by decide +kernel)⟩
theorem lw_p6 : lw_okq (⟨"FloodWardensModel", "peopleAt", "(I)I"⟩, 13) := ⟨⟨by decide +kernel, by decide +kernel⟩, List.mem_of_getElem? (i := 882) (by decide +kernel), List.mem_of_getElem? (i := 1043) (by decide +kernel), List.mem_of_getElem? (i := 1044) (by decide +kernel)⟩
theorem lw_p7 : lw_okq (⟨"FloodWardensModel", "pumpTold", "(II)I"⟩, 13) := ⟨⟨by decide +kernel, by decide +kernel⟩, List.mem_of_getElem? (i := 882) (by decide +kernel), List.mem_of_getElem? (i := 1055) (by decide +kernel), List.mem_of_getElem? (i := 1056) (by decide +kernel)⟩
theorem lw_p8 : lw_okq (⟨"FloodWardensModel", "gaugeTold", "(II)I"⟩, 13) := ⟨⟨by decide +kernel, by decide +kernel⟩, List.mem_of_getElem? (i := 882) (by decide +kernel), List.mem_of_getElem? (i := 1063) (by decide +kernel), List.mem_of_getElem? (i := 1064) (by decide +kernel)⟩
theorem lw_p9 : lw_okq (⟨"FloodWardensModel", "rings", "(LFloodWardensModel$State;I)Z"⟩, 13) := ⟨⟨by decide +kernel, by decide +kernel⟩, List.mem_of_getElem? (i := 882) (by decide +kernel), List.mem_of_getElem? (i := 1067) (by decide +kernel), List.mem_of_getElem? (i := 1068) (by decide +kernel)⟩
theorem lw_p10 : lw_okq (⟨"FloodWardensModel", "refugeTold", "(II)I"⟩, 13) := ⟨⟨by decide +kernel, by decide +kernel⟩, List.mem_of_getElem? (i := 882) (by decide +kernel), List.mem_of_getElem? (i := 1075) (by decide +kernel), List.mem_of_getElem? (i := 1076) (by decide +kernel)⟩
theorem lw_p11 : lw_okq (⟨"FloodWardensModel", "peopleIn", "(LFloodWardensModel$State;I)I"⟩, 13) := ⟨⟨by decide +kernel, by decide +kernel⟩, List.mem_of_getElem? (i := 882) (by decide +kernel), List.mem_of_getElem? (i := 1079) (by decide +kernel), List.mem_of_getElem? (i := 1080) (by decide +kernel)⟩
theorem lw_p12 : lw_okq (⟨"FloodWardensModel", "houseTold", "(II)I"⟩, 13) := ⟨⟨by decide +kernel, by decide +kernel⟩, List.mem_of_getElem? (i := 882) (by decide +kernel), List.mem_of_getElem? (i := 1087) (by decide +kernel), List.mem_of_getElem? (i := 1088) (by decide +kernel)⟩
theorem lw_p13 : lw_okq (⟨"FloodWardensModel", "wayOf", "(I)I"⟩, 13) := ⟨⟨by decide +kernel, by decide +kernel⟩, List.mem_of_getElem? (i := 882) (by decide +kernel), List.mem_of_getElem? (i := 1091) (by decide +kernel), List.mem_of_getElem? (i := 1092) (by decide +kernel)⟩
theorem lw_p14 : lw_okq (⟨"FloodWardensModel", "refugeFor", "(LFloodWardensModel$State;I)I"⟩, 13) := ⟨⟨by decide +kernel, by decide +kernel⟩, List.mem_of_getElem? (i := 882) (by decide +kernel), List.mem_of_getElem? (i := 1095) (by decide +kernel), List.mem_of_getElem? (i := 1096) (by decide +kernel)⟩
theorem lw_p15 : lw_okq (⟨"FloodWardensModel", "hasRoom", "(LFloodWardensModel$State;II)Z"⟩, 13) := ⟨⟨by decide +kernel, by decide +kernel⟩, List.mem_of_getElem? (i := 882) (by decide +kernel), List.mem_of_getElem? (i := 1099) (by decide +kernel), List.mem_of_getElem? (i := 1100) (by decide +kernel)⟩
def lw_privs_1 : List (MethodName × Nat) := [(⟨"FloodWardens", "digestOfTools", "(J)J"⟩, 2), (⟨"FloodWardens", "digestOfPeople", "(J)J"⟩, 2), (⟨"java/lang/Throwable", "fillInStackTrace", "(I)Ljava/lang/Throwable;"⟩, 6), (⟨"FloodWardens", "waterBehind", "(II)I"⟩, 2), (⟨"FloodWardensModel", "no", "(I)I"⟩, 13), (⟨"FloodWardensModel", "cellTold", "(II)I"⟩, 13), (⟨"FloodWardensModel", "peopleAt", "(I)I"⟩, 13), (⟨"FloodWardensModel", "pumpTold", "(II)I"⟩, 13), (⟨"FloodWardensModel", "gaugeTold", "(II)I"⟩, 13), (⟨"FloodWardensModel", "rings", "(LFloodWardensModel$State;I)Z"⟩, 13), (⟨"FloodWardensModel", "refugeTold", "(II)I"⟩, 13), (⟨"FloodWardensModel", "peopleIn", "(LFloodWardensModel$State;I)I"⟩, 13), (⟨"FloodWardensModel", "houseTold", "(II)I"⟩, 13), (⟨"FloodWardensModel", "wayOf", "(I)I"⟩, 13), (⟨"FloodWardensModel", "refugeFor", "(LFloodWardensModel$State;I)I"⟩, 13), (⟨"FloodWardensModel", "hasRoom", "(LFloodWardensModel$State;II)Z"⟩, 13)]
theorem lw_r1 : ∀ q ∈ lw_privs_1, lw_okq q := List.forall_mem_cons.mpr ⟨lw_p0, List.forall_mem_cons.mpr ⟨lw_p1, List.forall_mem_cons.mpr ⟨lw_p2, List.forall_mem_cons.mpr ⟨lw_p3, List.forall_mem_cons.mpr ⟨lw_p4, List.forall_mem_cons.mpr ⟨lw_p5, List.forall_mem_cons.mpr ⟨lw_p6, List.forall_mem_cons.mpr ⟨lw_p7, List.forall_mem_cons.mpr ⟨lw_p8, List.forall_mem_cons.mpr ⟨lw_p9, List.forall_mem_cons.mpr ⟨lw_p10, List.forall_mem_cons.mpr ⟨lw_p11, List.forall_mem_cons.mpr ⟨lw_p12, List.forall_mem_cons.mpr ⟨lw_p13, List.forall_mem_cons.mpr ⟨lw_p14, List.forall_mem_cons.mpr ⟨lw_p15, fun _ h => absurd h List.not_mem_nil⟩⟩⟩⟩⟩⟩⟩⟩⟩⟩⟩⟩⟩⟩⟩⟩
theorem lw_p16 : lw_okq (⟨"FloodWardensModel", "steps", "(LFloodWardensModel$State;II)I"⟩, 13) := ⟨⟨by decide +kernel, by decide +kernel⟩, List.mem_of_getElem? (i := 882) (by decide +kernel), List.mem_of_getElem? (i := 1103) (by decide +kernel), List.mem_of_getElem? (i := 1104) (by decide +kernel)⟩
theorem lw_p17 : lw_okq (⟨"FloodWardensModel", "reckon", "(LFloodWardensModel$State;I)V"⟩, 13) := ⟨⟨by decide +kernel, by decide +kernel⟩, List.mem_of_getElem? (i := 882) (by decide +kernel), List.mem_of_getElem? (i := 1107) (by decide +kernel), List.mem_of_getElem? (i := 1108) (by decide +kernel)⟩
theorem lw_p18 : lw_okq (⟨"FloodWardensModel", "first", "(I)I"⟩, 13) := ⟨⟨by decide +kernel, by decide +kernel⟩, List.mem_of_getElem? (i := 882) (by decide +kernel), List.mem_of_getElem? (i := 1114) (by decide +kernel), List.mem_of_getElem? (i := 1115) (by decide +kernel)⟩
theorem lw_p19 : lw_okq (⟨"FloodWardensModel", "callerTold", "(II)I"⟩, 13) := ⟨⟨by decide +kernel, by decide +kernel⟩, List.mem_of_getElem? (i := 882) (by decide +kernel), List.mem_of_getElem? (i := 1122) (by decide +kernel), List.mem_of_getElem? (i := 1123) (by decide +kernel)⟩
theorem lw_p20 : lw_okq (⟨"FloodWardensModel", "counted", "(I)I"⟩, 13) := ⟨⟨by decide +kernel, by decide +kernel⟩, List.mem_of_getElem? (i := 882) (by decide +kernel), List.mem_of_getElem? (i := 1130) (by decide +kernel), List.mem_of_getElem? (i := 1131) (by decide +kernel)⟩
theorem lw_p21 : lw_okq (⟨"FloodWardensModel", "people", "(LFloodWardensModel$State;I)I"⟩, 13) := ⟨⟨by decide +kernel, by decide +kernel⟩, List.mem_of_getElem? (i := 882) (by decide +kernel), List.mem_of_getElem? (i := 1134) (by decide +kernel), List.mem_of_getElem? (i := 1135) (by decide +kernel)⟩
theorem lw_p22 : lw_okq (⟨"FloodWardensModel", "ringing", "(LFloodWardensModel$State;)I"⟩, 13) := ⟨⟨by decide +kernel, by decide +kernel⟩, List.mem_of_getElem? (i := 882) (by decide +kernel), List.mem_of_getElem? (i := 1142) (by decide +kernel), List.mem_of_getElem? (i := 1143) (by decide +kernel)⟩
theorem lw_p23 : lw_okq (⟨"FloodWardensModel", "hours", "(LFloodWardensModel$State;I)V"⟩, 13) := ⟨⟨by decide +kernel, by decide +kernel⟩, List.mem_of_getElem? (i := 882) (by decide +kernel), List.mem_of_getElem? (i := 1150) (by decide +kernel), List.mem_of_getElem? (i := 1151) (by decide +kernel)⟩
theorem lw_p24 : lw_okq (⟨"FloodWardensModel", "hour", "(LFloodWardensModel$State;)V"⟩, 13) := ⟨⟨by decide +kernel, by decide +kernel⟩, List.mem_of_getElem? (i := 882) (by decide +kernel), List.mem_of_getElem? (i := 1154) (by decide +kernel), List.mem_of_getElem? (i := 1155) (by decide +kernel)⟩
theorem lw_p25 : lw_okq (⟨"FloodWardensModel", "flow", "(LFloodWardensModel$State;)V"⟩, 13) := ⟨⟨by decide +kernel, by decide +kernel⟩, List.mem_of_getElem? (i := 882) (by decide +kernel), List.mem_of_getElem? (i := 1158) (by decide +kernel), List.mem_of_getElem? (i := 1159) (by decide +kernel)⟩
theorem lw_p26 : lw_okq (⟨"FloodWardensModel", "drain", "(LFloodWardensModel$State;I)V"⟩, 13) := ⟨⟨by decide +kernel, by decide +kernel⟩, List.mem_of_getElem? (i := 882) (by decide +kernel), List.mem_of_getElem? (i := 1162) (by decide +kernel), List.mem_of_getElem? (i := 1163) (by decide +kernel)⟩
theorem lw_p27 : lw_okq (⟨"FloodWardensModel", "call", "(LFloodWardensModel$State;I)V"⟩, 13) := ⟨⟨by decide +kernel, by decide +kernel⟩, List.mem_of_getElem? (i := 882) (by decide +kernel), List.mem_of_getElem? (i := 1166) (by decide +kernel), List.mem_of_getElem? (i := 1167) (by decide +kernel)⟩
theorem lw_p28 : lw_okq (⟨"FloodWardensModel", "step", "(LFloodWardensModel$State;II)I"⟩, 13) := ⟨⟨by decide +kernel, by decide +kernel⟩, List.mem_of_getElem? (i := 882) (by decide +kernel), List.mem_of_getElem? (i := 1170) (by decide +kernel), List.mem_of_getElem? (i := 1171) (by decide +kernel)⟩
theorem lw_p29 : lw_okq (⟨"FloodWardensModel", "flee", "(LFloodWardensModel$State;I)V"⟩, 13) := ⟨⟨by decide +kernel, by decide +kernel⟩, List.mem_of_getElem? (i := 882) (by decide +kernel), List.mem_of_getElem? (i := 1180) (by decide +kernel), List.mem_of_getElem? (i := 1181) (by decide +kernel)⟩
theorem lw_p30 : lw_okq (⟨"FloodWardensModel", "fuel", "(LFloodWardensModel$State;)I"⟩, 13) := ⟨⟨by decide +kernel, by decide +kernel⟩, List.mem_of_getElem? (i := 882) (by decide +kernel), List.mem_of_getElem? (i := 1199) (by decide +kernel), List.mem_of_getElem? (i := 1200) (by decide +kernel)⟩
theorem lw_p31 : lw_okq (⟨"FloodWardensModel", "waterWith", "(II)I"⟩, 13) := ⟨⟨by decide +kernel, by decide +kernel⟩, List.mem_of_getElem? (i := 882) (by decide +kernel), List.mem_of_getElem? (i := 1211) (by decide +kernel), List.mem_of_getElem? (i := 1212) (by decide +kernel)⟩
def lw_privs_2 : List (MethodName × Nat) := [(⟨"FloodWardensModel", "steps", "(LFloodWardensModel$State;II)I"⟩, 13), (⟨"FloodWardensModel", "reckon", "(LFloodWardensModel$State;I)V"⟩, 13), (⟨"FloodWardensModel", "first", "(I)I"⟩, 13), (⟨"FloodWardensModel", "callerTold", "(II)I"⟩, 13), (⟨"FloodWardensModel", "counted", "(I)I"⟩, 13), (⟨"FloodWardensModel", "people", "(LFloodWardensModel$State;I)I"⟩, 13), (⟨"FloodWardensModel", "ringing", "(LFloodWardensModel$State;)I"⟩, 13), (⟨"FloodWardensModel", "hours", "(LFloodWardensModel$State;I)V"⟩, 13), (⟨"FloodWardensModel", "hour", "(LFloodWardensModel$State;)V"⟩, 13), (⟨"FloodWardensModel", "flow", "(LFloodWardensModel$State;)V"⟩, 13), (⟨"FloodWardensModel", "drain", "(LFloodWardensModel$State;I)V"⟩, 13), (⟨"FloodWardensModel", "call", "(LFloodWardensModel$State;I)V"⟩, 13), (⟨"FloodWardensModel", "step", "(LFloodWardensModel$State;II)I"⟩, 13), (⟨"FloodWardensModel", "flee", "(LFloodWardensModel$State;I)V"⟩, 13), (⟨"FloodWardensModel", "fuel", "(LFloodWardensModel$State;)I"⟩, 13), (⟨"FloodWardensModel", "waterWith", "(II)I"⟩, 13)]
theorem lw_r2 : ∀ q ∈ lw_privs_2, lw_okq q := List.forall_mem_cons.mpr ⟨lw_p16, List.forall_mem_cons.mpr ⟨lw_p17, List.forall_mem_cons.mpr ⟨lw_p18, List.forall_mem_cons.mpr ⟨lw_p19, List.forall_mem_cons.mpr ⟨lw_p20, List.forall_mem_cons.mpr ⟨lw_p21, List.forall_mem_cons.mpr ⟨lw_p22, List.forall_mem_cons.mpr ⟨lw_p23, List.forall_mem_cons.mpr ⟨lw_p24, List.forall_mem_cons.mpr ⟨lw_p25, List.forall_mem_cons.mpr ⟨lw_p26, List.forall_mem_cons.mpr ⟨lw_p27, List.forall_mem_cons.mpr ⟨lw_p28, List.forall_mem_cons.mpr ⟨lw_p29, List.forall_mem_cons.mpr ⟨lw_p30, List.forall_mem_cons.mpr ⟨lw_p31, fun _ h => absurd h List.not_mem_nil⟩⟩⟩⟩⟩⟩⟩⟩⟩⟩⟩⟩⟩⟩⟩⟩
def lw_privs : List (MethodName × Nat) := lw_privs_1 ++ (lw_privs_2)
def lw_tbl : List Cond := k2_sels lw_privs ++ tables_1
theorem lw_privs_ok : ∀ q ∈ lw_privs, lw_okq q := by
  show ∀ q ∈ lw_privs_1 ++ (lw_privs_2), lw_okq q
  exact List.forall_mem_append.mpr ⟨lw_r1, lw_r2⟩
/-- the streams that the claim lets the run draw from -/
abbrev lw_cs : List Choice := [Jvm.Choice.named "NaN.bits"]
theorem lw_bits : nanBits ∈ lw_cs := by first | decide | exact List.mem_cons_self | simp [lw_cs, nanBits]
end
section
/-! ===== BEGIN words of one list among another's, by their places ===== -/
theorem goodIn_r {big : List Cond} (ws : List Cond) (ps : List Nat) (hp : ws = ps.filterMap (fun i => big[i]?)) (h : ws.all goodWord = true) : GoodIn big ws := by
  intro w hw
  have h1 := List.all_eq_true.mp h w hw
  rw [hp] at hw
  obtain ⟨i, -, hi⟩ := List.mem_filterMap.mp hw
  have hm : w ∈ big := by first | exact List.mem_of_getElem? hi | exact List.getElem?_mem hi
  exact ⟨hm, good_of_word h1⟩
theorem goodIn_app {big a b : List Cond} (ha : GoodIn big a) (hb : GoodIn big b) : GoodIn big (a ++ b) := fun w h => (List.mem_append.mp h).elim (ha w) (hb w)
theorem goodIn_ca {big a b : List Cond} {c : Cond} (ha : GoodIn big (c :: a)) (hb : GoodIn big b) : GoodIn big (c :: (a ++ b)) := fun w h => (List.mem_cons.mp h).elim (fun e => ha w (List.mem_cons.mpr (Or.inl e))) (fun h => (List.mem_append.mp h).elim (fun h => ha w (List.mem_cons.mpr (Or.inr h))) (hb w))
theorem goodIn_sub {big ws : List Cond} (hm : ∀ w ∈ ws, w ∈ big) (h : ws.all goodWord = true) : GoodIn big ws := fun w hw => ⟨hm w hw, good_of_word (List.all_eq_true.mp h w hw)⟩
/-! ===== END ===== -/

/-! ===== BEGIN exceptions that leave a method, and their catching by the caller (launches without stack traces) ===== -/
section VXA
/-! The laws vx_back, vx_callV, vx_callS, vx_callSW, vx_throw0, vx_throwS follow proofs of the library, with one case more: JvmDerived/Free/Laws.lean (Back.of_free), Shelf42/LK1.lean (callV, callS), Shelf/KitTraced.lean (throwNew0V, throwNewS). -/
/-- where a method has thrown q: the class by its name, the cell, what was written, the world -/
def vx_T (XC : String → State → State → Prop) (st : State) (q : Addr) (t : State) (mc ms : Nat) (free : Addr → Prop) : Prop :=
  ∃ (E : String) (ce : Cell) (L : List Loc), XC E st t ∧ t.heap[q]? = some ce ∧ ce.vm = .none ∧ st.vm.findClass E = some ce.cls ∧ st.WarmedH t.vm ∧ st.sameButNew ({ t with vm := st.vm } : State) L mc ms ∧ ∀ z ∈ L, free z.base
def vx_Q (Qc : Array Value → State → Outcome → State → Prop) (XC : String → State → State → Prop) (mc ms : Nat) (free : Addr → Prop) : Array Value → State → Outcome → State → Prop := fun a st o t =>
  (Qc a st o t ∧ ∃ L, FrameEnd st o t L mc ms ∧ ∀ q ∈ L, free q.base) ∨ ∃ q, o = .threw q ∧ vx_T XC st q t mc ms free
/-- a callee that returns or throws -/
def vx_Met (l : Launch) (y : MethodName) (ws : List Cond) (rm : Room) (Pc : Array Value → State → Prop) (Qc : Array Value → State → Outcome → State → Prop) (XC : String → State → State → Prop) (mc ms : Nat) (free : Addr → Prop) : Prop :=
  MetFree l y (headSpec ws rm) Pc (fun _ _ _ _ _ => True) (vx_Q Qc XC mc ms free)
def vx_Post (XC : String → State → State → Prop) (mc ms : Nat) (free : Addr → Prop) : Pt → Array Value → Addr → Pt → Prop := fun A a q B =>
  ∃ (g : JFrame) (mk : MethodId) (t : State) (L : List Loc) (E : String) (ce : Cell), B.U.heap = t.heap ∧ B.U.vm = t.vm ∧ XC E (A.U.calling g mk a) t ∧ t.heap[q]? = some ce ∧ ce.vm = .none ∧ A.U.vm.findClass E = some ce.cls ∧ B.locs = A.locs ++ L ∧ (∀ z ∈ L, free z.base) ∧ B.cells = A.cells + mc ∧ B.slots = A.slots + ms
def vx_Back (l : Launch) (R : Room) (p : Program) (e : Env) (below : List Frame) (s : State) (sargs : Array Value) (y : MethodName) (len W9 : Nat)
    (Pre : Pt → Array Value → Prop) (Post : Pt → Array Value → Option Value → Pt → Prop) (PostX : Pt → Array Value → Addr → Pt → Prop) : Prop :=
  ∀ (m : MethodId) (meth : Method) (c : Code) (A : Pt) (g : JFrame) (ig : Instr) (mk : MethodId) (a : Array Value),
    Stand p l e R s m sargs below meth c A.U A.locs A.cells A.slots → g.method = m → g.locals.size = c.maxLocals → decode c.code g.pc = .ok (ig, len) →
    2 * g.monitorRoom + (g.stack.map fun v => v.category).sum ≤ W9 → A.U.methodNamed? y = some mk → Pre A a →
    (∃ (v : Option Value) (B : Pt), Stand p l e R s m sargs below meth c B.U B.locs B.cells B.slots ∧ Post A a v B ∧
      Steps p.tables e below (doInvoke e (A.U.setTop g) [] mk a).1 (B.U.setTop { g with pc := g.pc + len, stack := v.toList ++ g.stack })) ∨
    (∃ (q : Addr) (B : Pt), Stand p l e R s m sargs below meth c B.U B.locs B.cells B.slots ∧ PostX A a q B ∧
      Steps p.tables e below (doInvoke e (A.U.setTop g) [] mk a).1 ((B.U.setTop g).pushFrame (.throwing q)))
section Payer
variable {l : Launch} {R : Room} {p : Program} {e : Env} {below : List Frame} {s : State} {sargs : Array Value} {y : MethodName} {len W9 : Nat}
theorem vx_back {ws : List Cond} {rm : Room} {Pc : Array Value → State → Prop} {Qc : Array Value → State → Outcome → State → Prop} {XC : String → State → State → Prop} {mc ms : Nat} {free : Addr → Prop} {bytes : ByteArray} {maxL : Nat} {ret : Option FieldType}
    (hM : vx_Met l y ws rm Pc Qc XC mc ms free) (hblind : FrameBlind Pc) (hrc : rm.cells = mc) (hrs : rm.slots = ms)
    (hframes : rm.frames + 1 ≤ R.frames) (hlocals : W9 + (maxL + 11) + rm.locals ≤ R.locals)
    (hws : ∀ w ∈ ws, ∀ a' U, s.WarmedH U.vm → w.before a' U = true) (hcode : Cond.code y bytes maxL ret ∈ ws) (hinit : ∀ a' U, s.WarmedH U.vm → (Cond.initialized y.cls).before a' U = true) :
    vx_Back l R p e below s sargs y len W9 (PreOf R mc ms Pc) (PostOf Qc mc ms free) (vx_Post XC mc ms free) := by
  intro m meth c A g ig mk a X hg hsize hdg hW hn hp
  have h1 : (headSpec ws rm).pre.before a A.U = true := atoms_intro fun w hw => hws w hw _ _ X.warmed
  have h2 : (Cond.code y bytes maxL ret).before a A.U = true := hws _ hcode _ _ X.warmed
  have h3 : (Cond.initialized y.cls).before a A.U = true := hinit _ _ X.warmed
  have h4 : A.cells + (headSpec ws rm).room.cells ≤ R.cells := by rw [show (headSpec ws rm).room.cells = mc from hrc]; exact hp.1
  have h5 : A.slots + (headSpec ws rm).room.slots ≤ R.slots := by rw [show (headSpec ws rm).room.slots = ms from hrs]; exact hp.2.1
  have hPc : Pc a (A.U.calling g mk a) := hblind _ _ _ _ hp.2.2
  obtain ⟨U, Ls, c0, s0⟩ := A
  dsimp only [Pt.U, Pt.locs, Pt.cells, Pt.slots] at h1 h2 h3 h4 h5 X hn hPc ⊢
  obtain ⟨methY, cY, hmY, hcY, -, hlY, -, -, -, -⟩ := Cond.code_spec hn h2
  obtain ⟨kY, hkY, -⟩ := className_of_methodNamed hn
  have hinitY : kY.init = .initialized := Cond.initialized_spec (findClass_of_methodNamed hn) hkY h3
  have h : At U g.method c below := by rw [hg]; exact X.here
  have hlocals9 : W9 + (maxL + 11) + (headSpec ws rm).room.locals ≤ R.locals := hlocals
  have happ : (headSpec ws rm).appliesLoose y e.platform (U.calling g mk a) = true :=
    Spec.appliesLoose_calling (g := g) h hdg hn hkY hinitY
      (X.room_calling (g := g) (R' := (headSpec ws rm).room) hsize hmY hcY hframes (by rw [hlY]; omega) h4 h5) h1
  obtain ⟨mid, hmid⟩ := h.above
  have hfr : (U.setTop g).frames = (.java g :: mid) ++ below := by rw [State.frames_setTop' g h.top, hmid]; rfl
  obtain ⟨o, s₂, hsteps, -, hend, hq⟩ := Steps.callFree hM p X.admits X.cas X.clock (acts := []) hfr happ hPc trivial
  have hq' : vx_Q Qc XC mc ms free a (U.calling g mk a) o s₂ := hq
  rw [State.frames_setTop' g h.top] at hend
  obtain ⟨g₀, hg0⟩ := Option.isSome_iff_exists.mp h.top
  obtain ⟨r, hr⟩ := State.topJava?_eq_some.mp hg0
  have hr' : (({ U with heap := s₂.heap, slotsUsed := s₂.slotsUsed } : State).setVm s₂.vm).frames = .java g₀ :: r := hr
  rcases hq' with ⟨hqc, L, hfe, hL⟩ | ⟨q, rfl, E, ce, L, hx, hce, hcv, hcl, hW₂, hsm, hL⟩
  · obtain ⟨⟨v, rfl⟩, hW₂, e2, q2, q3, q4, q5, q6⟩ := id hfe
    have e3 : s₂ = ({ (U.calling g mk a).setFrames s₂.frames with heap := s₂.heap, slotsUsed := s₂.slotsUsed } : State).setVm s₂.vm := by
      have : s₂ = ({ s₂ with vm := (U.calling g mk a).vm } : State).setVm s₂.vm := rfl
      rw [e2] at this
      exact this
    obtain ⟨c₂, i₂, len₂, hc₂, hd₂, hf₂⟩ := hend
    have hW' : U.WarmedH s₂.vm := hW₂
    have hcc : c₂ = c := by
      have h1 : s₂.code? g.method = U.code? g.method := by
        rw [State.code?_eq, State.code?_eq, hW'.alike.method?]
      exact Option.some.inj (hc₂.symm.trans (h1.trans h.code))
    subst hcc
    have hlen : len₂ = len := by rw [hdg] at hd₂; cases hd₂; rfl
    subst hlen
    have hs₂ : s₂ = (({ U with heap := s₂.heap, slotsUsed := s₂.slotsUsed } : State).setVm s₂.vm).setTop { g with pc := g.pc + len₂, stack := v.toList ++ g.stack } := by
      refine e3.trans ?_
      rw [hf₂, State.calling_eq h.top, State.setFrames_setFrames, State.setTop_of_frames _ hr', hr]
      rfl
    have hsame : U.sameButNew ({ U with heap := s₂.heap, slotsUsed := s₂.slotsUsed } : State) L mc ms := by
      refine ⟨?_, q2, q3, q4, q5, q6⟩
      obtain ⟨t, ht, -⟩ := State.frames_cons hr
      show ({ U with heap := s₂.heap, slotsUsed := s₂.slotsUsed } : State) = { U.setFrames U.frames with heap := s₂.heap, slotsUsed := s₂.slotsUsed }
      rw [State.setFrames_self ht]
    subst hg
    refine Or.inl ⟨v, ⟨(({ U with heap := s₂.heap, slotsUsed := s₂.slotsUsed } : State).setVm s₂.vm), Ls ++ L, c0 + mc, s0 + ms⟩,
      ⟨X.admits, X.cas, X.clock, X.frames, X.room, X.hears, X.method, X.code, (X.here.setHeapUsed s₂.heap s₂.slotsUsed).setVm hW'.alike, X.tail, State.WarmedH.trans X.warmed hW', X.limits, X.bytes, X.same.trans (hsame.setVm s.vm)⟩,
      ⟨g, mk, s₂, L, rfl, rfl, hqc, rfl, hL, rfl, rfl⟩, ?_⟩
    show Steps p.tables e below _ ((({ U with heap := s₂.heap, slotsUsed := s₂.slotsUsed } : State).setVm s₂.vm).setTop { g with pc := g.pc + len₂, stack := v.toList ++ g.stack })
    rw [← hs₂]
    exact hsteps
  · obtain ⟨e2, q2, q3, q4, q5, q6⟩ := id hsm
    have e3 : s₂ = ({ (U.calling g mk a).setFrames s₂.frames with heap := s₂.heap, slotsUsed := s₂.slotsUsed } : State).setVm s₂.vm := by
      have : s₂ = ({ s₂ with vm := (U.calling g mk a).vm } : State).setVm s₂.vm := rfl
      rw [e2] at this
      exact this
    have hf₂ : s₂.frames = .throwing q :: .java g :: U.frames.tail := hend
    have hW' : U.WarmedH s₂.vm := hW₂
    have hs₂ : s₂ = ((({ U with heap := s₂.heap, slotsUsed := s₂.slotsUsed } : State).setVm s₂.vm).setTop g).pushFrame (.throwing q) := by
      refine e3.trans ?_
      rw [hf₂, State.calling_eq h.top, State.setFrames_setFrames, State.pushFrame, State.frames_setTop _ hr', State.setTop_of_frames _ hr', State.setFrames_setFrames, hr]
      rfl
    have hsame : U.sameButNew ({ U with heap := s₂.heap, slotsUsed := s₂.slotsUsed } : State) L mc ms := by
      refine ⟨?_, q2, q3, q4, q5, q6⟩
      obtain ⟨t, ht, -⟩ := State.frames_cons hr
      show ({ U with heap := s₂.heap, slotsUsed := s₂.slotsUsed } : State) = { U.setFrames U.frames with heap := s₂.heap, slotsUsed := s₂.slotsUsed }
      rw [State.setFrames_self ht]
    subst hg
    refine Or.inr ⟨q, ⟨(({ U with heap := s₂.heap, slotsUsed := s₂.slotsUsed } : State).setVm s₂.vm), Ls ++ L, c0 + mc, s0 + ms⟩,
      ⟨X.admits, X.cas, X.clock, X.frames, X.room, X.hears, X.method, X.code, (X.here.setHeapUsed s₂.heap s₂.slotsUsed).setVm hW'.alike, X.tail, State.WarmedH.trans X.warmed hW', X.limits, X.bytes, X.same.trans (hsame.setVm s.vm)⟩,
      ⟨g, mk, s₂, L, E, ce, rfl, rfl, hx, hce, hcv, hcl, rfl, hL, rfl, rfl⟩, ?_⟩
    show Steps p.tables e below _ (((({ U with heap := s₂.heap, slotsUsed := s₂.slotsUsed } : State).setVm s₂.vm).setTop g).pushFrame (.throwing q))
    rw [← hs₂]
    exact hsteps
end Payer
section Calls
variable {p : Program} {l : Launch} {e : Env} {R : Room} {s : State} {m : MethodId} {args : Array Value} {below : List Frame} {meth : Method} {c : Code} {T : State} {locs : List Loc} {cells slots : Nat}
theorem vx_callV (X : Stand p l e R s m args below meth c T locs cells slots) (hexec : p.tables.exec = Jvm.exec) {own C : String} {index : Nat} {y : MethodName} {bytes : ByteArray} {maxL : Nat} {ret : Option FieldType}
    (hown : s.vm.findClass own = some m.cls) (hlink : (Cond.methodLink own index y).before args s = true) (hinst : (Cond.instanceMethod y).before args s = true) (hsel : (Cond.selects C y y).before args s = true)
    (hcode : (Cond.code y bytes maxL ret).before args s = true) (hy : y.cls ≠ "java/lang/invoke/MethodHandle" ∧ y.cls ≠ "java/lang/invoke/VarHandle")
    {W9 : Nat} {Pre : Pt → Array Value → Prop} {Post : Pt → Array Value → Option Value → Pt → Prop} {PostX : Pt → Array Value → Addr → Pt → Prop} (hK : vx_Back l R p e below s args y 3 W9 Pre Post PostX)
    {b : Addr} {cellB : Cell} (hcell : T.heap[b]? = some cellB) (hobj : cellB.vm.isStatics = false) (hcls : s.vm.findClass C = some cellB.cls)
    {g : JFrame} (hg : g.method = m) (hsize : g.locals.size = c.maxLocals) {argsL rest : List Value} (hlen : ∀ sig, parseMethodDescriptor y.desc = some sig → argsL.length = sig.parameters.length)
    (hstack : g.stack = argsL.reverse ++ .ref b :: rest) (hW : 2 * g.monitorRoom + (rest.map fun v => v.category).sum ≤ W9) (hdg : decode c.code g.pc = .ok (.invokevirtual index, 3))
    (hpre : ∀ vm₁, s.WarmedH vm₁ → Pre ⟨T.setVm vm₁, locs, cells, slots⟩ (Value.ref b :: argsL).toArray) :
    (∃ (v : Option Value) (vm₁ : Vm) (B : Pt), s.WarmedH vm₁ ∧ Stand p l e R s m args below meth c B.U B.locs B.cells B.slots ∧ Post ⟨T.setVm vm₁, locs, cells, slots⟩ (Value.ref b :: argsL).toArray v B ∧
      ∀ target, Steps p.tables e below (B.U.setTop { g with pc := g.pc + 3, stack := v.toList ++ rest }) target → Steps p.tables e below (T.setTop g) target) ∨
    (∃ (q : Addr) (vm₁ : Vm) (B : Pt), s.WarmedH vm₁ ∧ Stand p l e R s m args below meth c B.U B.locs B.cells B.slots ∧ PostX ⟨T.setVm vm₁, locs, cells, slots⟩ (Value.ref b :: argsL).toArray q B ∧
      Steps p.tables e below (T.setTop g) ((B.U.setTop { g with stack := rest }).pushFrame (.throwing q))) := by
  obtain ⟨mk, methM, hnamed, hmethM, hstM, habM⟩ := Cond.instanceMethod_spec hinst
  obtain ⟨methM', cM, hmethM', -, -, -, -, -, -, hsigM⟩ := Cond.code_spec hnamed hcode
  cases hmethM.symm.trans hmethM'
  obtain ⟨c2, r2, m2, q1, q2, q3, q4, kP, hkP, hkPi⟩ := Cond.selects_spec hsel
  cases hcls.symm.trans q1
  cases (State.methodFound?_of_named hnamed hy).symm.trans q2
  cases hnamed.symm.trans q3
  have hselP : selectMethod e.platform s.vm cellB.cls mk = .method mk := by rw [Launch.admits_selectMethod X.admits]; exact q4
  obtain ⟨vm₁, X₁, hstep₁⟩ := X.invokevirtual hexec hown hlink hnamed hmethM hstM hkP hkPi hy (a := b) (cell := cellB) hcell
    (fun z h => by rw [h] at hobj; cases hobj) hselP hmethM habM hkP hkPi (g := g) hg (argsL := argsL) (rest := rest) (hlen _ hsigM) hstack hdg
  rcases hK m meth c ⟨T.setVm vm₁, locs, cells, slots⟩ { g with stack := rest } (.invokevirtual index) mk (Value.ref b :: argsL).toArray X₁ hg hsize hdg hW (X₁.named hnamed) (hpre vm₁ X₁.warmed) with ⟨v, B, X', hpost, hsteps⟩ | ⟨q, B, X', hpost, hsteps⟩
  · exact Or.inl ⟨v, vm₁, B, X₁.warmed, X', hpost, fun target h => hstep₁ _ fun acts => by rw [doInvoke_state]; exact hsteps.trans h⟩
  · exact Or.inr ⟨q, vm₁, B, X₁.warmed, X', hpost, hstep₁ _ fun acts => by rw [doInvoke_state]; exact hsteps⟩
theorem vx_callS (X : Stand p l e R s m args below meth c T locs cells slots) (hexec : p.tables.exec = Jvm.exec) {own : String} {index : Nat} {y : MethodName} {bytes : ByteArray} {maxL : Nat} {ret : Option FieldType}
    (hown : s.vm.findClass own = some m.cls) (hlink : (Cond.methodLink own index y).before args s = true) (hstat : (Cond.static y).before args s = true) (hinit : (Cond.initialized y.cls).before args s = true)
    (hcode : (Cond.code y bytes maxL ret).before args s = true) (hy : y.cls ≠ "java/lang/invoke/MethodHandle" ∧ y.cls ≠ "java/lang/invoke/VarHandle")
    {W9 : Nat} {Pre : Pt → Array Value → Prop} {Post : Pt → Array Value → Option Value → Pt → Prop} {PostX : Pt → Array Value → Addr → Pt → Prop} (hK : vx_Back l R p e below s args y 3 W9 Pre Post PostX)
    {g : JFrame} (hg : g.method = m) (hsize : g.locals.size = c.maxLocals) {argsL rest : List Value} (hlen : ∀ sig, parseMethodDescriptor y.desc = some sig → argsL.length = sig.parameters.length)
    (hstack : g.stack = argsL.reverse ++ rest) (hW : 2 * g.monitorRoom + (rest.map fun v => v.category).sum ≤ W9) (hdg : decode c.code g.pc = .ok (.invokestatic index, 3))
    (hpre : ∀ vm₁, s.WarmedH vm₁ → Pre ⟨T.setVm vm₁, locs, cells, slots⟩ argsL.toArray) :
    (∃ (v : Option Value) (vm₁ : Vm) (B : Pt), s.WarmedH vm₁ ∧ Stand p l e R s m args below meth c B.U B.locs B.cells B.slots ∧ Post ⟨T.setVm vm₁, locs, cells, slots⟩ argsL.toArray v B ∧
      ∀ target, Steps p.tables e below (B.U.setTop { g with pc := g.pc + 3, stack := v.toList ++ rest }) target → Steps p.tables e below (T.setTop g) target) ∨
    (∃ (q : Addr) (vm₁ : Vm) (B : Pt), s.WarmedH vm₁ ∧ Stand p l e R s m args below meth c B.U B.locs B.cells B.slots ∧ PostX ⟨T.setVm vm₁, locs, cells, slots⟩ argsL.toArray q B ∧
      Steps p.tables e below (T.setTop g) ((B.U.setTop { g with stack := rest }).pushFrame (.throwing q))) := by
  obtain ⟨mk, hnamed⟩ := Cond.code_named hcode
  obtain ⟨methM, cM, hmethM, -, -, -, -, -, -, hsigM⟩ := Cond.code_spec hnamed hcode
  have hstatic : methM.isStatic = true := Cond.static_spec hnamed hmethM hstat
  obtain ⟨kP, hkP, -⟩ := className_of_methodNamed hnamed
  have hinitP : kP.init = .initialized := Cond.initialized_spec (findClass_of_methodNamed hnamed) hkP hinit
  obtain ⟨vm₁, X₁, hstep₁⟩ := X.invokestatic hexec hown hlink hnamed hmethM hstatic hkP hinitP hy (g := g) hg (argsL := argsL) (rest := rest) (hlen _ hsigM) hstack hdg
  rcases hK m meth c ⟨T.setVm vm₁, locs, cells, slots⟩ { g with stack := rest } (.invokestatic index) mk argsL.toArray X₁ hg hsize hdg hW (X₁.named hnamed) (hpre vm₁ X₁.warmed) with ⟨v, B, X', hpost, hsteps⟩ | ⟨q, B, X', hpost, hsteps⟩
  · exact Or.inl ⟨v, vm₁, B, X₁.warmed, X', hpost, fun target h => hstep₁ _ fun acts => by rw [doInvoke_state]; exact hsteps.trans h⟩
  · exact Or.inr ⟨q, vm₁, B, X₁.warmed, X', hpost, hstep₁ _ fun acts => by rw [doInvoke_state]; exact hsteps⟩
end Calls
theorem vx_cls {s : State} {T : State} {vm₁ : Vm} {E : String} {k : ClassId} (hW : s.WarmedH vm₁) (h : (T.setVm vm₁).vm.findClass E = some k) : s.vm.findClass E = some k := by
  have h1 : vm₁.findClass E = some k := h
  rw [hW.alike.findClass] at h1
  exact h1
/-- the method's frame g, with q thrown over it -/
def vx_W (p : Program) (l : Launch) (e : Env) (R : Room) (s : State) (m : MethodId) (args : Array Value) (below : List Frame) (meth : Method) (c : Code) (H : Heap) (locs : List Loc) (cells slots : Nat) (Q : State → Prop) (g : JFrame) (q : Addr) : Prop :=
  ∀ T : State, T.heap = H → Stand p l e R s m args below meth c T locs cells slots → ∃ t, Steps p.tables e below ((T.setTop g).pushFrame (.throwing q)) t ∧ Q t
def vx_Run (p : Program) (l : Launch) (e : Env) (R : Room) (s : State) (m : MethodId) (args : Array Value) (below : List Frame) (meth : Method) (c : Code) (H : Heap) (locs : List Loc) (cells slots mc ms : Nat) (g : JFrame) (rest : List Value) (Qa : State → Outcome → State → Prop) (XC : String → State → State → Prop) (free : Addr → Prop) : Prop :=
  ∀ T : State, T.heap = H → Stand p l e R s m args below meth c T locs cells slots →
    (∃ (v : Option Value) (st₀ t T' : State) (L : List Loc), st₀.heap = H ∧ Stand p l e R s m args below meth c T' (locs ++ L) (cells + mc) (slots + ms) ∧ (∀ q ∈ L, free q.base) ∧ T'.heap = t.heap ∧ T'.vm = t.vm ∧ Qa st₀ (.returned v) t ∧
      Goes p e below T g T' { g with pc := g.pc + 3, stack := v.toList ++ rest }) ∨
    (∃ (q : Addr) (st₀ t T' : State) (L : List Loc) (E : String) (ce : Cell), st₀.heap = H ∧ Stand p l e R s m args below meth c T' (locs ++ L) (cells + mc) (slots + ms) ∧ (∀ z ∈ L, free z.base) ∧ T'.heap = t.heap ∧ T'.vm = t.vm ∧ XC E st₀ t ∧ t.heap[q]? = some ce ∧ ce.vm = .none ∧ s.vm.findClass E = some ce.cls ∧
      Steps p.tables e below (T.setTop g) ((T'.setTop { g with stack := rest }).pushFrame (.throwing q)))
def vx_X {S : Type} (px : S → Prop) (B : String → S → State → Prop) (A : Nat → Prop) : String → State → State → Prop := fun E st t => ∃ u : S, px u ∧ B E u t ∧ va_F A st t
section Runs
variable {p : Program} {l : Launch} {e : Env} {R : Room} {s : State} {m : MethodId} {args : Array Value} {below : List Frame} {meth : Method} {c : Code} {H : Heap} {locs : List Loc} {cells slots : Nat}
variable {y : MethodName} {bytes cc : ByteArray} {maxL nL mc ms n index : Nat} {ret : Option FieldType} {ws : List Cond} {rm : Room} {Pc : Array Value → State → Prop} {Qc : Array Value → State → Outcome → State → Prop} {XC : String → State → State → Prop} {free : Addr → Prop} {Ts : List Cond} {own C : String} {b : Addr} {As rest : List Value} {g : JFrame}
theorem vx_callBack (cb : CallB R s args own index y bytes maxL ret ws rm mc ms n) (hM : vx_Met l y ws rm Pc Qc XC mc ms free) (hbl : FrameBlind Pc) : vx_Back l R p e below s args y 3 8 (PreOf R mc ms Pc) (PostOf Qc mc ms free) (vx_Post XC mc ms free) := by
  obtain ⟨hrc, hrs, hfr, hlo, hws, hcw, -, hini, -⟩ := cb
  exact vx_back (bytes := bytes) (maxL := maxL) (ret := ret) hM hbl hrc hrs hfr hlo hws hcw (fun a' U hW => word_at hW (Or.inl (by first | rfl | simp [Cond.onTables, Cond.keeps, Cond.steady])) hini)
theorem vx_runV (S : CallFix p m c cc nL s args Ts own) (hM : vx_Met l y ws rm Pc Qc XC mc ms free) (cw : CallW R s args own C index y bytes maxL ret ws rm mc ms n) (hp : PreV s H C b Pc As)
    (hg : g.method = m) (hn : As.length = n) (hsize : g.locals.size = nL) (hstack : g.stack = As.reverse ++ .ref b :: rest) (hW : 2 * g.monitorRoom + (rest.map fun v => v.category).sum ≤ 8) (hdg : decode cc g.pc = .ok (.invokevirtual index, 3)) (hf : cells + mc ≤ R.cells ∧ slots + ms ≤ R.slots) :
    vx_Run p l e R s m args below meth c H locs cells slots mc ms g rest (Qc (Value.ref b :: As).toArray) XC free := by
  have hK : vx_Back l R p e below s args y 3 8 (PreOf R mc ms Pc) (PostOf Qc mc ms free) (vx_Post XC mc ms free) := vx_callBack cw.1 hM hp.1
  obtain ⟨⟨-, -, -, -, -, -, hcode, -, hy, hlen, hl⟩, hin, hse⟩ := cw
  obtain ⟨hx, hb, hml, ho, -⟩ := S
  obtain ⟨-, ⟨cellB, hcB, hoB, hclB⟩, hPc⟩ := hp
  intro T hT X
  rcases vx_callV X hx (C := C) (bytes := bytes) (maxL := maxL) (ret := ret) ho hl hin hse hcode hy hK (by rw [hT]; exact hcB) hoB hclB hg (hsize.trans hml.symm) (argsL := As) (rest := rest) (fun sig h => hn.trans (hlen sig h)) hstack hW (by rw [hb]; exact hdg)
    (fun vm₁ hW₁ => ⟨hf.1, hf.2, hPc (T.setVm vm₁) hT hW₁⟩) with ⟨v, vm₁, ⟨U', l2, c2, s2⟩, hW₁, X', ⟨g', mk, t, L, e1, e2, hq, h1, hL, h2, h3⟩, st⟩ | ⟨q, vm₁, ⟨U', l2, c2, s2⟩, hW₁, X', ⟨g', mk, t, L, E, ce, e1, e2, hq, hce, hcv, hcl, h1, hL, h2, h3⟩, st⟩
  · dsimp only [Pt.U, Pt.locs, Pt.cells, Pt.slots] at X' e1 e2 h1 h2 h3 st
    subst h1; subst h2; subst h3
    exact Or.inl ⟨v, (T.setVm vm₁).calling g' mk (Value.ref b :: As).toArray, t, U', L, hT, X', hL, e1, e2, hq, st⟩
  · dsimp only [Pt.U, Pt.locs, Pt.cells, Pt.slots] at X' e1 e2 h1 h2 h3 st hcl
    subst h1; subst h2; subst h3
    exact Or.inr ⟨q, (T.setVm vm₁).calling g' mk (Value.ref b :: As).toArray, t, U', L, E, ce, hT, X', hL, e1, e2, hq, hce, hcv, vx_cls hW₁ hcl, st⟩
theorem vx_runS (S : CallFix p m c cc nL s args Ts own) (hM : vx_Met l y ws rm Pc Qc XC mc ms free) (cw : CallB R s args own index y bytes maxL ret ws rm mc ms n ∧ (Cond.static y).before args s = true) (hp : PreS s H Pc As)
    (hg : g.method = m) (hn : As.length = n) (hsize : g.locals.size = nL) (hstack : g.stack = As.reverse ++ rest) (hW : 2 * g.monitorRoom + (rest.map fun v => v.category).sum ≤ 8) (hdg : decode cc g.pc = .ok (.invokestatic index, 3)) (hf : cells + mc ≤ R.cells ∧ slots + ms ≤ R.slots) :
    vx_Run p l e R s m args below meth c H locs cells slots mc ms g rest (Qc As.toArray) XC free := by
  have hK : vx_Back l R p e below s args y 3 8 (PreOf R mc ms Pc) (PostOf Qc mc ms free) (vx_Post XC mc ms free) := vx_callBack cw.1 hM hp.1
  obtain ⟨⟨-, -, -, -, -, -, hcode, hini, hy, hlen, hl⟩, hstt⟩ := cw
  obtain ⟨hx, hb, hml, ho, -⟩ := S
  intro T hT X
  rcases vx_callS X hx (bytes := bytes) (maxL := maxL) (ret := ret) ho hl hstt hini hcode hy hK hg (hsize.trans hml.symm) (argsL := As) (rest := rest) (fun sig h => hn.trans (hlen sig h)) hstack hW (by rw [hb]; exact hdg)
    (fun vm₁ hW₁ => ⟨hf.1, hf.2, hp.2 (T.setVm vm₁) hT hW₁⟩) with ⟨v, vm₁, ⟨U', l2, c2, s2⟩, hW₁, X', ⟨g', mk, t, L, e1, e2, hq, h1, hL, h2, h3⟩, st⟩ | ⟨q, vm₁, ⟨U', l2, c2, s2⟩, hW₁, X', ⟨g', mk, t, L, E, ce, e1, e2, hq, hce, hcv, hcl, h1, hL, h2, h3⟩, st⟩
  · dsimp only [Pt.U, Pt.locs, Pt.cells, Pt.slots] at X' e1 e2 h1 h2 h3 st
    subst h1; subst h2; subst h3
    exact Or.inl ⟨v, (T.setVm vm₁).calling g' mk As.toArray, t, U', L, hT, X', hL, e1, e2, hq, st⟩
  · dsimp only [Pt.U, Pt.locs, Pt.cells, Pt.slots] at X' e1 e2 h1 h2 h3 st hcl
    subst h1; subst h2; subst h3
    exact Or.inr ⟨q, (T.setVm vm₁).calling g' mk As.toArray, t, U', L, E, ce, hT, X', hL, e1, e2, hq, hce, hcv, vx_cls hW₁ hcl, st⟩
end Runs
section Rows
variable {p : Program} {l : Launch} {e : Env} {R : Room} {s : State} {m : MethodId} {args : Array Value} {below : List Frame} {meth : Method} {c : Code} {H : Heap} {locs : List Loc} {cells slots : Nat} {Q : State → Prop}
variable {mc ms : Nat} {free : Addr → Prop} {A0 A1 : Nat → Prop} {H0 : Heap} {a : Array Value} {pc : Nat} {ls : Array Slot} {st0 rest : List Value}
theorem vx_keep {st₀ t T' : State} {L : List Loc} (h0 : st₀.heap = H) (e1 : T'.heap = t.heap) (hS : va_S A0 H0 H locs) (hA : ∀ q, q < H.size → A1 q → A0 q) (hf : ∀ q, free q → A0 q) (hL : ∀ q ∈ L, free q.base) (hF : va_F A1 st₀ t) :
    H.size ≤ T'.heap.size ∧ (∀ q : Nat, q < H.size → ¬ A1 q → T'.heap[q]? = H[q]?) ∧ va_S A0 H0 T'.heap (locs ++ L) := by
  obtain ⟨hz, hk⟩ := hF
  rw [h0] at hz hk
  exact ⟨by rw [e1]; exact hz, fun q h1 h2 => by rw [e1]; exact hk q h1 h2,
    ⟨Nat.le_trans hS.1 (by rw [e1]; exact hz), fun q h1 h2 => by rw [e1, hk q (Nat.lt_of_lt_of_le h1 hS.1) (fun z => h2 (hA q (Nat.lt_of_lt_of_le h1 hS.1) z))]; exact hS.2.1 q h1 h2, fun q hq => by
      rcases List.mem_append.mp hq with h | h
      · exact hS.2.2 q h
      · exact hf _ (hL q h)⟩⟩
theorem vx_calli {S SX : Type} {post : Int32 → S → Prop} {px : SX → Prop} {B : S → State → Prop} {BX : String → SX → State → Prop} {AX : Nat → Prop} (hr : vx_Run p l e R s m args below meth c H locs cells slots mc ms (F0 m pc ls st0) rest (va_Qi post B A1 a) (vx_X px BX AX) free) (hS : va_S A0 H0 H locs) (hA : ∀ q, q < H.size → A1 q → A0 q) (hf : ∀ q, free q → A0 q) (hAX : ∀ q, q < H.size → AX q → A0 q)
    (kx : ∀ (E : String) (ce : Cell) (q9 : Addr) (u : SX) (t : State) (H1 : Heap) (locs1 : List Loc), t.heap = H1 → s.vm.Alike t.vm → px u → BX E u t → H.size ≤ H1.size → (∀ q : Nat, q < H.size → ¬ AX q → H1[q]? = H[q]?) → va_S A0 H0 H1 locs1 → H1[q9]? = some ce → ce.vm = .none → s.vm.findClass E = some ce.cls → vx_W p l e R s m args below meth c H1 locs1 (cells + mc) (slots + ms) Q (F0 m pc ls rest) q9)
    (kk : ∀ (r : Int32) (u : S) (t : State) (H1 : Heap) (locs1 : List Loc), t.heap = H1 → s.vm.Alike t.vm → post r u → B u t → H.size ≤ H1.size → (∀ q : Nat, q < H.size → ¬ A1 q → H1[q]? = H[q]?) → va_S A0 H0 H1 locs1 → W p l e R s m args below meth c H1 locs1 (cells + mc) (slots + ms) Q (F0 m (pc + 3) ls (.int r :: rest))) : W p l e R s m args below meth c H locs cells slots Q (F0 m pc ls st0) := by
  intro T hT X
  rcases hr T hT X with ⟨v, st₀, t, T', L, h0, X', hL, e1, e2, ⟨⟨r, u, hv, hp, hb⟩, hF⟩, st⟩ | ⟨q, st₀, t, T', L, E, ce, h0, X', hL, e1, e2, ⟨u, hp, hb, hF⟩, hce, hcv, hcl, st⟩
  · cases hv
    obtain ⟨k1, k2, k3⟩ := vx_keep h0 e1 hS hA hf hL hF
    obtain ⟨t2, a1, b1⟩ := kk r u t T'.heap (locs ++ L) e1.symm (by rw [← e2]; exact X'.warmed.alike) hp hb k1 k2 k3 T' rfl X'
    exact ⟨t2, st t2 a1, b1⟩
  · obtain ⟨k1, k2, k3⟩ := vx_keep h0 e1 hS hAX hf hL hF
    obtain ⟨t2, a1, b1⟩ := kx E ce q u t T'.heap (locs ++ L) e1.symm (by rw [← e2]; exact X'.warmed.alike) hp hb k1 k2 k3 (by rw [e1]; exact hce) hcv hcl T' rfl X'
    exact ⟨t2, st.trans a1, b1⟩
theorem vx_calll {S SX : Type} {post : Int64 → S → Prop} {px : SX → Prop} {B : S → State → Prop} {BX : String → SX → State → Prop} {AX : Nat → Prop} (hr : vx_Run p l e R s m args below meth c H locs cells slots mc ms (F0 m pc ls st0) rest (va_Ql post B A1 a) (vx_X px BX AX) free) (hS : va_S A0 H0 H locs) (hA : ∀ q, q < H.size → A1 q → A0 q) (hf : ∀ q, free q → A0 q) (hAX : ∀ q, q < H.size → AX q → A0 q)
    (kx : ∀ (E : String) (ce : Cell) (q9 : Addr) (u : SX) (t : State) (H1 : Heap) (locs1 : List Loc), t.heap = H1 → s.vm.Alike t.vm → px u → BX E u t → H.size ≤ H1.size → (∀ q : Nat, q < H.size → ¬ AX q → H1[q]? = H[q]?) → va_S A0 H0 H1 locs1 → H1[q9]? = some ce → ce.vm = .none → s.vm.findClass E = some ce.cls → vx_W p l e R s m args below meth c H1 locs1 (cells + mc) (slots + ms) Q (F0 m pc ls rest) q9)
    (kk : ∀ (r : Int64) (u : S) (t : State) (H1 : Heap) (locs1 : List Loc), t.heap = H1 → s.vm.Alike t.vm → post r u → B u t → H.size ≤ H1.size → (∀ q : Nat, q < H.size → ¬ A1 q → H1[q]? = H[q]?) → va_S A0 H0 H1 locs1 → W p l e R s m args below meth c H1 locs1 (cells + mc) (slots + ms) Q (F0 m (pc + 3) ls (.long r :: rest))) : W p l e R s m args below meth c H locs cells slots Q (F0 m pc ls st0) := by
  intro T hT X
  rcases hr T hT X with ⟨v, st₀, t, T', L, h0, X', hL, e1, e2, ⟨⟨r, u, hv, hp, hb⟩, hF⟩, st⟩ | ⟨q, st₀, t, T', L, E, ce, h0, X', hL, e1, e2, ⟨u, hp, hb, hF⟩, hce, hcv, hcl, st⟩
  · cases hv
    obtain ⟨k1, k2, k3⟩ := vx_keep h0 e1 hS hA hf hL hF
    obtain ⟨t2, a1, b1⟩ := kk r u t T'.heap (locs ++ L) e1.symm (by rw [← e2]; exact X'.warmed.alike) hp hb k1 k2 k3 T' rfl X'
    exact ⟨t2, st t2 a1, b1⟩
  · obtain ⟨k1, k2, k3⟩ := vx_keep h0 e1 hS hAX hf hL hF
    obtain ⟨t2, a1, b1⟩ := kx E ce q u t T'.heap (locs ++ L) e1.symm (by rw [← e2]; exact X'.warmed.alike) hp hb k1 k2 k3 (by rw [e1]; exact hce) hcv hcl T' rfl X'
    exact ⟨t2, st.trans a1, b1⟩
theorem vx_callf {S SX : Type} {post : UInt32 → S → Prop} {px : SX → Prop} {B : S → State → Prop} {BX : String → SX → State → Prop} {AX : Nat → Prop} (hr : vx_Run p l e R s m args below meth c H locs cells slots mc ms (F0 m pc ls st0) rest (va_Qf post B A1 a) (vx_X px BX AX) free) (hS : va_S A0 H0 H locs) (hA : ∀ q, q < H.size → A1 q → A0 q) (hf : ∀ q, free q → A0 q) (hAX : ∀ q, q < H.size → AX q → A0 q)
    (kx : ∀ (E : String) (ce : Cell) (q9 : Addr) (u : SX) (t : State) (H1 : Heap) (locs1 : List Loc), t.heap = H1 → s.vm.Alike t.vm → px u → BX E u t → H.size ≤ H1.size → (∀ q : Nat, q < H.size → ¬ AX q → H1[q]? = H[q]?) → va_S A0 H0 H1 locs1 → H1[q9]? = some ce → ce.vm = .none → s.vm.findClass E = some ce.cls → vx_W p l e R s m args below meth c H1 locs1 (cells + mc) (slots + ms) Q (F0 m pc ls rest) q9)
    (kk : ∀ (r : UInt32) (u : S) (t : State) (H1 : Heap) (locs1 : List Loc), t.heap = H1 → s.vm.Alike t.vm → post r u → B u t → H.size ≤ H1.size → (∀ q : Nat, q < H.size → ¬ A1 q → H1[q]? = H[q]?) → va_S A0 H0 H1 locs1 → W p l e R s m args below meth c H1 locs1 (cells + mc) (slots + ms) Q (F0 m (pc + 3) ls (.float r :: rest))) : W p l e R s m args below meth c H locs cells slots Q (F0 m pc ls st0) := by
  intro T hT X
  rcases hr T hT X with ⟨v, st₀, t, T', L, h0, X', hL, e1, e2, ⟨⟨r, u, hv, hp, hb⟩, hF⟩, st⟩ | ⟨q, st₀, t, T', L, E, ce, h0, X', hL, e1, e2, ⟨u, hp, hb, hF⟩, hce, hcv, hcl, st⟩
  · cases hv
    obtain ⟨k1, k2, k3⟩ := vx_keep h0 e1 hS hA hf hL hF
    obtain ⟨t2, a1, b1⟩ := kk r u t T'.heap (locs ++ L) e1.symm (by rw [← e2]; exact X'.warmed.alike) hp hb k1 k2 k3 T' rfl X'
    exact ⟨t2, st t2 a1, b1⟩
  · obtain ⟨k1, k2, k3⟩ := vx_keep h0 e1 hS hAX hf hL hF
    obtain ⟨t2, a1, b1⟩ := kx E ce q u t T'.heap (locs ++ L) e1.symm (by rw [← e2]; exact X'.warmed.alike) hp hb k1 k2 k3 (by rw [e1]; exact hce) hcv hcl T' rfl X'
    exact ⟨t2, st.trans a1, b1⟩
theorem vx_calld {S SX : Type} {post : UInt64 → S → Prop} {px : SX → Prop} {B : S → State → Prop} {BX : String → SX → State → Prop} {AX : Nat → Prop} (hr : vx_Run p l e R s m args below meth c H locs cells slots mc ms (F0 m pc ls st0) rest (va_Qd post B A1 a) (vx_X px BX AX) free) (hS : va_S A0 H0 H locs) (hA : ∀ q, q < H.size → A1 q → A0 q) (hf : ∀ q, free q → A0 q) (hAX : ∀ q, q < H.size → AX q → A0 q)
    (kx : ∀ (E : String) (ce : Cell) (q9 : Addr) (u : SX) (t : State) (H1 : Heap) (locs1 : List Loc), t.heap = H1 → s.vm.Alike t.vm → px u → BX E u t → H.size ≤ H1.size → (∀ q : Nat, q < H.size → ¬ AX q → H1[q]? = H[q]?) → va_S A0 H0 H1 locs1 → H1[q9]? = some ce → ce.vm = .none → s.vm.findClass E = some ce.cls → vx_W p l e R s m args below meth c H1 locs1 (cells + mc) (slots + ms) Q (F0 m pc ls rest) q9)
    (kk : ∀ (r : UInt64) (u : S) (t : State) (H1 : Heap) (locs1 : List Loc), t.heap = H1 → s.vm.Alike t.vm → post r u → B u t → H.size ≤ H1.size → (∀ q : Nat, q < H.size → ¬ A1 q → H1[q]? = H[q]?) → va_S A0 H0 H1 locs1 → W p l e R s m args below meth c H1 locs1 (cells + mc) (slots + ms) Q (F0 m (pc + 3) ls (.double r :: rest))) : W p l e R s m args below meth c H locs cells slots Q (F0 m pc ls st0) := by
  intro T hT X
  rcases hr T hT X with ⟨v, st₀, t, T', L, h0, X', hL, e1, e2, ⟨⟨r, u, hv, hp, hb⟩, hF⟩, st⟩ | ⟨q, st₀, t, T', L, E, ce, h0, X', hL, e1, e2, ⟨u, hp, hb, hF⟩, hce, hcv, hcl, st⟩
  · cases hv
    obtain ⟨k1, k2, k3⟩ := vx_keep h0 e1 hS hA hf hL hF
    obtain ⟨t2, a1, b1⟩ := kk r u t T'.heap (locs ++ L) e1.symm (by rw [← e2]; exact X'.warmed.alike) hp hb k1 k2 k3 T' rfl X'
    exact ⟨t2, st t2 a1, b1⟩
  · obtain ⟨k1, k2, k3⟩ := vx_keep h0 e1 hS hAX hf hL hF
    obtain ⟨t2, a1, b1⟩ := kx E ce q u t T'.heap (locs ++ L) e1.symm (by rw [← e2]; exact X'.warmed.alike) hp hb k1 k2 k3 (by rw [e1]; exact hce) hcv hcl T' rfl X'
    exact ⟨t2, st.trans a1, b1⟩
theorem vx_callv {S SX : Type} {post : S → Prop} {px : SX → Prop} {B : S → State → Prop} {BX : String → SX → State → Prop} {AX : Nat → Prop} (hr : vx_Run p l e R s m args below meth c H locs cells slots mc ms (F0 m pc ls st0) rest (va_Qv post B A1 a) (vx_X px BX AX) free) (hS : va_S A0 H0 H locs) (hA : ∀ q, q < H.size → A1 q → A0 q) (hf : ∀ q, free q → A0 q) (hAX : ∀ q, q < H.size → AX q → A0 q)
    (kx : ∀ (E : String) (ce : Cell) (q9 : Addr) (u : SX) (t : State) (H1 : Heap) (locs1 : List Loc), t.heap = H1 → s.vm.Alike t.vm → px u → BX E u t → H.size ≤ H1.size → (∀ q : Nat, q < H.size → ¬ AX q → H1[q]? = H[q]?) → va_S A0 H0 H1 locs1 → H1[q9]? = some ce → ce.vm = .none → s.vm.findClass E = some ce.cls → vx_W p l e R s m args below meth c H1 locs1 (cells + mc) (slots + ms) Q (F0 m pc ls rest) q9)
    (kk : ∀ (u : S) (t : State) (H1 : Heap) (locs1 : List Loc), t.heap = H1 → s.vm.Alike t.vm → post u → B u t → H.size ≤ H1.size → (∀ q : Nat, q < H.size → ¬ A1 q → H1[q]? = H[q]?) → va_S A0 H0 H1 locs1 → W p l e R s m args below meth c H1 locs1 (cells + mc) (slots + ms) Q (F0 m (pc + 3) ls (rest))) : W p l e R s m args below meth c H locs cells slots Q (F0 m pc ls st0) := by
  intro T hT X
  rcases hr T hT X with ⟨v, st₀, t, T', L, h0, X', hL, e1, e2, ⟨⟨u, hv, hp, hb⟩, hF⟩, st⟩ | ⟨q, st₀, t, T', L, E, ce, h0, X', hL, e1, e2, ⟨u, hp, hb, hF⟩, hce, hcv, hcl, st⟩
  · cases hv
    obtain ⟨k1, k2, k3⟩ := vx_keep h0 e1 hS hA hf hL hF
    obtain ⟨t2, a1, b1⟩ := kk u t T'.heap (locs ++ L) e1.symm (by rw [← e2]; exact X'.warmed.alike) hp hb k1 k2 k3 T' rfl X'
    exact ⟨t2, st t2 a1, b1⟩
  · obtain ⟨k1, k2, k3⟩ := vx_keep h0 e1 hS hAX hf hL hF
    obtain ⟨t2, a1, b1⟩ := kx E ce q u t T'.heap (locs ++ L) e1.symm (by rw [← e2]; exact X'.warmed.alike) hp hb k1 k2 k3 (by rw [e1]; exact hce) hcv hcl T' rfl X'
    exact ⟨t2, st.trans a1, b1⟩
/-- caught by the row x of this method's table; the rows ahead don't take it -/
theorem vx_catch {own name : String} {E : String} {ce : Cell} {q : Addr} (hown : s.vm.findClass own = some m.cls) (pre : List ExceptionTableEntry) (x : ExceptionTableEntry) (suf : List ExceptionTableEntry) (hsplit : c.exceptionTable.toList = pre ++ x :: suf)
    (hpass : ∀ z ∈ pre, covers z pc = false ∨ (z.catchType ≠ 0 ∧ ∃ nm : String, (Cond.classLink own z.catchType nm).before args s = true ∧ va_Nc E nm s)) (hx : covers x pc = true) (h0 : x.catchType ≠ 0)
    (hlink : (Cond.classLink own x.catchType name).before args s = true) (hcast : (Cond.castable E name).before args s = true) (hcell : H[q]? = some ce) (hv : ce.vm = .none) (hcl : s.vm.findClass E = some ce.cls)
    (kk : W p l e R s m args below meth c H locs cells slots Q (F0 m x.handlerPc ls [.ref q])) : vx_W p l e R s m args below meth c H locs cells slots Q (F0 m pc ls rest) q := by
  intro T hT X
  have hpl : e.platform.magicAccessors = ({} : Platform).magicAccessors := by rw [X.admits.platform]
  obtain ⟨c3, c4, hc3, hc4, hasg⟩ := Cond.castable_spec hcast
  cases Option.some.inj (hc3.symm.trans hcl)
  obtain ⟨c5, hc5, hcl5⟩ := Cond.classLink_spec hown hlink e.platform hpl
  cases Option.some.inj (hc4.symm.trans hc5)
  obtain ⟨vm', X', st⟩ := X.thenCaughtThrough q (g := F0 m pc ls rest) rfl (Steps.refl _) (by rw [hT]; exact hcell) (by rw [hv]; rfl) (by obtain ⟨k9, h9, -⟩ := Vm.findClass_spec hcl; exact ⟨k9, h9⟩) pre x suf hsplit
    (fun z hz => by
      rcases hpass z hz with h | ⟨hz0, nm, hl1, hn1⟩
      · exact Or.inl h
      · obtain ⟨c6, hc6, hcl6⟩ := Cond.classLink_spec hown hl1 e.platform hpl
        obtain ⟨a8, b8, h1, h2, h3⟩ := hn1
        cases Option.some.inj (h1.symm.trans hcl)
        cases Option.some.inj (h2.symm.trans hc6)
        exact Or.inr ⟨hz0, _, hcl6, h3⟩) hx (Or.inr ⟨h0, c4, hcl5, hasg⟩)
  obtain ⟨t, a1, b1⟩ := kk (T.setVm vm') hT X'
  exact ⟨t, st.trans a1, b1⟩
end Rows
section Ends
variable {p : Program} {l : Launch} {e : Env} {R : Room} {s : State} {m : MethodId} {args : Array Value} {below : List Frame} {meth : Method} {c : Code} {H : Heap} {locs : List Loc} {cells slots : Nat} {Q : State → Prop}
variable {mc ms : Nat} {free : Addr → Prop} {A0 A1 : Nat → Prop} {H0 : Heap} {a : Array Value} {ls : Array Slot} {st0 rest : List Value}
variable {Qc : Array Value → State → Outcome → State → Prop} {XC : String → State → State → Prop}
/-- what a body that may throw owes at its end -/
def vx_MQ (below : List Frame) (Qc : Array Value → State → Outcome → State → Prop) (XC : String → State → State → Prop) (a : Array Value) (s : State) (mc ms : Nat) (free : Addr → Prop) : State → Prop := fun t =>
  ∃ o, t.status = .running ∧ Ended t below o ∧ vx_Q Qc XC mc ms free a s o t
theorem vx_ret {g : JFrame} {mc ms : Nat} (k : W p l e R s m args below meth c H locs cells slots (MQ below Qc args s mc ms free) g) : W p l e R s m args below meth c H locs cells slots (vx_MQ below Qc XC args s mc ms free) g := by
  intro T hT X
  obtain ⟨t, a1, o, b1, b2, b3, b4⟩ := k T hT X
  exact ⟨t, a1, o, b1, b2, Or.inl ⟨b3, b4⟩⟩
/-- not caught here: it goes on to the caller -/
theorem vx_widen {g : JFrame} {q : Addr} {k n : Nat} (h1 : cells ≤ k) (h2 : slots ≤ n) (kk : vx_W p l e R s m args below meth c H locs k n Q g q) : vx_W p l e R s m args below meth c H locs cells slots Q g q := fun T hT X => kk T hT (stand_widen X h1 h2)
theorem vx_out {pc : Nat} {E : String} {ce : Cell} {q : Addr} {mc ms : Nat} (hout : ∀ x ∈ c.exceptionTable.toList, covers x pc = false) (hlocks : meth.locks = false) (hcell : H[q]? = some ce) (hv : ce.vm = .none) (hcl : s.vm.findClass E = some ce.cls)
    (hx : ∀ t : State, t.heap = H → s.vm.Alike t.vm → XC E s t) (hf : ∀ z ∈ locs, free z.base) (hc : cells ≤ mc) (hs : slots ≤ ms) :
    vx_W p l e R s m args below meth c H locs cells slots (vx_MQ below Qc XC args s mc ms free) (F0 m pc ls rest) q := by
  intro T hT X
  obtain ⟨st1, hrun, hend, hW, hsm⟩ := X.leaveThrown q (g := F0 m pc ls rest) rfl rfl rfl hout hlocks
  have hcell9 : (T.setFrames (.throwing q :: below)).heap[q]? = some ce := by
    show T.heap[q]? = some ce
    rw [hT]; exact hcell
  exact ⟨_, st1, .threw q, hrun, hend, Or.inr ⟨q, rfl, E, ce, locs, hx _ hT hW.alike, hcell9, hv, hcl, hW, hsm.mono hc hs, hf⟩⟩
theorem vx_frame {U : State} {k n : Nat} (h : s.sameButNew ({ U with vm := s.vm } : State) locs k n) : s.heap.size ≤ U.heap.size ∧ ∀ q : Nat, q < s.heap.size → (∀ z ∈ locs, z.base ≠ q) → U.heap[q]? = s.heap[q]? := by
  obtain ⟨-, h2, -, -, -, h6⟩ := h
  refine ⟨h2, fun q hq hz => ?_⟩
  obtain ⟨c9, e1, e2, e3, e4⟩ := h6 q _ (Array.getElem?_eq_getElem hq)
  have hs : c9.slots = (s.heap[q]).slots := Array.ext_getElem? fun i => e4 i fun hm => hz _ hm rfl
  have h9 : c9 = s.heap[q] := by
    rw [hs] at e2
    exact e2
  have e5 : U.heap[q]? = some c9 := e1
  rw [e5, h9, Array.getElem?_eq_getElem hq]
/-- the words of a throw but the four that speak of the heap -/
def vx_no (w : Cond) : Bool := decide (w ≠ .isRef (.static Bundle.tN "UNASSIGNED_STACK" Bundle.steD)) && decide (w ≠ .isRef (.static Bundle.tN "SUPPRESSED_SENTINEL" Bundle.listD)) && decide (w ≠ .laysStatic Bundle.tN "UNASSIGNED_STACK" Bundle.steD) && decide (w ≠ .laysStatic Bundle.tN "SUPPRESSED_SENTINEL" Bundle.listD)
def vx_at0 (own : String) (ic : Nat) (X : String) (names : List String) : List Cond := (Bundle.ownAtoms0 own ic X names).filter vx_no
def vx_atS (own : String) (ic : Nat) (X : String) (names : List String) : List Cond := (Bundle.ownAtoms own ic X names).filter vx_no
/-- a word that the tables alone decide, or a good one -/
def vx_ot (w : Cond) : Bool := w.onTables || goodWord w
theorem vx_ot_at {args a' : Array Value} {s U : State} {w : Cond} (hW : s.WarmedH U.vm) (hvm : s.vm = U.vm) (hg : vx_ot w = true) (h : w.before args s = true) : w.before a' U = true := by
  simp only [vx_ot, Bool.or_eq_true] at hg
  rcases hg with hg | hg
  · exact va_tabs hg hvm h
  · exact word_at hW (good_of_word hg) h
/-- a list's words: the good ones out of the method's own list, the others by premises of their own -/
theorem vx_hat {args : Array Value} {s : State} {L B : List Cond} (h1 : ∀ w ∈ L.filter goodWord, w.before args s = true) (h2 : ∀ w ∈ L.filter (fun w => !goodWord w), w ∈ B) (h3 : ∀ w ∈ B, w.before args s = true) : ∀ w ∈ L, w.before args s = true := by
  intro w hw
  by_cases g : goodWord w = true
  · exact h1 w (List.mem_filter.mpr ⟨hw, g⟩)
  · refine h3 w (h2 w (List.mem_filter.mpr ⟨hw, ?_⟩))
    show (!goodWord w) = true
    cases hgw : goodWord w
    · rfl
    · exact absurd hgw g
theorem vx_c {args : Array Value} {s : State} {w : Cond} {B : List Cond} (h : w.before args s = true) (t : ∀ w ∈ B, w.before args s = true) : ∀ w' ∈ w :: B, w'.before args s = true := fun w' h' => (List.mem_cons.mp h').elim (fun e => by rw [e]; exact h) (t w')
theorem vx_n {args : Array Value} {s : State} : ∀ w ∈ ([] : List Cond), w.before args s = true := fun _ h => nomatch h
theorem vx_own {args : Array Value} {s : State} {L : List Cond} (h1 : ∀ w ∈ L.filter vx_no, w.before args s = true)
    (hU : (Cond.isRef (.static Bundle.tN "UNASSIGNED_STACK" Bundle.steD)).before args s = true) (hN : (Cond.isRef (.static Bundle.tN "SUPPRESSED_SENTINEL" Bundle.listD)).before args s = true)
    (lU : (Cond.laysStatic Bundle.tN "UNASSIGNED_STACK" Bundle.steD).before args s = true) (lN : (Cond.laysStatic Bundle.tN "SUPPRESSED_SENTINEL" Bundle.listD).before args s = true) : ∀ w ∈ L, w.before args s = true := by
  intro w hw
  by_cases e1 : w = .isRef (.static Bundle.tN "UNASSIGNED_STACK" Bundle.steD)
  · rw [e1]; exact hU
  · by_cases e2 : w = .isRef (.static Bundle.tN "SUPPRESSED_SENTINEL" Bundle.listD)
    · rw [e2]; exact hN
    · by_cases e3 : w = .laysStatic Bundle.tN "UNASSIGNED_STACK" Bundle.steD
      · rw [e3]; exact lU
      · by_cases e4 : w = .laysStatic Bundle.tN "SUPPRESSED_SENTINEL" Bundle.listD
        · rw [e4]; exact lN
        · exact h1 w (List.mem_filter.mpr ⟨hw, by unfold vx_no; rw [decide_eq_true e1, decide_eq_true e2, decide_eq_true e3, decide_eq_true e4]; rfl⟩)
/-- where a static field lies, its class's statics cell in H -/
def vx_L (C n d : String) (A : Nat → Prop) (U : State) (H : Heap) : Prop := ∃ (c : ClassId) (k : Class) (i : Nat) (f : Field) (a : Nat) (cell : Cell), U.vm.findClass C = some c ∧ U.fieldFound? C n d = some (c, k, i, f) ∧ f.isStatic = true ∧ k.statics = some a ∧ H[a]? = some cell ∧ cell.vm.isStatics = true ∧ cell.cls = c ∧ f.slot < cell.slots.size ∧ k.staticTypes[f.slot]? = some f.type ∧ ¬ A a
theorem vx_L.moved {C n d : String} {A : Nat → Prop} {u U : State} {H : Heap} (hvm : u.vm.Alike U.vm) (h : vx_L C n d A u H) : vx_L C n d A U H := by
  obtain ⟨c, k, i, f, a, cell, h1, h2, h3, h4, h5, h6, h7, h8, h9, h10⟩ := h
  obtain ⟨k', hi', he⟩ := State.fieldFound?_setVm hvm h2
  exact ⟨c, k', i, f, a, cell, by rw [hvm.findClass]; exact h1, hi', h3, by rw [he]; exact h4, h5, h6, h7, h8, by rw [he]; exact h9, h10⟩
theorem vx_L.kept {C n d : String} {A : Nat → Prop} {U : State} {H H1 : Heap} (h : vx_L C n d A U H) (hq : ∀ a : Nat, a < H.size → ¬ A a → H1[a]? = H[a]?) : vx_L C n d A U H1 := by
  obtain ⟨c, k, i, f, a, cell, h1, h2, h3, h4, h5, h6, h7, h8, h9, h10⟩ := h
  exact ⟨c, k, i, f, a, cell, h1, h2, h3, h4, by rw [hq a (Array.getElem?_eq_some_iff.mp h5).1 h10]; exact h5, h6, h7, h8, h9, h10⟩
theorem vx_L.narrow {C n d : String} {A B : Nat → Prop} {U : State} {H : Heap} (h : vx_L C n d A U H) (hAB : ∀ q, B q → A q) : vx_L C n d B U H := by
  obtain ⟨c, k, i, f, a, cell, h1, h2, h3, h4, h5, h6, h7, h8, h9, h10⟩ := h
  exact ⟨c, k, i, f, a, cell, h1, h2, h3, h4, h5, h6, h7, h8, h9, fun z => h10 (hAB _ z)⟩
theorem vx_L.word {C n d : String} {A : Nat → Prop} {s : State} {args : Array Value} (h : vx_L C n d A s s.heap) : (Cond.laysStatic C n d).before args s = true := by
  obtain ⟨c, k, i, f, a, cell, h1, h2, h3, h4, h5, h6, h7, h8, h9, -⟩ := h
  show (Cond.laysStatic C n d).holds args s none s [] = true
  exact Cond.laysStatic_of h1 h2 h3 h4 h5 h6 h7 h8 h9
/-- .. and what it holds: null or some reference -/
def vx_Zq (C n d : String) (A : Nat → Prop) (U : State) (H : Heap) : Prop := va_Zq C n d A U H ∧ vx_L C n d A U H
theorem vx_Zq.moved {C n d : String} {A : Nat → Prop} {u U : State} {H : Heap} (hvm : u.vm.Alike U.vm) (h : vx_Zq C n d A u H) : vx_Zq C n d A U H := ⟨va_Zq.moved hvm h.1, vx_L.moved hvm h.2⟩
theorem vx_Zq.kept {C n d : String} {A : Nat → Prop} {U : State} {H H1 : Heap} (h : vx_Zq C n d A U H) (hq : ∀ a : Nat, a < H.size → ¬ A a → H1[a]? = H[a]?) : vx_Zq C n d A U H1 := ⟨va_Zq.kept h.1 hq, vx_L.kept h.2 hq⟩
theorem vx_Zq.narrow {C n d : String} {A B : Nat → Prop} {U : State} {H : Heap} (h : vx_Zq C n d A U H) (hAB : ∀ q, B q → A q) : vx_Zq C n d B U H := ⟨va_Zq.narrow h.1 hAB, vx_L.narrow h.2 hAB⟩
theorem vx_Zqof {args : Array Value} {s : State} {C n d : String} {A : Nat → Prop} (hl : (Cond.laysStatic C n d).before args s = true) (hini : (Cond.initialized C).before args s = true) (h : (Cond.isRef (.static C n d)).before args s = true) (hA : ∀ a : Nat, a < s.heap.size → ¬ A a) : vx_Zq C n d A s s.heap := by
  refine ⟨va_Zqof hl hini h hA, ?_⟩
  obtain ⟨c, k, i, f, a, cell, h1, h2, h3, h4, h5, h6, h7, h8, h9⟩ := Cond.laysStatic_spec hl
  exact ⟨c, k, i, f, a, cell, h1, h2, h3, h4, h5, h6, h7, h8, h9, hA a (Array.getElem?_eq_some_iff.mp h5).1⟩
theorem vx_isRef {C n d : String} {v : Value} {A : Nat → Prop} {s : State} {args : Array Value} (h : va_Z C n d v A s s.heap) (hv : v.isRef = true) : (Cond.isRef (.static C n d)).before args s = true := by
  obtain ⟨cf, kf, fi, f, a, cell, h1, h2, h3, h4, h5, h6, h7, -⟩ := h
  have he : (Term.static C n d).eval args s none [] s = some v := by
    simp [Term.eval, State.fieldNamed?, h1, h2, h4, h5, h6, h7]
  simp only [Cond.before, Cond.holds, Cond.value, he]
  cases v <;> simp_all [Value.isRef]
theorem vx_isRefq {C n d : String} {A : Nat → Prop} {s : State} {args : Array Value} (h : va_Zq C n d A s s.heap) : (Cond.isRef (.static C n d)).before args s = true := by
  rcases h with h | ⟨t, h⟩
  · exact vx_isRef h rfl
  · exact vx_isRef h rfl
/-- the same frame, seen from here: as if the method were called anew in this heap -/
theorem vx_rebase {T : State} (X : Stand p l e R s m args below meth c T locs cells slots) {R' : Room} (hf : R'.frames ≤ R.frames) (hl : R'.locals ≤ R.locals) (hc : cells + R'.cells ≤ R.cells) (hs : slots + R'.slots ≤ R.slots) :
    Stand p l e R' ((T.setVm s.vm).setFrames (.invoking m args :: below)) m args below meth c T [] 0 0 := by
  have htop : (T.setVm s.vm).topJava?.isSome := X.here.top
  have hF : ((T.setVm s.vm).setFrames (.invoking m args :: below)).frames = .invoking m args :: below := State.frames_setFrames _ (State.cur_lt_of_top htop)
  obtain ⟨g₀, hg0⟩ := Option.isSome_iff_exists.mp htop
  obtain ⟨r, hr⟩ := State.topJava?_eq_some.mp hg0
  have hl9 : e.platform.stackLimits (T.setVm s.vm).me = e.platform.stackLimits s.me := X.limits
  have hb9 : (T.setVm s.vm).me.stackBytes = s.me.stackBytes := X.bytes
  refine ⟨X.admits, X.cas, X.clock, hF, ?_, X.hears, X.method, X.code, X.here, X.tail, X.warmed, ?_, ?_, ?_⟩
  · have h := X.room
    have hU : ((T.setVm s.vm).setFrames (.invoking m args :: below)).localsInUse = s.localsInUse := by
      rw [State.localsInUse_invoking hF (meth := meth) (c := c) X.method X.code, State.localsInUse_invoking X.frames X.method X.code]
    simp only [State.hasRoom, Bool.and_eq_true, decide_eq_true_eq] at h ⊢
    obtain ⟨⟨⟨⟨h1, h2, h3, h4, h5, h6⟩, h7⟩, h8⟩, h9⟩ := h
    rw [X.frames, List.length_cons] at h2 h3
    have q1 := X.heapSize
    have q2 := X.used
    simp only [hF, hU, List.length_cons, State.stackLimits_setFrames, State.stackBytes_setFrames, hl9, hb9]
    refine ⟨⟨⟨⟨by omega, by omega, by omega, by omega, by omega, h6⟩, ?_⟩, ?_⟩, X.book⟩
    · show T.heap.size + R'.cells ≤ e.platform.maxCells
      omega
    · show T.slotsUsed + R'.slots ≤ e.platform.maxSlots
      omega
  · rw [State.stackLimits_setFrames]; rfl
  · rw [State.stackBytes_setFrames]; rfl
  · refine ⟨?_, Nat.le_refl _, Nat.le_refl _, ?_, ?_, fun a c9 h9 => ⟨c9, h9, rfl, rfl, fun _ _ => rfl⟩⟩
    · obtain ⟨t, ht, -⟩ := State.frames_cons hr
      show T.setVm s.vm = { ((T.setVm s.vm).setFrames (.invoking m args :: below)).setFrames (T.setVm s.vm).frames with heap := T.heap, slotsUsed := T.slotsUsed }
      rw [State.setFrames_setFrames, State.setFrames_self ht]
      rfl
    · show T.slotsUsed = T.slotsUsed + ((T.heap.toList.drop T.heap.size).map (·.slots.size)).sum
      rw [List.drop_eq_nil_of_le (Nat.le_of_eq Array.length_toList)]
      rfl
    · show ((T.heap.toList.drop T.heap.size).map (·.slots.size)).sum ≤ 0
      rw [List.drop_eq_nil_of_le (Nat.le_of_eq Array.length_toList)]
      exact Nat.le_refl _
/-- 'throw new E()': new; dup; invokespecial; athrow -/
theorem vx_throw0 {cc : ByteArray} {pc : Nat} (hexec : p.tables.exec = Jvm.exec) (hb : c.code = cc) (hl : l.stackTraces = false) {own cls : String} {names : List String} {ik ic mc ms : Nat} {A : Nat → Prop}
    (hown : s.vm.findClass own = some m.cls) (hcls : Bundle.fit cls = true) (hnames : ∀ n ∈ names, Bundle.fit n = true)
    (hk : (Cond.classLink own ik cls).before args s = true) (hini : (Cond.initialized cls).before args s = true) (hat : ∀ w ∈ vx_at0 own ic cls names, w.before args s = true)
    (hgood : ∀ w ∈ Cond.classLink own ik cls :: Cond.initialized cls :: vx_at0 own ic cls names, vx_ot w = true)
    (hU : vx_Zq Bundle.tN "UNASSIGNED_STACK" Bundle.steD A s s.heap) (hN : vx_Zq Bundle.tN "SUPPRESSED_SENTINEL" Bundle.listD A s s.heap) (hS : va_S A s.heap H locs) (hsize : ls.size = c.maxLocals)
    (d0 : decode cc pc = .ok (.new ik, 3)) (d3 : decode cc (pc + 3) = .ok (.dup, 1)) (d4 : decode cc (pc + 4) = .ok (.invokespecial ic, 3)) (d7 : decode cc (pc + 7) = .ok (.athrow, 1))
    (hout : ∀ x ∈ c.exceptionTable.toList, covers x (pc + 7) = false)
    (hRframes : names.length + 3 < R.frames) (hRlocals : (rest.map fun v => v.category).sum + (13 * (names.length + 1) + 42) ≤ R.locals) (hRcells : cells + 1 ≤ R.cells) (hRslots : slots + 6 ≤ R.slots) (hlocks : meth.locks = false)
    (hx : ∀ t : State, s.vm.Alike t.vm → H.size ≤ t.heap.size → (∀ q : Nat, q < H.size → t.heap[q]? = H[q]?) → XC cls s t)
    (hf : ∀ z ∈ locs, free z.base) (hc : cells + 1 ≤ mc) (hs : slots + 6 ≤ ms) :
    W p l e R s m args below meth c H locs cells slots (vx_MQ below Qc XC args s mc ms free) (F0 m pc ls rest) := by
  intro T hT X
  have htr : e.platform.stackTraces = false := (show e.platform.stackTraces = l.stackTraces by rw [X.admits.platform]).trans hl
  have Y := vx_rebase X (R' := { frames := R.frames, locals := R.locals, cells := 1, slots := 6 }) (Nat.le_refl _) (Nat.le_refl _) hRcells hRslots
  obtain ⟨s', hA⟩ : ∃ z, z = (T.setVm s.vm).setFrames (.invoking m args :: below) := ⟨_, rfl⟩
  rw [← hA] at Y
  have hvm : s'.vm = s.vm := by rw [hA]; rfl
  have hhp : s'.heap = H := by rw [hA]; exact hT
  have hW0 : s.WarmedH s'.vm := by rw [hvm]; exact State.WarmedH.refl s
  have hat' : ∀ w ∈ vx_at0 own ic cls names, w.before args s' = true := fun w hw => vx_ot_at hW0 hvm.symm (hgood w (List.mem_cons_of_mem _ (List.mem_cons_of_mem _ hw))) (hat w hw)
  have hk' : (Cond.classLink own ik cls).before args s' = true := vx_ot_at hW0 hvm.symm (hgood _ List.mem_cons_self) hk
  have hini' : (Cond.initialized cls).before args s' = true := vx_ot_at hW0 hvm.symm (hgood _ (List.mem_cons_of_mem _ List.mem_cons_self)) hini
  have hU' : vx_Zq Bundle.tN "UNASSIGNED_STACK" Bundle.steD A s' s'.heap := by rw [hhp]; exact vx_Zq.moved hW0.alike (hU.kept hS.2.1)
  have hN' : vx_Zq Bundle.tN "SUPPRESSED_SENTINEL" Bundle.listD A s' s'.heap := by rw [hhp]; exact vx_Zq.moved hW0.alike (hN.kept hS.2.1)
  have h : ∀ w ∈ Bundle.ownAtoms0 own ic cls names, w.before args s' = true := vx_own hat' (vx_isRefq hU'.1) (vx_isRefq hN'.1) hU'.2.word hN'.2.word
  have hown' : s'.vm.findClass own = some m.cls := by rw [hvm]; exact hown
  have hins : (Cond.instantiable cls 6).before args s' = true := h _ (by simp [Bundle.ownAtoms0])
  obtain ⟨vm₁, cX, kX, hfX, hkX, -, -, X₁, st1⟩ := Y.newCold hexec (own := own) (C := cls) (index := ik) (n := 6) hown' hk' hins hini'
    (g := F0 m pc ls rest) rfl (by rw [hb]; exact d0) (Nat.le_refl _) (Nat.le_refl _)
  generalize hT1 : (T.setVm vm₁).pushCell { cls := cX, slots := kX.instanceTypes.map defaultValue, vm := .none } = T1 at X₁ st1
  have hcat : (Value.ref T.heap.size).category = 1 := rfl
  have hcellA : T1.heap[T.heap.size]? = some (freshCell cX kX) := by rw [← hT1]; exact State.heap_pushCell_size _ _
  have d3' : decode c.code (pc + 3) = .ok (.dup, 1) := by rw [hb]; exact d3
  obtain ⟨U, hsteps, hrun, hend, hW, hsame, ce, hce, hO⟩ := X₁.ctorThrow0 hexec htr (own := own) (cls := cls) (names := names) (ic := ic) hown' hcls hnames h (fun x hx => nomatch hx) hfX hkX hcellA (by rw [hhp, hT]; exact Nat.le_refl _)
    (g := { method := m, pc := pc + 4, locals := ls, stack := .ref T.heap.size :: .ref T.heap.size :: rest, locked := none }) rfl hsize rfl rfl (rest := rest) rfl
    (by rw [hb]; exact d4) (by rw [hb]; exact d7) hout hRframes (by simp only [List.map_cons, List.sum_cons, hcat]; omega) hlocks
  obtain ⟨f1, f2⟩ := vx_frame hsame
  rw [hhp] at f1 f2
  have hWs : s.WarmedH U.vm := State.WarmedH.trans hW0 hW
  have hcl : s.vm.findClass cls = some ce.cls := by
    have h9 := hO.cls
    rw [hvm] at h9
    exact h9
  have hall : s.sameButNew ({ U with vm := s.vm } : State) locs mc ms := by
    subst hA
    obtain ⟨e1, e2⟩ := hsame
    rw [State.setFrames_setFrames] at e1
    have h2 : (T.setVm s.vm).sameButNew ({ U with vm := s.vm } : State) [] (0 + 1) (0 + 6) := ⟨e1, e2⟩
    have h3 := X.same.trans h2
    rw [List.append_nil] at h3
    exact h3.mono hc hs
  refine ⟨U, ?_, .threw T.heap.size, hrun, hend, Or.inr ⟨T.heap.size, rfl, cls, ce, locs, hx U hWs.alike f1 (fun q hq => f2 q hq (fun z hz => nomatch hz)), hce, hO.vm, hcl, hWs, hall, hf⟩⟩
  refine st1 _ ?_
  show Steps p.tables e below (T1.setTop { method := m, pc := pc + 3, locals := ls, stack := .ref T.heap.size :: rest, locked := none }) _
  jvm_step X₁.here [X₁.here.top, hexec, d3', Value.category]
  exact hsteps
/-- 'throw new E("text")': new; dup; ldc; invokespecial; athrow -/
theorem vx_throwS {cc : ByteArray} {pc : Nat} (hexec : p.tables.exec = Jvm.exec) (hb : c.code = cc) (hl : l.stackTraces = false) {own cls text : String} {names : List String} {ik is ic mc ms sa : Nat} {A : Nat → Prop}
    (hown : s.vm.findClass own = some m.cls) (hcls : Bundle.fit cls = true) (hnames : ∀ n ∈ names, Bundle.fit n = true)
    (hk : (Cond.classLink own ik cls).before args s = true) (hini : (Cond.initialized cls).before args s = true) (hstr : vk_R own is text sa s) (hat : ∀ w ∈ vx_atS own ic cls names, w.before args s = true)
    (hgood : ∀ w ∈ Cond.classLink own ik cls :: Cond.initialized cls :: vx_atS own ic cls names, vx_ot w = true)
    (hU : vx_Zq Bundle.tN "UNASSIGNED_STACK" Bundle.steD A s s.heap) (hN : vx_Zq Bundle.tN "SUPPRESSED_SENTINEL" Bundle.listD A s s.heap) (hS : va_S A s.heap H locs) (hsize : ls.size = c.maxLocals)
    (d0 : decode cc pc = .ok (.new ik, 3)) (d3 : decode cc (pc + 3) = .ok (.dup, 1)) (d4 : decode cc (pc + 4) = .ok (.ldc is, 2)) (d6 : decode cc (pc + 6) = .ok (.invokespecial ic, 3)) (d9 : decode cc (pc + 9) = .ok (.athrow, 1))
    (hout : ∀ x ∈ c.exceptionTable.toList, covers x (pc + 9) = false)
    (hRframes : names.length + 3 < R.frames) (hRlocals : (rest.map fun v => v.category).sum + (13 * (names.length + 1) + 43) ≤ R.locals) (hRcells : cells + 1 ≤ R.cells) (hRslots : slots + 6 ≤ R.slots) (hlocks : meth.locks = false)
    (hx : ∀ t : State, s.vm.Alike t.vm → H.size ≤ t.heap.size → (∀ q : Nat, q < H.size → t.heap[q]? = H[q]?) → XC cls s t)
    (hf : ∀ z ∈ locs, free z.base) (hc : cells + 1 ≤ mc) (hs : slots + 6 ≤ ms) :
    W p l e R s m args below meth c H locs cells slots (vx_MQ below Qc XC args s mc ms free) (F0 m pc ls rest) := by
  intro T hT X
  have htr : e.platform.stackTraces = false := (show e.platform.stackTraces = l.stackTraces by rw [X.admits.platform]).trans hl
  have Y := vx_rebase X (R' := { frames := R.frames, locals := R.locals, cells := 1, slots := 6 }) (Nat.le_refl _) (Nat.le_refl _) hRcells hRslots
  obtain ⟨s', hA⟩ : ∃ z, z = (T.setVm s.vm).setFrames (.invoking m args :: below) := ⟨_, rfl⟩
  rw [← hA] at Y
  have hvm : s'.vm = s.vm := by rw [hA]; rfl
  have hhp : s'.heap = H := by rw [hA]; exact hT
  have hW0 : s.WarmedH s'.vm := by rw [hvm]; exact State.WarmedH.refl s
  have hat' : ∀ w ∈ vx_atS own ic cls names, w.before args s' = true := fun w hw => vx_ot_at hW0 hvm.symm (hgood w (List.mem_cons_of_mem _ (List.mem_cons_of_mem _ hw))) (hat w hw)
  have hk' : (Cond.classLink own ik cls).before args s' = true := vx_ot_at hW0 hvm.symm (hgood _ List.mem_cons_self) hk
  have hini' : (Cond.initialized cls).before args s' = true := vx_ot_at hW0 hvm.symm (hgood _ (List.mem_cons_of_mem _ List.mem_cons_self)) hini
  have hU' : vx_Zq Bundle.tN "UNASSIGNED_STACK" Bundle.steD A s' s'.heap := by rw [hhp]; exact vx_Zq.moved hW0.alike (hU.kept hS.2.1)
  have hN' : vx_Zq Bundle.tN "SUPPRESSED_SENTINEL" Bundle.listD A s' s'.heap := by rw [hhp]; exact vx_Zq.moved hW0.alike (hN.kept hS.2.1)
  have h : ∀ w ∈ Bundle.ownAtoms own ic cls names, w.before args s' = true := vx_own hat' (vx_isRefq hU'.1) (vx_isRefq hN'.1) hU'.2.word hN'.2.word
  have hown' : s'.vm.findClass own = some m.cls := by rw [hvm]; exact hown
  have hins : (Cond.instantiable cls 6).before args s' = true := h _ (by simp [Bundle.ownAtoms])
  obtain ⟨vm₁, cX, kX, hfX, hkX, -, -, X₁, st1⟩ := Y.newCold hexec (own := own) (C := cls) (index := ik) (n := 6) hown' hk' hins hini'
    (g := F0 m pc ls rest) rfl (by rw [hb]; exact d0) (Nat.le_refl _) (Nat.le_refl _)
  generalize hT1 : (T.setVm vm₁).pushCell { cls := cX, slots := kX.instanceTypes.map defaultValue, vm := .none } = T1 at X₁ st1
  have hcat : (Value.ref T.heap.size).category = 1 := rfl
  have hcellA : T1.heap[T.heap.size]? = some (freshCell cX kX) := by rw [← hT1]; exact State.heap_pushCell_size _ _
  have d3' : decode c.code (pc + 3) = .ok (.dup, 1) := by rw [hb]; exact d3
  have d4' : decode c.code (pc + 4) = .ok (.ldc is, 2) := by rw [hb]; exact d4
  have hstr' : vk_R own is text sa s' := vk_R.warm hW0 hstr
  obtain ⟨U, hsteps, hrun, hend, hW, hsame, ce, hce, hO⟩ := X₁.ctorThrowS hexec htr (own := own) (cls := cls) (names := names) (ic := ic) hown' hcls hnames h (fun x hx => nomatch hx) hfX hkX hcellA (by rw [hhp, hT]; exact Nat.le_refl _) (msg := .ref sa) rfl
    (g := { method := m, pc := pc + 6, locals := ls, stack := .ref sa :: .ref T.heap.size :: .ref T.heap.size :: rest, locked := none }) rfl hsize rfl rfl (rest := rest) rfl
    (by rw [hb]; exact d6) (by rw [hb]; exact d9) hout hRframes (by simp only [List.map_cons, List.sum_cons, hcat]; omega) hlocks
  obtain ⟨f1, f2⟩ := vx_frame hsame
  rw [hhp] at f1 f2
  have hWs : s.WarmedH U.vm := State.WarmedH.trans hW0 hW
  have hcl : s.vm.findClass cls = some ce.cls := by
    have h9 := hO.cls
    rw [hvm] at h9
    exact h9
  have hall : s.sameButNew ({ U with vm := s.vm } : State) locs mc ms := by
    subst hA
    obtain ⟨e1, e2⟩ := hsame
    rw [State.setFrames_setFrames] at e1
    have h2 : (T.setVm s.vm).sameButNew ({ U with vm := s.vm } : State) [] (0 + 1) (0 + 6) := ⟨e1, e2⟩
    have h3 := X.same.trans h2
    rw [List.append_nil] at h3
    exact h3.mono hc hs
  refine ⟨U, ?_, .threw T.heap.size, hrun, hend, Or.inr ⟨T.heap.size, rfl, cls, ce, locs, hx U hWs.alike f1 (fun q hq => f2 q hq (fun z hz => nomatch hz)), hce, hO.vm, hcl, hWs, hall, hf⟩⟩
  refine st1 _ ?_
  show Steps p.tables e below (T1.setTop { method := m, pc := pc + 3, locals := ls, stack := .ref T.heap.size :: rest, locked := none }) _
  jvm_step X₁.here [X₁.here.top, hexec, d3', Value.category]
  exact X₁.ldcString hexec (own := own) (text := text) (index := is) (a := sa) hown' hstr'.1 hstr'.2
    (g := { method := m, pc := pc + 4, locals := ls, stack := .ref T.heap.size :: .ref T.heap.size :: rest, locked := none }) rfl d4' _ hsteps
/-- 'throw new E("text")', the text by a wide index -/
theorem vx_throwSW {cc : ByteArray} {pc : Nat} (hexec : p.tables.exec = Jvm.exec) (hb : c.code = cc) (hl : l.stackTraces = false) {own cls text : String} {names : List String} {ik is ic mc ms sa : Nat} {A : Nat → Prop}
    (hown : s.vm.findClass own = some m.cls) (hcls : Bundle.fit cls = true) (hnames : ∀ n ∈ names, Bundle.fit n = true)
    (hk : (Cond.classLink own ik cls).before args s = true) (hini : (Cond.initialized cls).before args s = true) (hstr : vk_R own is text sa s) (hat : ∀ w ∈ vx_atS own ic cls names, w.before args s = true)
    (hgood : ∀ w ∈ Cond.classLink own ik cls :: Cond.initialized cls :: vx_atS own ic cls names, vx_ot w = true)
    (hU : vx_Zq Bundle.tN "UNASSIGNED_STACK" Bundle.steD A s s.heap) (hN : vx_Zq Bundle.tN "SUPPRESSED_SENTINEL" Bundle.listD A s s.heap) (hS : va_S A s.heap H locs) (hsize : ls.size = c.maxLocals)
    (d0 : decode cc pc = .ok (.new ik, 3)) (d3 : decode cc (pc + 3) = .ok (.dup, 1)) (d4 : decode cc (pc + 4) = .ok (.ldc_w is, 3)) (d7 : decode cc (pc + 7) = .ok (.invokespecial ic, 3)) (d10 : decode cc (pc + 10) = .ok (.athrow, 1))
    (hout : ∀ x ∈ c.exceptionTable.toList, covers x (pc + 10) = false)
    (hRframes : names.length + 3 < R.frames) (hRlocals : (rest.map fun v => v.category).sum + (13 * (names.length + 1) + 43) ≤ R.locals) (hRcells : cells + 1 ≤ R.cells) (hRslots : slots + 6 ≤ R.slots) (hlocks : meth.locks = false)
    (hx : ∀ t : State, s.vm.Alike t.vm → H.size ≤ t.heap.size → (∀ q : Nat, q < H.size → t.heap[q]? = H[q]?) → XC cls s t)
    (hf : ∀ z ∈ locs, free z.base) (hc : cells + 1 ≤ mc) (hs : slots + 6 ≤ ms) :
    W p l e R s m args below meth c H locs cells slots (vx_MQ below Qc XC args s mc ms free) (F0 m pc ls rest) := by
  intro T hT X
  have htr : e.platform.stackTraces = false := (show e.platform.stackTraces = l.stackTraces by rw [X.admits.platform]).trans hl
  have Y := vx_rebase X (R' := { frames := R.frames, locals := R.locals, cells := 1, slots := 6 }) (Nat.le_refl _) (Nat.le_refl _) hRcells hRslots
  obtain ⟨s', hA⟩ : ∃ z, z = (T.setVm s.vm).setFrames (.invoking m args :: below) := ⟨_, rfl⟩
  rw [← hA] at Y
  have hvm : s'.vm = s.vm := by rw [hA]; rfl
  have hhp : s'.heap = H := by rw [hA]; exact hT
  have hW0 : s.WarmedH s'.vm := by rw [hvm]; exact State.WarmedH.refl s
  have hat' : ∀ w ∈ vx_atS own ic cls names, w.before args s' = true := fun w hw => vx_ot_at hW0 hvm.symm (hgood w (List.mem_cons_of_mem _ (List.mem_cons_of_mem _ hw))) (hat w hw)
  have hk' : (Cond.classLink own ik cls).before args s' = true := vx_ot_at hW0 hvm.symm (hgood _ List.mem_cons_self) hk
  have hini' : (Cond.initialized cls).before args s' = true := vx_ot_at hW0 hvm.symm (hgood _ (List.mem_cons_of_mem _ List.mem_cons_self)) hini
  have hU' : vx_Zq Bundle.tN "UNASSIGNED_STACK" Bundle.steD A s' s'.heap := by rw [hhp]; exact vx_Zq.moved hW0.alike (hU.kept hS.2.1)
  have hN' : vx_Zq Bundle.tN "SUPPRESSED_SENTINEL" Bundle.listD A s' s'.heap := by rw [hhp]; exact vx_Zq.moved hW0.alike (hN.kept hS.2.1)
  have h : ∀ w ∈ Bundle.ownAtoms own ic cls names, w.before args s' = true := vx_own hat' (vx_isRefq hU'.1) (vx_isRefq hN'.1) hU'.2.word hN'.2.word
  have hown' : s'.vm.findClass own = some m.cls := by rw [hvm]; exact hown
  have hins : (Cond.instantiable cls 6).before args s' = true := h _ (by simp [Bundle.ownAtoms])
  obtain ⟨vm₁, cX, kX, hfX, hkX, -, -, X₁, st1⟩ := Y.newCold hexec (own := own) (C := cls) (index := ik) (n := 6) hown' hk' hins hini'
    (g := F0 m pc ls rest) rfl (by rw [hb]; exact d0) (Nat.le_refl _) (Nat.le_refl _)
  generalize hT1 : (T.setVm vm₁).pushCell { cls := cX, slots := kX.instanceTypes.map defaultValue, vm := .none } = T1 at X₁ st1
  have hcat : (Value.ref T.heap.size).category = 1 := rfl
  have hcellA : T1.heap[T.heap.size]? = some (freshCell cX kX) := by rw [← hT1]; exact State.heap_pushCell_size _ _
  have d3' : decode c.code (pc + 3) = .ok (.dup, 1) := by rw [hb]; exact d3
  have d4' : decode c.code (pc + 4) = .ok (.ldc_w is, 3) := by rw [hb]; exact d4
  have hstr' : vk_R own is text sa s' := vk_R.warm hW0 hstr
  obtain ⟨U, hsteps, hrun, hend, hW, hsame, ce, hce, hO⟩ := X₁.ctorThrowS hexec htr (own := own) (cls := cls) (names := names) (ic := ic) hown' hcls hnames h (fun x hx => nomatch hx) hfX hkX hcellA (by rw [hhp, hT]; exact Nat.le_refl _) (msg := .ref sa) rfl
    (g := { method := m, pc := pc + 7, locals := ls, stack := .ref sa :: .ref T.heap.size :: .ref T.heap.size :: rest, locked := none }) rfl hsize rfl rfl (rest := rest) rfl
    (by rw [hb]; exact d7) (by rw [hb]; exact d10) hout hRframes (by simp only [List.map_cons, List.sum_cons, hcat]; omega) hlocks
  obtain ⟨f1, f2⟩ := vx_frame hsame
  rw [hhp] at f1 f2
  have hWs : s.WarmedH U.vm := State.WarmedH.trans hW0 hW
  have hcl : s.vm.findClass cls = some ce.cls := by
    have h9 := hO.cls
    rw [hvm] at h9
    exact h9
  have hall : s.sameButNew ({ U with vm := s.vm } : State) locs mc ms := by
    subst hA
    obtain ⟨e1, e2⟩ := hsame
    rw [State.setFrames_setFrames] at e1
    have h2 : (T.setVm s.vm).sameButNew ({ U with vm := s.vm } : State) [] (0 + 1) (0 + 6) := ⟨e1, e2⟩
    have h3 := X.same.trans h2
    rw [List.append_nil] at h3
    exact h3.mono hc hs
  refine ⟨U, ?_, .threw T.heap.size, hrun, hend, Or.inr ⟨T.heap.size, rfl, cls, ce, locs, hx U hWs.alike f1 (fun q hq => f2 q hq (fun z hz => nomatch hz)), hce, hO.vm, hcl, hWs, hall, hf⟩⟩
  refine st1 _ ?_
  show Steps p.tables e below (T1.setTop { method := m, pc := pc + 3, locals := ls, stack := .ref T.heap.size :: rest, locked := none }) _
  jvm_step X₁.here [X₁.here.top, hexec, d3', Value.category]
  exact X₁.ldcStringW hexec (own := own) (text := text) (index := is) (a := sa) hown' hstr'.1 hstr'.2
    (g := { method := m, pc := pc + 4, locals := ls, stack := .ref T.heap.size :: .ref T.heap.size :: rest, locked := none }) rfl d4' _ hsteps
end Ends
section Bodies
variable {l : Launch}
theorem vx_ofW {y : MethodName} {ws ws' : List Cond} {rm : Room} {Pc : Array Value → State → Prop} {Qc : Array Value → State → Outcome → State → Prop} {XC : String → State → State → Prop} {mc ms : Nat} {free : Addr → Prop} {cc : ByteArray} {maxL : Nat} {ret : Option FieldType}
    (hy : plainName y.cls = true) (hw : ws = Cond.code y cc maxL ret :: ws')
    (body : ∀ p e s m args below meth c s₁, BodyLoose p l y (headSpec ws rm) cc maxL ret e s m args below meth c s₁ → c.maxLocals = maxL → (∀ x ∈ c.exceptionTable.toList, False) → Pc args s →
      W p l e (headSpec ws rm).room s m args below meth c s.heap [] 0 0 (vx_MQ below Qc XC args s mc ms free) (entryFrame m args maxL)) : vx_Met l y ws rm Pc Qc XC mc ms free := by
  refine MetFree.of_bodyS (code := cc) (maxLocals := maxL) (ret := ret) hy ?_ ?_
  · intro args s m h hn
    obtain ⟨meth, c, h1, h2, h3, h4, h5, h6, -, -⟩ := Cond.code_spec hn (atoms_spec (ws := ws) h _ (by rw [hw]; exact List.mem_cons_self))
    exact ⟨meth, c, h1, h2, h3, h4, h5, h6⟩
  · intro p e s m args below meth c s₁ B hml hP _
    have hh0 : s₁.heap = s.heap := by rw [B.state]; rfl
    have ht : ∀ x ∈ c.exceptionTable.toList, False := by
      obtain ⟨meth9, c9, h1, h2, -, -, -, -, h7, -⟩ := Cond.code_spec B.named (atoms_spec (ws := ws) B.pre _ (by rw [hw]; exact List.mem_cons_self))
      cases Option.some.inj (h1.symm.trans B.method)
      cases Option.some.inj (h2.symm.trans (Stand.of_body B).code)
      intro x hx
      rw [Array.isEmpty_iff.mp h7] at hx
      cases hx
    obtain ⟨t, a1, o, b1, b2, b3⟩ := body p e s m args below meth c s₁ B hml ht hP s₁ hh0 (Stand.of_body B)
    exact ⟨t, o, a1, b1, b2, b3⟩
/-- the table of a body with handlers -/
theorem vx_table {p : Program} {x y : MethodName} {S : Spec} {cc bytes : ByteArray} {maxL maxL' : Nat} {ret ret' : Option FieldType} {e : Env} {s s₁ : State} {m : MethodId} {args : Array Value} {below : List Frame} {meth : Method} {c : Code} {hh : List (Nat × Nat × Nat × Nat)}
    (B : BodyLoose p l y S cc maxL ret e s m args below meth c s₁) (h : (Cond.codeWith y bytes maxL' ret' hh).before args s = true) : c.exceptionTable.toList = tableOf hh := by
  obtain ⟨m9, meth9, c9, hn9, h1, h2, -, -, h6, -⟩ := Cond.codeWith_spec h
  cases Option.some.inj (hn9.symm.trans B.named)
  cases Option.some.inj (h1.symm.trans B.method)
  cases Option.some.inj (h2.symm.trans (Stand.of_body B).code)
  rw [← h6, table_eq]
end Bodies
end VXA
/-! ===== END ===== -/
/-! ===== BEGIN a static call of a method with an exception table ===== -/
section VXS
variable {p : Program} {l : Launch} {e : Env} {R : Room} {s : State} {m : MethodId} {args : Array Value} {below : List Frame} {meth : Method} {c : Code} {T : State} {H : Heap} {locs : List Loc} {cells slots : Nat}
abbrev vx_CSW (R : Room) (s : State) (args : Array Value) (own : String) (index : Nat) (y : MethodName) (bytes : ByteArray) (maxL : Nat) (ret : Option FieldType) (hh : List (Nat × Nat × Nat × Nat)) (ws : List Cond) (rm : Room) (mc ms n : Nat) : Prop :=
  (rm.cells = mc ∧ rm.slots = ms ∧ rm.frames + 1 ≤ R.frames ∧ 8 + (maxL + 11) + rm.locals ≤ R.locals ∧ (∀ w ∈ ws, ∀ (a' : Array Value) (U : State), s.WarmedH U.vm → w.before a' U = true) ∧ Cond.codeWith y bytes maxL ret hh ∈ ws) ∧
  (Cond.codeWith y bytes maxL ret hh).before args s = true ∧ (Cond.initialized y.cls).before args s = true ∧ (y.cls ≠ "java/lang/invoke/MethodHandle" ∧ y.cls ≠ "java/lang/invoke/VarHandle") ∧
  (∀ sig, parseMethodDescriptor y.desc = some sig → n = sig.parameters.length) ∧ (Cond.methodLink own index y).before args s = true ∧ (Cond.static y).before args s = true
theorem vx_cwSW {own : String} {index maxL mc ms : Nat} {y : MethodName} {bytes : ByteArray} {ret : Option FieldType} {hh : List (Nat × Nat × Nat × Nat)} {Ts ws ws' : List Cond} {rm : Room} (n : Nat) (ht : ∀ w ∈ Ts, w.before args s = true) (hT : GoodIn Ts (va_wsS own index y ws)) (hw : ws = Cond.codeWith y bytes maxL ret hh :: ws') (hrc : rm.cells = mc) (hrs : rm.slots = ms)
    (hd : y.cls ≠ "java/lang/invoke/MethodHandle" ∧ y.cls ≠ "java/lang/invoke/VarHandle" ∧ (parseMethodDescriptor y.desc).map (fun d => d.parameters.length) = some n) (hR : rm.frames + 1 ≤ R.frames ∧ 8 + (maxL + 11) + rm.locals ≤ R.locals) :
    vx_CSW R s args own index y bytes maxL ret hh ws rm mc ms n := by
  have ok : ∀ w ∈ va_wsS own index y ws, w.before args s = true := fun w h => ht w (hT w h).1
  have hG : GoodIn Ts ws := fun w h => hT w (by unfold va_wsS; exact List.mem_append_right _ h)
  have hc : Cond.codeWith y bytes maxL ret hh ∈ ws := by rw [hw]; exact List.mem_cons_self
  refine ⟨⟨hrc, hrs, hR.1, hR.2, pay_in ht hG, hc⟩, ht _ (hG _ hc).1, ok _ (by simp [va_wsS]), ⟨hd.1, hd.2.1⟩, fun sig h => ?_, ok _ (by simp [va_wsS]), ok _ (by simp [va_wsS])⟩
  have h2 := hd.2.2
  rw [h] at h2
  exact (Option.some.inj h2).symm
theorem vx_callSW (X : Stand p l e R s m args below meth c T locs cells slots) (hexec : p.tables.exec = Jvm.exec) {own : String} {index : Nat} {y : MethodName} {bytes : ByteArray} {maxL : Nat} {ret : Option FieldType} {hh : List (Nat × Nat × Nat × Nat)}
    (hown : s.vm.findClass own = some m.cls) (hlink : (Cond.methodLink own index y).before args s = true) (hstat : (Cond.static y).before args s = true) (hinit : (Cond.initialized y.cls).before args s = true)
    (hcode : (Cond.codeWith y bytes maxL ret hh).before args s = true) (hy : y.cls ≠ "java/lang/invoke/MethodHandle" ∧ y.cls ≠ "java/lang/invoke/VarHandle")
    {W9 : Nat} {Pre : Pt → Array Value → Prop} {Post : Pt → Array Value → Option Value → Pt → Prop} (hK : Back l R p e below s args y 3 W9 Pre Post)
    {g : JFrame} (hg : g.method = m) (hsize : g.locals.size = c.maxLocals) {argsL rest : List Value} (hlen : ∀ sig, parseMethodDescriptor y.desc = some sig → argsL.length = sig.parameters.length)
    (hstack : g.stack = argsL.reverse ++ rest) (hW : 2 * g.monitorRoom + (rest.map fun v => v.category).sum ≤ W9) (hdg : decode c.code g.pc = .ok (.invokestatic index, 3))
    (hpre : ∀ vm₁, s.WarmedH vm₁ → Pre ⟨T.setVm vm₁, locs, cells, slots⟩ argsL.toArray) :
    ∃ (v : Option Value) (vm₁ : Vm) (B : Pt), s.WarmedH vm₁ ∧ Stand p l e R s m args below meth c B.U B.locs B.cells B.slots ∧ Post ⟨T.setVm vm₁, locs, cells, slots⟩ argsL.toArray v B ∧
      ∀ target, Steps p.tables e below (B.U.setTop { g with pc := g.pc + 3, stack := v.toList ++ rest }) target → Steps p.tables e below (T.setTop g) target := by
  obtain ⟨mk, methM, cM, hnamed, hmethM, -, -, -, -, -, -, hsigM⟩ := Cond.codeWith_spec hcode
  have hstatic : methM.isStatic = true := Cond.static_spec hnamed hmethM hstat
  obtain ⟨kP, hkP, -⟩ := className_of_methodNamed hnamed
  have hinitP : kP.init = .initialized := Cond.initialized_spec (findClass_of_methodNamed hnamed) hkP hinit
  obtain ⟨vm₁, X₁, hstep₁⟩ := X.invokestatic hexec hown hlink hnamed hmethM hstatic hkP hinitP hy (g := g) hg (argsL := argsL) (rest := rest) (hlen _ hsigM) hstack hdg
  obtain ⟨v, B, X', hpost, hsteps⟩ := hK m meth c ⟨T.setVm vm₁, locs, cells, slots⟩ { g with stack := rest } (.invokestatic index) mk argsL.toArray X₁ hg hsize hdg hW (X₁.named hnamed) (hpre vm₁ X₁.warmed)
  exact ⟨v, vm₁, B, X₁.warmed, X', hpost, fun target h => hstep₁ _ fun acts => by rw [doInvoke_state]; exact hsteps.trans h⟩
theorem vx_runSW {y : MethodName} {bytes cc : ByteArray} {maxL nL mc ms n index : Nat} {ret : Option FieldType} {hh : List (Nat × Nat × Nat × Nat)} {ws : List Cond} {rm : Room} {Pc : Array Value → State → Prop} {Qc : Array Value → State → Outcome → State → Prop} {free : Addr → Prop} {Ts : List Cond} {own : String} {As rest : List Value} {g : JFrame}
    (S : CallFix p m c cc nL s args Ts own) (hM : Met l y ws rm Pc Qc mc ms free) (cw : vx_CSW R s args own index y bytes maxL ret hh ws rm mc ms n) (hp : PreS s H Pc As)
    (hg : g.method = m) (hn : As.length = n) (hsize : g.locals.size = nL) (hstack : g.stack = As.reverse ++ rest) (hW : 2 * g.monitorRoom + (rest.map fun v => v.category).sum ≤ 8) (hdg : decode cc g.pc = .ok (.invokestatic index, 3)) (hf : cells + mc ≤ R.cells ∧ slots + ms ≤ R.slots) :
    va_Run p l e R s m args below meth c H locs cells slots mc ms g rest (Qc As.toArray) (free) := by
  obtain ⟨⟨hrc, hrs, hfr, hlo, hws, hcw⟩, hcode, hini, hy, hlen, hl, hstt⟩ := cw
  have hK : Back l R p e below s args y 3 8 (PreOf R mc ms Pc) (PostOf Qc mc ms free) := va_backW (hh := hh) (bytes := bytes) (maxL := maxL) (ret := ret) hM hp.1 hrc hrs hfr hlo hws hcw (fun a' U hW => word_at hW (Or.inl (by first | rfl | simp [Cond.onTables, Cond.keeps, Cond.steady])) hini)
  obtain ⟨hx, hb, hml, ho, -⟩ := S
  intro T hT X
  obtain ⟨v, vm₁, ⟨U', l2, c2, s2⟩, hW₁, X', ⟨g', mk, t, L, e1, e2, hq, h1, hL, h2, h3⟩, st⟩ := vx_callSW X hx (hh := hh) (bytes := bytes) (maxL := maxL) (ret := ret) ho hl hstt hini hcode hy hK hg (hsize.trans hml.symm) (argsL := As) (rest := rest) (fun sig h => hn.trans (hlen sig h)) hstack hW (by rw [hb]; exact hdg)
    (fun vm₁ hW₁ => ⟨hf.1, hf.2, hp.2 (T.setVm vm₁) hT hW₁⟩)
  dsimp only [Pt.U, Pt.locs, Pt.cells, Pt.slots] at X' e1 e2 h1 h2 h3 st
  subst h1; subst h2; subst h3
  exact ⟨v, (T.setVm vm₁).calling g' mk As.toArray, t, U', L, hT, X', hL, e1, e2, hq, st⟩
/-- not caught here, past rows that name other classes: it goes on to the caller -/
theorem vx_outP {p : Program} {l : Launch} {e : Env} {R : Room} {s : State} {m : MethodId} {args : Array Value} {below : List Frame} {meth : Method} {c : Code} {H : Heap} {locs : List Loc} {cells slots : Nat} {free : Addr → Prop} {ls : Array Slot} {rest : List Value} {Qc : Array Value → State → Outcome → State → Prop} {XC : String → State → State → Prop}
    {pc : Nat} {own E : String} {ce : Cell} {q : Addr} {mc ms : Nat} (hown : s.vm.findClass own = some m.cls) (hlocks : meth.locks = false)
    (hpass : ∀ z ∈ c.exceptionTable.toList, covers z pc = false ∨ (z.catchType ≠ 0 ∧ ∃ nm : String, (Cond.classLink own z.catchType nm).before args s = true ∧ va_Nc E nm s)) (hcell : H[q]? = some ce) (hv : ce.vm = .none) (hcl : s.vm.findClass E = some ce.cls)
    (hx : ∀ t : State, t.heap = H → s.vm.Alike t.vm → XC E s t) (hf : ∀ z ∈ locs, free z.base) (hc : cells ≤ mc) (hs : slots ≤ ms) :
    vx_W p l e R s m args below meth c H locs cells slots (vx_MQ below Qc XC args s mc ms free) (F0 m pc ls rest) q := by
  intro T hT X
  have hpl : e.platform.magicAccessors = ({} : Platform).magicAccessors := by rw [X.admits.platform]
  obtain ⟨vm', hW', X', st⟩ := X.outThrough hlocks q (g := F0 m pc ls rest) rfl rfl rfl (cell := ce) (by rw [hT]; exact hcell) (by rw [hv]; rfl)
    (by obtain ⟨k9, h9, -⟩ := Vm.findClass_spec hcl; exact ⟨k9, h9⟩) (fun z hz => by
      rcases hpass z hz with h | ⟨hz0, nm, hl1, hn1⟩
      · exact Or.inl h
      · obtain ⟨c6, hc6, hcl6⟩ := Cond.classLink_spec hown hl1 e.platform hpl
        obtain ⟨a8, b8, h1, h2, h3⟩ := hn1
        cases Option.some.inj (h1.symm.trans hcl)
        cases Option.some.inj (h2.symm.trans hc6)
        exact Or.inr ⟨hz0, _, hcl6, h3⟩)
  obtain ⟨g₀, hfr⟩ := X'.frames_eq
  have hcell9 : ((T.setVm vm').setFrames (.throwing q :: below)).heap[q]? = some ce := by
    show T.heap[q]? = some ce
    rw [hT]; exact hcell
  have hend : Ended ((T.setVm vm').setFrames (.throwing q :: below)) below (.threw q) := State.frames_setFrames _ (State.cur_lt_of_frames hfr)
  refine ⟨(T.setVm vm').setFrames (.throwing q :: below), ?_, .threw q, X'.here.running, hend, Or.inr ⟨q, rfl, E, ce, locs, hx _ hT (X'.ends _).1.alike, hcell9, hv, hcl, (X'.ends _).1, (X'.ends _).2.mono hc hs, hf⟩⟩
  rw [X.pushThrowing_eq]
  exact st
/-- a thing of a world lies in the heap -/
theorem vx_lt {D : va_G} {cl : List vw_C} {ws : va_W} {H1 : Heap} (h : va_P D cl ws H1) {k : Nat} {q : Nat × va_E} (hk : ws[k]? = some q) : q.1 < H1.size := (h k q hk).lt
end VXS
/-! ===== END ===== -/
/-! ===== BEGIN methods with a table of their own: called by a name, returning or throwing ===== -/
section VXH
/-! vx_backW, vx_callVX, vx_callSX, vx_callVW, vx_runVW, vx_runVX, vx_runSX, vx_ofWH follow the same proofs as their sisters above (Free/Laws.lean, Shelf42/LK1.lean); vx_outP calls Shelf42/NT130.lean (outThrough). -/
section
variable {l : Launch} {R : Room} {p : Program} {e : Env} {below : List Frame} {s : State} {sargs : Array Value} {y : MethodName} {len W9 : Nat}
theorem vx_backW {ws : List Cond} {rm : Room} {Pc : Array Value → State → Prop} {Qc : Array Value → State → Outcome → State → Prop} {XC : String → State → State → Prop} {mc ms : Nat} {free : Addr → Prop} {bytes : ByteArray} {maxL : Nat} {ret : Option FieldType} {hh : List (Nat × Nat × Nat × Nat)}
    (hM : vx_Met l y ws rm Pc Qc XC mc ms free) (hblind : FrameBlind Pc) (hrc : rm.cells = mc) (hrs : rm.slots = ms)
    (hframes : rm.frames + 1 ≤ R.frames) (hlocals : W9 + (maxL + 11) + rm.locals ≤ R.locals)
    (hws : ∀ w ∈ ws, ∀ a' U, s.WarmedH U.vm → w.before a' U = true) (hcode : Cond.codeWith y bytes maxL ret hh ∈ ws) (hinit : ∀ a' U, s.WarmedH U.vm → (Cond.initialized y.cls).before a' U = true) :
    vx_Back l R p e below s sargs y len W9 (PreOf R mc ms Pc) (PostOf Qc mc ms free) (vx_Post XC mc ms free) := by
  intro m meth c A g ig mk a X hg hsize hdg hW hn hp
  have h1 : (headSpec ws rm).pre.before a A.U = true := atoms_intro fun w hw => hws w hw _ _ X.warmed
  have h2 : (Cond.codeWith y bytes maxL ret hh).before a A.U = true := hws _ hcode _ _ X.warmed
  have h3 : (Cond.initialized y.cls).before a A.U = true := hinit _ _ X.warmed
  have h4 : A.cells + (headSpec ws rm).room.cells ≤ R.cells := by rw [show (headSpec ws rm).room.cells = mc from hrc]; exact hp.1
  have h5 : A.slots + (headSpec ws rm).room.slots ≤ R.slots := by rw [show (headSpec ws rm).room.slots = ms from hrs]; exact hp.2.1
  have hPc : Pc a (A.U.calling g mk a) := hblind _ _ _ _ hp.2.2
  obtain ⟨U, Ls, c0, s0⟩ := A
  dsimp only [Pt.U, Pt.locs, Pt.cells, Pt.slots] at h1 h2 h3 h4 h5 X hn hPc ⊢
  obtain ⟨m9, methY, cY, hn9, hmY, hcY, -, hlY, -⟩ := Cond.codeWith_spec h2
  cases Option.some.inj (hn9.symm.trans hn)
  obtain ⟨kY, hkY, -⟩ := className_of_methodNamed hn
  have hinitY : kY.init = .initialized := Cond.initialized_spec (findClass_of_methodNamed hn) hkY h3
  have h : At U g.method c below := by rw [hg]; exact X.here
  have hlocals9 : W9 + (maxL + 11) + (headSpec ws rm).room.locals ≤ R.locals := hlocals
  have happ : (headSpec ws rm).appliesLoose y e.platform (U.calling g mk a) = true :=
    Spec.appliesLoose_calling (g := g) h hdg hn hkY hinitY
      (X.room_calling (g := g) (R' := (headSpec ws rm).room) hsize hmY hcY hframes (by rw [hlY]; omega) h4 h5) h1
  obtain ⟨mid, hmid⟩ := h.above
  have hfr : (U.setTop g).frames = (.java g :: mid) ++ below := by rw [State.frames_setTop' g h.top, hmid]; rfl
  obtain ⟨o, s₂, hsteps, -, hend, hq⟩ := Steps.callFree hM p X.admits X.cas X.clock (acts := []) hfr happ hPc trivial
  have hq' : vx_Q Qc XC mc ms free a (U.calling g mk a) o s₂ := hq
  rw [State.frames_setTop' g h.top] at hend
  obtain ⟨g₀, hg0⟩ := Option.isSome_iff_exists.mp h.top
  obtain ⟨r, hr⟩ := State.topJava?_eq_some.mp hg0
  have hr' : (({ U with heap := s₂.heap, slotsUsed := s₂.slotsUsed } : State).setVm s₂.vm).frames = .java g₀ :: r := hr
  rcases hq' with ⟨hqc, L, hfe, hL⟩ | ⟨q, rfl, E, ce, L, hx, hce, hcv, hcl, hW₂, hsm, hL⟩
  · obtain ⟨⟨v, rfl⟩, hW₂, e2, q2, q3, q4, q5, q6⟩ := id hfe
    have e3 : s₂ = ({ (U.calling g mk a).setFrames s₂.frames with heap := s₂.heap, slotsUsed := s₂.slotsUsed } : State).setVm s₂.vm := by
      have : s₂ = ({ s₂ with vm := (U.calling g mk a).vm } : State).setVm s₂.vm := rfl
      rw [e2] at this
      exact this
    obtain ⟨c₂, i₂, len₂, hc₂, hd₂, hf₂⟩ := hend
    have hW' : U.WarmedH s₂.vm := hW₂
    have hcc : c₂ = c := by
      have h1 : s₂.code? g.method = U.code? g.method := by
        rw [State.code?_eq, State.code?_eq, hW'.alike.method?]
      exact Option.some.inj (hc₂.symm.trans (h1.trans h.code))
    subst hcc
    have hlen : len₂ = len := by rw [hdg] at hd₂; cases hd₂; rfl
    subst hlen
    have hs₂ : s₂ = (({ U with heap := s₂.heap, slotsUsed := s₂.slotsUsed } : State).setVm s₂.vm).setTop { g with pc := g.pc + len₂, stack := v.toList ++ g.stack } := by
      refine e3.trans ?_
      rw [hf₂, State.calling_eq h.top, State.setFrames_setFrames, State.setTop_of_frames _ hr', hr]
      rfl
    have hsame : U.sameButNew ({ U with heap := s₂.heap, slotsUsed := s₂.slotsUsed } : State) L mc ms := by
      refine ⟨?_, q2, q3, q4, q5, q6⟩
      obtain ⟨t, ht, -⟩ := State.frames_cons hr
      show ({ U with heap := s₂.heap, slotsUsed := s₂.slotsUsed } : State) = { U.setFrames U.frames with heap := s₂.heap, slotsUsed := s₂.slotsUsed }
      rw [State.setFrames_self ht]
    subst hg
    refine Or.inl ⟨v, ⟨(({ U with heap := s₂.heap, slotsUsed := s₂.slotsUsed } : State).setVm s₂.vm), Ls ++ L, c0 + mc, s0 + ms⟩,
      ⟨X.admits, X.cas, X.clock, X.frames, X.room, X.hears, X.method, X.code, (X.here.setHeapUsed s₂.heap s₂.slotsUsed).setVm hW'.alike, X.tail, State.WarmedH.trans X.warmed hW', X.limits, X.bytes, X.same.trans (hsame.setVm s.vm)⟩,
      ⟨g, mk, s₂, L, rfl, rfl, hqc, rfl, hL, rfl, rfl⟩, ?_⟩
    show Steps p.tables e below _ ((({ U with heap := s₂.heap, slotsUsed := s₂.slotsUsed } : State).setVm s₂.vm).setTop { g with pc := g.pc + len₂, stack := v.toList ++ g.stack })
    rw [← hs₂]
    exact hsteps
  · obtain ⟨e2, q2, q3, q4, q5, q6⟩ := id hsm
    have e3 : s₂ = ({ (U.calling g mk a).setFrames s₂.frames with heap := s₂.heap, slotsUsed := s₂.slotsUsed } : State).setVm s₂.vm := by
      have : s₂ = ({ s₂ with vm := (U.calling g mk a).vm } : State).setVm s₂.vm := rfl
      rw [e2] at this
      exact this
    have hf₂ : s₂.frames = .throwing q :: .java g :: U.frames.tail := hend
    have hW' : U.WarmedH s₂.vm := hW₂
    have hs₂ : s₂ = ((({ U with heap := s₂.heap, slotsUsed := s₂.slotsUsed } : State).setVm s₂.vm).setTop g).pushFrame (.throwing q) := by
      refine e3.trans ?_
      rw [hf₂, State.calling_eq h.top, State.setFrames_setFrames, State.pushFrame, State.frames_setTop _ hr', State.setTop_of_frames _ hr', State.setFrames_setFrames, hr]
      rfl
    have hsame : U.sameButNew ({ U with heap := s₂.heap, slotsUsed := s₂.slotsUsed } : State) L mc ms := by
      refine ⟨?_, q2, q3, q4, q5, q6⟩
      obtain ⟨t, ht, -⟩ := State.frames_cons hr
      show ({ U with heap := s₂.heap, slotsUsed := s₂.slotsUsed } : State) = { U.setFrames U.frames with heap := s₂.heap, slotsUsed := s₂.slotsUsed }
      rw [State.setFrames_self ht]
    subst hg
    refine Or.inr ⟨q, ⟨(({ U with heap := s₂.heap, slotsUsed := s₂.slotsUsed } : State).setVm s₂.vm), Ls ++ L, c0 + mc, s0 + ms⟩,
      ⟨X.admits, X.cas, X.clock, X.frames, X.room, X.hears, X.method, X.code, (X.here.setHeapUsed s₂.heap s₂.slotsUsed).setVm hW'.alike, X.tail, State.WarmedH.trans X.warmed hW', X.limits, X.bytes, X.same.trans (hsame.setVm s.vm)⟩,
      ⟨g, mk, s₂, L, E, ce, rfl, rfl, hx, hce, hcv, hcl, rfl, hL, rfl, rfl⟩, ?_⟩
    show Steps p.tables e below _ (((({ U with heap := s₂.heap, slotsUsed := s₂.slotsUsed } : State).setVm s₂.vm).setTop g).pushFrame (.throwing q))
    rw [← hs₂]
    exact hsteps
end
variable {p : Program} {l : Launch} {e : Env} {R : Room} {s : State} {m : MethodId} {args : Array Value} {below : List Frame} {meth : Method} {c : Code} {T : State} {H : Heap} {locs : List Loc} {cells slots : Nat}
theorem vx_callVX (X : Stand p l e R s m args below meth c T locs cells slots) (hexec : p.tables.exec = Jvm.exec) {own C : String} {index : Nat} {y : MethodName} {bytes : ByteArray} {maxL : Nat} {ret : Option FieldType} {hh : List (Nat × Nat × Nat × Nat)}
    (hown : s.vm.findClass own = some m.cls) (hlink : (Cond.methodLink own index y).before args s = true) (hinst : (Cond.instanceMethod y).before args s = true) (hsel : (Cond.selects C y y).before args s = true)
    (hcode : (Cond.codeWith y bytes maxL ret hh).before args s = true) (hy : y.cls ≠ "java/lang/invoke/MethodHandle" ∧ y.cls ≠ "java/lang/invoke/VarHandle")
    {W9 : Nat} {Pre : Pt → Array Value → Prop} {Post : Pt → Array Value → Option Value → Pt → Prop} {PostX : Pt → Array Value → Addr → Pt → Prop} (hK : vx_Back l R p e below s args y 3 W9 Pre Post PostX)
    {b : Addr} {cellB : Cell} (hcell : T.heap[b]? = some cellB) (hobj : cellB.vm.isStatics = false) (hcls : s.vm.findClass C = some cellB.cls)
    {g : JFrame} (hg : g.method = m) (hsize : g.locals.size = c.maxLocals) {argsL rest : List Value} (hlen : ∀ sig, parseMethodDescriptor y.desc = some sig → argsL.length = sig.parameters.length)
    (hstack : g.stack = argsL.reverse ++ .ref b :: rest) (hW : 2 * g.monitorRoom + (rest.map fun v => v.category).sum ≤ W9) (hdg : decode c.code g.pc = .ok (.invokevirtual index, 3))
    (hpre : ∀ vm₁, s.WarmedH vm₁ → Pre ⟨T.setVm vm₁, locs, cells, slots⟩ (Value.ref b :: argsL).toArray) :
    (∃ (v : Option Value) (vm₁ : Vm) (B : Pt), s.WarmedH vm₁ ∧ Stand p l e R s m args below meth c B.U B.locs B.cells B.slots ∧ Post ⟨T.setVm vm₁, locs, cells, slots⟩ (Value.ref b :: argsL).toArray v B ∧
      ∀ target, Steps p.tables e below (B.U.setTop { g with pc := g.pc + 3, stack := v.toList ++ rest }) target → Steps p.tables e below (T.setTop g) target) ∨
    (∃ (q : Addr) (vm₁ : Vm) (B : Pt), s.WarmedH vm₁ ∧ Stand p l e R s m args below meth c B.U B.locs B.cells B.slots ∧ PostX ⟨T.setVm vm₁, locs, cells, slots⟩ (Value.ref b :: argsL).toArray q B ∧
      Steps p.tables e below (T.setTop g) ((B.U.setTop { g with stack := rest }).pushFrame (.throwing q))) := by
  obtain ⟨mk, methM, hnamed, hmethM, hstM, habM⟩ := Cond.instanceMethod_spec hinst
  obtain ⟨m8, methM', cM, hn8, hmethM', -, -, -, -, -, -, hsigM⟩ := Cond.codeWith_spec hcode
  cases Option.some.inj (hn8.symm.trans hnamed)
  cases hmethM.symm.trans hmethM'
  obtain ⟨c2, r2, m2, q1, q2, q3, q4, kP, hkP, hkPi⟩ := Cond.selects_spec hsel
  cases hcls.symm.trans q1
  cases (State.methodFound?_of_named hnamed hy).symm.trans q2
  cases hnamed.symm.trans q3
  have hselP : selectMethod e.platform s.vm cellB.cls mk = .method mk := by rw [Launch.admits_selectMethod X.admits]; exact q4
  obtain ⟨vm₁, X₁, hstep₁⟩ := X.invokevirtual hexec hown hlink hnamed hmethM hstM hkP hkPi hy (a := b) (cell := cellB) hcell
    (fun z h => by rw [h] at hobj; cases hobj) hselP hmethM habM hkP hkPi (g := g) hg (argsL := argsL) (rest := rest) (hlen _ hsigM) hstack hdg
  rcases hK m meth c ⟨T.setVm vm₁, locs, cells, slots⟩ { g with stack := rest } (.invokevirtual index) mk (Value.ref b :: argsL).toArray X₁ hg hsize hdg hW (X₁.named hnamed) (hpre vm₁ X₁.warmed) with ⟨v, B, X', hpost, hsteps⟩ | ⟨q, B, X', hpost, hsteps⟩
  · exact Or.inl ⟨v, vm₁, B, X₁.warmed, X', hpost, fun target h => hstep₁ _ fun acts => by rw [doInvoke_state]; exact hsteps.trans h⟩
  · exact Or.inr ⟨q, vm₁, B, X₁.warmed, X', hpost, hstep₁ _ fun acts => by rw [doInvoke_state]; exact hsteps⟩
theorem vx_callSX (X : Stand p l e R s m args below meth c T locs cells slots) (hexec : p.tables.exec = Jvm.exec) {own : String} {index : Nat} {y : MethodName} {bytes : ByteArray} {maxL : Nat} {ret : Option FieldType} {hh : List (Nat × Nat × Nat × Nat)}
    (hown : s.vm.findClass own = some m.cls) (hlink : (Cond.methodLink own index y).before args s = true) (hstat : (Cond.static y).before args s = true) (hinit : (Cond.initialized y.cls).before args s = true)
    (hcode : (Cond.codeWith y bytes maxL ret hh).before args s = true) (hy : y.cls ≠ "java/lang/invoke/MethodHandle" ∧ y.cls ≠ "java/lang/invoke/VarHandle")
    {W9 : Nat} {Pre : Pt → Array Value → Prop} {Post : Pt → Array Value → Option Value → Pt → Prop} {PostX : Pt → Array Value → Addr → Pt → Prop} (hK : vx_Back l R p e below s args y 3 W9 Pre Post PostX)
    {g : JFrame} (hg : g.method = m) (hsize : g.locals.size = c.maxLocals) {argsL rest : List Value} (hlen : ∀ sig, parseMethodDescriptor y.desc = some sig → argsL.length = sig.parameters.length)
    (hstack : g.stack = argsL.reverse ++ rest) (hW : 2 * g.monitorRoom + (rest.map fun v => v.category).sum ≤ W9) (hdg : decode c.code g.pc = .ok (.invokestatic index, 3))
    (hpre : ∀ vm₁, s.WarmedH vm₁ → Pre ⟨T.setVm vm₁, locs, cells, slots⟩ argsL.toArray) :
    (∃ (v : Option Value) (vm₁ : Vm) (B : Pt), s.WarmedH vm₁ ∧ Stand p l e R s m args below meth c B.U B.locs B.cells B.slots ∧ Post ⟨T.setVm vm₁, locs, cells, slots⟩ argsL.toArray v B ∧
      ∀ target, Steps p.tables e below (B.U.setTop { g with pc := g.pc + 3, stack := v.toList ++ rest }) target → Steps p.tables e below (T.setTop g) target) ∨
    (∃ (q : Addr) (vm₁ : Vm) (B : Pt), s.WarmedH vm₁ ∧ Stand p l e R s m args below meth c B.U B.locs B.cells B.slots ∧ PostX ⟨T.setVm vm₁, locs, cells, slots⟩ argsL.toArray q B ∧
      Steps p.tables e below (T.setTop g) ((B.U.setTop { g with stack := rest }).pushFrame (.throwing q))) := by
  obtain ⟨mk, methM, cM, hnamed, hmethM, -, -, -, -, -, -, hsigM⟩ := Cond.codeWith_spec hcode
  have hstatic : methM.isStatic = true := Cond.static_spec hnamed hmethM hstat
  obtain ⟨kP, hkP, -⟩ := className_of_methodNamed hnamed
  have hinitP : kP.init = .initialized := Cond.initialized_spec (findClass_of_methodNamed hnamed) hkP hinit
  obtain ⟨vm₁, X₁, hstep₁⟩ := X.invokestatic hexec hown hlink hnamed hmethM hstatic hkP hinitP hy (g := g) hg (argsL := argsL) (rest := rest) (hlen _ hsigM) hstack hdg
  rcases hK m meth c ⟨T.setVm vm₁, locs, cells, slots⟩ { g with stack := rest } (.invokestatic index) mk argsL.toArray X₁ hg hsize hdg hW (X₁.named hnamed) (hpre vm₁ X₁.warmed) with ⟨v, B, X', hpost, hsteps⟩ | ⟨q, B, X', hpost, hsteps⟩
  · exact Or.inl ⟨v, vm₁, B, X₁.warmed, X', hpost, fun target h => hstep₁ _ fun acts => by rw [doInvoke_state]; exact hsteps.trans h⟩
  · exact Or.inr ⟨q, vm₁, B, X₁.warmed, X', hpost, hstep₁ _ fun acts => by rw [doInvoke_state]; exact hsteps⟩
theorem vx_callVW (X : Stand p l e R s m args below meth c T locs cells slots) (hexec : p.tables.exec = Jvm.exec) {own C : String} {index : Nat} {y : MethodName} {bytes : ByteArray} {maxL : Nat} {ret : Option FieldType} {hh : List (Nat × Nat × Nat × Nat)}
    (hown : s.vm.findClass own = some m.cls) (hlink : (Cond.methodLink own index y).before args s = true) (hinst : (Cond.instanceMethod y).before args s = true) (hsel : (Cond.selects C y y).before args s = true)
    (hcode : (Cond.codeWith y bytes maxL ret hh).before args s = true) (hy : y.cls ≠ "java/lang/invoke/MethodHandle" ∧ y.cls ≠ "java/lang/invoke/VarHandle")
    {W9 : Nat} {Pre : Pt → Array Value → Prop} {Post : Pt → Array Value → Option Value → Pt → Prop} (hK : Back l R p e below s args y 3 W9 Pre Post)
    {b : Addr} {cellB : Cell} (hcell : T.heap[b]? = some cellB) (hobj : cellB.vm.isStatics = false) (hcls : s.vm.findClass C = some cellB.cls)
    {g : JFrame} (hg : g.method = m) (hsize : g.locals.size = c.maxLocals) {argsL rest : List Value} (hlen : ∀ sig, parseMethodDescriptor y.desc = some sig → argsL.length = sig.parameters.length)
    (hstack : g.stack = argsL.reverse ++ .ref b :: rest) (hW : 2 * g.monitorRoom + (rest.map fun v => v.category).sum ≤ W9) (hdg : decode c.code g.pc = .ok (.invokevirtual index, 3))
    (hpre : ∀ vm₁, s.WarmedH vm₁ → Pre ⟨T.setVm vm₁, locs, cells, slots⟩ (Value.ref b :: argsL).toArray) :
    ∃ (v : Option Value) (vm₁ : Vm) (B : Pt), s.WarmedH vm₁ ∧ Stand p l e R s m args below meth c B.U B.locs B.cells B.slots ∧ Post ⟨T.setVm vm₁, locs, cells, slots⟩ (Value.ref b :: argsL).toArray v B ∧
      ∀ target, Steps p.tables e below (B.U.setTop { g with pc := g.pc + 3, stack := v.toList ++ rest }) target → Steps p.tables e below (T.setTop g) target := by
  obtain ⟨mk, methM, hnamed, hmethM, hstM, habM⟩ := Cond.instanceMethod_spec hinst
  obtain ⟨m8, methM', cM, hn8, hmethM', -, -, -, -, -, -, hsigM⟩ := Cond.codeWith_spec hcode
  cases Option.some.inj (hn8.symm.trans hnamed)
  cases hmethM.symm.trans hmethM'
  obtain ⟨c2, r2, m2, q1, q2, q3, q4, kP, hkP, hkPi⟩ := Cond.selects_spec hsel
  cases hcls.symm.trans q1
  cases (State.methodFound?_of_named hnamed hy).symm.trans q2
  cases hnamed.symm.trans q3
  have hselP : selectMethod e.platform s.vm cellB.cls mk = .method mk := by rw [Launch.admits_selectMethod X.admits]; exact q4
  obtain ⟨vm₁, X₁, hstep₁⟩ := X.invokevirtual hexec hown hlink hnamed hmethM hstM hkP hkPi hy (a := b) (cell := cellB) hcell
    (fun z h => by rw [h] at hobj; cases hobj) hselP hmethM habM hkP hkPi (g := g) hg (argsL := argsL) (rest := rest) (hlen _ hsigM) hstack hdg
  obtain ⟨v, B, X', hpost, hsteps⟩ := hK m meth c ⟨T.setVm vm₁, locs, cells, slots⟩ { g with stack := rest } (.invokevirtual index) mk (Value.ref b :: argsL).toArray X₁ hg hsize hdg hW (X₁.named hnamed) (hpre vm₁ X₁.warmed)
  exact ⟨v, vm₁, B, X₁.warmed, X', hpost, fun target h => hstep₁ _ fun acts => by rw [doInvoke_state]; exact hsteps.trans h⟩
abbrev vx_CVW (R : Room) (s : State) (args : Array Value) (own C : String) (index : Nat) (y : MethodName) (bytes : ByteArray) (maxL : Nat) (ret : Option FieldType) (hh : List (Nat × Nat × Nat × Nat)) (ws : List Cond) (rm : Room) (mc ms n : Nat) : Prop :=
  (rm.cells = mc ∧ rm.slots = ms ∧ rm.frames + 1 ≤ R.frames ∧ 8 + (maxL + 11) + rm.locals ≤ R.locals ∧ (∀ w ∈ ws, ∀ (a' : Array Value) (U : State), s.WarmedH U.vm → w.before a' U = true) ∧ Cond.codeWith y bytes maxL ret hh ∈ ws) ∧
  (Cond.codeWith y bytes maxL ret hh).before args s = true ∧ (Cond.initialized y.cls).before args s = true ∧ (y.cls ≠ "java/lang/invoke/MethodHandle" ∧ y.cls ≠ "java/lang/invoke/VarHandle") ∧
  (∀ sig, parseMethodDescriptor y.desc = some sig → n = sig.parameters.length) ∧ (Cond.methodLink own index y).before args s = true ∧ (Cond.instanceMethod y).before args s = true ∧ (Cond.selects C y y).before args s = true
theorem vx_cwVW {own C : String} {index maxL mc ms : Nat} {y : MethodName} {bytes : ByteArray} {ret : Option FieldType} {hh : List (Nat × Nat × Nat × Nat)} {Ts ws ws' : List Cond} {rm : Room} (n : Nat) (ht : ∀ w ∈ Ts, w.before args s = true) (hT : GoodIn Ts (wsV own index C y ws)) (hw : ws = Cond.codeWith y bytes maxL ret hh :: ws') (hrc : rm.cells = mc) (hrs : rm.slots = ms)
    (hd : y.cls = C ∧ y.cls ≠ "java/lang/invoke/MethodHandle" ∧ y.cls ≠ "java/lang/invoke/VarHandle" ∧ (parseMethodDescriptor y.desc).map (fun d => d.parameters.length) = some n) (hR : rm.frames + 1 ≤ R.frames ∧ 8 + (maxL + 11) + rm.locals ≤ R.locals) :
    vx_CVW R s args own C index y bytes maxL ret hh ws rm mc ms n := by
  obtain ⟨hC, hd⟩ := hd
  subst hC
  have ok : ∀ w ∈ wsV own index y.cls y ws, w.before args s = true := fun w h => ht w (hT w h).1
  have hG : GoodIn Ts ws := fun w h => hT w (by unfold wsV; exact List.mem_append_right _ h)
  have hc : Cond.codeWith y bytes maxL ret hh ∈ ws := by rw [hw]; exact List.mem_cons_self
  refine ⟨⟨hrc, hrs, hR.1, hR.2, pay_in ht hG, hc⟩, ht _ (hG _ hc).1, ok _ (by simp [wsV]), ⟨hd.1, hd.2.1⟩, fun sig h => ?_, ok _ (by simp [wsV]), ok _ (by simp [wsV]), ok _ (by simp [wsV])⟩
  have h2 := hd.2.2
  rw [h] at h2
  exact (Option.some.inj h2).symm
theorem vx_runVW {y : MethodName} {bytes cc : ByteArray} {maxL nL mc ms n index : Nat} {ret : Option FieldType} {hh : List (Nat × Nat × Nat × Nat)} {ws : List Cond} {rm : Room} {Pc : Array Value → State → Prop} {Qc : Array Value → State → Outcome → State → Prop} {free : Addr → Prop} {Ts : List Cond} {own C : String} {b : Addr} {As rest : List Value} {g : JFrame}
    (S : CallFix p m c cc nL s args Ts own) (hM : Met l y ws rm Pc Qc mc ms free) (cw : vx_CVW R s args own C index y bytes maxL ret hh ws rm mc ms n) (hp : PreV s H C b Pc As)
    (hg : g.method = m) (hn : As.length = n) (hsize : g.locals.size = nL) (hstack : g.stack = As.reverse ++ .ref b :: rest) (hW : 2 * g.monitorRoom + (rest.map fun v => v.category).sum ≤ 8) (hdg : decode cc g.pc = .ok (.invokevirtual index, 3)) (hf : cells + mc ≤ R.cells ∧ slots + ms ≤ R.slots) :
    va_Run p l e R s m args below meth c H locs cells slots mc ms g rest (Qc (Value.ref b :: As).toArray) free := by
  obtain ⟨⟨hrc, hrs, hfr, hlo, hws, hcw⟩, hcode, hini, hy, hlen, hl, hin, hse⟩ := cw
  have hK : Back l R p e below s args y 3 8 (PreOf R mc ms Pc) (PostOf Qc mc ms free) := va_backW (hh := hh) (bytes := bytes) (maxL := maxL) (ret := ret) hM hp.1 hrc hrs hfr hlo hws hcw (fun a' U hW => word_at hW (Or.inl (by first | rfl | simp [Cond.onTables, Cond.keeps, Cond.steady])) hini)
  obtain ⟨hx, hb, hml, ho, -⟩ := S
  obtain ⟨-, ⟨cellB, hcB, hoB, hclB⟩, hPc⟩ := hp
  intro T hT X
  obtain ⟨v, vm₁, ⟨U', l2, c2, s2⟩, hW₁, X', ⟨g', mk, t, L, e1, e2, hq, h1, hL, h2, h3⟩, st⟩ := vx_callVW X hx (C := C) (hh := hh) (bytes := bytes) (maxL := maxL) (ret := ret) ho hl hin hse hcode hy hK (by rw [hT]; exact hcB) hoB hclB hg (hsize.trans hml.symm) (argsL := As) (rest := rest) (fun sig h => hn.trans (hlen sig h)) hstack hW (by rw [hb]; exact hdg)
    (fun vm₁ hW₁ => ⟨hf.1, hf.2, hPc (T.setVm vm₁) hT hW₁⟩)
  dsimp only [Pt.U, Pt.locs, Pt.cells, Pt.slots] at X' e1 e2 h1 h2 h3 st
  subst h1; subst h2; subst h3
  exact ⟨v, (T.setVm vm₁).calling g' mk (Value.ref b :: As).toArray, t, U', L, hT, X', hL, e1, e2, hq, st⟩
section
variable {y : MethodName} {bytes cc : ByteArray} {maxL nL mc ms n index : Nat} {ret : Option FieldType} {ws : List Cond} {rm : Room} {Pc : Array Value → State → Prop} {Qc : Array Value → State → Outcome → State → Prop} {XC : String → State → State → Prop} {free : Addr → Prop} {Ts : List Cond} {own C : String} {b : Addr} {As rest : List Value} {g : JFrame}
theorem vx_runVX {hh : List (Nat × Nat × Nat × Nat)} (S : CallFix p m c cc nL s args Ts own) (hM : vx_Met l y ws rm Pc Qc XC mc ms free) (cw : vx_CVW R s args own C index y bytes maxL ret hh ws rm mc ms n) (hp : PreV s H C b Pc As)
    (hg : g.method = m) (hn : As.length = n) (hsize : g.locals.size = nL) (hstack : g.stack = As.reverse ++ .ref b :: rest) (hW : 2 * g.monitorRoom + (rest.map fun v => v.category).sum ≤ 8) (hdg : decode cc g.pc = .ok (.invokevirtual index, 3)) (hf : cells + mc ≤ R.cells ∧ slots + ms ≤ R.slots) :
    vx_Run p l e R s m args below meth c H locs cells slots mc ms g rest (Qc (Value.ref b :: As).toArray) XC free := by
  obtain ⟨⟨hrc, hrs, hfr, hlo, hws, hcw⟩, hcode, hini, hy, hlen, hl, hin, hse⟩ := cw
  have hK : vx_Back l R p e below s args y 3 8 (PreOf R mc ms Pc) (PostOf Qc mc ms free) (vx_Post XC mc ms free) := vx_backW (hh := hh) (bytes := bytes) (maxL := maxL) (ret := ret) hM hp.1 hrc hrs hfr hlo hws hcw (fun a' U hW => word_at hW (Or.inl (by first | rfl | simp [Cond.onTables, Cond.keeps, Cond.steady])) hini)
  obtain ⟨hx, hb, hml, ho, -⟩ := S
  obtain ⟨-, ⟨cellB, hcB, hoB, hclB⟩, hPc⟩ := hp
  intro T hT X
  rcases vx_callVX X hx (C := C) (hh := hh) (bytes := bytes) (maxL := maxL) (ret := ret) ho hl hin hse hcode hy hK (by rw [hT]; exact hcB) hoB hclB hg (hsize.trans hml.symm) (argsL := As) (rest := rest) (fun sig h => hn.trans (hlen sig h)) hstack hW (by rw [hb]; exact hdg)
    (fun vm₁ hW₁ => ⟨hf.1, hf.2, hPc (T.setVm vm₁) hT hW₁⟩) with ⟨v, vm₁, ⟨U', l2, c2, s2⟩, hW₁, X', ⟨g', mk, t, L, e1, e2, hq, h1, hL, h2, h3⟩, st⟩ | ⟨q, vm₁, ⟨U', l2, c2, s2⟩, hW₁, X', ⟨g', mk, t, L, E, ce, e1, e2, hq, hce, hcv, hcl, h1, hL, h2, h3⟩, st⟩
  · dsimp only [Pt.U, Pt.locs, Pt.cells, Pt.slots] at X' e1 e2 h1 h2 h3 st
    subst h1; subst h2; subst h3
    exact Or.inl ⟨v, (T.setVm vm₁).calling g' mk (Value.ref b :: As).toArray, t, U', L, hT, X', hL, e1, e2, hq, st⟩
  · dsimp only [Pt.U, Pt.locs, Pt.cells, Pt.slots] at X' e1 e2 h1 h2 h3 st hcl
    subst h1; subst h2; subst h3
    exact Or.inr ⟨q, (T.setVm vm₁).calling g' mk (Value.ref b :: As).toArray, t, U', L, E, ce, hT, X', hL, e1, e2, hq, hce, hcv, vx_cls hW₁ hcl, st⟩
theorem vx_runSX {hh : List (Nat × Nat × Nat × Nat)} (S : CallFix p m c cc nL s args Ts own) (hM : vx_Met l y ws rm Pc Qc XC mc ms free) (cw : vx_CSW R s args own index y bytes maxL ret hh ws rm mc ms n) (hp : PreS s H Pc As)
    (hg : g.method = m) (hn : As.length = n) (hsize : g.locals.size = nL) (hstack : g.stack = As.reverse ++ rest) (hW : 2 * g.monitorRoom + (rest.map fun v => v.category).sum ≤ 8) (hdg : decode cc g.pc = .ok (.invokestatic index, 3)) (hf : cells + mc ≤ R.cells ∧ slots + ms ≤ R.slots) :
    vx_Run p l e R s m args below meth c H locs cells slots mc ms g rest (Qc As.toArray) XC free := by
  obtain ⟨⟨hrc, hrs, hfr, hlo, hws, hcw⟩, hcode, hini, hy, hlen, hl, hstt⟩ := cw
  have hK : vx_Back l R p e below s args y 3 8 (PreOf R mc ms Pc) (PostOf Qc mc ms free) (vx_Post XC mc ms free) := vx_backW (hh := hh) (bytes := bytes) (maxL := maxL) (ret := ret) hM hp.1 hrc hrs hfr hlo hws hcw (fun a' U hW => word_at hW (Or.inl (by first | rfl | simp [Cond.onTables, Cond.keeps, Cond.steady])) hini)
  obtain ⟨hx, hb, hml, ho, -⟩ := S
  intro T hT X
  rcases vx_callSX X hx (hh := hh) (bytes := bytes) (maxL := maxL) (ret := ret) ho hl hstt hini hcode hy hK hg (hsize.trans hml.symm) (argsL := As) (rest := rest) (fun sig h => hn.trans (hlen sig h)) hstack hW (by rw [hb]; exact hdg)
    (fun vm₁ hW₁ => ⟨hf.1, hf.2, hp.2 (T.setVm vm₁) hT hW₁⟩) with ⟨v, vm₁, ⟨U', l2, c2, s2⟩, hW₁, X', ⟨g', mk, t, L, e1, e2, hq, h1, hL, h2, h3⟩, st⟩ | ⟨q, vm₁, ⟨U', l2, c2, s2⟩, hW₁, X', ⟨g', mk, t, L, E, ce, e1, e2, hq, hce, hcv, hcl, h1, hL, h2, h3⟩, st⟩
  · dsimp only [Pt.U, Pt.locs, Pt.cells, Pt.slots] at X' e1 e2 h1 h2 h3 st
    subst h1; subst h2; subst h3
    exact Or.inl ⟨v, (T.setVm vm₁).calling g' mk As.toArray, t, U', L, hT, X', hL, e1, e2, hq, st⟩
  · dsimp only [Pt.U, Pt.locs, Pt.cells, Pt.slots] at X' e1 e2 h1 h2 h3 st hcl
    subst h1; subst h2; subst h3
    exact Or.inr ⟨q, (T.setVm vm₁).calling g' mk As.toArray, t, U', L, E, ce, hT, X', hL, e1, e2, hq, hce, hcv, vx_cls hW₁ hcl, st⟩
end
end VXH
theorem vx_ofWH {l : Launch} {y : MethodName} {ws ws' : List Cond} {rm : Room} {Pc : Array Value → State → Prop} {Qc : Array Value → State → Outcome → State → Prop} {XC : String → State → State → Prop} {mc ms : Nat} {free : Addr → Prop} {cc : ByteArray} {maxL : Nat} {ret : Option FieldType} {hh : List (Nat × Nat × Nat × Nat)}
    (hy : plainName y.cls = true) (hw : ws = Cond.codeWith y cc maxL ret hh :: ws')
    (body : ∀ p e s m args below meth c s₁, BodyLoose p l y (headSpec ws rm) cc maxL ret e s m args below meth c s₁ → c.maxLocals = maxL → Pc args s →
      W p l e (headSpec ws rm).room s m args below meth c s.heap [] 0 0 (vx_MQ below Qc XC args s mc ms free) (entryFrame m args maxL)) : vx_Met l y ws rm Pc Qc XC mc ms free := by
  refine MetFree.of_bodyS (code := cc) (maxLocals := maxL) (ret := ret) hy ?_ ?_
  · intro args s m h hn
    obtain ⟨m9, meth, c, hn9, h1, h2, h3, h4, -, h5, h6, -⟩ := Cond.codeWith_spec (atoms_spec (ws := ws) h _ (by rw [hw]; exact List.mem_cons_self))
    cases hn.symm.trans hn9
    exact ⟨meth, c, h1, h2, h3, h4, h5, h6⟩
  · intro p e s m args below meth c s₁ B hml hP _
    have hh0 : s₁.heap = s.heap := by rw [B.state]; rfl
    obtain ⟨t, a1, o, b1, b2, b3⟩ := body p e s m args below meth c s₁ B hml hP s₁ hh0 (Stand.of_body B)
    exact ⟨t, o, a1, b1, b2, b3⟩
/-! ===== END ===== -/
end
section
def RX0 : String := "FloodWardens$Callers"
def TX0 : u_T := fun k => match k with
  | 0 => ("FloodWardens$Numbered", "cell", "[I", true)
  | 1 => ("FloodWardens$Numbered", "count", "I", false)
  | _ => ("FloodWardens$Callers", "warned", "[I", true)
def tyX0 : Nat → FieldType := fun k => match k with
  | 0 => .array .int
  | 1 => .int
  | _ => .array .int
abbrev wsX00 : List Cond := u_ws RX0 TX0 3
theorem nmX0 : ∀ a, a < 3 → ∀ b, b < 3 → a ≠ b → (TX0 a).2.1 ≠ (TX0 b).2.1 := by decide +kernel
theorem tyX0_ok : ∀ k, k < 3 → parseFieldDescriptor (TX0 k).2.2.1 = some (tyX0 k) := by decide +kernel
abbrev cX0_init : ByteArray := prog_2_method_1_code
def yX0_init : MethodName := ⟨RX0, "<init>", "()V"⟩
abbrev cX0_post : ByteArray := prog_2_method_2_code
def yX0_post : MethodName := ⟨RX0, "post", "(I)I"⟩
abbrev cX0_copyFrom : ByteArray := prog_2_method_3_code
def yX0_copyFrom : MethodName := ⟨RX0, "copyFrom", "(LFloodWardens$Callers;)V"⟩
abbrev cX0_callOut : ByteArray := prog_2_method_4_code
def yX0_callOut : MethodName := ⟨RX0, "callOut", "(LFloodWardens$Households;LFloodWardens$Ways;LFloodWardens$Land;)V"⟩
abbrev cX0_tell : ByteArray := prog_2_method_5_code
def yX0_tell : MethodName := ⟨RX0, "tell", "(II)I"⟩
def RX1 : String := "FloodWardens$Gauges"
def TX1 : u_T := fun k => match k with
  | 0 => ("FloodWardens$Numbered", "cell", "[I", true)
  | 1 => ("FloodWardens$Numbered", "count", "I", false)
  | _ => ("FloodWardens$Gauges", "mark", "[I", true)
def tyX1 : Nat → FieldType := fun k => match k with
  | 0 => .array .int
  | 1 => .int
  | _ => .array .int
abbrev wsX10 : List Cond := u_ws RX1 TX1 3
theorem nmX1 : ∀ a, a < 3 → ∀ b, b < 3 → a ≠ b → (TX1 a).2.1 ≠ (TX1 b).2.1 := by decide +kernel
theorem tyX1_ok : ∀ k, k < 3 → parseFieldDescriptor (TX1 k).2.2.1 = some (tyX1 k) := by decide +kernel
abbrev cX1_init : ByteArray := prog_3_method_1_code
def yX1_init : MethodName := ⟨RX1, "<init>", "()V"⟩
abbrev cX1_hang : ByteArray := prog_3_method_2_code
def yX1_hang : MethodName := ⟨RX1, "hang", "(II)I"⟩
abbrev cX1_copyFrom : ByteArray := prog_3_method_3_code
def yX1_copyFrom : MethodName := ⟨RX1, "copyFrom", "(LFloodWardens$Gauges;)V"⟩
abbrev cX1_isRinging : ByteArray := prog_3_method_4_code
def yX1_isRinging : MethodName := ⟨RX1, "isRinging", "(ILFloodWardens$Land;)Z"⟩
abbrev cX1_ringing : ByteArray := prog_3_method_5_code
def yX1_ringing : MethodName := ⟨RX1, "ringing", "(LFloodWardens$Land;)I"⟩
abbrev cX1_tell : ByteArray := prog_3_method_6_code
def yX1_tell : MethodName := ⟨RX1, "tell", "(IILFloodWardens$Land;)I"⟩
def RX2 : String := "FloodWardens$Households"
def TX2 : u_T := fun k => match k with
  | 0 => ("FloodWardens$Numbered", "cell", "[I", true)
  | 1 => ("FloodWardens$Numbered", "count", "I", false)
  | 2 => ("FloodWardens$Households", "people", "[I", true)
  | 3 => ("FloodWardens$Households", "state", "[I", true)
  | _ => ("FloodWardens$Households", "lostPeople", "I", false)
def tyX2 : Nat → FieldType := fun k => match k with
  | 0 => .array .int
  | 1 => .int
  | 2 => .array .int
  | 3 => .array .int
  | _ => .int
abbrev wsX20 : List Cond := u_ws RX2 TX2 5
theorem nmX2 : ∀ a, a < 5 → ∀ b, b < 5 → a ≠ b → (TX2 a).2.1 ≠ (TX2 b).2.1 := by decide +kernel
theorem tyX2_ok : ∀ k, k < 5 → parseFieldDescriptor (TX2 k).2.2.1 = some (tyX2 k) := by decide +kernel
abbrev cX2_init : ByteArray := prog_4_method_1_code
def yX2_init : MethodName := ⟨RX2, "<init>", "()V"⟩
abbrev cX2_moveIn : ByteArray := prog_4_method_2_code
def yX2_moveIn : MethodName := ⟨RX2, "moveIn", "(II)I"⟩
abbrev cX2_copyFrom : ByteArray := prog_4_method_3_code
def yX2_copyFrom : MethodName := ⟨RX2, "copyFrom", "(LFloodWardens$Households;)V"⟩
abbrev cX2_isOut : ByteArray := prog_4_method_4_code
def yX2_isOut : MethodName := ⟨RX2, "isOut", "(I)Z"⟩
abbrev cX2_peopleWho : ByteArray := prog_4_method_5_code
def yX2_peopleWho : MethodName := ⟨RX2, "peopleWho", "(I)I"⟩
abbrev cX2_peopleOutAt : ByteArray := prog_4_method_6_code
def yX2_peopleOutAt : MethodName := ⟨RX2, "peopleOutAt", "(I)I"⟩
abbrev cX2_nearestAtHome : ByteArray := prog_4_method_7_code
def yX2_nearestAtHome : MethodName := ⟨RX2, "nearestAtHome", "(LFloodWardens$Ways;)I"⟩
abbrev cX2_warnAround : ByteArray := prog_4_method_8_code
def yX2_warnAround : MethodName := ⟨RX2, "warnAround", "(I)I"⟩
abbrev cX2_goToRefuges : ByteArray := prog_4_method_9_code
def yX2_goToRefuges : MethodName := ⟨RX2, "goToRefuges", "(LFloodWardens$Refuges;LFloodWardens$Ways;LFloodWardens$Land;)V"⟩
abbrev cX2_enterRefuge : ByteArray := prog_4_method_10_code
def yX2_enterRefuge : MethodName := ⟨RX2, "enterRefuge", "(ILFloodWardens$Refuges;)V"⟩
abbrev cX2_drown : ByteArray := prog_4_method_11_code
def yX2_drown : MethodName := ⟨RX2, "drown", "(LFloodWardens$Land;)V"⟩
def RX3 : String := "FloodWardens$Land"
def TX3 : u_T := fun k => match k with
  | 0 => ("FloodWardens$Land", "ground", "[I", true)
  | 1 => ("FloodWardens$Land", "bags", "[I", true)
  | 2 => ("FloodWardens$Land", "water", "[I", true)
  | 3 => ("FloodWardens$Land", "waterThen", "[I", true)
  | _ => ("FloodWardens$Land", "table", "[I", true)
def tyX3 : Nat → FieldType := fun k => match k with
  | 0 => .array .int
  | 1 => .array .int
  | 2 => .array .int
  | 3 => .array .int
  | _ => .array .int
abbrev wsX30 : List Cond := u_ws RX3 TX3 5
theorem nmX3 : ∀ a, a < 5 → ∀ b, b < 5 → a ≠ b → (TX3 a).2.1 ≠ (TX3 b).2.1 := by decide +kernel
theorem tyX3_ok : ∀ k, k < 5 → parseFieldDescriptor (TX3 k).2.2.1 = some (tyX3 k) := by decide +kernel
abbrev cX3_init : ByteArray := prog_5_method_1_code
def yX3_init : MethodName := ⟨RX3, "<init>", "()V"⟩
abbrev cX3_copyFrom : ByteArray := prog_5_method_2_code
def yX3_copyFrom : MethodName := ⟨RX3, "copyFrom", "(LFloodWardens$Land;)V"⟩
abbrev cX3_neighbourOf : ByteArray := prog_5_method_3_code
def yX3_neighbourOf : MethodName := ⟨RX3, "neighbourOf", "(II)I"⟩
abbrev cX3_isSameOrNeighbour : ByteArray := prog_5_method_4_code
def yX3_isSameOrNeighbour : MethodName := ⟨RX3, "isSameOrNeighbour", "(II)Z"⟩
abbrev cX3_level : ByteArray := prog_5_method_5_code
def yX3_level : MethodName := ⟨RX3, "level", "(I)I"⟩
abbrev cX3_isWalkable : ByteArray := prog_5_method_6_code
def yX3_isWalkable : MethodName := ⟨RX3, "isWalkable", "(I)Z"⟩
abbrev cX3_rise : ByteArray := prog_5_method_7_code
def yX3_rise : MethodName := ⟨RX3, "rise", "(I)V"⟩
abbrev cX3_flow : ByteArray := prog_5_method_8_code
def yX3_flow : MethodName := ⟨RX3, "flow", "()V"⟩
abbrev cX3_lowestNeighbour : ByteArray := prog_5_method_9_code
def yX3_lowestNeighbour : MethodName := ⟨RX3, "lowestNeighbour", "(I)I"⟩
abbrev cX3_givenTo : ByteArray := prog_5_method_10_code
def yX3_givenTo : MethodName := ⟨RX3, "givenTo", "(II)I"⟩
abbrev cX3_bagsInTown : ByteArray := prog_5_method_11_code
def yX3_bagsInTown : MethodName := ⟨RX3, "bagsInTown", "()I"⟩
abbrev cX3_wetStreets : ByteArray := prog_5_method_12_code
def yX3_wetStreets : MethodName := ⟨RX3, "wetStreets", "()I"⟩
abbrev cX3_waterInStreets : ByteArray := prog_5_method_13_code
def yX3_waterInStreets : MethodName := ⟨RX3, "waterInStreets", "()I"⟩
def RX4 : String := "FloodWardens$Numbered"
def TX4 : u_T := fun k => match k with
  | _ => ("", "", "", false)
def tyX4 : Nat → FieldType := fun k => match k with
  | _ => .int
abbrev wsX40 : List Cond := u_ws RX4 TX4 0
theorem nmX4 : ∀ a, a < 0 → ∀ b, b < 0 → a ≠ b → (TX4 a).2.1 ≠ (TX4 b).2.1 := by decide +kernel
theorem tyX4_ok : ∀ k, k < 0 → parseFieldDescriptor (TX4 k).2.2.1 = some (tyX4 k) := by decide +kernel
abbrev cX4_init : ByteArray := prog_6_method_1_code
def yX4_init : MethodName := ⟨RX4, "<init>", "([I)V"⟩
abbrev cX4_isFull : ByteArray := prog_6_method_2_code
def yX4_isFull : MethodName := ⟨RX4, "isFull", "()Z"⟩
abbrev cX4_has : ByteArray := prog_6_method_3_code
def yX4_has : MethodName := ⟨RX4, "has", "(I)Z"⟩
abbrev cX4_firstIn : ByteArray := prog_6_method_4_code
def yX4_firstIn : MethodName := ⟨RX4, "firstIn", "(I)I"⟩
abbrev cX4_canComeTo : ByteArray := prog_6_method_5_code
def yX4_canComeTo : MethodName := ⟨RX4, "canComeTo", "(I)Z"⟩
abbrev cX4_xOf : ByteArray := prog_6_method_6_code
def yX4_xOf : MethodName := ⟨RX4, "xOf", "(I)I"⟩
abbrev cX4_yOf : ByteArray := prog_6_method_7_code
def yX4_yOf : MethodName := ⟨RX4, "yOf", "(I)I"⟩
abbrev cX4_copyCells : ByteArray := prog_6_method_8_code
def yX4_copyCells : MethodName := ⟨RX4, "copyCells", "(LFloodWardens$Numbered;)V"⟩
def RX5 : String := "FloodWardens$Pumps"
def TX5 : u_T := fun k => match k with
  | 0 => ("FloodWardens$Numbered", "cell", "[I", true)
  | 1 => ("FloodWardens$Numbered", "count", "I", false)
  | 2 => ("FloodWardens$Pumps", "power", "[I", true)
  | 3 => ("FloodWardens$Pumps", "fuel", "[I", true)
  | 4 => ("FloodWardens$Pumps", "running", "[Z", true)
  | _ => ("FloodWardens$Pumps", "taken", "[I", true)
def tyX5 : Nat → FieldType := fun k => match k with
  | 0 => .array .int
  | 1 => .int
  | 2 => .array .int
  | 3 => .array .int
  | 4 => .array .boolean
  | _ => .array .int
abbrev wsX50 : List Cond := u_ws RX5 TX5 6
theorem nmX5 : ∀ a, a < 6 → ∀ b, b < 6 → a ≠ b → (TX5 a).2.1 ≠ (TX5 b).2.1 := by decide +kernel
theorem tyX5_ok : ∀ k, k < 6 → parseFieldDescriptor (TX5 k).2.2.1 = some (tyX5 k) := by decide +kernel
abbrev cX5_init : ByteArray := prog_7_method_1_code
def yX5_init : MethodName := ⟨RX5, "<init>", "()V"⟩
abbrev cX5_setUp : ByteArray := prog_7_method_2_code
def yX5_setUp : MethodName := ⟨RX5, "setUp", "(III)I"⟩
abbrev cX5_copyFrom : ByteArray := prog_7_method_3_code
def yX5_copyFrom : MethodName := ⟨RX5, "copyFrom", "(LFloodWardens$Pumps;)V"⟩
abbrev cX5_work : ByteArray := prog_7_method_4_code
def yX5_work : MethodName := ⟨RX5, "work", "(LFloodWardens$Land;)V"⟩
abbrev cX5_fuelOfAll : ByteArray := prog_7_method_5_code
def yX5_fuelOfAll : MethodName := ⟨RX5, "fuelOfAll", "()I"⟩
abbrev cX5_tell : ByteArray := prog_7_method_6_code
def yX5_tell : MethodName := ⟨RX5, "tell", "(II)I"⟩
def RX6 : String := "FloodWardens$Refuges"
def TX6 : u_T := fun k => match k with
  | 0 => ("FloodWardens$Numbered", "cell", "[I", true)
  | 1 => ("FloodWardens$Numbered", "count", "I", false)
  | 2 => ("FloodWardens$Refuges", "room", "[I", true)
  | 3 => ("FloodWardens$Refuges", "people", "[I", true)
  | _ => ("FloodWardens$Refuges", "guests", "[I", true)
def tyX6 : Nat → FieldType := fun k => match k with
  | 0 => .array .int
  | 1 => .int
  | 2 => .array .int
  | 3 => .array .int
  | _ => .array .int
abbrev wsX60 : List Cond := u_ws RX6 TX6 5
theorem nmX6 : ∀ a, a < 5 → ∀ b, b < 5 → a ≠ b → (TX6 a).2.1 ≠ (TX6 b).2.1 := by decide +kernel
theorem tyX6_ok : ∀ k, k < 5 → parseFieldDescriptor (TX6 k).2.2.1 = some (tyX6 k) := by decide +kernel
abbrev cX6_init : ByteArray := prog_8_method_1_code
def yX6_init : MethodName := ⟨RX6, "<init>", "()V"⟩
abbrev cX6_open : ByteArray := prog_8_method_2_code
def yX6_open : MethodName := ⟨RX6, "open", "(II)I"⟩
abbrev cX6_copyFrom : ByteArray := prog_8_method_3_code
def yX6_copyFrom : MethodName := ⟨RX6, "copyFrom", "(LFloodWardens$Refuges;)V"⟩
abbrev cX6_hasRoomFor : ByteArray := prog_8_method_4_code
def yX6_hasRoomFor : MethodName := ⟨RX6, "hasRoomFor", "(II)Z"⟩
abbrev cX6_takeIn : ByteArray := prog_8_method_5_code
def yX6_takeIn : MethodName := ⟨RX6, "takeIn", "(II)V"⟩
abbrev cX6_nearestWithRoom : ByteArray := prog_8_method_6_code
def yX6_nearestWithRoom : MethodName := ⟨RX6, "nearestWithRoom", "(ILFloodWardens$Ways;)I"⟩
abbrev cX6_tell : ByteArray := prog_8_method_7_code
def yX6_tell : MethodName := ⟨RX6, "tell", "(II)I"⟩
def RX7 : String := "FloodWardens$Town"
def TX7 : u_T := fun k => match k with
  | 0 => ("FloodWardens$Town", "hour", "I", false)
  | 1 => ("FloodWardens$Town", "land", "LFloodWardens$Land;", true)
  | 2 => ("FloodWardens$Town", "pumps", "LFloodWardens$Pumps;", true)
  | 3 => ("FloodWardens$Town", "gauges", "LFloodWardens$Gauges;", true)
  | 4 => ("FloodWardens$Town", "refuges", "LFloodWardens$Refuges;", true)
  | 5 => ("FloodWardens$Town", "households", "LFloodWardens$Households;", true)
  | 6 => ("FloodWardens$Town", "callers", "LFloodWardens$Callers;", true)
  | _ => ("FloodWardens$Town", "ways", "LFloodWardens$Ways;", true)
def tyX7 : Nat → FieldType := fun k => match k with
  | 0 => .int
  | 1 => .object "FloodWardens$Land"
  | 2 => .object "FloodWardens$Pumps"
  | 3 => .object "FloodWardens$Gauges"
  | 4 => .object "FloodWardens$Refuges"
  | 5 => .object "FloodWardens$Households"
  | 6 => .object "FloodWardens$Callers"
  | _ => .object "FloodWardens$Ways"
abbrev wsX70 : List Cond := u_ws RX7 TX7 8
theorem nmX7 : ∀ a, a < 8 → ∀ b, b < 8 → a ≠ b → (TX7 a).2.1 ≠ (TX7 b).2.1 := by decide +kernel
theorem tyX7_ok : ∀ k, k < 8 → parseFieldDescriptor (TX7 k).2.2.1 = some (tyX7 k) := by decide +kernel
abbrev cX7_init : ByteArray := prog_9_method_1_code
def yX7_init : MethodName := ⟨RX7, "<init>", "()V"⟩
abbrev cX7_copyFrom : ByteArray := prog_9_method_2_code
def yX7_copyFrom : MethodName := ⟨RX7, "copyFrom", "(LFloodWardens$Town;)V"⟩
abbrev cX7_passHours : ByteArray := prog_9_method_3_code
def yX7_passHours : MethodName := ⟨RX7, "passHours", "(I)V"⟩
abbrev cX7_passHour : ByteArray := prog_9_method_4_code
def yX7_passHour : MethodName := ⟨RX7, "passHour", "()V"⟩
abbrev cX7_passWaterHour : ByteArray := prog_9_method_5_code
def yX7_passWaterHour : MethodName := ⟨RX7, "passWaterHour", "()V"⟩
abbrev cX7_tellCell : ByteArray := prog_9_method_6_code
def yX7_tellCell : MethodName := ⟨RX7, "tellCell", "(II)I"⟩
abbrev cX7_tellHousehold : ByteArray := prog_9_method_7_code
def yX7_tellHousehold : MethodName := ⟨RX7, "tellHousehold", "(II)I"⟩
abbrev cX7_stepsToRefuge : ByteArray := prog_9_method_8_code
def yX7_stepsToRefuge : MethodName := ⟨RX7, "stepsToRefuge", "(I)I"⟩
abbrev cX7_tellCount : ByteArray := prog_9_method_9_code
def yX7_tellCount : MethodName := ⟨RX7, "tellCount", "(I)I"⟩
def RX8 : String := "FloodWardens$Ways"
def TX8 : u_T := fun k => match k with
  | 0 => ("FloodWardens$Ways", "steps", "[I", true)
  | 1 => ("FloodWardens$Ways", "firstStop", "[I", true)
  | 2 => ("FloodWardens$Ways", "reached", "[I", true)
  | _ => ("FloodWardens$Ways", "reachedCount", "I", false)
def tyX8 : Nat → FieldType := fun k => match k with
  | 0 => .array .int
  | 1 => .array .int
  | 2 => .array .int
  | _ => .int
abbrev wsX80 : List Cond := u_ws RX8 TX8 4
theorem nmX8 : ∀ a, a < 4 → ∀ b, b < 4 → a ≠ b → (TX8 a).2.1 ≠ (TX8 b).2.1 := by decide +kernel
theorem tyX8_ok : ∀ k, k < 4 → parseFieldDescriptor (TX8 k).2.2.1 = some (tyX8 k) := by decide +kernel
abbrev cX8_init : ByteArray := prog_10_method_1_code
def yX8_init : MethodName := ⟨RX8, "<init>", "()V"⟩
abbrev cX8_search : ByteArray := prog_10_method_2_code
def yX8_search : MethodName := ⟨RX8, "search", "(ILFloodWardens$Land;)V"⟩
abbrev cX8_goOnFrom : ByteArray := prog_10_method_3_code
def yX8_goOnFrom : MethodName := ⟨RX8, "goOnFrom", "(ILFloodWardens$Land;)V"⟩
abbrev cX8_isNearer : ByteArray := prog_10_method_4_code
def yX8_isNearer : MethodName := ⟨RX8, "isNearer", "(II)Z"⟩
def RX9 : String := "FloodWardens"
def TX9 : u_T := fun k => match k with
  | 0 => ("FloodWardens", "town", "LFloodWardens$Town;", true)
  | _ => ("FloodWardens", "trial", "LFloodWardens$Town;", true)
def tyX9 : Nat → FieldType := fun k => match k with
  | 0 => .object "FloodWardens$Town"
  | _ => .object "FloodWardens$Town"
abbrev wsX90 : List Cond := u_ws RX9 TX9 2
theorem nmX9 : ∀ a, a < 2 → ∀ b, b < 2 → a ≠ b → (TX9 a).2.1 ≠ (TX9 b).2.1 := by decide +kernel
theorem tyX9_ok : ∀ k, k < 2 → parseFieldDescriptor (TX9 k).2.2.1 = some (tyX9 k) := by decide +kernel
abbrev cX9_init : ByteArray := prog_1_method_1_code
def yX9_init : MethodName := ⟨RX9, "<init>", "()V"⟩
abbrev cX9_setGround : ByteArray := prog_1_method_2_code
def yX9_setGround : MethodName := ⟨RX9, "setGround", "(III)I"⟩
abbrev cX9_lay : ByteArray := prog_1_method_3_code
def yX9_lay : MethodName := ⟨RX9, "lay", "(III)I"⟩
abbrev cX9_setRiver : ByteArray := prog_1_method_4_code
def yX9_setRiver : MethodName := ⟨RX9, "setRiver", "(II)I"⟩
abbrev cX9_addPump : ByteArray := prog_1_method_5_code
def yX9_addPump : MethodName := ⟨RX9, "addPump", "(IIII)I"⟩
abbrev cX9_run : ByteArray := prog_1_method_6_code
def yX9_run : MethodName := ⟨RX9, "run", "(I)Z"⟩
abbrev cX9_addGauge : ByteArray := prog_1_method_7_code
def yX9_addGauge : MethodName := ⟨RX9, "addGauge", "(III)I"⟩
abbrev cX9_addRefuge : ByteArray := prog_1_method_8_code
def yX9_addRefuge : MethodName := ⟨RX9, "addRefuge", "(III)I"⟩
abbrev cX9_settle : ByteArray := prog_1_method_9_code
def yX9_settle : MethodName := ⟨RX9, "settle", "(III)I"⟩
abbrev cX9_addCaller : ByteArray := prog_1_method_10_code
def yX9_addCaller : MethodName := ⟨RX9, "addCaller", "(II)I"⟩
abbrev cX9_cell : ByteArray := prog_1_method_11_code
def yX9_cell : MethodName := ⟨RX9, "cell", "(III)I"⟩
abbrev cX9_pump : ByteArray := prog_1_method_12_code
def yX9_pump : MethodName := ⟨RX9, "pump", "(II)I"⟩
abbrev cX9_gauge : ByteArray := prog_1_method_13_code
def yX9_gauge : MethodName := ⟨RX9, "gauge", "(II)I"⟩
abbrev cX9_refuge : ByteArray := prog_1_method_14_code
def yX9_refuge : MethodName := ⟨RX9, "refuge", "(II)I"⟩
abbrev cX9_household : ByteArray := prog_1_method_15_code
def yX9_household : MethodName := ⟨RX9, "household", "(II)I"⟩
abbrev cX9_caller : ByteArray := prog_1_method_16_code
def yX9_caller : MethodName := ⟨RX9, "caller", "(II)I"⟩
abbrev cX9_count : ByteArray := prog_1_method_17_code
def yX9_count : MethodName := ⟨RX9, "count", "(I)I"⟩
abbrev cX9_pass : ByteArray := prog_1_method_18_code
def yX9_pass : MethodName := ⟨RX9, "pass", "(I)I"⟩
abbrev cX9_foresee : ByteArray := prog_1_method_19_code
def yX9_foresee : MethodName := ⟨RX9, "foresee", "(II)I"⟩
abbrev cX9_rings : ByteArray := prog_1_method_20_code
def yX9_rings : MethodName := ⟨RX9, "rings", "(I)I"⟩
abbrev cX9_advise : ByteArray := prog_1_method_21_code
def yX9_advise : MethodName := ⟨RX9, "advise", "(I)I"⟩
abbrev cX9_share : ByteArray := prog_1_method_22_code
def yX9_share : MethodName := ⟨RX9, "share", "()D"⟩
abbrev cX9_digest : ByteArray := prog_1_method_23_code
def yX9_digest : MethodName := ⟨RX9, "digest", "()J"⟩
abbrev cX9_digestOfTools : ByteArray := prog_1_method_24_code
def yX9_digestOfTools : MethodName := ⟨RX9, "digestOfTools", "(J)J"⟩
abbrev cX9_digestOfPeople : ByteArray := prog_1_method_25_code
def yX9_digestOfPeople : MethodName := ⟨RX9, "digestOfPeople", "(J)J"⟩
abbrev cX9_waterBehind : ByteArray := prog_1_method_26_code
def yX9_waterBehind : MethodName := ⟨RX9, "waterBehind", "(II)I"⟩
abbrev cX9_placeOf : ByteArray := prog_1_method_27_code
def yX9_placeOf : MethodName := ⟨RX9, "placeOf", "(II)I"⟩
abbrev cX9_isWithin : ByteArray := prog_1_method_28_code
def yX9_isWithin : MethodName := ⟨RX9, "isWithin", "(III)Z"⟩
abbrev cX9_checkCell : ByteArray := prog_1_method_29_code
def yX9_checkCell : MethodName := ⟨RX9, "checkCell", "(II)V"⟩
abbrev cX9_checkIndex : ByteArray := prog_1_method_30_code
def yX9_checkIndex : MethodName := ⟨RX9, "checkIndex", "(Z)V"⟩
abbrev cX9_checkArgument : ByteArray := prog_1_method_31_code
def yX9_checkArgument : MethodName := ⟨RX9, "checkArgument", "(Z)V"⟩
abbrev cX9_checkState : ByteArray := prog_1_method_32_code
def yX9_checkState : MethodName := ⟨RX9, "checkState", "(Z)V"⟩
def RX10 : String := "FloodWardensModel$State"
def TX10 : u_T := fun k => match k with
  | 0 => ("FloodWardensModel$State", "hour", "I", false)
  | 1 => ("FloodWardensModel$State", "lost", "I", false)
  | 2 => ("FloodWardensModel$State", "ground", "[I", true)
  | 3 => ("FloodWardensModel$State", "bags", "[I", true)
  | 4 => ("FloodWardensModel$State", "water", "[I", true)
  | 5 => ("FloodWardensModel$State", "pump", "[I", true)
  | 6 => ("FloodWardensModel$State", "gauge", "[I", true)
  | 7 => ("FloodWardensModel$State", "refuge", "[I", true)
  | 8 => ("FloodWardensModel$State", "house", "[I", true)
  | _ => ("FloodWardensModel$State", "caller", "[I", true)
def tyX10 : Nat → FieldType := fun k => match k with
  | 0 => .int
  | 1 => .int
  | 2 => .array .int
  | 3 => .array .int
  | 4 => .array .int
  | 5 => .array .int
  | 6 => .array .int
  | 7 => .array .int
  | 8 => .array .int
  | _ => .array .int
abbrev wsX100 : List Cond := u_ws RX10 TX10 10
theorem nmX10 : ∀ a, a < 10 → ∀ b, b < 10 → a ≠ b → (TX10 a).2.1 ≠ (TX10 b).2.1 := by decide +kernel
theorem tyX10_ok : ∀ k, k < 10 → parseFieldDescriptor (TX10 k).2.2.1 = some (tyX10 k) := by decide +kernel
abbrev cX10_init : ByteArray := prog_13_method_1_code
def yX10_init : MethodName := ⟨RX10, "<init>", "()V"⟩
abbrev cX10_copy : ByteArray := prog_13_method_2_code
def yX10_copy : MethodName := ⟨RX10, "copy", "([I[I)V"⟩
abbrev cX10_become : ByteArray := prog_13_method_3_code
def yX10_become : MethodName := ⟨RX10, "become", "(LFloodWardensModel$State;)V"⟩
abbrev cX10_canBeWalked : ByteArray := prog_13_method_4_code
def yX10_canBeWalked : MethodName := ⟨RX10, "canBeWalked", "(I)Z"⟩
abbrev cX10_levelOf : ByteArray := prog_13_method_5_code
def yX10_levelOf : MethodName := ⟨RX10, "levelOf", "(I)I"⟩
def RX11 : String := "FloodWardensModel"
def TX11 : u_T := fun k => match k with
  | 0 => ("FloodWardensModel", "thrown", "I", false)
  | 1 => ("FloodWardensModel", "river", "[I", true)
  | 2 => ("FloodWardensModel", "pumps", "I", false)
  | 3 => ("FloodWardensModel", "gauges", "I", false)
  | 4 => ("FloodWardensModel", "refuges", "I", false)
  | 5 => ("FloodWardensModel", "households", "I", false)
  | 6 => ("FloodWardensModel", "callers", "I", false)
  | 7 => ("FloodWardensModel", "far", "[I", true)
  | 8 => ("FloodWardensModel", "row", "[I", true)
  | 9 => ("FloodWardensModel", "level", "[I", true)
  | 10 => ("FloodWardensModel", "more", "[I", true)
  | 11 => ("FloodWardensModel", "s", "LFloodWardensModel$State;", true)
  | _ => ("FloodWardensModel", "ahead", "LFloodWardensModel$State;", true)
def tyX11 : Nat → FieldType := fun k => match k with
  | 0 => .int
  | 1 => .array .int
  | 2 => .int
  | 3 => .int
  | 4 => .int
  | 5 => .int
  | 6 => .int
  | 7 => .array .int
  | 8 => .array .int
  | 9 => .array .int
  | 10 => .array .int
  | 11 => .object "FloodWardensModel$State"
  | _ => .object "FloodWardensModel$State"
abbrev wsX110 : List Cond := u_ws RX11 TX11 13
theorem nmX11 : ∀ a, a < 13 → ∀ b, b < 13 → a ≠ b → (TX11 a).2.1 ≠ (TX11 b).2.1 := by decide +kernel
theorem tyX11_ok : ∀ k, k < 13 → parseFieldDescriptor (TX11 k).2.2.1 = some (tyX11 k) := by decide +kernel
abbrev cX11_init : ByteArray := prog_12_method_1_code
def yX11_init : MethodName := ⟨RX11, "<init>", "()V"⟩
abbrev cX11_thrown : ByteArray := prog_12_method_2_code
def yX11_thrown : MethodName := ⟨RX11, "thrown", "()I"⟩
abbrev cX11_no : ByteArray := prog_12_method_3_code
def yX11_no : MethodName := ⟨RX11, "no", "(I)I"⟩
abbrev cX11_isIn : ByteArray := prog_12_method_4_code
def yX11_isIn : MethodName := ⟨RX11, "isIn", "(III)Z"⟩
abbrev cX11_isCell : ByteArray := prog_12_method_5_code
def yX11_isCell : MethodName := ⟨RX11, "isCell", "(II)Z"⟩
abbrev cX11_beside : ByteArray := prog_12_method_6_code
def yX11_beside : MethodName := ⟨RX11, "beside", "(II)I"⟩
abbrev cX11_setGround : ByteArray := prog_12_method_7_code
def yX11_setGround : MethodName := ⟨RX11, "setGround", "(III)I"⟩
abbrev cX11_all : ByteArray := prog_12_method_8_code
def yX11_all : MethodName := ⟨RX11, "all", "([I)I"⟩
abbrev cX11_lay : ByteArray := prog_12_method_9_code
def yX11_lay : MethodName := ⟨RX11, "lay", "(III)I"⟩
abbrev cX11_setRiver : ByteArray := prog_12_method_10_code
def yX11_setRiver : MethodName := ⟨RX11, "setRiver", "(II)I"⟩
abbrev cX11_placeOf : ByteArray := prog_12_method_11_code
def yX11_placeOf : MethodName := ⟨RX11, "placeOf", "([IIII)I"⟩
abbrev cX11_addPump : ByteArray := prog_12_method_12_code
def yX11_addPump : MethodName := ⟨RX11, "addPump", "(IIII)I"⟩
abbrev cX11_run : ByteArray := prog_12_method_13_code
def yX11_run : MethodName := ⟨RX11, "run", "(I)Z"⟩
abbrev cX11_addGauge : ByteArray := prog_12_method_14_code
def yX11_addGauge : MethodName := ⟨RX11, "addGauge", "(III)I"⟩
abbrev cX11_addRefuge : ByteArray := prog_12_method_15_code
def yX11_addRefuge : MethodName := ⟨RX11, "addRefuge", "(III)I"⟩
abbrev cX11_settle : ByteArray := prog_12_method_16_code
def yX11_settle : MethodName := ⟨RX11, "settle", "(III)I"⟩
abbrev cX11_addCaller : ByteArray := prog_12_method_17_code
def yX11_addCaller : MethodName := ⟨RX11, "addCaller", "(II)I"⟩
abbrev cX11_reckon : ByteArray := prog_12_method_18_code
def yX11_reckon : MethodName := ⟨RX11, "reckon", "(LFloodWardensModel$State;I)V"⟩
abbrev cX11_first : ByteArray := prog_12_method_19_code
def yX11_first : MethodName := ⟨RX11, "first", "(I)I"⟩
abbrev cX11_steps : ByteArray := prog_12_method_20_code
def yX11_steps : MethodName := ⟨RX11, "steps", "(LFloodWardensModel$State;II)I"⟩
abbrev cX11_step : ByteArray := prog_12_method_21_code
def yX11_step : MethodName := ⟨RX11, "step", "(LFloodWardensModel$State;II)I"⟩
abbrev cX11_rings : ByteArray := prog_12_method_22_code
def yX11_rings : MethodName := ⟨RX11, "rings", "(LFloodWardensModel$State;I)Z"⟩
abbrev cX11_ringing : ByteArray := prog_12_method_23_code
def yX11_ringing : MethodName := ⟨RX11, "ringing", "(LFloodWardensModel$State;)I"⟩
abbrev cX11_flow : ByteArray := prog_12_method_24_code
def yX11_flow : MethodName := ⟨RX11, "flow", "(LFloodWardensModel$State;)V"⟩
abbrev cX11_drain : ByteArray := prog_12_method_25_code
def yX11_drain : MethodName := ⟨RX11, "drain", "(LFloodWardensModel$State;I)V"⟩
abbrev cX11_call : ByteArray := prog_12_method_26_code
def yX11_call : MethodName := ⟨RX11, "call", "(LFloodWardensModel$State;I)V"⟩
abbrev cX11_isNear : ByteArray := prog_12_method_27_code
def yX11_isNear : MethodName := ⟨RX11, "isNear", "(II)Z"⟩
abbrev cX11_peopleIn : ByteArray := prog_12_method_28_code
def yX11_peopleIn : MethodName := ⟨RX11, "peopleIn", "(LFloodWardensModel$State;I)I"⟩
abbrev cX11_hasRoom : ByteArray := prog_12_method_29_code
def yX11_hasRoom : MethodName := ⟨RX11, "hasRoom", "(LFloodWardensModel$State;II)Z"⟩
abbrev cX11_refugeFor : ByteArray := prog_12_method_30_code
def yX11_refugeFor : MethodName := ⟨RX11, "refugeFor", "(LFloodWardensModel$State;I)I"⟩
abbrev cX11_flee : ByteArray := prog_12_method_31_code
def yX11_flee : MethodName := ⟨RX11, "flee", "(LFloodWardensModel$State;I)V"⟩
abbrev cX11_drown : ByteArray := prog_12_method_32_code
def yX11_drown : MethodName := ⟨RX11, "drown", "(LFloodWardensModel$State;I)V"⟩
abbrev cX11_hour : ByteArray := prog_12_method_33_code
def yX11_hour : MethodName := ⟨RX11, "hour", "(LFloodWardensModel$State;)V"⟩
abbrev cX11_hours : ByteArray := prog_12_method_34_code
def yX11_hours : MethodName := ⟨RX11, "hours", "(LFloodWardensModel$State;I)V"⟩
abbrev cX11_peopleAt : ByteArray := prog_12_method_35_code
def yX11_peopleAt : MethodName := ⟨RX11, "peopleAt", "(I)I"⟩
abbrev cX11_cellTold : ByteArray := prog_12_method_36_code
def yX11_cellTold : MethodName := ⟨RX11, "cellTold", "(II)I"⟩
abbrev cX11_cell : ByteArray := prog_12_method_37_code
def yX11_cell : MethodName := ⟨RX11, "cell", "(III)I"⟩
abbrev cX11_pumpTold : ByteArray := prog_12_method_38_code
def yX11_pumpTold : MethodName := ⟨RX11, "pumpTold", "(II)I"⟩
abbrev cX11_pump : ByteArray := prog_12_method_39_code
def yX11_pump : MethodName := ⟨RX11, "pump", "(II)I"⟩
abbrev cX11_gaugeTold : ByteArray := prog_12_method_40_code
def yX11_gaugeTold : MethodName := ⟨RX11, "gaugeTold", "(II)I"⟩
abbrev cX11_gauge : ByteArray := prog_12_method_41_code
def yX11_gauge : MethodName := ⟨RX11, "gauge", "(II)I"⟩
abbrev cX11_refugeTold : ByteArray := prog_12_method_42_code
def yX11_refugeTold : MethodName := ⟨RX11, "refugeTold", "(II)I"⟩
abbrev cX11_refuge : ByteArray := prog_12_method_43_code
def yX11_refuge : MethodName := ⟨RX11, "refuge", "(II)I"⟩
abbrev cX11_wayOf : ByteArray := prog_12_method_44_code
def yX11_wayOf : MethodName := ⟨RX11, "wayOf", "(I)I"⟩
abbrev cX11_houseTold : ByteArray := prog_12_method_45_code
def yX11_houseTold : MethodName := ⟨RX11, "houseTold", "(II)I"⟩
abbrev cX11_household : ByteArray := prog_12_method_46_code
def yX11_household : MethodName := ⟨RX11, "household", "(II)I"⟩
abbrev cX11_callerTold : ByteArray := prog_12_method_47_code
def yX11_callerTold : MethodName := ⟨RX11, "callerTold", "(II)I"⟩
abbrev cX11_caller : ByteArray := prog_12_method_48_code
def yX11_caller : MethodName := ⟨RX11, "caller", "(II)I"⟩
abbrev cX11_people : ByteArray := prog_12_method_49_code
def yX11_people : MethodName := ⟨RX11, "people", "(LFloodWardensModel$State;I)I"⟩
abbrev cX11_wet : ByteArray := prog_12_method_50_code
def yX11_wet : MethodName := ⟨RX11, "wet", "(LFloodWardensModel$State;Z)I"⟩
abbrev cX11_counted : ByteArray := prog_12_method_51_code
def yX11_counted : MethodName := ⟨RX11, "counted", "(I)I"⟩
abbrev cX11_count : ByteArray := prog_12_method_52_code
def yX11_count : MethodName := ⟨RX11, "count", "(I)I"⟩
abbrev cX11_pass : ByteArray := prog_12_method_53_code
def yX11_pass : MethodName := ⟨RX11, "pass", "(I)I"⟩
abbrev cX11_fuel : ByteArray := prog_12_method_54_code
def yX11_fuel : MethodName := ⟨RX11, "fuel", "(LFloodWardensModel$State;)I"⟩
abbrev cX11_foresee : ByteArray := prog_12_method_55_code
def yX11_foresee : MethodName := ⟨RX11, "foresee", "(II)I"⟩
abbrev cX11_rings_ : ByteArray := prog_12_method_56_code
def yX11_rings_ : MethodName := ⟨RX11, "rings", "(I)I"⟩
abbrev cX11_waterWith : ByteArray := prog_12_method_57_code
def yX11_waterWith : MethodName := ⟨RX11, "waterWith", "(II)I"⟩
abbrev cX11_advise : ByteArray := prog_12_method_58_code
def yX11_advise : MethodName := ⟨RX11, "advise", "(I)I"⟩
abbrev cX11_share : ByteArray := prog_12_method_59_code
def yX11_share : MethodName := ⟨RX11, "share", "()D"⟩
abbrev cX11_digest : ByteArray := prog_12_method_60_code
def yX11_digest : MethodName := ⟨RX11, "digest", "()J"⟩
def RJ9 : String := "java/lang/Math"
def TJ9 : u_T := fun k => match k with
  | _ => ("", "", "", false)
def tyJ9 : Nat → FieldType := fun k => match k with
  | _ => .int
abbrev wsJ90 : List Cond := u_ws RJ9 TJ9 0
theorem nmJ9 : ∀ a, a < 0 → ∀ b, b < 0 → a ≠ b → (TJ9 a).2.1 ≠ (TJ9 b).2.1 := by decide +kernel
theorem tyJ9_ok : ∀ k, k < 0 → parseFieldDescriptor (TJ9 k).2.2.1 = some (tyJ9 k) := by decide +kernel
abbrev cJ9_floorMod_7cf53 : ByteArray := prog_18_method_50_code
def yJ9_floorMod_7cf53 : MethodName := ⟨RJ9, "floorMod", "(II)I"⟩
abbrev cJ9_abs_0f7a4 : ByteArray := prog_18_method_59_code
def yJ9_abs_0f7a4 : MethodName := ⟨RJ9, "abs", "(I)I"⟩
abbrev cJ9_min_7cf53 : ByteArray := prog_18_method_69_code
def yJ9_min_7cf53 : MethodName := ⟨RJ9, "min", "(II)I"⟩
def RJ0 : String := "java/lang/String"
def TJ0 : u_T := fun k => match k with
  | _ => ("", "", "", false)
def tyJ0 : Nat → FieldType := fun k => match k with
  | _ => .int
abbrev wsJ00 : List Cond := u_ws RJ0 TJ0 0
theorem nmJ0 : ∀ a, a < 0 → ∀ b, b < 0 → a ≠ b → (TJ0 a).2.1 ≠ (TJ0 b).2.1 := by decide +kernel
theorem tyJ0_ok : ∀ k, k < 0 → parseFieldDescriptor (TJ0 k).2.2.1 = some (tyJ0 k) := by decide +kernel
def RJ10 : String := "java/lang/System"
def TJ10 : u_T := fun k => match k with
  | _ => ("", "", "", false)
def tyJ10 : Nat → FieldType := fun k => match k with
  | _ => .int
abbrev wsJ100 : List Cond := u_ws RJ10 TJ10 0
theorem nmJ10 : ∀ a, a < 0 → ∀ b, b < 0 → a ≠ b → (TJ10 a).2.1 ≠ (TJ10 b).2.1 := by decide +kernel
theorem tyJ10_ok : ∀ k, k < 0 → parseFieldDescriptor (TJ10 k).2.2.1 = some (tyJ10 k) := by decide +kernel
def RL : String := "FloodWardensLaw"
abbrev cL_setGround : ByteArray := method_3_code
def yL_setGround : MethodName := ⟨RL, "setGround", "(LFloodWardens;III[J)I"⟩
abbrev cL_lay : ByteArray := method_4_code
def yL_lay : MethodName := ⟨RL, "lay", "(LFloodWardens;III[J)I"⟩
abbrev cL_setRiver : ByteArray := method_5_code
def yL_setRiver : MethodName := ⟨RL, "setRiver", "(LFloodWardens;II[J)I"⟩
abbrev cL_addPump : ByteArray := method_6_code
def yL_addPump : MethodName := ⟨RL, "addPump", "(LFloodWardens;IIII[J)I"⟩
abbrev cL_run : ByteArray := method_7_code
def yL_run : MethodName := ⟨RL, "run", "(LFloodWardens;I[J)I"⟩
abbrev cL_addGauge : ByteArray := method_8_code
def yL_addGauge : MethodName := ⟨RL, "addGauge", "(LFloodWardens;III[J)I"⟩
abbrev cL_addRefuge : ByteArray := method_9_code
def yL_addRefuge : MethodName := ⟨RL, "addRefuge", "(LFloodWardens;III[J)I"⟩
abbrev cL_settle : ByteArray := method_10_code
def yL_settle : MethodName := ⟨RL, "settle", "(LFloodWardens;III[J)I"⟩
abbrev cL_addCaller : ByteArray := method_11_code
def yL_addCaller : MethodName := ⟨RL, "addCaller", "(LFloodWardens;II[J)I"⟩
abbrev cL_cell : ByteArray := method_12_code
def yL_cell : MethodName := ⟨RL, "cell", "(LFloodWardens;III[J)I"⟩
abbrev cL_pump : ByteArray := method_13_code
def yL_pump : MethodName := ⟨RL, "pump", "(LFloodWardens;II[J)I"⟩
abbrev cL_gauge : ByteArray := method_14_code
def yL_gauge : MethodName := ⟨RL, "gauge", "(LFloodWardens;II[J)I"⟩
abbrev cL_refuge : ByteArray := method_15_code
def yL_refuge : MethodName := ⟨RL, "refuge", "(LFloodWardens;II[J)I"⟩
abbrev cL_household : ByteArray := method_16_code
def yL_household : MethodName := ⟨RL, "household", "(LFloodWardens;II[J)I"⟩
abbrev cL_caller : ByteArray := method_17_code
def yL_caller : MethodName := ⟨RL, "caller", "(LFloodWardens;II[J)I"⟩
abbrev cL_count : ByteArray := method_18_code
def yL_count : MethodName := ⟨RL, "count", "(LFloodWardens;I[J)I"⟩
abbrev cL_pass : ByteArray := method_19_code
def yL_pass : MethodName := ⟨RL, "pass", "(LFloodWardens;I[J)I"⟩
abbrev cL_foresee : ByteArray := method_20_code
def yL_foresee : MethodName := ⟨RL, "foresee", "(LFloodWardens;II[J)I"⟩
abbrev cL_rings : ByteArray := method_21_code
def yL_rings : MethodName := ⟨RL, "rings", "(LFloodWardens;I[J)I"⟩
abbrev cL_advise : ByteArray := method_22_code
def yL_advise : MethodName := ⟨RL, "advise", "(LFloodWardens;I[J)I"⟩
abbrev cL_law : ByteArray := code
def yL_law : MethodName := ⟨RL, "law", "([I)Z"⟩
abbrev vwCl : List vw_C := [(RX0, TX0, 3), (RX1, TX1, 3), (RX2, TX2, 5), (RX3, TX3, 5), (RX5, TX5, 6), (RX6, TX6, 5), (RX7, TX7, 8), (RX8, TX8, 4), (RX9, TX9, 2), (RX10, TX10, 10), (RX11, TX11, 13)]
end
section
theorem dX0_init_0 : decode cX0_init 0 = .ok (.aload_n 0, 1) := by decide +kernel
theorem dX0_init_1 : decode cX0_init 1 = .ok (.iconst 3, 1) := by decide +kernel
theorem dX0_init_2 : decode cX0_init 2 = .ok (.newarray .int, 2) := by decide +kernel
theorem dX0_init_4 : decode cX0_init 4 = .ok (.invokespecial 3, 3) := by decide +kernel
theorem dX0_init_7 : decode cX0_init 7 = .ok (.aload_n 0, 1) := by decide +kernel
theorem dX0_init_8 : decode cX0_init 8 = .ok (.iconst 3, 1) := by decide +kernel
theorem dX0_init_9 : decode cX0_init 9 = .ok (.newarray .int, 2) := by decide +kernel
theorem dX0_init_11 : decode cX0_init 11 = .ok (.putfield 9, 3) := by decide +kernel
theorem dX0_init_14 : decode cX0_init 14 = .ok (.return_, 1) := by decide +kernel
theorem dX0_post_0 : decode cX0_post 0 = .ok (.aload_n 0, 1) := by decide +kernel
theorem dX0_post_1 : decode cX0_post 1 = .ok (.getfield 15, 3) := by decide +kernel
theorem dX0_post_4 : decode cX0_post 4 = .ok (.istore_n 2, 1) := by decide +kernel
theorem dX0_post_5 : decode cX0_post 5 = .ok (.aload_n 0, 1) := by decide +kernel
theorem dX0_post_6 : decode cX0_post 6 = .ok (.getfield 19, 3) := by decide +kernel
theorem dX0_post_9 : decode cX0_post 9 = .ok (.iload_n 2, 1) := by decide +kernel
theorem dX0_post_10 : decode cX0_post 10 = .ok (.iload_n 1, 1) := by decide +kernel
theorem dX0_post_11 : decode cX0_post 11 = .ok (.iastore, 1) := by decide +kernel
theorem dX0_post_12 : decode cX0_post 12 = .ok (.aload_n 0, 1) := by decide +kernel
theorem dX0_post_13 : decode cX0_post 13 = .ok (.dup, 1) := by decide +kernel
theorem dX0_post_14 : decode cX0_post 14 = .ok (.getfield 15, 3) := by decide +kernel
theorem dX0_post_17 : decode cX0_post 17 = .ok (.iconst 1, 1) := by decide +kernel
theorem dX0_post_18 : decode cX0_post 18 = .ok (.iadd, 1) := by decide +kernel
theorem dX0_post_19 : decode cX0_post 19 = .ok (.putfield 15, 3) := by decide +kernel
theorem dX0_post_22 : decode cX0_post 22 = .ok (.iload_n 2, 1) := by decide +kernel
theorem dX0_post_23 : decode cX0_post 23 = .ok (.ireturn, 1) := by decide +kernel
theorem dX0_copyFrom_0 : decode cX0_copyFrom 0 = .ok (.aload_n 0, 1) := by decide +kernel
theorem dX0_copyFrom_1 : decode cX0_copyFrom 1 = .ok (.aload_n 1, 1) := by decide +kernel
theorem dX0_copyFrom_2 : decode cX0_copyFrom 2 = .ok (.invokevirtual 22, 3) := by decide +kernel
theorem dX0_copyFrom_5 : decode cX0_copyFrom 5 = .ok (.iconst 0, 1) := by decide +kernel
theorem dX0_copyFrom_6 : decode cX0_copyFrom 6 = .ok (.istore_n 2, 1) := by decide +kernel
theorem dX0_copyFrom_7 : decode cX0_copyFrom 7 = .ok (.iload_n 2, 1) := by decide +kernel
theorem dX0_copyFrom_8 : decode cX0_copyFrom 8 = .ok (.aload_n 0, 1) := by decide +kernel
theorem dX0_copyFrom_9 : decode cX0_copyFrom 9 = .ok (.getfield 15, 3) := by decide +kernel
theorem dX0_copyFrom_12 : decode cX0_copyFrom 12 = .ok (.if_icmp .ge 21, 3) := by decide +kernel
theorem dX0_copyFrom_15 : decode cX0_copyFrom 15 = .ok (.aload_n 0, 1) := by decide +kernel
theorem dX0_copyFrom_16 : decode cX0_copyFrom 16 = .ok (.getfield 9, 3) := by decide +kernel
theorem dX0_copyFrom_19 : decode cX0_copyFrom 19 = .ok (.iload_n 2, 1) := by decide +kernel
theorem dX0_copyFrom_20 : decode cX0_copyFrom 20 = .ok (.aload_n 1, 1) := by decide +kernel
theorem dX0_copyFrom_21 : decode cX0_copyFrom 21 = .ok (.getfield 9, 3) := by decide +kernel
theorem dX0_copyFrom_24 : decode cX0_copyFrom 24 = .ok (.iload_n 2, 1) := by decide +kernel
theorem dX0_copyFrom_25 : decode cX0_copyFrom 25 = .ok (.iaload, 1) := by decide +kernel
theorem dX0_copyFrom_26 : decode cX0_copyFrom 26 = .ok (.iastore, 1) := by decide +kernel
theorem dX0_copyFrom_27 : decode cX0_copyFrom 27 = .ok (.iinc 2 1, 3) := by decide +kernel
theorem dX0_copyFrom_30 : decode cX0_copyFrom 30 = .ok (.goto (-23), 3) := by decide +kernel
theorem dX0_copyFrom_33 : decode cX0_copyFrom 33 = .ok (.return_, 1) := by decide +kernel
theorem dX0_callOut_0 : decode cX0_callOut 0 = .ok (.iconst 0, 1) := by decide +kernel
theorem dX0_callOut_1 : decode cX0_callOut 1 = .ok (.istore 4, 2) := by decide +kernel
theorem dX0_callOut_3 : decode cX0_callOut 3 = .ok (.iload 4, 2) := by decide +kernel
theorem dX0_callOut_5 : decode cX0_callOut 5 = .ok (.aload_n 0, 1) := by decide +kernel
theorem dX0_callOut_6 : decode cX0_callOut 6 = .ok (.getfield 15, 3) := by decide +kernel
theorem dX0_callOut_9 : decode cX0_callOut 9 = .ok (.if_icmp .ge 74, 3) := by decide +kernel
theorem dX0_callOut_12 : decode cX0_callOut 12 = .ok (.aload_n 2, 1) := by decide +kernel
theorem dX0_callOut_13 : decode cX0_callOut 13 = .ok (.aload_n 0, 1) := by decide +kernel
theorem dX0_callOut_14 : decode cX0_callOut 14 = .ok (.getfield 19, 3) := by decide +kernel
theorem dX0_callOut_17 : decode cX0_callOut 17 = .ok (.iload 4, 2) := by decide +kernel
theorem dX0_callOut_19 : decode cX0_callOut 19 = .ok (.iaload, 1) := by decide +kernel
theorem dX0_callOut_20 : decode cX0_callOut 20 = .ok (.aload_n 3, 1) := by decide +kernel
theorem dX0_callOut_21 : decode cX0_callOut 21 = .ok (.invokevirtual 26, 3) := by decide +kernel
theorem dX0_callOut_24 : decode cX0_callOut 24 = .ok (.aload_n 1, 1) := by decide +kernel
theorem dX0_callOut_25 : decode cX0_callOut 25 = .ok (.aload_n 2, 1) := by decide +kernel
theorem dX0_callOut_26 : decode cX0_callOut 26 = .ok (.invokevirtual 32, 3) := by decide +kernel
theorem dX0_callOut_29 : decode cX0_callOut 29 = .ok (.istore 5, 2) := by decide +kernel
theorem dX0_callOut_31 : decode cX0_callOut 31 = .ok (.iload 5, 2) := by decide +kernel
theorem dX0_callOut_33 : decode cX0_callOut 33 = .ok (.iconst (-1), 1) := by decide +kernel
theorem dX0_callOut_34 : decode cX0_callOut 34 = .ok (.if_icmp .eq 22, 3) := by decide +kernel
theorem dX0_callOut_37 : decode cX0_callOut 37 = .ok (.aload_n 0, 1) := by decide +kernel
theorem dX0_callOut_38 : decode cX0_callOut 38 = .ok (.getfield 19, 3) := by decide +kernel
theorem dX0_callOut_41 : decode cX0_callOut 41 = .ok (.iload 4, 2) := by decide +kernel
theorem dX0_callOut_43 : decode cX0_callOut 43 = .ok (.aload_n 2, 1) := by decide +kernel
theorem dX0_callOut_44 : decode cX0_callOut 44 = .ok (.getfield 38, 3) := by decide +kernel
theorem dX0_callOut_47 : decode cX0_callOut 47 = .ok (.aload_n 1, 1) := by decide +kernel
theorem dX0_callOut_48 : decode cX0_callOut 48 = .ok (.getfield 41, 3) := by decide +kernel
theorem dX0_callOut_51 : decode cX0_callOut 51 = .ok (.iload 5, 2) := by decide +kernel
theorem dX0_callOut_53 : decode cX0_callOut 53 = .ok (.iaload, 1) := by decide +kernel
theorem dX0_callOut_54 : decode cX0_callOut 54 = .ok (.iaload, 1) := by decide +kernel
theorem dX0_callOut_55 : decode cX0_callOut 55 = .ok (.iastore, 1) := by decide +kernel
theorem dX0_callOut_56 : decode cX0_callOut 56 = .ok (.aload_n 0, 1) := by decide +kernel
theorem dX0_callOut_57 : decode cX0_callOut 57 = .ok (.getfield 9, 3) := by decide +kernel
theorem dX0_callOut_60 : decode cX0_callOut 60 = .ok (.iload 4, 2) := by decide +kernel
theorem dX0_callOut_62 : decode cX0_callOut 62 = .ok (.dup2, 1) := by decide +kernel
theorem dX0_callOut_63 : decode cX0_callOut 63 = .ok (.iaload, 1) := by decide +kernel
theorem dX0_callOut_64 : decode cX0_callOut 64 = .ok (.aload_n 1, 1) := by decide +kernel
theorem dX0_callOut_65 : decode cX0_callOut 65 = .ok (.aload_n 0, 1) := by decide +kernel
theorem dX0_callOut_66 : decode cX0_callOut 66 = .ok (.getfield 19, 3) := by decide +kernel
theorem dX0_callOut_69 : decode cX0_callOut 69 = .ok (.iload 4, 2) := by decide +kernel
theorem dX0_callOut_71 : decode cX0_callOut 71 = .ok (.iaload, 1) := by decide +kernel
theorem dX0_callOut_72 : decode cX0_callOut 72 = .ok (.invokevirtual 42, 3) := by decide +kernel
theorem dX0_callOut_75 : decode cX0_callOut 75 = .ok (.iadd, 1) := by decide +kernel
theorem dX0_callOut_76 : decode cX0_callOut 76 = .ok (.iastore, 1) := by decide +kernel
theorem dX0_callOut_77 : decode cX0_callOut 77 = .ok (.iinc 4 1, 3) := by decide +kernel
theorem dX0_callOut_80 : decode cX0_callOut 80 = .ok (.goto (-77), 3) := by decide +kernel
theorem dX0_callOut_83 : decode cX0_callOut 83 = .ok (.return_, 1) := by decide +kernel
theorem dX0_tell_0 : decode cX0_tell 0 = .ok (.iload_n 2, 1) := by decide +kernel
theorem dX0_tell_1 : decode cX0_tell 1 = .ok (.lookupswitch 39 #[(0, 27), (1, 33)], 27) := by decide +kernel
theorem dX0_tell_28 : decode cX0_tell 28 = .ok (.aload_n 0, 1) := by decide +kernel
theorem dX0_tell_29 : decode cX0_tell 29 = .ok (.iload_n 1, 1) := by decide +kernel
theorem dX0_tell_30 : decode cX0_tell 30 = .ok (.invokevirtual 46, 3) := by decide +kernel
theorem dX0_tell_33 : decode cX0_tell 33 = .ok (.ireturn, 1) := by decide +kernel
theorem dX0_tell_34 : decode cX0_tell 34 = .ok (.aload_n 0, 1) := by decide +kernel
theorem dX0_tell_35 : decode cX0_tell 35 = .ok (.iload_n 1, 1) := by decide +kernel
theorem dX0_tell_36 : decode cX0_tell 36 = .ok (.invokevirtual 49, 3) := by decide +kernel
theorem dX0_tell_39 : decode cX0_tell 39 = .ok (.ireturn, 1) := by decide +kernel
theorem dX0_tell_40 : decode cX0_tell 40 = .ok (.aload_n 0, 1) := by decide +kernel
theorem dX0_tell_41 : decode cX0_tell 41 = .ok (.getfield 9, 3) := by decide +kernel
theorem dX0_tell_44 : decode cX0_tell 44 = .ok (.iload_n 1, 1) := by decide +kernel
theorem dX0_tell_45 : decode cX0_tell 45 = .ok (.iaload, 1) := by decide +kernel
theorem dX0_tell_46 : decode cX0_tell 46 = .ok (.ireturn, 1) := by decide +kernel
theorem dX1_init_0 : decode cX1_init 0 = .ok (.aload_n 0, 1) := by decide +kernel
theorem dX1_init_1 : decode cX1_init 1 = .ok (.iconst 4, 1) := by decide +kernel
theorem dX1_init_2 : decode cX1_init 2 = .ok (.newarray .int, 2) := by decide +kernel
theorem dX1_init_4 : decode cX1_init 4 = .ok (.invokespecial 3, 3) := by decide +kernel
theorem dX1_init_7 : decode cX1_init 7 = .ok (.aload_n 0, 1) := by decide +kernel
theorem dX1_init_8 : decode cX1_init 8 = .ok (.iconst 4, 1) := by decide +kernel
theorem dX1_init_9 : decode cX1_init 9 = .ok (.newarray .int, 2) := by decide +kernel
theorem dX1_init_11 : decode cX1_init 11 = .ok (.putfield 9, 3) := by decide +kernel
theorem dX1_init_14 : decode cX1_init 14 = .ok (.return_, 1) := by decide +kernel
theorem dX1_hang_0 : decode cX1_hang 0 = .ok (.aload_n 0, 1) := by decide +kernel
theorem dX1_hang_1 : decode cX1_hang 1 = .ok (.getfield 15, 3) := by decide +kernel
theorem dX1_hang_4 : decode cX1_hang 4 = .ok (.istore_n 3, 1) := by decide +kernel
theorem dX1_hang_5 : decode cX1_hang 5 = .ok (.aload_n 0, 1) := by decide +kernel
theorem dX1_hang_6 : decode cX1_hang 6 = .ok (.getfield 19, 3) := by decide +kernel
theorem dX1_hang_9 : decode cX1_hang 9 = .ok (.iload_n 3, 1) := by decide +kernel
theorem dX1_hang_10 : decode cX1_hang 10 = .ok (.iload_n 1, 1) := by decide +kernel
theorem dX1_hang_11 : decode cX1_hang 11 = .ok (.iastore, 1) := by decide +kernel
theorem dX1_hang_12 : decode cX1_hang 12 = .ok (.aload_n 0, 1) := by decide +kernel
theorem dX1_hang_13 : decode cX1_hang 13 = .ok (.getfield 9, 3) := by decide +kernel
theorem dX1_hang_16 : decode cX1_hang 16 = .ok (.iload_n 3, 1) := by decide +kernel
theorem dX1_hang_17 : decode cX1_hang 17 = .ok (.iload_n 2, 1) := by decide +kernel
theorem dX1_hang_18 : decode cX1_hang 18 = .ok (.iastore, 1) := by decide +kernel
theorem dX1_hang_19 : decode cX1_hang 19 = .ok (.aload_n 0, 1) := by decide +kernel
theorem dX1_hang_20 : decode cX1_hang 20 = .ok (.dup, 1) := by decide +kernel
theorem dX1_hang_21 : decode cX1_hang 21 = .ok (.getfield 15, 3) := by decide +kernel
theorem dX1_hang_24 : decode cX1_hang 24 = .ok (.iconst 1, 1) := by decide +kernel
theorem dX1_hang_25 : decode cX1_hang 25 = .ok (.iadd, 1) := by decide +kernel
theorem dX1_hang_26 : decode cX1_hang 26 = .ok (.putfield 15, 3) := by decide +kernel
theorem dX1_hang_29 : decode cX1_hang 29 = .ok (.iload_n 3, 1) := by decide +kernel
theorem dX1_hang_30 : decode cX1_hang 30 = .ok (.ireturn, 1) := by decide +kernel
theorem dX1_copyFrom_0 : decode cX1_copyFrom 0 = .ok (.aload_n 0, 1) := by decide +kernel
theorem dX1_copyFrom_1 : decode cX1_copyFrom 1 = .ok (.aload_n 1, 1) := by decide +kernel
theorem dX1_copyFrom_2 : decode cX1_copyFrom 2 = .ok (.invokevirtual 22, 3) := by decide +kernel
theorem dX1_copyFrom_5 : decode cX1_copyFrom 5 = .ok (.iconst 0, 1) := by decide +kernel
theorem dX1_copyFrom_6 : decode cX1_copyFrom 6 = .ok (.istore_n 2, 1) := by decide +kernel
theorem dX1_copyFrom_7 : decode cX1_copyFrom 7 = .ok (.iload_n 2, 1) := by decide +kernel
theorem dX1_copyFrom_8 : decode cX1_copyFrom 8 = .ok (.aload_n 0, 1) := by decide +kernel
theorem dX1_copyFrom_9 : decode cX1_copyFrom 9 = .ok (.getfield 15, 3) := by decide +kernel
theorem dX1_copyFrom_12 : decode cX1_copyFrom 12 = .ok (.if_icmp .ge 21, 3) := by decide +kernel
theorem dX1_copyFrom_15 : decode cX1_copyFrom 15 = .ok (.aload_n 0, 1) := by decide +kernel
theorem dX1_copyFrom_16 : decode cX1_copyFrom 16 = .ok (.getfield 9, 3) := by decide +kernel
theorem dX1_copyFrom_19 : decode cX1_copyFrom 19 = .ok (.iload_n 2, 1) := by decide +kernel
theorem dX1_copyFrom_20 : decode cX1_copyFrom 20 = .ok (.aload_n 1, 1) := by decide +kernel
theorem dX1_copyFrom_21 : decode cX1_copyFrom 21 = .ok (.getfield 9, 3) := by decide +kernel
theorem dX1_copyFrom_24 : decode cX1_copyFrom 24 = .ok (.iload_n 2, 1) := by decide +kernel
theorem dX1_copyFrom_25 : decode cX1_copyFrom 25 = .ok (.iaload, 1) := by decide +kernel
theorem dX1_copyFrom_26 : decode cX1_copyFrom 26 = .ok (.iastore, 1) := by decide +kernel
theorem dX1_copyFrom_27 : decode cX1_copyFrom 27 = .ok (.iinc 2 1, 3) := by decide +kernel
theorem dX1_copyFrom_30 : decode cX1_copyFrom 30 = .ok (.goto (-23), 3) := by decide +kernel
theorem dX1_copyFrom_33 : decode cX1_copyFrom 33 = .ok (.return_, 1) := by decide +kernel
theorem dX1_isRinging_0 : decode cX1_isRinging 0 = .ok (.aload_n 2, 1) := by decide +kernel
theorem dX1_isRinging_1 : decode cX1_isRinging 1 = .ok (.getfield 26, 3) := by decide +kernel
theorem dX1_isRinging_4 : decode cX1_isRinging 4 = .ok (.aload_n 0, 1) := by decide +kernel
theorem dX1_isRinging_5 : decode cX1_isRinging 5 = .ok (.getfield 19, 3) := by decide +kernel
theorem dX1_isRinging_8 : decode cX1_isRinging 8 = .ok (.iload_n 1, 1) := by decide +kernel
theorem dX1_isRinging_9 : decode cX1_isRinging 9 = .ok (.iaload, 1) := by decide +kernel
theorem dX1_isRinging_10 : decode cX1_isRinging 10 = .ok (.iaload, 1) := by decide +kernel
theorem dX1_isRinging_11 : decode cX1_isRinging 11 = .ok (.aload_n 0, 1) := by decide +kernel
theorem dX1_isRinging_12 : decode cX1_isRinging 12 = .ok (.getfield 9, 3) := by decide +kernel
theorem dX1_isRinging_15 : decode cX1_isRinging 15 = .ok (.iload_n 1, 1) := by decide +kernel
theorem dX1_isRinging_16 : decode cX1_isRinging 16 = .ok (.iaload, 1) := by decide +kernel
theorem dX1_isRinging_17 : decode cX1_isRinging 17 = .ok (.if_icmp .lt 7, 3) := by decide +kernel
theorem dX1_isRinging_20 : decode cX1_isRinging 20 = .ok (.iconst 1, 1) := by decide +kernel
theorem dX1_isRinging_21 : decode cX1_isRinging 21 = .ok (.goto 4, 3) := by decide +kernel
theorem dX1_isRinging_24 : decode cX1_isRinging 24 = .ok (.iconst 0, 1) := by decide +kernel
theorem dX1_isRinging_25 : decode cX1_isRinging 25 = .ok (.ireturn, 1) := by decide +kernel
theorem dX1_ringing_0 : decode cX1_ringing 0 = .ok (.iconst 0, 1) := by decide +kernel
theorem dX1_ringing_1 : decode cX1_ringing 1 = .ok (.istore_n 2, 1) := by decide +kernel
theorem dX1_ringing_2 : decode cX1_ringing 2 = .ok (.iconst 0, 1) := by decide +kernel
theorem dX1_ringing_3 : decode cX1_ringing 3 = .ok (.istore_n 3, 1) := by decide +kernel
theorem dX1_ringing_4 : decode cX1_ringing 4 = .ok (.iload_n 3, 1) := by decide +kernel
theorem dX1_ringing_5 : decode cX1_ringing 5 = .ok (.aload_n 0, 1) := by decide +kernel
theorem dX1_ringing_6 : decode cX1_ringing 6 = .ok (.getfield 15, 3) := by decide +kernel
theorem dX1_ringing_9 : decode cX1_ringing 9 = .ok (.if_icmp .ge 26, 3) := by decide +kernel
theorem dX1_ringing_12 : decode cX1_ringing 12 = .ok (.iload_n 2, 1) := by decide +kernel
theorem dX1_ringing_13 : decode cX1_ringing 13 = .ok (.aload_n 0, 1) := by decide +kernel
theorem dX1_ringing_14 : decode cX1_ringing 14 = .ok (.iload_n 3, 1) := by decide +kernel
theorem dX1_ringing_15 : decode cX1_ringing 15 = .ok (.aload_n 1, 1) := by decide +kernel
theorem dX1_ringing_16 : decode cX1_ringing 16 = .ok (.invokevirtual 31, 3) := by decide +kernel
theorem dX1_ringing_19 : decode cX1_ringing 19 = .ok (.ifCond .eq 7, 3) := by decide +kernel
theorem dX1_ringing_22 : decode cX1_ringing 22 = .ok (.iconst 1, 1) := by decide +kernel
theorem dX1_ringing_23 : decode cX1_ringing 23 = .ok (.goto 4, 3) := by decide +kernel
theorem dX1_ringing_26 : decode cX1_ringing 26 = .ok (.iconst 0, 1) := by decide +kernel
theorem dX1_ringing_27 : decode cX1_ringing 27 = .ok (.iadd, 1) := by decide +kernel
theorem dX1_ringing_28 : decode cX1_ringing 28 = .ok (.istore_n 2, 1) := by decide +kernel
theorem dX1_ringing_29 : decode cX1_ringing 29 = .ok (.iinc 3 1, 3) := by decide +kernel
theorem dX1_ringing_32 : decode cX1_ringing 32 = .ok (.goto (-28), 3) := by decide +kernel
theorem dX1_ringing_35 : decode cX1_ringing 35 = .ok (.iload_n 2, 1) := by decide +kernel
theorem dX1_ringing_36 : decode cX1_ringing 36 = .ok (.ireturn, 1) := by decide +kernel
theorem dX1_tell_0 : decode cX1_tell 0 = .ok (.iload_n 2, 1) := by decide +kernel
theorem dX1_tell_1 : decode cX1_tell 1 = .ok (.tableswitch 62 0 3 #[31, 37, 43, 50], 31) := by decide +kernel
theorem dX1_tell_32 : decode cX1_tell 32 = .ok (.aload_n 0, 1) := by decide +kernel
theorem dX1_tell_33 : decode cX1_tell 33 = .ok (.iload_n 1, 1) := by decide +kernel
theorem dX1_tell_34 : decode cX1_tell 34 = .ok (.invokevirtual 35, 3) := by decide +kernel
theorem dX1_tell_37 : decode cX1_tell 37 = .ok (.ireturn, 1) := by decide +kernel
theorem dX1_tell_38 : decode cX1_tell 38 = .ok (.aload_n 0, 1) := by decide +kernel
theorem dX1_tell_39 : decode cX1_tell 39 = .ok (.iload_n 1, 1) := by decide +kernel
theorem dX1_tell_40 : decode cX1_tell 40 = .ok (.invokevirtual 39, 3) := by decide +kernel
theorem dX1_tell_43 : decode cX1_tell 43 = .ok (.ireturn, 1) := by decide +kernel
theorem dX1_tell_44 : decode cX1_tell 44 = .ok (.aload_n 0, 1) := by decide +kernel
theorem dX1_tell_45 : decode cX1_tell 45 = .ok (.getfield 9, 3) := by decide +kernel
theorem dX1_tell_48 : decode cX1_tell 48 = .ok (.iload_n 1, 1) := by decide +kernel
theorem dX1_tell_49 : decode cX1_tell 49 = .ok (.iaload, 1) := by decide +kernel
theorem dX1_tell_50 : decode cX1_tell 50 = .ok (.ireturn, 1) := by decide +kernel
theorem dX1_tell_51 : decode cX1_tell 51 = .ok (.aload_n 3, 1) := by decide +kernel
theorem dX1_tell_52 : decode cX1_tell 52 = .ok (.getfield 26, 3) := by decide +kernel
theorem dX1_tell_55 : decode cX1_tell 55 = .ok (.aload_n 0, 1) := by decide +kernel
theorem dX1_tell_56 : decode cX1_tell 56 = .ok (.getfield 19, 3) := by decide +kernel
theorem dX1_tell_59 : decode cX1_tell 59 = .ok (.iload_n 1, 1) := by decide +kernel
theorem dX1_tell_60 : decode cX1_tell 60 = .ok (.iaload, 1) := by decide +kernel
theorem dX1_tell_61 : decode cX1_tell 61 = .ok (.iaload, 1) := by decide +kernel
theorem dX1_tell_62 : decode cX1_tell 62 = .ok (.ireturn, 1) := by decide +kernel
theorem dX1_tell_63 : decode cX1_tell 63 = .ok (.aload_n 0, 1) := by decide +kernel
theorem dX1_tell_64 : decode cX1_tell 64 = .ok (.iload_n 1, 1) := by decide +kernel
theorem dX1_tell_65 : decode cX1_tell 65 = .ok (.aload_n 3, 1) := by decide +kernel
theorem dX1_tell_66 : decode cX1_tell 66 = .ok (.invokevirtual 31, 3) := by decide +kernel
theorem dX1_tell_69 : decode cX1_tell 69 = .ok (.ifCond .eq 7, 3) := by decide +kernel
theorem dX1_tell_72 : decode cX1_tell 72 = .ok (.iconst 1, 1) := by decide +kernel
theorem dX1_tell_73 : decode cX1_tell 73 = .ok (.goto 4, 3) := by decide +kernel
theorem dX1_tell_76 : decode cX1_tell 76 = .ok (.iconst 0, 1) := by decide +kernel
theorem dX1_tell_77 : decode cX1_tell 77 = .ok (.ireturn, 1) := by decide +kernel
theorem dX2_init_0 : decode cX2_init 0 = .ok (.aload_n 0, 1) := by decide +kernel
theorem dX2_init_1 : decode cX2_init 1 = .ok (.bipush 10, 2) := by decide +kernel
theorem dX2_init_3 : decode cX2_init 3 = .ok (.newarray .int, 2) := by decide +kernel
theorem dX2_init_5 : decode cX2_init 5 = .ok (.invokespecial 3, 3) := by decide +kernel
theorem dX2_init_8 : decode cX2_init 8 = .ok (.aload_n 0, 1) := by decide +kernel
theorem dX2_init_9 : decode cX2_init 9 = .ok (.bipush 10, 2) := by decide +kernel
theorem dX2_init_11 : decode cX2_init 11 = .ok (.newarray .int, 2) := by decide +kernel
theorem dX2_init_13 : decode cX2_init 13 = .ok (.putfield 9, 3) := by decide +kernel
theorem dX2_init_16 : decode cX2_init 16 = .ok (.aload_n 0, 1) := by decide +kernel
theorem dX2_init_17 : decode cX2_init 17 = .ok (.bipush 10, 2) := by decide +kernel
theorem dX2_init_19 : decode cX2_init 19 = .ok (.newarray .int, 2) := by decide +kernel
theorem dX2_init_21 : decode cX2_init 21 = .ok (.putfield 15, 3) := by decide +kernel
theorem dX2_init_24 : decode cX2_init 24 = .ok (.return_, 1) := by decide +kernel
theorem dX2_moveIn_0 : decode cX2_moveIn 0 = .ok (.aload_n 0, 1) := by decide +kernel
theorem dX2_moveIn_1 : decode cX2_moveIn 1 = .ok (.getfield 18, 3) := by decide +kernel
theorem dX2_moveIn_4 : decode cX2_moveIn 4 = .ok (.istore_n 3, 1) := by decide +kernel
theorem dX2_moveIn_5 : decode cX2_moveIn 5 = .ok (.aload_n 0, 1) := by decide +kernel
theorem dX2_moveIn_6 : decode cX2_moveIn 6 = .ok (.getfield 22, 3) := by decide +kernel
theorem dX2_moveIn_9 : decode cX2_moveIn 9 = .ok (.iload_n 3, 1) := by decide +kernel
theorem dX2_moveIn_10 : decode cX2_moveIn 10 = .ok (.iload_n 1, 1) := by decide +kernel
theorem dX2_moveIn_11 : decode cX2_moveIn 11 = .ok (.iastore, 1) := by decide +kernel
theorem dX2_moveIn_12 : decode cX2_moveIn 12 = .ok (.aload_n 0, 1) := by decide +kernel
theorem dX2_moveIn_13 : decode cX2_moveIn 13 = .ok (.getfield 9, 3) := by decide +kernel
theorem dX2_moveIn_16 : decode cX2_moveIn 16 = .ok (.iload_n 3, 1) := by decide +kernel
theorem dX2_moveIn_17 : decode cX2_moveIn 17 = .ok (.iload_n 2, 1) := by decide +kernel
theorem dX2_moveIn_18 : decode cX2_moveIn 18 = .ok (.iastore, 1) := by decide +kernel
theorem dX2_moveIn_19 : decode cX2_moveIn 19 = .ok (.aload_n 0, 1) := by decide +kernel
theorem dX2_moveIn_20 : decode cX2_moveIn 20 = .ok (.getfield 15, 3) := by decide +kernel
theorem dX2_moveIn_23 : decode cX2_moveIn 23 = .ok (.iload_n 3, 1) := by decide +kernel
theorem dX2_moveIn_24 : decode cX2_moveIn 24 = .ok (.iconst 0, 1) := by decide +kernel
theorem dX2_moveIn_25 : decode cX2_moveIn 25 = .ok (.iastore, 1) := by decide +kernel
theorem dX2_moveIn_26 : decode cX2_moveIn 26 = .ok (.aload_n 0, 1) := by decide +kernel
theorem dX2_moveIn_27 : decode cX2_moveIn 27 = .ok (.dup, 1) := by decide +kernel
theorem dX2_moveIn_28 : decode cX2_moveIn 28 = .ok (.getfield 18, 3) := by decide +kernel
theorem dX2_moveIn_31 : decode cX2_moveIn 31 = .ok (.iconst 1, 1) := by decide +kernel
theorem dX2_moveIn_32 : decode cX2_moveIn 32 = .ok (.iadd, 1) := by decide +kernel
theorem dX2_moveIn_33 : decode cX2_moveIn 33 = .ok (.putfield 18, 3) := by decide +kernel
theorem dX2_moveIn_36 : decode cX2_moveIn 36 = .ok (.iload_n 3, 1) := by decide +kernel
theorem dX2_moveIn_37 : decode cX2_moveIn 37 = .ok (.ireturn, 1) := by decide +kernel
theorem dX2_copyFrom_0 : decode cX2_copyFrom 0 = .ok (.aload_n 0, 1) := by decide +kernel
theorem dX2_copyFrom_1 : decode cX2_copyFrom 1 = .ok (.aload_n 1, 1) := by decide +kernel
theorem dX2_copyFrom_2 : decode cX2_copyFrom 2 = .ok (.invokevirtual 25, 3) := by decide +kernel
theorem dX2_copyFrom_5 : decode cX2_copyFrom 5 = .ok (.aload_n 0, 1) := by decide +kernel
theorem dX2_copyFrom_6 : decode cX2_copyFrom 6 = .ok (.aload_n 1, 1) := by decide +kernel
theorem dX2_copyFrom_7 : decode cX2_copyFrom 7 = .ok (.getfield 29, 3) := by decide +kernel
theorem dX2_copyFrom_10 : decode cX2_copyFrom 10 = .ok (.putfield 29, 3) := by decide +kernel
theorem dX2_copyFrom_13 : decode cX2_copyFrom 13 = .ok (.iconst 0, 1) := by decide +kernel
theorem dX2_copyFrom_14 : decode cX2_copyFrom 14 = .ok (.istore_n 2, 1) := by decide +kernel
theorem dX2_copyFrom_15 : decode cX2_copyFrom 15 = .ok (.iload_n 2, 1) := by decide +kernel
theorem dX2_copyFrom_16 : decode cX2_copyFrom 16 = .ok (.aload_n 0, 1) := by decide +kernel
theorem dX2_copyFrom_17 : decode cX2_copyFrom 17 = .ok (.getfield 18, 3) := by decide +kernel
theorem dX2_copyFrom_20 : decode cX2_copyFrom 20 = .ok (.if_icmp .ge 33, 3) := by decide +kernel
theorem dX2_copyFrom_23 : decode cX2_copyFrom 23 = .ok (.aload_n 0, 1) := by decide +kernel
theorem dX2_copyFrom_24 : decode cX2_copyFrom 24 = .ok (.getfield 9, 3) := by decide +kernel
theorem dX2_copyFrom_27 : decode cX2_copyFrom 27 = .ok (.iload_n 2, 1) := by decide +kernel
theorem dX2_copyFrom_28 : decode cX2_copyFrom 28 = .ok (.aload_n 1, 1) := by decide +kernel
theorem dX2_copyFrom_29 : decode cX2_copyFrom 29 = .ok (.getfield 9, 3) := by decide +kernel
theorem dX2_copyFrom_32 : decode cX2_copyFrom 32 = .ok (.iload_n 2, 1) := by decide +kernel
theorem dX2_copyFrom_33 : decode cX2_copyFrom 33 = .ok (.iaload, 1) := by decide +kernel
theorem dX2_copyFrom_34 : decode cX2_copyFrom 34 = .ok (.iastore, 1) := by decide +kernel
theorem dX2_copyFrom_35 : decode cX2_copyFrom 35 = .ok (.aload_n 0, 1) := by decide +kernel
theorem dX2_copyFrom_36 : decode cX2_copyFrom 36 = .ok (.getfield 15, 3) := by decide +kernel
theorem dX2_copyFrom_39 : decode cX2_copyFrom 39 = .ok (.iload_n 2, 1) := by decide +kernel
theorem dX2_copyFrom_40 : decode cX2_copyFrom 40 = .ok (.aload_n 1, 1) := by decide +kernel
theorem dX2_copyFrom_41 : decode cX2_copyFrom 41 = .ok (.getfield 15, 3) := by decide +kernel
theorem dX2_copyFrom_44 : decode cX2_copyFrom 44 = .ok (.iload_n 2, 1) := by decide +kernel
theorem dX2_copyFrom_45 : decode cX2_copyFrom 45 = .ok (.iaload, 1) := by decide +kernel
theorem dX2_copyFrom_46 : decode cX2_copyFrom 46 = .ok (.iastore, 1) := by decide +kernel
theorem dX2_copyFrom_47 : decode cX2_copyFrom 47 = .ok (.iinc 2 1, 3) := by decide +kernel
theorem dX2_copyFrom_50 : decode cX2_copyFrom 50 = .ok (.goto (-35), 3) := by decide +kernel
theorem dX2_copyFrom_53 : decode cX2_copyFrom 53 = .ok (.return_, 1) := by decide +kernel
theorem dX2_isOut_0 : decode cX2_isOut 0 = .ok (.aload_n 0, 1) := by decide +kernel
theorem dX2_isOut_1 : decode cX2_isOut 1 = .ok (.getfield 15, 3) := by decide +kernel
theorem dX2_isOut_4 : decode cX2_isOut 4 = .ok (.iload_n 1, 1) := by decide +kernel
theorem dX2_isOut_5 : decode cX2_isOut 5 = .ok (.iaload, 1) := by decide +kernel
theorem dX2_isOut_6 : decode cX2_isOut 6 = .ok (.ifCond .eq 13, 3) := by decide +kernel
theorem dX2_isOut_9 : decode cX2_isOut 9 = .ok (.aload_n 0, 1) := by decide +kernel
theorem dX2_isOut_10 : decode cX2_isOut 10 = .ok (.getfield 15, 3) := by decide +kernel
theorem dX2_isOut_13 : decode cX2_isOut 13 = .ok (.iload_n 1, 1) := by decide +kernel
theorem dX2_isOut_14 : decode cX2_isOut 14 = .ok (.iaload, 1) := by decide +kernel
theorem dX2_isOut_15 : decode cX2_isOut 15 = .ok (.iconst 1, 1) := by decide +kernel
theorem dX2_isOut_16 : decode cX2_isOut 16 = .ok (.if_icmp .ne 7, 3) := by decide +kernel
theorem dX2_isOut_19 : decode cX2_isOut 19 = .ok (.iconst 1, 1) := by decide +kernel
theorem dX2_isOut_20 : decode cX2_isOut 20 = .ok (.goto 4, 3) := by decide +kernel
theorem dX2_isOut_23 : decode cX2_isOut 23 = .ok (.iconst 0, 1) := by decide +kernel
theorem dX2_isOut_24 : decode cX2_isOut 24 = .ok (.ireturn, 1) := by decide +kernel
theorem dX2_peopleWho_0 : decode cX2_peopleWho 0 = .ok (.iconst 0, 1) := by decide +kernel
theorem dX2_peopleWho_1 : decode cX2_peopleWho 1 = .ok (.istore_n 2, 1) := by decide +kernel
theorem dX2_peopleWho_2 : decode cX2_peopleWho 2 = .ok (.iconst 0, 1) := by decide +kernel
theorem dX2_peopleWho_3 : decode cX2_peopleWho 3 = .ok (.istore_n 3, 1) := by decide +kernel
theorem dX2_peopleWho_4 : decode cX2_peopleWho 4 = .ok (.iload_n 3, 1) := by decide +kernel
theorem dX2_peopleWho_5 : decode cX2_peopleWho 5 = .ok (.aload_n 0, 1) := by decide +kernel
theorem dX2_peopleWho_6 : decode cX2_peopleWho 6 = .ok (.getfield 18, 3) := by decide +kernel
theorem dX2_peopleWho_9 : decode cX2_peopleWho 9 = .ok (.if_icmp .ge 32, 3) := by decide +kernel
theorem dX2_peopleWho_12 : decode cX2_peopleWho 12 = .ok (.iload_n 2, 1) := by decide +kernel
theorem dX2_peopleWho_13 : decode cX2_peopleWho 13 = .ok (.aload_n 0, 1) := by decide +kernel
theorem dX2_peopleWho_14 : decode cX2_peopleWho 14 = .ok (.getfield 15, 3) := by decide +kernel
theorem dX2_peopleWho_17 : decode cX2_peopleWho 17 = .ok (.iload_n 3, 1) := by decide +kernel
theorem dX2_peopleWho_18 : decode cX2_peopleWho 18 = .ok (.iaload, 1) := by decide +kernel
theorem dX2_peopleWho_19 : decode cX2_peopleWho 19 = .ok (.iload_n 1, 1) := by decide +kernel
theorem dX2_peopleWho_20 : decode cX2_peopleWho 20 = .ok (.if_icmp .ne 12, 3) := by decide +kernel
theorem dX2_peopleWho_23 : decode cX2_peopleWho 23 = .ok (.aload_n 0, 1) := by decide +kernel
theorem dX2_peopleWho_24 : decode cX2_peopleWho 24 = .ok (.getfield 9, 3) := by decide +kernel
theorem dX2_peopleWho_27 : decode cX2_peopleWho 27 = .ok (.iload_n 3, 1) := by decide +kernel
theorem dX2_peopleWho_28 : decode cX2_peopleWho 28 = .ok (.iaload, 1) := by decide +kernel
theorem dX2_peopleWho_29 : decode cX2_peopleWho 29 = .ok (.goto 4, 3) := by decide +kernel
theorem dX2_peopleWho_32 : decode cX2_peopleWho 32 = .ok (.iconst 0, 1) := by decide +kernel
theorem dX2_peopleWho_33 : decode cX2_peopleWho 33 = .ok (.iadd, 1) := by decide +kernel
theorem dX2_peopleWho_34 : decode cX2_peopleWho 34 = .ok (.istore_n 2, 1) := by decide +kernel
theorem dX2_peopleWho_35 : decode cX2_peopleWho 35 = .ok (.iinc 3 1, 3) := by decide +kernel
theorem dX2_peopleWho_38 : decode cX2_peopleWho 38 = .ok (.goto (-34), 3) := by decide +kernel
theorem dX2_peopleWho_41 : decode cX2_peopleWho 41 = .ok (.iload_n 2, 1) := by decide +kernel
theorem dX2_peopleWho_42 : decode cX2_peopleWho 42 = .ok (.ireturn, 1) := by decide +kernel
theorem dX2_peopleOutAt_0 : decode cX2_peopleOutAt 0 = .ok (.iconst 0, 1) := by decide +kernel
theorem dX2_peopleOutAt_1 : decode cX2_peopleOutAt 1 = .ok (.istore_n 2, 1) := by decide +kernel
theorem dX2_peopleOutAt_2 : decode cX2_peopleOutAt 2 = .ok (.iconst 0, 1) := by decide +kernel
theorem dX2_peopleOutAt_3 : decode cX2_peopleOutAt 3 = .ok (.istore_n 3, 1) := by decide +kernel
theorem dX2_peopleOutAt_4 : decode cX2_peopleOutAt 4 = .ok (.iload_n 3, 1) := by decide +kernel
theorem dX2_peopleOutAt_5 : decode cX2_peopleOutAt 5 = .ok (.aload_n 0, 1) := by decide +kernel
theorem dX2_peopleOutAt_6 : decode cX2_peopleOutAt 6 = .ok (.getfield 18, 3) := by decide +kernel
theorem dX2_peopleOutAt_9 : decode cX2_peopleOutAt 9 = .ok (.if_icmp .ge 40, 3) := by decide +kernel
theorem dX2_peopleOutAt_12 : decode cX2_peopleOutAt 12 = .ok (.iload_n 2, 1) := by decide +kernel
theorem dX2_peopleOutAt_13 : decode cX2_peopleOutAt 13 = .ok (.aload_n 0, 1) := by decide +kernel
theorem dX2_peopleOutAt_14 : decode cX2_peopleOutAt 14 = .ok (.iload_n 3, 1) := by decide +kernel
theorem dX2_peopleOutAt_15 : decode cX2_peopleOutAt 15 = .ok (.invokevirtual 32, 3) := by decide +kernel
theorem dX2_peopleOutAt_18 : decode cX2_peopleOutAt 18 = .ok (.ifCond .eq 22, 3) := by decide +kernel
theorem dX2_peopleOutAt_21 : decode cX2_peopleOutAt 21 = .ok (.aload_n 0, 1) := by decide +kernel
theorem dX2_peopleOutAt_22 : decode cX2_peopleOutAt 22 = .ok (.getfield 22, 3) := by decide +kernel
theorem dX2_peopleOutAt_25 : decode cX2_peopleOutAt 25 = .ok (.iload_n 3, 1) := by decide +kernel
theorem dX2_peopleOutAt_26 : decode cX2_peopleOutAt 26 = .ok (.iaload, 1) := by decide +kernel
theorem dX2_peopleOutAt_27 : decode cX2_peopleOutAt 27 = .ok (.iload_n 1, 1) := by decide +kernel
theorem dX2_peopleOutAt_28 : decode cX2_peopleOutAt 28 = .ok (.if_icmp .ne 12, 3) := by decide +kernel
theorem dX2_peopleOutAt_31 : decode cX2_peopleOutAt 31 = .ok (.aload_n 0, 1) := by decide +kernel
theorem dX2_peopleOutAt_32 : decode cX2_peopleOutAt 32 = .ok (.getfield 9, 3) := by decide +kernel
theorem dX2_peopleOutAt_35 : decode cX2_peopleOutAt 35 = .ok (.iload_n 3, 1) := by decide +kernel
theorem dX2_peopleOutAt_36 : decode cX2_peopleOutAt 36 = .ok (.iaload, 1) := by decide +kernel
theorem dX2_peopleOutAt_37 : decode cX2_peopleOutAt 37 = .ok (.goto 4, 3) := by decide +kernel
theorem dX2_peopleOutAt_40 : decode cX2_peopleOutAt 40 = .ok (.iconst 0, 1) := by decide +kernel
theorem dX2_peopleOutAt_41 : decode cX2_peopleOutAt 41 = .ok (.iadd, 1) := by decide +kernel
theorem dX2_peopleOutAt_42 : decode cX2_peopleOutAt 42 = .ok (.istore_n 2, 1) := by decide +kernel
theorem dX2_peopleOutAt_43 : decode cX2_peopleOutAt 43 = .ok (.iinc 3 1, 3) := by decide +kernel
theorem dX2_peopleOutAt_46 : decode cX2_peopleOutAt 46 = .ok (.goto (-42), 3) := by decide +kernel
theorem dX2_peopleOutAt_49 : decode cX2_peopleOutAt 49 = .ok (.iload_n 2, 1) := by decide +kernel
theorem dX2_peopleOutAt_50 : decode cX2_peopleOutAt 50 = .ok (.ireturn, 1) := by decide +kernel
theorem dX2_nearestAtHome_0 : decode cX2_nearestAtHome 0 = .ok (.iconst (-1), 1) := by decide +kernel
theorem dX2_nearestAtHome_1 : decode cX2_nearestAtHome 1 = .ok (.istore_n 2, 1) := by decide +kernel
theorem dX2_nearestAtHome_2 : decode cX2_nearestAtHome 2 = .ok (.iconst (-1), 1) := by decide +kernel
theorem dX2_nearestAtHome_3 : decode cX2_nearestAtHome 3 = .ok (.istore_n 3, 1) := by decide +kernel
theorem dX2_nearestAtHome_4 : decode cX2_nearestAtHome 4 = .ok (.iconst 0, 1) := by decide +kernel
theorem dX2_nearestAtHome_5 : decode cX2_nearestAtHome 5 = .ok (.istore 4, 2) := by decide +kernel
theorem dX2_nearestAtHome_7 : decode cX2_nearestAtHome 7 = .ok (.iload 4, 2) := by decide +kernel
theorem dX2_nearestAtHome_9 : decode cX2_nearestAtHome 9 = .ok (.aload_n 0, 1) := by decide +kernel
theorem dX2_nearestAtHome_10 : decode cX2_nearestAtHome 10 = .ok (.getfield 18, 3) := by decide +kernel
theorem dX2_nearestAtHome_13 : decode cX2_nearestAtHome 13 = .ok (.if_icmp .ge 45, 3) := by decide +kernel
theorem dX2_nearestAtHome_16 : decode cX2_nearestAtHome 16 = .ok (.aload_n 0, 1) := by decide +kernel
theorem dX2_nearestAtHome_17 : decode cX2_nearestAtHome 17 = .ok (.getfield 15, 3) := by decide +kernel
theorem dX2_nearestAtHome_20 : decode cX2_nearestAtHome 20 = .ok (.iload 4, 2) := by decide +kernel
theorem dX2_nearestAtHome_22 : decode cX2_nearestAtHome 22 = .ok (.iaload, 1) := by decide +kernel
theorem dX2_nearestAtHome_23 : decode cX2_nearestAtHome 23 = .ok (.ifCond .ne 29, 3) := by decide +kernel
theorem dX2_nearestAtHome_26 : decode cX2_nearestAtHome 26 = .ok (.aload_n 1, 1) := by decide +kernel
theorem dX2_nearestAtHome_27 : decode cX2_nearestAtHome 27 = .ok (.aload_n 0, 1) := by decide +kernel
theorem dX2_nearestAtHome_28 : decode cX2_nearestAtHome 28 = .ok (.getfield 22, 3) := by decide +kernel
theorem dX2_nearestAtHome_31 : decode cX2_nearestAtHome 31 = .ok (.iload 4, 2) := by decide +kernel
theorem dX2_nearestAtHome_33 : decode cX2_nearestAtHome 33 = .ok (.iaload, 1) := by decide +kernel
theorem dX2_nearestAtHome_34 : decode cX2_nearestAtHome 34 = .ok (.iload_n 3, 1) := by decide +kernel
theorem dX2_nearestAtHome_35 : decode cX2_nearestAtHome 35 = .ok (.invokevirtual 36, 3) := by decide +kernel
theorem dX2_nearestAtHome_38 : decode cX2_nearestAtHome 38 = .ok (.ifCond .eq 14, 3) := by decide +kernel
theorem dX2_nearestAtHome_41 : decode cX2_nearestAtHome 41 = .ok (.iload 4, 2) := by decide +kernel
theorem dX2_nearestAtHome_43 : decode cX2_nearestAtHome 43 = .ok (.istore_n 2, 1) := by decide +kernel
theorem dX2_nearestAtHome_44 : decode cX2_nearestAtHome 44 = .ok (.aload_n 0, 1) := by decide +kernel
theorem dX2_nearestAtHome_45 : decode cX2_nearestAtHome 45 = .ok (.getfield 22, 3) := by decide +kernel
theorem dX2_nearestAtHome_48 : decode cX2_nearestAtHome 48 = .ok (.iload 4, 2) := by decide +kernel
theorem dX2_nearestAtHome_50 : decode cX2_nearestAtHome 50 = .ok (.iaload, 1) := by decide +kernel
theorem dX2_nearestAtHome_51 : decode cX2_nearestAtHome 51 = .ok (.istore_n 3, 1) := by decide +kernel
theorem dX2_nearestAtHome_52 : decode cX2_nearestAtHome 52 = .ok (.iinc 4 1, 3) := by decide +kernel
theorem dX2_nearestAtHome_55 : decode cX2_nearestAtHome 55 = .ok (.goto (-48), 3) := by decide +kernel
theorem dX2_nearestAtHome_58 : decode cX2_nearestAtHome 58 = .ok (.iload_n 2, 1) := by decide +kernel
theorem dX2_nearestAtHome_59 : decode cX2_nearestAtHome 59 = .ok (.ireturn, 1) := by decide +kernel
theorem dX2_warnAround_0 : decode cX2_warnAround 0 = .ok (.iconst 0, 1) := by decide +kernel
theorem dX2_warnAround_1 : decode cX2_warnAround 1 = .ok (.istore_n 2, 1) := by decide +kernel
theorem dX2_warnAround_2 : decode cX2_warnAround 2 = .ok (.iconst 0, 1) := by decide +kernel
theorem dX2_warnAround_3 : decode cX2_warnAround 3 = .ok (.istore_n 3, 1) := by decide +kernel
theorem dX2_warnAround_4 : decode cX2_warnAround 4 = .ok (.iload_n 3, 1) := by decide +kernel
theorem dX2_warnAround_5 : decode cX2_warnAround 5 = .ok (.aload_n 0, 1) := by decide +kernel
theorem dX2_warnAround_6 : decode cX2_warnAround 6 = .ok (.getfield 18, 3) := by decide +kernel
theorem dX2_warnAround_9 : decode cX2_warnAround 9 = .ok (.if_icmp .ge 41, 3) := by decide +kernel
theorem dX2_warnAround_12 : decode cX2_warnAround 12 = .ok (.aload_n 0, 1) := by decide +kernel
theorem dX2_warnAround_13 : decode cX2_warnAround 13 = .ok (.getfield 15, 3) := by decide +kernel
theorem dX2_warnAround_16 : decode cX2_warnAround 16 = .ok (.iload_n 3, 1) := by decide +kernel
theorem dX2_warnAround_17 : decode cX2_warnAround 17 = .ok (.iaload, 1) := by decide +kernel
theorem dX2_warnAround_18 : decode cX2_warnAround 18 = .ok (.ifCond .ne 26, 3) := by decide +kernel
theorem dX2_warnAround_21 : decode cX2_warnAround 21 = .ok (.iload_n 1, 1) := by decide +kernel
theorem dX2_warnAround_22 : decode cX2_warnAround 22 = .ok (.aload_n 0, 1) := by decide +kernel
theorem dX2_warnAround_23 : decode cX2_warnAround 23 = .ok (.getfield 22, 3) := by decide +kernel
theorem dX2_warnAround_26 : decode cX2_warnAround 26 = .ok (.iload_n 3, 1) := by decide +kernel
theorem dX2_warnAround_27 : decode cX2_warnAround 27 = .ok (.iaload, 1) := by decide +kernel
theorem dX2_warnAround_28 : decode cX2_warnAround 28 = .ok (.invokestatic 42, 3) := by decide +kernel
theorem dX2_warnAround_31 : decode cX2_warnAround 31 = .ok (.ifCond .eq 13, 3) := by decide +kernel
theorem dX2_warnAround_34 : decode cX2_warnAround 34 = .ok (.aload_n 0, 1) := by decide +kernel
theorem dX2_warnAround_35 : decode cX2_warnAround 35 = .ok (.getfield 15, 3) := by decide +kernel
theorem dX2_warnAround_38 : decode cX2_warnAround 38 = .ok (.iload_n 3, 1) := by decide +kernel
theorem dX2_warnAround_39 : decode cX2_warnAround 39 = .ok (.iconst 1, 1) := by decide +kernel
theorem dX2_warnAround_40 : decode cX2_warnAround 40 = .ok (.iastore, 1) := by decide +kernel
theorem dX2_warnAround_41 : decode cX2_warnAround 41 = .ok (.iinc 2 1, 3) := by decide +kernel
theorem dX2_warnAround_44 : decode cX2_warnAround 44 = .ok (.iinc 3 1, 3) := by decide +kernel
theorem dX2_warnAround_47 : decode cX2_warnAround 47 = .ok (.goto (-43), 3) := by decide +kernel
theorem dX2_warnAround_50 : decode cX2_warnAround 50 = .ok (.iload_n 2, 1) := by decide +kernel
theorem dX2_warnAround_51 : decode cX2_warnAround 51 = .ok (.ireturn, 1) := by decide +kernel
theorem dX2_goToRefuges_0 : decode cX2_goToRefuges 0 = .ok (.iconst 0, 1) := by decide +kernel
theorem dX2_goToRefuges_1 : decode cX2_goToRefuges 1 = .ok (.istore 4, 2) := by decide +kernel
theorem dX2_goToRefuges_3 : decode cX2_goToRefuges 3 = .ok (.iload 4, 2) := by decide +kernel
theorem dX2_goToRefuges_5 : decode cX2_goToRefuges 5 = .ok (.aload_n 0, 1) := by decide +kernel
theorem dX2_goToRefuges_6 : decode cX2_goToRefuges 6 = .ok (.getfield 18, 3) := by decide +kernel
theorem dX2_goToRefuges_9 : decode cX2_goToRefuges 9 = .ok (.if_icmp .ge 78, 3) := by decide +kernel
theorem dX2_goToRefuges_12 : decode cX2_goToRefuges 12 = .ok (.aload_n 0, 1) := by decide +kernel
theorem dX2_goToRefuges_13 : decode cX2_goToRefuges 13 = .ok (.getfield 15, 3) := by decide +kernel
theorem dX2_goToRefuges_16 : decode cX2_goToRefuges 16 = .ok (.iload 4, 2) := by decide +kernel
theorem dX2_goToRefuges_18 : decode cX2_goToRefuges 18 = .ok (.iaload, 1) := by decide +kernel
theorem dX2_goToRefuges_19 : decode cX2_goToRefuges 19 = .ok (.iconst 1, 1) := by decide +kernel
theorem dX2_goToRefuges_20 : decode cX2_goToRefuges 20 = .ok (.if_icmp .ne 61, 3) := by decide +kernel
theorem dX2_goToRefuges_23 : decode cX2_goToRefuges 23 = .ok (.aload_n 2, 1) := by decide +kernel
theorem dX2_goToRefuges_24 : decode cX2_goToRefuges 24 = .ok (.aload_n 0, 1) := by decide +kernel
theorem dX2_goToRefuges_25 : decode cX2_goToRefuges 25 = .ok (.getfield 22, 3) := by decide +kernel
theorem dX2_goToRefuges_28 : decode cX2_goToRefuges 28 = .ok (.iload 4, 2) := by decide +kernel
theorem dX2_goToRefuges_30 : decode cX2_goToRefuges 30 = .ok (.iaload, 1) := by decide +kernel
theorem dX2_goToRefuges_31 : decode cX2_goToRefuges 31 = .ok (.aload_n 3, 1) := by decide +kernel
theorem dX2_goToRefuges_32 : decode cX2_goToRefuges 32 = .ok (.invokevirtual 47, 3) := by decide +kernel
theorem dX2_goToRefuges_35 : decode cX2_goToRefuges 35 = .ok (.aload_n 1, 1) := by decide +kernel
theorem dX2_goToRefuges_36 : decode cX2_goToRefuges 36 = .ok (.aload_n 0, 1) := by decide +kernel
theorem dX2_goToRefuges_37 : decode cX2_goToRefuges 37 = .ok (.getfield 9, 3) := by decide +kernel
theorem dX2_goToRefuges_40 : decode cX2_goToRefuges 40 = .ok (.iload 4, 2) := by decide +kernel
theorem dX2_goToRefuges_42 : decode cX2_goToRefuges 42 = .ok (.iaload, 1) := by decide +kernel
theorem dX2_goToRefuges_43 : decode cX2_goToRefuges 43 = .ok (.aload_n 2, 1) := by decide +kernel
theorem dX2_goToRefuges_44 : decode cX2_goToRefuges 44 = .ok (.invokevirtual 51, 3) := by decide +kernel
theorem dX2_goToRefuges_47 : decode cX2_goToRefuges 47 = .ok (.istore 5, 2) := by decide +kernel
theorem dX2_goToRefuges_49 : decode cX2_goToRefuges 49 = .ok (.iload 5, 2) := by decide +kernel
theorem dX2_goToRefuges_51 : decode cX2_goToRefuges 51 = .ok (.iconst (-1), 1) := by decide +kernel
theorem dX2_goToRefuges_52 : decode cX2_goToRefuges 52 = .ok (.if_icmp .eq 22, 3) := by decide +kernel
theorem dX2_goToRefuges_55 : decode cX2_goToRefuges 55 = .ok (.aload_n 0, 1) := by decide +kernel
theorem dX2_goToRefuges_56 : decode cX2_goToRefuges 56 = .ok (.getfield 22, 3) := by decide +kernel
theorem dX2_goToRefuges_59 : decode cX2_goToRefuges 59 = .ok (.iload 4, 2) := by decide +kernel
theorem dX2_goToRefuges_61 : decode cX2_goToRefuges 61 = .ok (.aload_n 2, 1) := by decide +kernel
theorem dX2_goToRefuges_62 : decode cX2_goToRefuges 62 = .ok (.getfield 57, 3) := by decide +kernel
theorem dX2_goToRefuges_65 : decode cX2_goToRefuges 65 = .ok (.aload_n 1, 1) := by decide +kernel
theorem dX2_goToRefuges_66 : decode cX2_goToRefuges 66 = .ok (.getfield 60, 3) := by decide +kernel
theorem dX2_goToRefuges_69 : decode cX2_goToRefuges 69 = .ok (.iload 5, 2) := by decide +kernel
theorem dX2_goToRefuges_71 : decode cX2_goToRefuges 71 = .ok (.iaload, 1) := by decide +kernel
theorem dX2_goToRefuges_72 : decode cX2_goToRefuges 72 = .ok (.iaload, 1) := by decide +kernel
theorem dX2_goToRefuges_73 : decode cX2_goToRefuges 73 = .ok (.iastore, 1) := by decide +kernel
theorem dX2_goToRefuges_74 : decode cX2_goToRefuges 74 = .ok (.aload_n 0, 1) := by decide +kernel
theorem dX2_goToRefuges_75 : decode cX2_goToRefuges 75 = .ok (.iload 4, 2) := by decide +kernel
theorem dX2_goToRefuges_77 : decode cX2_goToRefuges 77 = .ok (.aload_n 1, 1) := by decide +kernel
theorem dX2_goToRefuges_78 : decode cX2_goToRefuges 78 = .ok (.invokevirtual 61, 3) := by decide +kernel
theorem dX2_goToRefuges_81 : decode cX2_goToRefuges 81 = .ok (.iinc 4 1, 3) := by decide +kernel
theorem dX2_goToRefuges_84 : decode cX2_goToRefuges 84 = .ok (.goto (-81), 3) := by decide +kernel
theorem dX2_goToRefuges_87 : decode cX2_goToRefuges 87 = .ok (.return_, 1) := by decide +kernel
theorem dX2_enterRefuge_0 : decode cX2_enterRefuge 0 = .ok (.aload_n 2, 1) := by decide +kernel
theorem dX2_enterRefuge_1 : decode cX2_enterRefuge 1 = .ok (.aload_n 0, 1) := by decide +kernel
theorem dX2_enterRefuge_2 : decode cX2_enterRefuge 2 = .ok (.getfield 22, 3) := by decide +kernel
theorem dX2_enterRefuge_5 : decode cX2_enterRefuge 5 = .ok (.iload_n 1, 1) := by decide +kernel
theorem dX2_enterRefuge_6 : decode cX2_enterRefuge 6 = .ok (.iaload, 1) := by decide +kernel
theorem dX2_enterRefuge_7 : decode cX2_enterRefuge 7 = .ok (.invokevirtual 65, 3) := by decide +kernel
theorem dX2_enterRefuge_10 : decode cX2_enterRefuge 10 = .ok (.istore_n 3, 1) := by decide +kernel
theorem dX2_enterRefuge_11 : decode cX2_enterRefuge 11 = .ok (.iload_n 3, 1) := by decide +kernel
theorem dX2_enterRefuge_12 : decode cX2_enterRefuge 12 = .ok (.iconst (-1), 1) := by decide +kernel
theorem dX2_enterRefuge_13 : decode cX2_enterRefuge 13 = .ok (.if_icmp .eq 35, 3) := by decide +kernel
theorem dX2_enterRefuge_16 : decode cX2_enterRefuge 16 = .ok (.aload_n 2, 1) := by decide +kernel
theorem dX2_enterRefuge_17 : decode cX2_enterRefuge 17 = .ok (.iload_n 3, 1) := by decide +kernel
theorem dX2_enterRefuge_18 : decode cX2_enterRefuge 18 = .ok (.aload_n 0, 1) := by decide +kernel
theorem dX2_enterRefuge_19 : decode cX2_enterRefuge 19 = .ok (.getfield 9, 3) := by decide +kernel
theorem dX2_enterRefuge_22 : decode cX2_enterRefuge 22 = .ok (.iload_n 1, 1) := by decide +kernel
theorem dX2_enterRefuge_23 : decode cX2_enterRefuge 23 = .ok (.iaload, 1) := by decide +kernel
theorem dX2_enterRefuge_24 : decode cX2_enterRefuge 24 = .ok (.invokevirtual 69, 3) := by decide +kernel
theorem dX2_enterRefuge_27 : decode cX2_enterRefuge 27 = .ok (.ifCond .eq 21, 3) := by decide +kernel
theorem dX2_enterRefuge_30 : decode cX2_enterRefuge 30 = .ok (.aload_n 2, 1) := by decide +kernel
theorem dX2_enterRefuge_31 : decode cX2_enterRefuge 31 = .ok (.iload_n 3, 1) := by decide +kernel
theorem dX2_enterRefuge_32 : decode cX2_enterRefuge 32 = .ok (.aload_n 0, 1) := by decide +kernel
theorem dX2_enterRefuge_33 : decode cX2_enterRefuge 33 = .ok (.getfield 9, 3) := by decide +kernel
theorem dX2_enterRefuge_36 : decode cX2_enterRefuge 36 = .ok (.iload_n 1, 1) := by decide +kernel
theorem dX2_enterRefuge_37 : decode cX2_enterRefuge 37 = .ok (.iaload, 1) := by decide +kernel
theorem dX2_enterRefuge_38 : decode cX2_enterRefuge 38 = .ok (.invokevirtual 72, 3) := by decide +kernel
theorem dX2_enterRefuge_41 : decode cX2_enterRefuge 41 = .ok (.aload_n 0, 1) := by decide +kernel
theorem dX2_enterRefuge_42 : decode cX2_enterRefuge 42 = .ok (.getfield 15, 3) := by decide +kernel
theorem dX2_enterRefuge_45 : decode cX2_enterRefuge 45 = .ok (.iload_n 1, 1) := by decide +kernel
theorem dX2_enterRefuge_46 : decode cX2_enterRefuge 46 = .ok (.iconst 2, 1) := by decide +kernel
theorem dX2_enterRefuge_47 : decode cX2_enterRefuge 47 = .ok (.iastore, 1) := by decide +kernel
theorem dX2_enterRefuge_48 : decode cX2_enterRefuge 48 = .ok (.return_, 1) := by decide +kernel
theorem dX2_drown_0 : decode cX2_drown 0 = .ok (.iconst 0, 1) := by decide +kernel
theorem dX2_drown_1 : decode cX2_drown 1 = .ok (.istore_n 2, 1) := by decide +kernel
theorem dX2_drown_2 : decode cX2_drown 2 = .ok (.iload_n 2, 1) := by decide +kernel
theorem dX2_drown_3 : decode cX2_drown 3 = .ok (.aload_n 0, 1) := by decide +kernel
theorem dX2_drown_4 : decode cX2_drown 4 = .ok (.getfield 18, 3) := by decide +kernel
theorem dX2_drown_7 : decode cX2_drown 7 = .ok (.if_icmp .ge 68, 3) := by decide +kernel
theorem dX2_drown_10 : decode cX2_drown 10 = .ok (.aload_n 0, 1) := by decide +kernel
theorem dX2_drown_11 : decode cX2_drown 11 = .ok (.iload_n 2, 1) := by decide +kernel
theorem dX2_drown_12 : decode cX2_drown 12 = .ok (.invokevirtual 32, 3) := by decide +kernel
theorem dX2_drown_15 : decode cX2_drown 15 = .ok (.ifCond .eq 54, 3) := by decide +kernel
theorem dX2_drown_18 : decode cX2_drown 18 = .ok (.aload_n 1, 1) := by decide +kernel
theorem dX2_drown_19 : decode cX2_drown 19 = .ok (.getfield 76, 3) := by decide +kernel
theorem dX2_drown_22 : decode cX2_drown 22 = .ok (.aload_n 0, 1) := by decide +kernel
theorem dX2_drown_23 : decode cX2_drown 23 = .ok (.getfield 22, 3) := by decide +kernel
theorem dX2_drown_26 : decode cX2_drown 26 = .ok (.iload_n 2, 1) := by decide +kernel
theorem dX2_drown_27 : decode cX2_drown 27 = .ok (.iaload, 1) := by decide +kernel
theorem dX2_drown_28 : decode cX2_drown 28 = .ok (.iaload, 1) := by decide +kernel
theorem dX2_drown_29 : decode cX2_drown 29 = .ok (.iconst 5, 1) := by decide +kernel
theorem dX2_drown_30 : decode cX2_drown 30 = .ok (.if_icmp .lt 39, 3) := by decide +kernel
theorem dX2_drown_33 : decode cX2_drown 33 = .ok (.aload_n 0, 1) := by decide +kernel
theorem dX2_drown_34 : decode cX2_drown 34 = .ok (.getfield 9, 3) := by decide +kernel
theorem dX2_drown_37 : decode cX2_drown 37 = .ok (.iload_n 2, 1) := by decide +kernel
theorem dX2_drown_38 : decode cX2_drown 38 = .ok (.dup2, 1) := by decide +kernel
theorem dX2_drown_39 : decode cX2_drown 39 = .ok (.iaload, 1) := by decide +kernel
theorem dX2_drown_40 : decode cX2_drown 40 = .ok (.iconst 1, 1) := by decide +kernel
theorem dX2_drown_41 : decode cX2_drown 41 = .ok (.isub, 1) := by decide +kernel
theorem dX2_drown_42 : decode cX2_drown 42 = .ok (.iastore, 1) := by decide +kernel
theorem dX2_drown_43 : decode cX2_drown 43 = .ok (.aload_n 0, 1) := by decide +kernel
theorem dX2_drown_44 : decode cX2_drown 44 = .ok (.dup, 1) := by decide +kernel
theorem dX2_drown_45 : decode cX2_drown 45 = .ok (.getfield 29, 3) := by decide +kernel
theorem dX2_drown_48 : decode cX2_drown 48 = .ok (.iconst 1, 1) := by decide +kernel
theorem dX2_drown_49 : decode cX2_drown 49 = .ok (.iadd, 1) := by decide +kernel
theorem dX2_drown_50 : decode cX2_drown 50 = .ok (.putfield 29, 3) := by decide +kernel
theorem dX2_drown_53 : decode cX2_drown 53 = .ok (.aload_n 0, 1) := by decide +kernel
theorem dX2_drown_54 : decode cX2_drown 54 = .ok (.getfield 9, 3) := by decide +kernel
theorem dX2_drown_57 : decode cX2_drown 57 = .ok (.iload_n 2, 1) := by decide +kernel
theorem dX2_drown_58 : decode cX2_drown 58 = .ok (.iaload, 1) := by decide +kernel
theorem dX2_drown_59 : decode cX2_drown 59 = .ok (.ifCond .gt 10, 3) := by decide +kernel
theorem dX2_drown_62 : decode cX2_drown 62 = .ok (.aload_n 0, 1) := by decide +kernel
theorem dX2_drown_63 : decode cX2_drown 63 = .ok (.getfield 15, 3) := by decide +kernel
theorem dX2_drown_66 : decode cX2_drown 66 = .ok (.iload_n 2, 1) := by decide +kernel
theorem dX2_drown_67 : decode cX2_drown 67 = .ok (.iconst 3, 1) := by decide +kernel
theorem dX2_drown_68 : decode cX2_drown 68 = .ok (.iastore, 1) := by decide +kernel
theorem dX2_drown_69 : decode cX2_drown 69 = .ok (.iinc 2 1, 3) := by decide +kernel
theorem dX2_drown_72 : decode cX2_drown 72 = .ok (.goto (-70), 3) := by decide +kernel
theorem dX2_drown_75 : decode cX2_drown 75 = .ok (.return_, 1) := by decide +kernel
theorem dX3_init_0 : decode cX3_init 0 = .ok (.aload_n 0, 1) := by decide +kernel
theorem dX3_init_1 : decode cX3_init 1 = .ok (.invokespecial 3, 3) := by decide +kernel
theorem dX3_init_4 : decode cX3_init 4 = .ok (.aload_n 0, 1) := by decide +kernel
theorem dX3_init_5 : decode cX3_init 5 = .ok (.bipush 80, 2) := by decide +kernel
theorem dX3_init_7 : decode cX3_init 7 = .ok (.newarray .int, 2) := by decide +kernel
theorem dX3_init_9 : decode cX3_init 9 = .ok (.putfield 9, 3) := by decide +kernel
theorem dX3_init_12 : decode cX3_init 12 = .ok (.aload_n 0, 1) := by decide +kernel
theorem dX3_init_13 : decode cX3_init 13 = .ok (.bipush 80, 2) := by decide +kernel
theorem dX3_init_15 : decode cX3_init 15 = .ok (.newarray .int, 2) := by decide +kernel
theorem dX3_init_17 : decode cX3_init 17 = .ok (.putfield 15, 3) := by decide +kernel
theorem dX3_init_20 : decode cX3_init 20 = .ok (.aload_n 0, 1) := by decide +kernel
theorem dX3_init_21 : decode cX3_init 21 = .ok (.bipush 80, 2) := by decide +kernel
theorem dX3_init_23 : decode cX3_init 23 = .ok (.newarray .int, 2) := by decide +kernel
theorem dX3_init_25 : decode cX3_init 25 = .ok (.putfield 18, 3) := by decide +kernel
theorem dX3_init_28 : decode cX3_init 28 = .ok (.aload_n 0, 1) := by decide +kernel
theorem dX3_init_29 : decode cX3_init 29 = .ok (.bipush 80, 2) := by decide +kernel
theorem dX3_init_31 : decode cX3_init 31 = .ok (.newarray .int, 2) := by decide +kernel
theorem dX3_init_33 : decode cX3_init 33 = .ok (.putfield 21, 3) := by decide +kernel
theorem dX3_init_36 : decode cX3_init 36 = .ok (.aload_n 0, 1) := by decide +kernel
theorem dX3_init_37 : decode cX3_init 37 = .ok (.bipush 12, 2) := by decide +kernel
theorem dX3_init_39 : decode cX3_init 39 = .ok (.newarray .int, 2) := by decide +kernel
theorem dX3_init_41 : decode cX3_init 41 = .ok (.putfield 24, 3) := by decide +kernel
theorem dX3_init_44 : decode cX3_init 44 = .ok (.iconst 0, 1) := by decide +kernel
theorem dX3_init_45 : decode cX3_init 45 = .ok (.istore_n 1, 1) := by decide +kernel
theorem dX3_init_46 : decode cX3_init 46 = .ok (.iload_n 1, 1) := by decide +kernel
theorem dX3_init_47 : decode cX3_init 47 = .ok (.bipush 80, 2) := by decide +kernel
theorem dX3_init_49 : decode cX3_init 49 = .ok (.if_icmp .ge 16, 3) := by decide +kernel
theorem dX3_init_52 : decode cX3_init 52 = .ok (.aload_n 0, 1) := by decide +kernel
theorem dX3_init_53 : decode cX3_init 53 = .ok (.getfield 9, 3) := by decide +kernel
theorem dX3_init_56 : decode cX3_init 56 = .ok (.iload_n 1, 1) := by decide +kernel
theorem dX3_init_57 : decode cX3_init 57 = .ok (.iconst 2, 1) := by decide +kernel
theorem dX3_init_58 : decode cX3_init 58 = .ok (.iastore, 1) := by decide +kernel
theorem dX3_init_59 : decode cX3_init 59 = .ok (.iinc 1 1, 3) := by decide +kernel
theorem dX3_init_62 : decode cX3_init 62 = .ok (.goto (-16), 3) := by decide +kernel
theorem dX3_init_65 : decode cX3_init 65 = .ok (.return_, 1) := by decide +kernel
theorem dX3_copyFrom_0 : decode cX3_copyFrom 0 = .ok (.aload_n 1, 1) := by decide +kernel
theorem dX3_copyFrom_1 : decode cX3_copyFrom 1 = .ok (.getfield 9, 3) := by decide +kernel
theorem dX3_copyFrom_4 : decode cX3_copyFrom 4 = .ok (.iconst 0, 1) := by decide +kernel
theorem dX3_copyFrom_5 : decode cX3_copyFrom 5 = .ok (.aload_n 0, 1) := by decide +kernel
theorem dX3_copyFrom_6 : decode cX3_copyFrom 6 = .ok (.getfield 9, 3) := by decide +kernel
theorem dX3_copyFrom_9 : decode cX3_copyFrom 9 = .ok (.iconst 0, 1) := by decide +kernel
theorem dX3_copyFrom_10 : decode cX3_copyFrom 10 = .ok (.bipush 80, 2) := by decide +kernel
theorem dX3_copyFrom_12 : decode cX3_copyFrom 12 = .ok (.invokestatic 27, 3) := by decide +kernel
theorem dX3_copyFrom_15 : decode cX3_copyFrom 15 = .ok (.aload_n 1, 1) := by decide +kernel
theorem dX3_copyFrom_16 : decode cX3_copyFrom 16 = .ok (.getfield 15, 3) := by decide +kernel
theorem dX3_copyFrom_19 : decode cX3_copyFrom 19 = .ok (.iconst 0, 1) := by decide +kernel
theorem dX3_copyFrom_20 : decode cX3_copyFrom 20 = .ok (.aload_n 0, 1) := by decide +kernel
theorem dX3_copyFrom_21 : decode cX3_copyFrom 21 = .ok (.getfield 15, 3) := by decide +kernel
theorem dX3_copyFrom_24 : decode cX3_copyFrom 24 = .ok (.iconst 0, 1) := by decide +kernel
theorem dX3_copyFrom_25 : decode cX3_copyFrom 25 = .ok (.bipush 80, 2) := by decide +kernel
theorem dX3_copyFrom_27 : decode cX3_copyFrom 27 = .ok (.invokestatic 27, 3) := by decide +kernel
theorem dX3_copyFrom_30 : decode cX3_copyFrom 30 = .ok (.aload_n 1, 1) := by decide +kernel
theorem dX3_copyFrom_31 : decode cX3_copyFrom 31 = .ok (.getfield 18, 3) := by decide +kernel
theorem dX3_copyFrom_34 : decode cX3_copyFrom 34 = .ok (.iconst 0, 1) := by decide +kernel
theorem dX3_copyFrom_35 : decode cX3_copyFrom 35 = .ok (.aload_n 0, 1) := by decide +kernel
theorem dX3_copyFrom_36 : decode cX3_copyFrom 36 = .ok (.getfield 18, 3) := by decide +kernel
theorem dX3_copyFrom_39 : decode cX3_copyFrom 39 = .ok (.iconst 0, 1) := by decide +kernel
theorem dX3_copyFrom_40 : decode cX3_copyFrom 40 = .ok (.bipush 80, 2) := by decide +kernel
theorem dX3_copyFrom_42 : decode cX3_copyFrom 42 = .ok (.invokestatic 27, 3) := by decide +kernel
theorem dX3_copyFrom_45 : decode cX3_copyFrom 45 = .ok (.aload_n 1, 1) := by decide +kernel
theorem dX3_copyFrom_46 : decode cX3_copyFrom 46 = .ok (.getfield 24, 3) := by decide +kernel
theorem dX3_copyFrom_49 : decode cX3_copyFrom 49 = .ok (.iconst 0, 1) := by decide +kernel
theorem dX3_copyFrom_50 : decode cX3_copyFrom 50 = .ok (.aload_n 0, 1) := by decide +kernel
theorem dX3_copyFrom_51 : decode cX3_copyFrom 51 = .ok (.getfield 24, 3) := by decide +kernel
theorem dX3_copyFrom_54 : decode cX3_copyFrom 54 = .ok (.iconst 0, 1) := by decide +kernel
theorem dX3_copyFrom_55 : decode cX3_copyFrom 55 = .ok (.bipush 12, 2) := by decide +kernel
theorem dX3_copyFrom_57 : decode cX3_copyFrom 57 = .ok (.invokestatic 27, 3) := by decide +kernel
theorem dX3_copyFrom_60 : decode cX3_copyFrom 60 = .ok (.return_, 1) := by decide +kernel
theorem dX3_neighbourOf_0 : decode cX3_neighbourOf 0 = .ok (.iload_n 1, 1) := by decide +kernel
theorem dX3_neighbourOf_1 : decode cX3_neighbourOf 1 = .ok (.tableswitch 74 0 2 #[27, 42, 59], 27) := by decide +kernel
theorem dX3_neighbourOf_28 : decode cX3_neighbourOf 28 = .ok (.iload_n 0, 1) := by decide +kernel
theorem dX3_neighbourOf_29 : decode cX3_neighbourOf 29 = .ok (.bipush 10, 2) := by decide +kernel
theorem dX3_neighbourOf_31 : decode cX3_neighbourOf 31 = .ok (.if_icmp .lt 10, 3) := by decide +kernel
theorem dX3_neighbourOf_34 : decode cX3_neighbourOf 34 = .ok (.iload_n 0, 1) := by decide +kernel
theorem dX3_neighbourOf_35 : decode cX3_neighbourOf 35 = .ok (.bipush 10, 2) := by decide +kernel
theorem dX3_neighbourOf_37 : decode cX3_neighbourOf 37 = .ok (.isub, 1) := by decide +kernel
theorem dX3_neighbourOf_38 : decode cX3_neighbourOf 38 = .ok (.goto 4, 3) := by decide +kernel
theorem dX3_neighbourOf_41 : decode cX3_neighbourOf 41 = .ok (.iconst (-1), 1) := by decide +kernel
theorem dX3_neighbourOf_42 : decode cX3_neighbourOf 42 = .ok (.ireturn, 1) := by decide +kernel
theorem dX3_neighbourOf_43 : decode cX3_neighbourOf 43 = .ok (.iload_n 0, 1) := by decide +kernel
theorem dX3_neighbourOf_44 : decode cX3_neighbourOf 44 = .ok (.bipush 10, 2) := by decide +kernel
theorem dX3_neighbourOf_46 : decode cX3_neighbourOf 46 = .ok (.irem, 1) := by decide +kernel
theorem dX3_neighbourOf_47 : decode cX3_neighbourOf 47 = .ok (.bipush 9, 2) := by decide +kernel
theorem dX3_neighbourOf_49 : decode cX3_neighbourOf 49 = .ok (.if_icmp .ge 9, 3) := by decide +kernel
theorem dX3_neighbourOf_52 : decode cX3_neighbourOf 52 = .ok (.iload_n 0, 1) := by decide +kernel
theorem dX3_neighbourOf_53 : decode cX3_neighbourOf 53 = .ok (.iconst 1, 1) := by decide +kernel
theorem dX3_neighbourOf_54 : decode cX3_neighbourOf 54 = .ok (.iadd, 1) := by decide +kernel
theorem dX3_neighbourOf_55 : decode cX3_neighbourOf 55 = .ok (.goto 4, 3) := by decide +kernel
theorem dX3_neighbourOf_58 : decode cX3_neighbourOf 58 = .ok (.iconst (-1), 1) := by decide +kernel
theorem dX3_neighbourOf_59 : decode cX3_neighbourOf 59 = .ok (.ireturn, 1) := by decide +kernel
theorem dX3_neighbourOf_60 : decode cX3_neighbourOf 60 = .ok (.iload_n 0, 1) := by decide +kernel
theorem dX3_neighbourOf_61 : decode cX3_neighbourOf 61 = .ok (.bipush 70, 2) := by decide +kernel
theorem dX3_neighbourOf_63 : decode cX3_neighbourOf 63 = .ok (.if_icmp .ge 10, 3) := by decide +kernel
theorem dX3_neighbourOf_66 : decode cX3_neighbourOf 66 = .ok (.iload_n 0, 1) := by decide +kernel
theorem dX3_neighbourOf_67 : decode cX3_neighbourOf 67 = .ok (.bipush 10, 2) := by decide +kernel
theorem dX3_neighbourOf_69 : decode cX3_neighbourOf 69 = .ok (.iadd, 1) := by decide +kernel
theorem dX3_neighbourOf_70 : decode cX3_neighbourOf 70 = .ok (.goto 4, 3) := by decide +kernel
theorem dX3_neighbourOf_73 : decode cX3_neighbourOf 73 = .ok (.iconst (-1), 1) := by decide +kernel
theorem dX3_neighbourOf_74 : decode cX3_neighbourOf 74 = .ok (.ireturn, 1) := by decide +kernel
theorem dX3_neighbourOf_75 : decode cX3_neighbourOf 75 = .ok (.iload_n 0, 1) := by decide +kernel
theorem dX3_neighbourOf_76 : decode cX3_neighbourOf 76 = .ok (.bipush 10, 2) := by decide +kernel
theorem dX3_neighbourOf_78 : decode cX3_neighbourOf 78 = .ok (.irem, 1) := by decide +kernel
theorem dX3_neighbourOf_79 : decode cX3_neighbourOf 79 = .ok (.ifCond .le 9, 3) := by decide +kernel
theorem dX3_neighbourOf_82 : decode cX3_neighbourOf 82 = .ok (.iload_n 0, 1) := by decide +kernel
theorem dX3_neighbourOf_83 : decode cX3_neighbourOf 83 = .ok (.iconst 1, 1) := by decide +kernel
theorem dX3_neighbourOf_84 : decode cX3_neighbourOf 84 = .ok (.isub, 1) := by decide +kernel
theorem dX3_neighbourOf_85 : decode cX3_neighbourOf 85 = .ok (.goto 4, 3) := by decide +kernel
theorem dX3_neighbourOf_88 : decode cX3_neighbourOf 88 = .ok (.iconst (-1), 1) := by decide +kernel
theorem dX3_neighbourOf_89 : decode cX3_neighbourOf 89 = .ok (.ireturn, 1) := by decide +kernel
theorem dX3_isSameOrNeighbour_0 : decode cX3_isSameOrNeighbour 0 = .ok (.iload_n 0, 1) := by decide +kernel
theorem dX3_isSameOrNeighbour_1 : decode cX3_isSameOrNeighbour 1 = .ok (.iload_n 1, 1) := by decide +kernel
theorem dX3_isSameOrNeighbour_2 : decode cX3_isSameOrNeighbour 2 = .ok (.if_icmp .ne 7, 3) := by decide +kernel
theorem dX3_isSameOrNeighbour_5 : decode cX3_isSameOrNeighbour 5 = .ok (.iconst 1, 1) := by decide +kernel
theorem dX3_isSameOrNeighbour_6 : decode cX3_isSameOrNeighbour 6 = .ok (.goto 4, 3) := by decide +kernel
theorem dX3_isSameOrNeighbour_9 : decode cX3_isSameOrNeighbour 9 = .ok (.iconst 0, 1) := by decide +kernel
theorem dX3_isSameOrNeighbour_10 : decode cX3_isSameOrNeighbour 10 = .ok (.istore_n 2, 1) := by decide +kernel
theorem dX3_isSameOrNeighbour_11 : decode cX3_isSameOrNeighbour 11 = .ok (.iconst 0, 1) := by decide +kernel
theorem dX3_isSameOrNeighbour_12 : decode cX3_isSameOrNeighbour 12 = .ok (.istore_n 3, 1) := by decide +kernel
theorem dX3_isSameOrNeighbour_13 : decode cX3_isSameOrNeighbour 13 = .ok (.iload_n 3, 1) := by decide +kernel
theorem dX3_isSameOrNeighbour_14 : decode cX3_isSameOrNeighbour 14 = .ok (.iconst 4, 1) := by decide +kernel
theorem dX3_isSameOrNeighbour_15 : decode cX3_isSameOrNeighbour 15 = .ok (.if_icmp .ge 28, 3) := by decide +kernel
theorem dX3_isSameOrNeighbour_18 : decode cX3_isSameOrNeighbour 18 = .ok (.iload_n 2, 1) := by decide +kernel
theorem dX3_isSameOrNeighbour_19 : decode cX3_isSameOrNeighbour 19 = .ok (.ifCond .ne 12, 3) := by decide +kernel
theorem dX3_isSameOrNeighbour_22 : decode cX3_isSameOrNeighbour 22 = .ok (.iload_n 0, 1) := by decide +kernel
theorem dX3_isSameOrNeighbour_23 : decode cX3_isSameOrNeighbour 23 = .ok (.iload_n 3, 1) := by decide +kernel
theorem dX3_isSameOrNeighbour_24 : decode cX3_isSameOrNeighbour 24 = .ok (.invokestatic 33, 3) := by decide +kernel
theorem dX3_isSameOrNeighbour_27 : decode cX3_isSameOrNeighbour 27 = .ok (.iload_n 1, 1) := by decide +kernel
theorem dX3_isSameOrNeighbour_28 : decode cX3_isSameOrNeighbour 28 = .ok (.if_icmp .ne 7, 3) := by decide +kernel
theorem dX3_isSameOrNeighbour_31 : decode cX3_isSameOrNeighbour 31 = .ok (.iconst 1, 1) := by decide +kernel
theorem dX3_isSameOrNeighbour_32 : decode cX3_isSameOrNeighbour 32 = .ok (.goto 4, 3) := by decide +kernel
theorem dX3_isSameOrNeighbour_35 : decode cX3_isSameOrNeighbour 35 = .ok (.iconst 0, 1) := by decide +kernel
theorem dX3_isSameOrNeighbour_36 : decode cX3_isSameOrNeighbour 36 = .ok (.istore_n 2, 1) := by decide +kernel
theorem dX3_isSameOrNeighbour_37 : decode cX3_isSameOrNeighbour 37 = .ok (.iinc 3 1, 3) := by decide +kernel
theorem dX3_isSameOrNeighbour_40 : decode cX3_isSameOrNeighbour 40 = .ok (.goto (-27), 3) := by decide +kernel
theorem dX3_isSameOrNeighbour_43 : decode cX3_isSameOrNeighbour 43 = .ok (.iload_n 2, 1) := by decide +kernel
theorem dX3_isSameOrNeighbour_44 : decode cX3_isSameOrNeighbour 44 = .ok (.ireturn, 1) := by decide +kernel
theorem dX3_level_0 : decode cX3_level 0 = .ok (.aload_n 0, 1) := by decide +kernel
theorem dX3_level_1 : decode cX3_level 1 = .ok (.getfield 9, 3) := by decide +kernel
theorem dX3_level_4 : decode cX3_level 4 = .ok (.iload_n 1, 1) := by decide +kernel
theorem dX3_level_5 : decode cX3_level 5 = .ok (.iaload, 1) := by decide +kernel
theorem dX3_level_6 : decode cX3_level 6 = .ok (.aload_n 0, 1) := by decide +kernel
theorem dX3_level_7 : decode cX3_level 7 = .ok (.getfield 15, 3) := by decide +kernel
theorem dX3_level_10 : decode cX3_level 10 = .ok (.iload_n 1, 1) := by decide +kernel
theorem dX3_level_11 : decode cX3_level 11 = .ok (.iaload, 1) := by decide +kernel
theorem dX3_level_12 : decode cX3_level 12 = .ok (.iadd, 1) := by decide +kernel
theorem dX3_level_13 : decode cX3_level 13 = .ok (.aload_n 0, 1) := by decide +kernel
theorem dX3_level_14 : decode cX3_level 14 = .ok (.getfield 18, 3) := by decide +kernel
theorem dX3_level_17 : decode cX3_level 17 = .ok (.iload_n 1, 1) := by decide +kernel
theorem dX3_level_18 : decode cX3_level 18 = .ok (.iaload, 1) := by decide +kernel
theorem dX3_level_19 : decode cX3_level 19 = .ok (.iadd, 1) := by decide +kernel
theorem dX3_level_20 : decode cX3_level 20 = .ok (.ireturn, 1) := by decide +kernel
theorem dX3_isWalkable_0 : decode cX3_isWalkable 0 = .ok (.aload_n 0, 1) := by decide +kernel
theorem dX3_isWalkable_1 : decode cX3_isWalkable 1 = .ok (.getfield 18, 3) := by decide +kernel
theorem dX3_isWalkable_4 : decode cX3_isWalkable 4 = .ok (.iload_n 1, 1) := by decide +kernel
theorem dX3_isWalkable_5 : decode cX3_isWalkable 5 = .ok (.iaload, 1) := by decide +kernel
theorem dX3_isWalkable_6 : decode cX3_isWalkable 6 = .ok (.iconst 3, 1) := by decide +kernel
theorem dX3_isWalkable_7 : decode cX3_isWalkable 7 = .ok (.if_icmp .ge 7, 3) := by decide +kernel
theorem dX3_isWalkable_10 : decode cX3_isWalkable 10 = .ok (.iconst 1, 1) := by decide +kernel
theorem dX3_isWalkable_11 : decode cX3_isWalkable 11 = .ok (.goto 4, 3) := by decide +kernel
theorem dX3_isWalkable_14 : decode cX3_isWalkable 14 = .ok (.iconst 0, 1) := by decide +kernel
theorem dX3_isWalkable_15 : decode cX3_isWalkable 15 = .ok (.ireturn, 1) := by decide +kernel
theorem dX3_rise_0 : decode cX3_rise 0 = .ok (.aload_n 0, 1) := by decide +kernel
theorem dX3_rise_1 : decode cX3_rise 1 = .ok (.getfield 24, 3) := by decide +kernel
theorem dX3_rise_4 : decode cX3_rise 4 = .ok (.iload_n 1, 1) := by decide +kernel
theorem dX3_rise_5 : decode cX3_rise 5 = .ok (.bipush 12, 2) := by decide +kernel
theorem dX3_rise_7 : decode cX3_rise 7 = .ok (.invokestatic 37, 3) := by decide +kernel
theorem dX3_rise_10 : decode cX3_rise 10 = .ok (.iaload, 1) := by decide +kernel
theorem dX3_rise_11 : decode cX3_rise 11 = .ok (.istore_n 2, 1) := by decide +kernel
theorem dX3_rise_12 : decode cX3_rise 12 = .ok (.iconst 0, 1) := by decide +kernel
theorem dX3_rise_13 : decode cX3_rise 13 = .ok (.istore_n 3, 1) := by decide +kernel
theorem dX3_rise_14 : decode cX3_rise 14 = .ok (.iload_n 3, 1) := by decide +kernel
theorem dX3_rise_15 : decode cX3_rise 15 = .ok (.bipush 10, 2) := by decide +kernel
theorem dX3_rise_17 : decode cX3_rise 17 = .ok (.if_icmp .ge 16, 3) := by decide +kernel
theorem dX3_rise_20 : decode cX3_rise 20 = .ok (.aload_n 0, 1) := by decide +kernel
theorem dX3_rise_21 : decode cX3_rise 21 = .ok (.getfield 18, 3) := by decide +kernel
theorem dX3_rise_24 : decode cX3_rise 24 = .ok (.iload_n 3, 1) := by decide +kernel
theorem dX3_rise_25 : decode cX3_rise 25 = .ok (.iload_n 2, 1) := by decide +kernel
theorem dX3_rise_26 : decode cX3_rise 26 = .ok (.iastore, 1) := by decide +kernel
theorem dX3_rise_27 : decode cX3_rise 27 = .ok (.iinc 3 1, 3) := by decide +kernel
theorem dX3_rise_30 : decode cX3_rise 30 = .ok (.goto (-16), 3) := by decide +kernel
theorem dX3_rise_33 : decode cX3_rise 33 = .ok (.return_, 1) := by decide +kernel
theorem dX3_flow_0 : decode cX3_flow 0 = .ok (.aload_n 0, 1) := by decide +kernel
theorem dX3_flow_1 : decode cX3_flow 1 = .ok (.getfield 18, 3) := by decide +kernel
theorem dX3_flow_4 : decode cX3_flow 4 = .ok (.iconst 0, 1) := by decide +kernel
theorem dX3_flow_5 : decode cX3_flow 5 = .ok (.aload_n 0, 1) := by decide +kernel
theorem dX3_flow_6 : decode cX3_flow 6 = .ok (.getfield 21, 3) := by decide +kernel
theorem dX3_flow_9 : decode cX3_flow 9 = .ok (.iconst 0, 1) := by decide +kernel
theorem dX3_flow_10 : decode cX3_flow 10 = .ok (.bipush 80, 2) := by decide +kernel
theorem dX3_flow_12 : decode cX3_flow 12 = .ok (.invokestatic 27, 3) := by decide +kernel
theorem dX3_flow_15 : decode cX3_flow 15 = .ok (.iconst 0, 1) := by decide +kernel
theorem dX3_flow_16 : decode cX3_flow 16 = .ok (.istore_n 1, 1) := by decide +kernel
theorem dX3_flow_17 : decode cX3_flow 17 = .ok (.iload_n 1, 1) := by decide +kernel
theorem dX3_flow_18 : decode cX3_flow 18 = .ok (.bipush 80, 2) := by decide +kernel
theorem dX3_flow_20 : decode cX3_flow 20 = .ok (.if_icmp .ge 47, 3) := by decide +kernel
theorem dX3_flow_23 : decode cX3_flow 23 = .ok (.aload_n 0, 1) := by decide +kernel
theorem dX3_flow_24 : decode cX3_flow 24 = .ok (.iload_n 1, 1) := by decide +kernel
theorem dX3_flow_25 : decode cX3_flow 25 = .ok (.invokevirtual 42, 3) := by decide +kernel
theorem dX3_flow_28 : decode cX3_flow 28 = .ok (.istore_n 2, 1) := by decide +kernel
theorem dX3_flow_29 : decode cX3_flow 29 = .ok (.iload_n 2, 1) := by decide +kernel
theorem dX3_flow_30 : decode cX3_flow 30 = .ok (.iconst (-1), 1) := by decide +kernel
theorem dX3_flow_31 : decode cX3_flow 31 = .ok (.if_icmp .eq 30, 3) := by decide +kernel
theorem dX3_flow_34 : decode cX3_flow 34 = .ok (.aload_n 0, 1) := by decide +kernel
theorem dX3_flow_35 : decode cX3_flow 35 = .ok (.iload_n 2, 1) := by decide +kernel
theorem dX3_flow_36 : decode cX3_flow 36 = .ok (.iload_n 1, 1) := by decide +kernel
theorem dX3_flow_37 : decode cX3_flow 37 = .ok (.invokevirtual 46, 3) := by decide +kernel
theorem dX3_flow_40 : decode cX3_flow 40 = .ok (.istore_n 3, 1) := by decide +kernel
theorem dX3_flow_41 : decode cX3_flow 41 = .ok (.aload_n 0, 1) := by decide +kernel
theorem dX3_flow_42 : decode cX3_flow 42 = .ok (.getfield 21, 3) := by decide +kernel
theorem dX3_flow_45 : decode cX3_flow 45 = .ok (.iload_n 1, 1) := by decide +kernel
theorem dX3_flow_46 : decode cX3_flow 46 = .ok (.dup2, 1) := by decide +kernel
theorem dX3_flow_47 : decode cX3_flow 47 = .ok (.iaload, 1) := by decide +kernel
theorem dX3_flow_48 : decode cX3_flow 48 = .ok (.iload_n 3, 1) := by decide +kernel
theorem dX3_flow_49 : decode cX3_flow 49 = .ok (.isub, 1) := by decide +kernel
theorem dX3_flow_50 : decode cX3_flow 50 = .ok (.iastore, 1) := by decide +kernel
theorem dX3_flow_51 : decode cX3_flow 51 = .ok (.aload_n 0, 1) := by decide +kernel
theorem dX3_flow_52 : decode cX3_flow 52 = .ok (.getfield 21, 3) := by decide +kernel
theorem dX3_flow_55 : decode cX3_flow 55 = .ok (.iload_n 2, 1) := by decide +kernel
theorem dX3_flow_56 : decode cX3_flow 56 = .ok (.dup2, 1) := by decide +kernel
theorem dX3_flow_57 : decode cX3_flow 57 = .ok (.iaload, 1) := by decide +kernel
theorem dX3_flow_58 : decode cX3_flow 58 = .ok (.iload_n 3, 1) := by decide +kernel
theorem dX3_flow_59 : decode cX3_flow 59 = .ok (.iadd, 1) := by decide +kernel
theorem dX3_flow_60 : decode cX3_flow 60 = .ok (.iastore, 1) := by decide +kernel
theorem dX3_flow_61 : decode cX3_flow 61 = .ok (.iinc 1 1, 3) := by decide +kernel
theorem dX3_flow_64 : decode cX3_flow 64 = .ok (.goto (-47), 3) := by decide +kernel
theorem dX3_flow_67 : decode cX3_flow 67 = .ok (.iconst 0, 1) := by decide +kernel
theorem dX3_flow_68 : decode cX3_flow 68 = .ok (.istore_n 1, 1) := by decide +kernel
theorem dX3_flow_69 : decode cX3_flow 69 = .ok (.iload_n 1, 1) := by decide +kernel
theorem dX3_flow_70 : decode cX3_flow 70 = .ok (.bipush 80, 2) := by decide +kernel
theorem dX3_flow_72 : decode cX3_flow 72 = .ok (.if_icmp .ge 26, 3) := by decide +kernel
theorem dX3_flow_75 : decode cX3_flow 75 = .ok (.aload_n 0, 1) := by decide +kernel
theorem dX3_flow_76 : decode cX3_flow 76 = .ok (.getfield 18, 3) := by decide +kernel
theorem dX3_flow_79 : decode cX3_flow 79 = .ok (.iload_n 1, 1) := by decide +kernel
theorem dX3_flow_80 : decode cX3_flow 80 = .ok (.aload_n 0, 1) := by decide +kernel
theorem dX3_flow_81 : decode cX3_flow 81 = .ok (.getfield 21, 3) := by decide +kernel
theorem dX3_flow_84 : decode cX3_flow 84 = .ok (.iload_n 1, 1) := by decide +kernel
theorem dX3_flow_85 : decode cX3_flow 85 = .ok (.iaload, 1) := by decide +kernel
theorem dX3_flow_86 : decode cX3_flow 86 = .ok (.bipush 40, 2) := by decide +kernel
theorem dX3_flow_88 : decode cX3_flow 88 = .ok (.invokestatic 49, 3) := by decide +kernel
theorem dX3_flow_91 : decode cX3_flow 91 = .ok (.iastore, 1) := by decide +kernel
theorem dX3_flow_92 : decode cX3_flow 92 = .ok (.iinc 1 1, 3) := by decide +kernel
theorem dX3_flow_95 : decode cX3_flow 95 = .ok (.goto (-26), 3) := by decide +kernel
theorem dX3_flow_98 : decode cX3_flow 98 = .ok (.return_, 1) := by decide +kernel
theorem dX3_lowestNeighbour_0 : decode cX3_lowestNeighbour 0 = .ok (.iconst (-1), 1) := by decide +kernel
theorem dX3_lowestNeighbour_1 : decode cX3_lowestNeighbour 1 = .ok (.istore_n 2, 1) := by decide +kernel
theorem dX3_lowestNeighbour_2 : decode cX3_lowestNeighbour 2 = .ok (.iconst 0, 1) := by decide +kernel
theorem dX3_lowestNeighbour_3 : decode cX3_lowestNeighbour 3 = .ok (.istore_n 3, 1) := by decide +kernel
theorem dX3_lowestNeighbour_4 : decode cX3_lowestNeighbour 4 = .ok (.iload_n 3, 1) := by decide +kernel
theorem dX3_lowestNeighbour_5 : decode cX3_lowestNeighbour 5 = .ok (.iconst 4, 1) := by decide +kernel
theorem dX3_lowestNeighbour_6 : decode cX3_lowestNeighbour 6 = .ok (.if_icmp .ge 44, 3) := by decide +kernel
theorem dX3_lowestNeighbour_9 : decode cX3_lowestNeighbour 9 = .ok (.iload_n 1, 1) := by decide +kernel
theorem dX3_lowestNeighbour_10 : decode cX3_lowestNeighbour 10 = .ok (.iload_n 3, 1) := by decide +kernel
theorem dX3_lowestNeighbour_11 : decode cX3_lowestNeighbour 11 = .ok (.invokestatic 33, 3) := by decide +kernel
theorem dX3_lowestNeighbour_14 : decode cX3_lowestNeighbour 14 = .ok (.istore 4, 2) := by decide +kernel
theorem dX3_lowestNeighbour_16 : decode cX3_lowestNeighbour 16 = .ok (.iload 4, 2) := by decide +kernel
theorem dX3_lowestNeighbour_18 : decode cX3_lowestNeighbour 18 = .ok (.iconst (-1), 1) := by decide +kernel
theorem dX3_lowestNeighbour_19 : decode cX3_lowestNeighbour 19 = .ok (.if_icmp .eq 25, 3) := by decide +kernel
theorem dX3_lowestNeighbour_22 : decode cX3_lowestNeighbour 22 = .ok (.iload_n 2, 1) := by decide +kernel
theorem dX3_lowestNeighbour_23 : decode cX3_lowestNeighbour 23 = .ok (.iconst (-1), 1) := by decide +kernel
theorem dX3_lowestNeighbour_24 : decode cX3_lowestNeighbour 24 = .ok (.if_icmp .eq 17, 3) := by decide +kernel
theorem dX3_lowestNeighbour_27 : decode cX3_lowestNeighbour 27 = .ok (.aload_n 0, 1) := by decide +kernel
theorem dX3_lowestNeighbour_28 : decode cX3_lowestNeighbour 28 = .ok (.iload 4, 2) := by decide +kernel
theorem dX3_lowestNeighbour_30 : decode cX3_lowestNeighbour 30 = .ok (.invokevirtual 52, 3) := by decide +kernel
theorem dX3_lowestNeighbour_33 : decode cX3_lowestNeighbour 33 = .ok (.aload_n 0, 1) := by decide +kernel
theorem dX3_lowestNeighbour_34 : decode cX3_lowestNeighbour 34 = .ok (.iload_n 2, 1) := by decide +kernel
theorem dX3_lowestNeighbour_35 : decode cX3_lowestNeighbour 35 = .ok (.invokevirtual 52, 3) := by decide +kernel
theorem dX3_lowestNeighbour_38 : decode cX3_lowestNeighbour 38 = .ok (.if_icmp .ge 6, 3) := by decide +kernel
theorem dX3_lowestNeighbour_41 : decode cX3_lowestNeighbour 41 = .ok (.iload 4, 2) := by decide +kernel
theorem dX3_lowestNeighbour_43 : decode cX3_lowestNeighbour 43 = .ok (.istore_n 2, 1) := by decide +kernel
theorem dX3_lowestNeighbour_44 : decode cX3_lowestNeighbour 44 = .ok (.iinc 3 1, 3) := by decide +kernel
theorem dX3_lowestNeighbour_47 : decode cX3_lowestNeighbour 47 = .ok (.goto (-43), 3) := by decide +kernel
theorem dX3_lowestNeighbour_50 : decode cX3_lowestNeighbour 50 = .ok (.iload_n 2, 1) := by decide +kernel
theorem dX3_lowestNeighbour_51 : decode cX3_lowestNeighbour 51 = .ok (.ireturn, 1) := by decide +kernel
theorem dX3_givenTo_0 : decode cX3_givenTo 0 = .ok (.aload_n 0, 1) := by decide +kernel
theorem dX3_givenTo_1 : decode cX3_givenTo 1 = .ok (.iload_n 2, 1) := by decide +kernel
theorem dX3_givenTo_2 : decode cX3_givenTo 2 = .ok (.invokevirtual 52, 3) := by decide +kernel
theorem dX3_givenTo_5 : decode cX3_givenTo 5 = .ok (.aload_n 0, 1) := by decide +kernel
theorem dX3_givenTo_6 : decode cX3_givenTo 6 = .ok (.iload_n 1, 1) := by decide +kernel
theorem dX3_givenTo_7 : decode cX3_givenTo 7 = .ok (.invokevirtual 52, 3) := by decide +kernel
theorem dX3_givenTo_10 : decode cX3_givenTo 10 = .ok (.isub, 1) := by decide +kernel
theorem dX3_givenTo_11 : decode cX3_givenTo 11 = .ok (.istore_n 3, 1) := by decide +kernel
theorem dX3_givenTo_12 : decode cX3_givenTo 12 = .ok (.iload_n 3, 1) := by decide +kernel
theorem dX3_givenTo_13 : decode cX3_givenTo 13 = .ok (.ifCond .le 18, 3) := by decide +kernel
theorem dX3_givenTo_16 : decode cX3_givenTo 16 = .ok (.iload_n 3, 1) := by decide +kernel
theorem dX3_givenTo_17 : decode cX3_givenTo 17 = .ok (.iconst 2, 1) := by decide +kernel
theorem dX3_givenTo_18 : decode cX3_givenTo 18 = .ok (.idiv, 1) := by decide +kernel
theorem dX3_givenTo_19 : decode cX3_givenTo 19 = .ok (.aload_n 0, 1) := by decide +kernel
theorem dX3_givenTo_20 : decode cX3_givenTo 20 = .ok (.getfield 18, 3) := by decide +kernel
theorem dX3_givenTo_23 : decode cX3_givenTo 23 = .ok (.iload_n 2, 1) := by decide +kernel
theorem dX3_givenTo_24 : decode cX3_givenTo 24 = .ok (.iaload, 1) := by decide +kernel
theorem dX3_givenTo_25 : decode cX3_givenTo 25 = .ok (.invokestatic 49, 3) := by decide +kernel
theorem dX3_givenTo_28 : decode cX3_givenTo 28 = .ok (.goto 4, 3) := by decide +kernel
theorem dX3_givenTo_31 : decode cX3_givenTo 31 = .ok (.iconst 0, 1) := by decide +kernel
theorem dX3_givenTo_32 : decode cX3_givenTo 32 = .ok (.ireturn, 1) := by decide +kernel
theorem dX3_bagsInTown_0 : decode cX3_bagsInTown 0 = .ok (.iconst 0, 1) := by decide +kernel
theorem dX3_bagsInTown_1 : decode cX3_bagsInTown 1 = .ok (.istore_n 1, 1) := by decide +kernel
theorem dX3_bagsInTown_2 : decode cX3_bagsInTown 2 = .ok (.iconst 0, 1) := by decide +kernel
theorem dX3_bagsInTown_3 : decode cX3_bagsInTown 3 = .ok (.istore_n 2, 1) := by decide +kernel
theorem dX3_bagsInTown_4 : decode cX3_bagsInTown 4 = .ok (.iload_n 2, 1) := by decide +kernel
theorem dX3_bagsInTown_5 : decode cX3_bagsInTown 5 = .ok (.bipush 80, 2) := by decide +kernel
theorem dX3_bagsInTown_7 : decode cX3_bagsInTown 7 = .ok (.if_icmp .ge 18, 3) := by decide +kernel
theorem dX3_bagsInTown_10 : decode cX3_bagsInTown 10 = .ok (.iload_n 1, 1) := by decide +kernel
theorem dX3_bagsInTown_11 : decode cX3_bagsInTown 11 = .ok (.aload_n 0, 1) := by decide +kernel
theorem dX3_bagsInTown_12 : decode cX3_bagsInTown 12 = .ok (.getfield 15, 3) := by decide +kernel
theorem dX3_bagsInTown_15 : decode cX3_bagsInTown 15 = .ok (.iload_n 2, 1) := by decide +kernel
theorem dX3_bagsInTown_16 : decode cX3_bagsInTown 16 = .ok (.iaload, 1) := by decide +kernel
theorem dX3_bagsInTown_17 : decode cX3_bagsInTown 17 = .ok (.iadd, 1) := by decide +kernel
theorem dX3_bagsInTown_18 : decode cX3_bagsInTown 18 = .ok (.istore_n 1, 1) := by decide +kernel
theorem dX3_bagsInTown_19 : decode cX3_bagsInTown 19 = .ok (.iinc 2 1, 3) := by decide +kernel
theorem dX3_bagsInTown_22 : decode cX3_bagsInTown 22 = .ok (.goto (-18), 3) := by decide +kernel
theorem dX3_bagsInTown_25 : decode cX3_bagsInTown 25 = .ok (.iload_n 1, 1) := by decide +kernel
theorem dX3_bagsInTown_26 : decode cX3_bagsInTown 26 = .ok (.ireturn, 1) := by decide +kernel
theorem dX3_wetStreets_0 : decode cX3_wetStreets 0 = .ok (.iconst 0, 1) := by decide +kernel
theorem dX3_wetStreets_1 : decode cX3_wetStreets 1 = .ok (.istore_n 1, 1) := by decide +kernel
theorem dX3_wetStreets_2 : decode cX3_wetStreets 2 = .ok (.bipush 10, 2) := by decide +kernel
theorem dX3_wetStreets_4 : decode cX3_wetStreets 4 = .ok (.istore_n 2, 1) := by decide +kernel
theorem dX3_wetStreets_5 : decode cX3_wetStreets 5 = .ok (.iload_n 2, 1) := by decide +kernel
theorem dX3_wetStreets_6 : decode cX3_wetStreets 6 = .ok (.bipush 80, 2) := by decide +kernel
theorem dX3_wetStreets_8 : decode cX3_wetStreets 8 = .ok (.if_icmp .ge 26, 3) := by decide +kernel
theorem dX3_wetStreets_11 : decode cX3_wetStreets 11 = .ok (.iload_n 1, 1) := by decide +kernel
theorem dX3_wetStreets_12 : decode cX3_wetStreets 12 = .ok (.aload_n 0, 1) := by decide +kernel
theorem dX3_wetStreets_13 : decode cX3_wetStreets 13 = .ok (.getfield 18, 3) := by decide +kernel
theorem dX3_wetStreets_16 : decode cX3_wetStreets 16 = .ok (.iload_n 2, 1) := by decide +kernel
theorem dX3_wetStreets_17 : decode cX3_wetStreets 17 = .ok (.iaload, 1) := by decide +kernel
theorem dX3_wetStreets_18 : decode cX3_wetStreets 18 = .ok (.ifCond .le 7, 3) := by decide +kernel
theorem dX3_wetStreets_21 : decode cX3_wetStreets 21 = .ok (.iconst 1, 1) := by decide +kernel
theorem dX3_wetStreets_22 : decode cX3_wetStreets 22 = .ok (.goto 4, 3) := by decide +kernel
theorem dX3_wetStreets_25 : decode cX3_wetStreets 25 = .ok (.iconst 0, 1) := by decide +kernel
theorem dX3_wetStreets_26 : decode cX3_wetStreets 26 = .ok (.iadd, 1) := by decide +kernel
theorem dX3_wetStreets_27 : decode cX3_wetStreets 27 = .ok (.istore_n 1, 1) := by decide +kernel
theorem dX3_wetStreets_28 : decode cX3_wetStreets 28 = .ok (.iinc 2 1, 3) := by decide +kernel
theorem dX3_wetStreets_31 : decode cX3_wetStreets 31 = .ok (.goto (-26), 3) := by decide +kernel
theorem dX3_wetStreets_34 : decode cX3_wetStreets 34 = .ok (.iload_n 1, 1) := by decide +kernel
theorem dX3_wetStreets_35 : decode cX3_wetStreets 35 = .ok (.ireturn, 1) := by decide +kernel
theorem dX3_waterInStreets_0 : decode cX3_waterInStreets 0 = .ok (.iconst 0, 1) := by decide +kernel
theorem dX3_waterInStreets_1 : decode cX3_waterInStreets 1 = .ok (.istore_n 1, 1) := by decide +kernel
theorem dX3_waterInStreets_2 : decode cX3_waterInStreets 2 = .ok (.bipush 10, 2) := by decide +kernel
theorem dX3_waterInStreets_4 : decode cX3_waterInStreets 4 = .ok (.istore_n 2, 1) := by decide +kernel
theorem dX3_waterInStreets_5 : decode cX3_waterInStreets 5 = .ok (.iload_n 2, 1) := by decide +kernel
theorem dX3_waterInStreets_6 : decode cX3_waterInStreets 6 = .ok (.bipush 80, 2) := by decide +kernel
theorem dX3_waterInStreets_8 : decode cX3_waterInStreets 8 = .ok (.if_icmp .ge 18, 3) := by decide +kernel
theorem dX3_waterInStreets_11 : decode cX3_waterInStreets 11 = .ok (.iload_n 1, 1) := by decide +kernel
theorem dX3_waterInStreets_12 : decode cX3_waterInStreets 12 = .ok (.aload_n 0, 1) := by decide +kernel
theorem dX3_waterInStreets_13 : decode cX3_waterInStreets 13 = .ok (.getfield 18, 3) := by decide +kernel
theorem dX3_waterInStreets_16 : decode cX3_waterInStreets 16 = .ok (.iload_n 2, 1) := by decide +kernel
theorem dX3_waterInStreets_17 : decode cX3_waterInStreets 17 = .ok (.iaload, 1) := by decide +kernel
theorem dX3_waterInStreets_18 : decode cX3_waterInStreets 18 = .ok (.iadd, 1) := by decide +kernel
theorem dX3_waterInStreets_19 : decode cX3_waterInStreets 19 = .ok (.istore_n 1, 1) := by decide +kernel
theorem dX3_waterInStreets_20 : decode cX3_waterInStreets 20 = .ok (.iinc 2 1, 3) := by decide +kernel
theorem dX3_waterInStreets_23 : decode cX3_waterInStreets 23 = .ok (.goto (-18), 3) := by decide +kernel
theorem dX3_waterInStreets_26 : decode cX3_waterInStreets 26 = .ok (.iload_n 1, 1) := by decide +kernel
theorem dX3_waterInStreets_27 : decode cX3_waterInStreets 27 = .ok (.ireturn, 1) := by decide +kernel
theorem dX4_init_0 : decode cX4_init 0 = .ok (.aload_n 0, 1) := by decide +kernel
theorem dX4_init_1 : decode cX4_init 1 = .ok (.invokespecial 3, 3) := by decide +kernel
theorem dX4_init_4 : decode cX4_init 4 = .ok (.aload_n 0, 1) := by decide +kernel
theorem dX4_init_5 : decode cX4_init 5 = .ok (.aload_n 1, 1) := by decide +kernel
theorem dX4_init_6 : decode cX4_init 6 = .ok (.putfield 9, 3) := by decide +kernel
theorem dX4_init_9 : decode cX4_init 9 = .ok (.return_, 1) := by decide +kernel
theorem dX4_isFull_0 : decode cX4_isFull 0 = .ok (.aload_n 0, 1) := by decide +kernel
theorem dX4_isFull_1 : decode cX4_isFull 1 = .ok (.getfield 15, 3) := by decide +kernel
theorem dX4_isFull_4 : decode cX4_isFull 4 = .ok (.aload_n 0, 1) := by decide +kernel
theorem dX4_isFull_5 : decode cX4_isFull 5 = .ok (.getfield 9, 3) := by decide +kernel
theorem dX4_isFull_8 : decode cX4_isFull 8 = .ok (.arraylength, 1) := by decide +kernel
theorem dX4_isFull_9 : decode cX4_isFull 9 = .ok (.if_icmp .lt 7, 3) := by decide +kernel
theorem dX4_isFull_12 : decode cX4_isFull 12 = .ok (.iconst 1, 1) := by decide +kernel
theorem dX4_isFull_13 : decode cX4_isFull 13 = .ok (.goto 4, 3) := by decide +kernel
theorem dX4_isFull_16 : decode cX4_isFull 16 = .ok (.iconst 0, 1) := by decide +kernel
theorem dX4_isFull_17 : decode cX4_isFull 17 = .ok (.ireturn, 1) := by decide +kernel
theorem dX4_has_0 : decode cX4_has 0 = .ok (.iload_n 1, 1) := by decide +kernel
theorem dX4_has_1 : decode cX4_has 1 = .ok (.ifCond .lt 15, 3) := by decide +kernel
theorem dX4_has_4 : decode cX4_has 4 = .ok (.iload_n 1, 1) := by decide +kernel
theorem dX4_has_5 : decode cX4_has 5 = .ok (.aload_n 0, 1) := by decide +kernel
theorem dX4_has_6 : decode cX4_has 6 = .ok (.getfield 15, 3) := by decide +kernel
theorem dX4_has_9 : decode cX4_has 9 = .ok (.if_icmp .ge 7, 3) := by decide +kernel
theorem dX4_has_12 : decode cX4_has 12 = .ok (.iconst 1, 1) := by decide +kernel
theorem dX4_has_13 : decode cX4_has 13 = .ok (.goto 4, 3) := by decide +kernel
theorem dX4_has_16 : decode cX4_has 16 = .ok (.iconst 0, 1) := by decide +kernel
theorem dX4_has_17 : decode cX4_has 17 = .ok (.ireturn, 1) := by decide +kernel
theorem dX4_firstIn_0 : decode cX4_firstIn 0 = .ok (.iconst 0, 1) := by decide +kernel
theorem dX4_firstIn_1 : decode cX4_firstIn 1 = .ok (.istore_n 2, 1) := by decide +kernel
theorem dX4_firstIn_2 : decode cX4_firstIn 2 = .ok (.iload_n 2, 1) := by decide +kernel
theorem dX4_firstIn_3 : decode cX4_firstIn 3 = .ok (.aload_n 0, 1) := by decide +kernel
theorem dX4_firstIn_4 : decode cX4_firstIn 4 = .ok (.getfield 15, 3) := by decide +kernel
theorem dX4_firstIn_7 : decode cX4_firstIn 7 = .ok (.if_icmp .ge 21, 3) := by decide +kernel
theorem dX4_firstIn_10 : decode cX4_firstIn 10 = .ok (.aload_n 0, 1) := by decide +kernel
theorem dX4_firstIn_11 : decode cX4_firstIn 11 = .ok (.getfield 9, 3) := by decide +kernel
theorem dX4_firstIn_14 : decode cX4_firstIn 14 = .ok (.iload_n 2, 1) := by decide +kernel
theorem dX4_firstIn_15 : decode cX4_firstIn 15 = .ok (.iaload, 1) := by decide +kernel
theorem dX4_firstIn_16 : decode cX4_firstIn 16 = .ok (.iload_n 1, 1) := by decide +kernel
theorem dX4_firstIn_17 : decode cX4_firstIn 17 = .ok (.if_icmp .ne 5, 3) := by decide +kernel
theorem dX4_firstIn_20 : decode cX4_firstIn 20 = .ok (.iload_n 2, 1) := by decide +kernel
theorem dX4_firstIn_21 : decode cX4_firstIn 21 = .ok (.ireturn, 1) := by decide +kernel
theorem dX4_firstIn_22 : decode cX4_firstIn 22 = .ok (.iinc 2 1, 3) := by decide +kernel
theorem dX4_firstIn_25 : decode cX4_firstIn 25 = .ok (.goto (-23), 3) := by decide +kernel
theorem dX4_firstIn_28 : decode cX4_firstIn 28 = .ok (.iconst (-1), 1) := by decide +kernel
theorem dX4_firstIn_29 : decode cX4_firstIn 29 = .ok (.ireturn, 1) := by decide +kernel
theorem dX4_canComeTo_0 : decode cX4_canComeTo 0 = .ok (.aload_n 0, 1) := by decide +kernel
theorem dX4_canComeTo_1 : decode cX4_canComeTo 1 = .ok (.invokevirtual 19, 3) := by decide +kernel
theorem dX4_canComeTo_4 : decode cX4_canComeTo 4 = .ok (.ifCond .ne 16, 3) := by decide +kernel
theorem dX4_canComeTo_7 : decode cX4_canComeTo 7 = .ok (.aload_n 0, 1) := by decide +kernel
theorem dX4_canComeTo_8 : decode cX4_canComeTo 8 = .ok (.iload_n 1, 1) := by decide +kernel
theorem dX4_canComeTo_9 : decode cX4_canComeTo 9 = .ok (.invokevirtual 23, 3) := by decide +kernel
theorem dX4_canComeTo_12 : decode cX4_canComeTo 12 = .ok (.iconst (-1), 1) := by decide +kernel
theorem dX4_canComeTo_13 : decode cX4_canComeTo 13 = .ok (.if_icmp .ne 7, 3) := by decide +kernel
theorem dX4_canComeTo_16 : decode cX4_canComeTo 16 = .ok (.iconst 1, 1) := by decide +kernel
theorem dX4_canComeTo_17 : decode cX4_canComeTo 17 = .ok (.goto 4, 3) := by decide +kernel
theorem dX4_canComeTo_20 : decode cX4_canComeTo 20 = .ok (.iconst 0, 1) := by decide +kernel
theorem dX4_canComeTo_21 : decode cX4_canComeTo 21 = .ok (.ireturn, 1) := by decide +kernel
theorem dX4_xOf_0 : decode cX4_xOf 0 = .ok (.aload_n 0, 1) := by decide +kernel
theorem dX4_xOf_1 : decode cX4_xOf 1 = .ok (.getfield 9, 3) := by decide +kernel
theorem dX4_xOf_4 : decode cX4_xOf 4 = .ok (.iload_n 1, 1) := by decide +kernel
theorem dX4_xOf_5 : decode cX4_xOf 5 = .ok (.iaload, 1) := by decide +kernel
theorem dX4_xOf_6 : decode cX4_xOf 6 = .ok (.bipush 10, 2) := by decide +kernel
theorem dX4_xOf_8 : decode cX4_xOf 8 = .ok (.irem, 1) := by decide +kernel
theorem dX4_xOf_9 : decode cX4_xOf 9 = .ok (.ireturn, 1) := by decide +kernel
theorem dX4_yOf_0 : decode cX4_yOf 0 = .ok (.aload_n 0, 1) := by decide +kernel
theorem dX4_yOf_1 : decode cX4_yOf 1 = .ok (.getfield 9, 3) := by decide +kernel
theorem dX4_yOf_4 : decode cX4_yOf 4 = .ok (.iload_n 1, 1) := by decide +kernel
theorem dX4_yOf_5 : decode cX4_yOf 5 = .ok (.iaload, 1) := by decide +kernel
theorem dX4_yOf_6 : decode cX4_yOf 6 = .ok (.bipush 10, 2) := by decide +kernel
theorem dX4_yOf_8 : decode cX4_yOf 8 = .ok (.idiv, 1) := by decide +kernel
theorem dX4_yOf_9 : decode cX4_yOf 9 = .ok (.ireturn, 1) := by decide +kernel
theorem dX4_copyCells_0 : decode cX4_copyCells 0 = .ok (.aload_n 0, 1) := by decide +kernel
theorem dX4_copyCells_1 : decode cX4_copyCells 1 = .ok (.aload_n 1, 1) := by decide +kernel
theorem dX4_copyCells_2 : decode cX4_copyCells 2 = .ok (.getfield 15, 3) := by decide +kernel
theorem dX4_copyCells_5 : decode cX4_copyCells 5 = .ok (.putfield 15, 3) := by decide +kernel
theorem dX4_copyCells_8 : decode cX4_copyCells 8 = .ok (.iconst 0, 1) := by decide +kernel
theorem dX4_copyCells_9 : decode cX4_copyCells 9 = .ok (.istore_n 2, 1) := by decide +kernel
theorem dX4_copyCells_10 : decode cX4_copyCells 10 = .ok (.iload_n 2, 1) := by decide +kernel
theorem dX4_copyCells_11 : decode cX4_copyCells 11 = .ok (.aload_n 0, 1) := by decide +kernel
theorem dX4_copyCells_12 : decode cX4_copyCells 12 = .ok (.getfield 15, 3) := by decide +kernel
theorem dX4_copyCells_15 : decode cX4_copyCells 15 = .ok (.if_icmp .ge 21, 3) := by decide +kernel
theorem dX4_copyCells_18 : decode cX4_copyCells 18 = .ok (.aload_n 0, 1) := by decide +kernel
theorem dX4_copyCells_19 : decode cX4_copyCells 19 = .ok (.getfield 9, 3) := by decide +kernel
theorem dX4_copyCells_22 : decode cX4_copyCells 22 = .ok (.iload_n 2, 1) := by decide +kernel
theorem dX4_copyCells_23 : decode cX4_copyCells 23 = .ok (.aload_n 1, 1) := by decide +kernel
theorem dX4_copyCells_24 : decode cX4_copyCells 24 = .ok (.getfield 9, 3) := by decide +kernel
theorem dX4_copyCells_27 : decode cX4_copyCells 27 = .ok (.iload_n 2, 1) := by decide +kernel
theorem dX4_copyCells_28 : decode cX4_copyCells 28 = .ok (.iaload, 1) := by decide +kernel
theorem dX4_copyCells_29 : decode cX4_copyCells 29 = .ok (.iastore, 1) := by decide +kernel
theorem dX4_copyCells_30 : decode cX4_copyCells 30 = .ok (.iinc 2 1, 3) := by decide +kernel
theorem dX4_copyCells_33 : decode cX4_copyCells 33 = .ok (.goto (-23), 3) := by decide +kernel
theorem dX4_copyCells_36 : decode cX4_copyCells 36 = .ok (.return_, 1) := by decide +kernel
theorem dX5_init_0 : decode cX5_init 0 = .ok (.aload_n 0, 1) := by decide +kernel
theorem dX5_init_1 : decode cX5_init 1 = .ok (.iconst 5, 1) := by decide +kernel
theorem dX5_init_2 : decode cX5_init 2 = .ok (.newarray .int, 2) := by decide +kernel
theorem dX5_init_4 : decode cX5_init 4 = .ok (.invokespecial 3, 3) := by decide +kernel
theorem dX5_init_7 : decode cX5_init 7 = .ok (.aload_n 0, 1) := by decide +kernel
theorem dX5_init_8 : decode cX5_init 8 = .ok (.iconst 5, 1) := by decide +kernel
theorem dX5_init_9 : decode cX5_init 9 = .ok (.newarray .int, 2) := by decide +kernel
theorem dX5_init_11 : decode cX5_init 11 = .ok (.putfield 9, 3) := by decide +kernel
theorem dX5_init_14 : decode cX5_init 14 = .ok (.aload_n 0, 1) := by decide +kernel
theorem dX5_init_15 : decode cX5_init 15 = .ok (.iconst 5, 1) := by decide +kernel
theorem dX5_init_16 : decode cX5_init 16 = .ok (.newarray .int, 2) := by decide +kernel
theorem dX5_init_18 : decode cX5_init 18 = .ok (.putfield 15, 3) := by decide +kernel
theorem dX5_init_21 : decode cX5_init 21 = .ok (.aload_n 0, 1) := by decide +kernel
theorem dX5_init_22 : decode cX5_init 22 = .ok (.iconst 5, 1) := by decide +kernel
theorem dX5_init_23 : decode cX5_init 23 = .ok (.newarray .boolean, 2) := by decide +kernel
theorem dX5_init_25 : decode cX5_init 25 = .ok (.putfield 18, 3) := by decide +kernel
theorem dX5_init_28 : decode cX5_init 28 = .ok (.aload_n 0, 1) := by decide +kernel
theorem dX5_init_29 : decode cX5_init 29 = .ok (.iconst 5, 1) := by decide +kernel
theorem dX5_init_30 : decode cX5_init 30 = .ok (.newarray .int, 2) := by decide +kernel
theorem dX5_init_32 : decode cX5_init 32 = .ok (.putfield 22, 3) := by decide +kernel
theorem dX5_init_35 : decode cX5_init 35 = .ok (.return_, 1) := by decide +kernel
theorem dX5_setUp_0 : decode cX5_setUp 0 = .ok (.aload_n 0, 1) := by decide +kernel
theorem dX5_setUp_1 : decode cX5_setUp 1 = .ok (.getfield 25, 3) := by decide +kernel
theorem dX5_setUp_4 : decode cX5_setUp 4 = .ok (.istore 4, 2) := by decide +kernel
theorem dX5_setUp_6 : decode cX5_setUp 6 = .ok (.aload_n 0, 1) := by decide +kernel
theorem dX5_setUp_7 : decode cX5_setUp 7 = .ok (.getfield 29, 3) := by decide +kernel
theorem dX5_setUp_10 : decode cX5_setUp 10 = .ok (.iload 4, 2) := by decide +kernel
theorem dX5_setUp_12 : decode cX5_setUp 12 = .ok (.iload_n 1, 1) := by decide +kernel
theorem dX5_setUp_13 : decode cX5_setUp 13 = .ok (.iastore, 1) := by decide +kernel
theorem dX5_setUp_14 : decode cX5_setUp 14 = .ok (.aload_n 0, 1) := by decide +kernel
theorem dX5_setUp_15 : decode cX5_setUp 15 = .ok (.getfield 9, 3) := by decide +kernel
theorem dX5_setUp_18 : decode cX5_setUp 18 = .ok (.iload 4, 2) := by decide +kernel
theorem dX5_setUp_20 : decode cX5_setUp 20 = .ok (.iload_n 2, 1) := by decide +kernel
theorem dX5_setUp_21 : decode cX5_setUp 21 = .ok (.iastore, 1) := by decide +kernel
theorem dX5_setUp_22 : decode cX5_setUp 22 = .ok (.aload_n 0, 1) := by decide +kernel
theorem dX5_setUp_23 : decode cX5_setUp 23 = .ok (.getfield 15, 3) := by decide +kernel
theorem dX5_setUp_26 : decode cX5_setUp 26 = .ok (.iload 4, 2) := by decide +kernel
theorem dX5_setUp_28 : decode cX5_setUp 28 = .ok (.iload_n 3, 1) := by decide +kernel
theorem dX5_setUp_29 : decode cX5_setUp 29 = .ok (.iastore, 1) := by decide +kernel
theorem dX5_setUp_30 : decode cX5_setUp 30 = .ok (.aload_n 0, 1) := by decide +kernel
theorem dX5_setUp_31 : decode cX5_setUp 31 = .ok (.getfield 18, 3) := by decide +kernel
theorem dX5_setUp_34 : decode cX5_setUp 34 = .ok (.iload 4, 2) := by decide +kernel
theorem dX5_setUp_36 : decode cX5_setUp 36 = .ok (.iconst 1, 1) := by decide +kernel
theorem dX5_setUp_37 : decode cX5_setUp 37 = .ok (.bastore, 1) := by decide +kernel
theorem dX5_setUp_38 : decode cX5_setUp 38 = .ok (.aload_n 0, 1) := by decide +kernel
theorem dX5_setUp_39 : decode cX5_setUp 39 = .ok (.dup, 1) := by decide +kernel
theorem dX5_setUp_40 : decode cX5_setUp 40 = .ok (.getfield 25, 3) := by decide +kernel
theorem dX5_setUp_43 : decode cX5_setUp 43 = .ok (.iconst 1, 1) := by decide +kernel
theorem dX5_setUp_44 : decode cX5_setUp 44 = .ok (.iadd, 1) := by decide +kernel
theorem dX5_setUp_45 : decode cX5_setUp 45 = .ok (.putfield 25, 3) := by decide +kernel
theorem dX5_setUp_48 : decode cX5_setUp 48 = .ok (.iload 4, 2) := by decide +kernel
theorem dX5_setUp_50 : decode cX5_setUp 50 = .ok (.ireturn, 1) := by decide +kernel
theorem dX5_copyFrom_0 : decode cX5_copyFrom 0 = .ok (.aload_n 0, 1) := by decide +kernel
theorem dX5_copyFrom_1 : decode cX5_copyFrom 1 = .ok (.aload_n 1, 1) := by decide +kernel
theorem dX5_copyFrom_2 : decode cX5_copyFrom 2 = .ok (.invokevirtual 32, 3) := by decide +kernel
theorem dX5_copyFrom_5 : decode cX5_copyFrom 5 = .ok (.iconst 0, 1) := by decide +kernel
theorem dX5_copyFrom_6 : decode cX5_copyFrom 6 = .ok (.istore_n 2, 1) := by decide +kernel
theorem dX5_copyFrom_7 : decode cX5_copyFrom 7 = .ok (.iload_n 2, 1) := by decide +kernel
theorem dX5_copyFrom_8 : decode cX5_copyFrom 8 = .ok (.aload_n 0, 1) := by decide +kernel
theorem dX5_copyFrom_9 : decode cX5_copyFrom 9 = .ok (.getfield 25, 3) := by decide +kernel
theorem dX5_copyFrom_12 : decode cX5_copyFrom 12 = .ok (.if_icmp .ge 57, 3) := by decide +kernel
theorem dX5_copyFrom_15 : decode cX5_copyFrom 15 = .ok (.aload_n 0, 1) := by decide +kernel
theorem dX5_copyFrom_16 : decode cX5_copyFrom 16 = .ok (.getfield 9, 3) := by decide +kernel
theorem dX5_copyFrom_19 : decode cX5_copyFrom 19 = .ok (.iload_n 2, 1) := by decide +kernel
theorem dX5_copyFrom_20 : decode cX5_copyFrom 20 = .ok (.aload_n 1, 1) := by decide +kernel
theorem dX5_copyFrom_21 : decode cX5_copyFrom 21 = .ok (.getfield 9, 3) := by decide +kernel
theorem dX5_copyFrom_24 : decode cX5_copyFrom 24 = .ok (.iload_n 2, 1) := by decide +kernel
theorem dX5_copyFrom_25 : decode cX5_copyFrom 25 = .ok (.iaload, 1) := by decide +kernel
theorem dX5_copyFrom_26 : decode cX5_copyFrom 26 = .ok (.iastore, 1) := by decide +kernel
theorem dX5_copyFrom_27 : decode cX5_copyFrom 27 = .ok (.aload_n 0, 1) := by decide +kernel
theorem dX5_copyFrom_28 : decode cX5_copyFrom 28 = .ok (.getfield 15, 3) := by decide +kernel
theorem dX5_copyFrom_31 : decode cX5_copyFrom 31 = .ok (.iload_n 2, 1) := by decide +kernel
theorem dX5_copyFrom_32 : decode cX5_copyFrom 32 = .ok (.aload_n 1, 1) := by decide +kernel
theorem dX5_copyFrom_33 : decode cX5_copyFrom 33 = .ok (.getfield 15, 3) := by decide +kernel
theorem dX5_copyFrom_36 : decode cX5_copyFrom 36 = .ok (.iload_n 2, 1) := by decide +kernel
theorem dX5_copyFrom_37 : decode cX5_copyFrom 37 = .ok (.iaload, 1) := by decide +kernel
theorem dX5_copyFrom_38 : decode cX5_copyFrom 38 = .ok (.iastore, 1) := by decide +kernel
theorem dX5_copyFrom_39 : decode cX5_copyFrom 39 = .ok (.aload_n 0, 1) := by decide +kernel
theorem dX5_copyFrom_40 : decode cX5_copyFrom 40 = .ok (.getfield 18, 3) := by decide +kernel
theorem dX5_copyFrom_43 : decode cX5_copyFrom 43 = .ok (.iload_n 2, 1) := by decide +kernel
theorem dX5_copyFrom_44 : decode cX5_copyFrom 44 = .ok (.aload_n 1, 1) := by decide +kernel
theorem dX5_copyFrom_45 : decode cX5_copyFrom 45 = .ok (.getfield 18, 3) := by decide +kernel
theorem dX5_copyFrom_48 : decode cX5_copyFrom 48 = .ok (.iload_n 2, 1) := by decide +kernel
theorem dX5_copyFrom_49 : decode cX5_copyFrom 49 = .ok (.baload, 1) := by decide +kernel
theorem dX5_copyFrom_50 : decode cX5_copyFrom 50 = .ok (.bastore, 1) := by decide +kernel
theorem dX5_copyFrom_51 : decode cX5_copyFrom 51 = .ok (.aload_n 0, 1) := by decide +kernel
theorem dX5_copyFrom_52 : decode cX5_copyFrom 52 = .ok (.getfield 22, 3) := by decide +kernel
theorem dX5_copyFrom_55 : decode cX5_copyFrom 55 = .ok (.iload_n 2, 1) := by decide +kernel
theorem dX5_copyFrom_56 : decode cX5_copyFrom 56 = .ok (.aload_n 1, 1) := by decide +kernel
theorem dX5_copyFrom_57 : decode cX5_copyFrom 57 = .ok (.getfield 22, 3) := by decide +kernel
theorem dX5_copyFrom_60 : decode cX5_copyFrom 60 = .ok (.iload_n 2, 1) := by decide +kernel
theorem dX5_copyFrom_61 : decode cX5_copyFrom 61 = .ok (.iaload, 1) := by decide +kernel
theorem dX5_copyFrom_62 : decode cX5_copyFrom 62 = .ok (.iastore, 1) := by decide +kernel
theorem dX5_copyFrom_63 : decode cX5_copyFrom 63 = .ok (.iinc 2 1, 3) := by decide +kernel
theorem dX5_copyFrom_66 : decode cX5_copyFrom 66 = .ok (.goto (-59), 3) := by decide +kernel
theorem dX5_copyFrom_69 : decode cX5_copyFrom 69 = .ok (.return_, 1) := by decide +kernel
theorem dX5_work_0 : decode cX5_work 0 = .ok (.iconst 0, 1) := by decide +kernel
theorem dX5_work_1 : decode cX5_work 1 = .ok (.istore_n 2, 1) := by decide +kernel
theorem dX5_work_2 : decode cX5_work 2 = .ok (.iload_n 2, 1) := by decide +kernel
theorem dX5_work_3 : decode cX5_work 3 = .ok (.aload_n 0, 1) := by decide +kernel
theorem dX5_work_4 : decode cX5_work 4 = .ok (.getfield 25, 3) := by decide +kernel
theorem dX5_work_7 : decode cX5_work 7 = .ok (.if_icmp .ge 91, 3) := by decide +kernel
theorem dX5_work_10 : decode cX5_work 10 = .ok (.aload_n 1, 1) := by decide +kernel
theorem dX5_work_11 : decode cX5_work 11 = .ok (.getfield 36, 3) := by decide +kernel
theorem dX5_work_14 : decode cX5_work 14 = .ok (.aload_n 0, 1) := by decide +kernel
theorem dX5_work_15 : decode cX5_work 15 = .ok (.getfield 29, 3) := by decide +kernel
theorem dX5_work_18 : decode cX5_work 18 = .ok (.iload_n 2, 1) := by decide +kernel
theorem dX5_work_19 : decode cX5_work 19 = .ok (.iaload, 1) := by decide +kernel
theorem dX5_work_20 : decode cX5_work 20 = .ok (.iaload, 1) := by decide +kernel
theorem dX5_work_21 : decode cX5_work 21 = .ok (.istore_n 3, 1) := by decide +kernel
theorem dX5_work_22 : decode cX5_work 22 = .ok (.aload_n 0, 1) := by decide +kernel
theorem dX5_work_23 : decode cX5_work 23 = .ok (.getfield 18, 3) := by decide +kernel
theorem dX5_work_26 : decode cX5_work 26 = .ok (.iload_n 2, 1) := by decide +kernel
theorem dX5_work_27 : decode cX5_work 27 = .ok (.baload, 1) := by decide +kernel
theorem dX5_work_28 : decode cX5_work 28 = .ok (.ifCond .eq 64, 3) := by decide +kernel
theorem dX5_work_31 : decode cX5_work 31 = .ok (.aload_n 0, 1) := by decide +kernel
theorem dX5_work_32 : decode cX5_work 32 = .ok (.getfield 15, 3) := by decide +kernel
theorem dX5_work_35 : decode cX5_work 35 = .ok (.iload_n 2, 1) := by decide +kernel
theorem dX5_work_36 : decode cX5_work 36 = .ok (.iaload, 1) := by decide +kernel
theorem dX5_work_37 : decode cX5_work 37 = .ok (.ifCond .le 55, 3) := by decide +kernel
theorem dX5_work_40 : decode cX5_work 40 = .ok (.iload_n 3, 1) := by decide +kernel
theorem dX5_work_41 : decode cX5_work 41 = .ok (.ifCond .le 51, 3) := by decide +kernel
theorem dX5_work_44 : decode cX5_work 44 = .ok (.aload_n 0, 1) := by decide +kernel
theorem dX5_work_45 : decode cX5_work 45 = .ok (.getfield 9, 3) := by decide +kernel
theorem dX5_work_48 : decode cX5_work 48 = .ok (.iload_n 2, 1) := by decide +kernel
theorem dX5_work_49 : decode cX5_work 49 = .ok (.iaload, 1) := by decide +kernel
theorem dX5_work_50 : decode cX5_work 50 = .ok (.iload_n 3, 1) := by decide +kernel
theorem dX5_work_51 : decode cX5_work 51 = .ok (.invokestatic 41, 3) := by decide +kernel
theorem dX5_work_54 : decode cX5_work 54 = .ok (.istore 4, 2) := by decide +kernel
theorem dX5_work_56 : decode cX5_work 56 = .ok (.aload_n 1, 1) := by decide +kernel
theorem dX5_work_57 : decode cX5_work 57 = .ok (.getfield 36, 3) := by decide +kernel
theorem dX5_work_60 : decode cX5_work 60 = .ok (.aload_n 0, 1) := by decide +kernel
theorem dX5_work_61 : decode cX5_work 61 = .ok (.getfield 29, 3) := by decide +kernel
theorem dX5_work_64 : decode cX5_work 64 = .ok (.iload_n 2, 1) := by decide +kernel
theorem dX5_work_65 : decode cX5_work 65 = .ok (.iaload, 1) := by decide +kernel
theorem dX5_work_66 : decode cX5_work 66 = .ok (.iload_n 3, 1) := by decide +kernel
theorem dX5_work_67 : decode cX5_work 67 = .ok (.iload 4, 2) := by decide +kernel
theorem dX5_work_69 : decode cX5_work 69 = .ok (.isub, 1) := by decide +kernel
theorem dX5_work_70 : decode cX5_work 70 = .ok (.iastore, 1) := by decide +kernel
theorem dX5_work_71 : decode cX5_work 71 = .ok (.aload_n 0, 1) := by decide +kernel
theorem dX5_work_72 : decode cX5_work 72 = .ok (.getfield 22, 3) := by decide +kernel
theorem dX5_work_75 : decode cX5_work 75 = .ok (.iload_n 2, 1) := by decide +kernel
theorem dX5_work_76 : decode cX5_work 76 = .ok (.dup2, 1) := by decide +kernel
theorem dX5_work_77 : decode cX5_work 77 = .ok (.iaload, 1) := by decide +kernel
theorem dX5_work_78 : decode cX5_work 78 = .ok (.iload 4, 2) := by decide +kernel
theorem dX5_work_80 : decode cX5_work 80 = .ok (.iadd, 1) := by decide +kernel
theorem dX5_work_81 : decode cX5_work 81 = .ok (.iastore, 1) := by decide +kernel
theorem dX5_work_82 : decode cX5_work 82 = .ok (.aload_n 0, 1) := by decide +kernel
theorem dX5_work_83 : decode cX5_work 83 = .ok (.getfield 15, 3) := by decide +kernel
theorem dX5_work_86 : decode cX5_work 86 = .ok (.iload_n 2, 1) := by decide +kernel
theorem dX5_work_87 : decode cX5_work 87 = .ok (.dup2, 1) := by decide +kernel
theorem dX5_work_88 : decode cX5_work 88 = .ok (.iaload, 1) := by decide +kernel
theorem dX5_work_89 : decode cX5_work 89 = .ok (.iconst 1, 1) := by decide +kernel
theorem dX5_work_90 : decode cX5_work 90 = .ok (.isub, 1) := by decide +kernel
theorem dX5_work_91 : decode cX5_work 91 = .ok (.iastore, 1) := by decide +kernel
theorem dX5_work_92 : decode cX5_work 92 = .ok (.iinc 2 1, 3) := by decide +kernel
theorem dX5_work_95 : decode cX5_work 95 = .ok (.goto (-93), 3) := by decide +kernel
theorem dX5_work_98 : decode cX5_work 98 = .ok (.return_, 1) := by decide +kernel
theorem dX5_fuelOfAll_0 : decode cX5_fuelOfAll 0 = .ok (.iconst 0, 1) := by decide +kernel
theorem dX5_fuelOfAll_1 : decode cX5_fuelOfAll 1 = .ok (.istore_n 1, 1) := by decide +kernel
theorem dX5_fuelOfAll_2 : decode cX5_fuelOfAll 2 = .ok (.iconst 0, 1) := by decide +kernel
theorem dX5_fuelOfAll_3 : decode cX5_fuelOfAll 3 = .ok (.istore_n 2, 1) := by decide +kernel
theorem dX5_fuelOfAll_4 : decode cX5_fuelOfAll 4 = .ok (.iload_n 2, 1) := by decide +kernel
theorem dX5_fuelOfAll_5 : decode cX5_fuelOfAll 5 = .ok (.aload_n 0, 1) := by decide +kernel
theorem dX5_fuelOfAll_6 : decode cX5_fuelOfAll 6 = .ok (.getfield 25, 3) := by decide +kernel
theorem dX5_fuelOfAll_9 : decode cX5_fuelOfAll 9 = .ok (.if_icmp .ge 18, 3) := by decide +kernel
theorem dX5_fuelOfAll_12 : decode cX5_fuelOfAll 12 = .ok (.iload_n 1, 1) := by decide +kernel
theorem dX5_fuelOfAll_13 : decode cX5_fuelOfAll 13 = .ok (.aload_n 0, 1) := by decide +kernel
theorem dX5_fuelOfAll_14 : decode cX5_fuelOfAll 14 = .ok (.getfield 15, 3) := by decide +kernel
theorem dX5_fuelOfAll_17 : decode cX5_fuelOfAll 17 = .ok (.iload_n 2, 1) := by decide +kernel
theorem dX5_fuelOfAll_18 : decode cX5_fuelOfAll 18 = .ok (.iaload, 1) := by decide +kernel
theorem dX5_fuelOfAll_19 : decode cX5_fuelOfAll 19 = .ok (.iadd, 1) := by decide +kernel
theorem dX5_fuelOfAll_20 : decode cX5_fuelOfAll 20 = .ok (.istore_n 1, 1) := by decide +kernel
theorem dX5_fuelOfAll_21 : decode cX5_fuelOfAll 21 = .ok (.iinc 2 1, 3) := by decide +kernel
theorem dX5_fuelOfAll_24 : decode cX5_fuelOfAll 24 = .ok (.goto (-20), 3) := by decide +kernel
theorem dX5_fuelOfAll_27 : decode cX5_fuelOfAll 27 = .ok (.iload_n 1, 1) := by decide +kernel
theorem dX5_fuelOfAll_28 : decode cX5_fuelOfAll 28 = .ok (.ireturn, 1) := by decide +kernel
theorem dX5_tell_0 : decode cX5_tell 0 = .ok (.iload_n 2, 1) := by decide +kernel
theorem dX5_tell_1 : decode cX5_tell 1 = .ok (.tableswitch 76 0 4 #[35, 41, 47, 54, 61], 35) := by decide +kernel
theorem dX5_tell_36 : decode cX5_tell 36 = .ok (.aload_n 0, 1) := by decide +kernel
theorem dX5_tell_37 : decode cX5_tell 37 = .ok (.iload_n 1, 1) := by decide +kernel
theorem dX5_tell_38 : decode cX5_tell 38 = .ok (.invokevirtual 47, 3) := by decide +kernel
theorem dX5_tell_41 : decode cX5_tell 41 = .ok (.ireturn, 1) := by decide +kernel
theorem dX5_tell_42 : decode cX5_tell 42 = .ok (.aload_n 0, 1) := by decide +kernel
theorem dX5_tell_43 : decode cX5_tell 43 = .ok (.iload_n 1, 1) := by decide +kernel
theorem dX5_tell_44 : decode cX5_tell 44 = .ok (.invokevirtual 51, 3) := by decide +kernel
theorem dX5_tell_47 : decode cX5_tell 47 = .ok (.ireturn, 1) := by decide +kernel
theorem dX5_tell_48 : decode cX5_tell 48 = .ok (.aload_n 0, 1) := by decide +kernel
theorem dX5_tell_49 : decode cX5_tell 49 = .ok (.getfield 9, 3) := by decide +kernel
theorem dX5_tell_52 : decode cX5_tell 52 = .ok (.iload_n 1, 1) := by decide +kernel
theorem dX5_tell_53 : decode cX5_tell 53 = .ok (.iaload, 1) := by decide +kernel
theorem dX5_tell_54 : decode cX5_tell 54 = .ok (.ireturn, 1) := by decide +kernel
theorem dX5_tell_55 : decode cX5_tell 55 = .ok (.aload_n 0, 1) := by decide +kernel
theorem dX5_tell_56 : decode cX5_tell 56 = .ok (.getfield 15, 3) := by decide +kernel
theorem dX5_tell_59 : decode cX5_tell 59 = .ok (.iload_n 1, 1) := by decide +kernel
theorem dX5_tell_60 : decode cX5_tell 60 = .ok (.iaload, 1) := by decide +kernel
theorem dX5_tell_61 : decode cX5_tell 61 = .ok (.ireturn, 1) := by decide +kernel
theorem dX5_tell_62 : decode cX5_tell 62 = .ok (.aload_n 0, 1) := by decide +kernel
theorem dX5_tell_63 : decode cX5_tell 63 = .ok (.getfield 18, 3) := by decide +kernel
theorem dX5_tell_66 : decode cX5_tell 66 = .ok (.iload_n 1, 1) := by decide +kernel
theorem dX5_tell_67 : decode cX5_tell 67 = .ok (.baload, 1) := by decide +kernel
theorem dX5_tell_68 : decode cX5_tell 68 = .ok (.ifCond .eq 7, 3) := by decide +kernel
theorem dX5_tell_71 : decode cX5_tell 71 = .ok (.iconst 1, 1) := by decide +kernel
theorem dX5_tell_72 : decode cX5_tell 72 = .ok (.goto 4, 3) := by decide +kernel
theorem dX5_tell_75 : decode cX5_tell 75 = .ok (.iconst 0, 1) := by decide +kernel
theorem dX5_tell_76 : decode cX5_tell 76 = .ok (.ireturn, 1) := by decide +kernel
theorem dX5_tell_77 : decode cX5_tell 77 = .ok (.aload_n 0, 1) := by decide +kernel
theorem dX5_tell_78 : decode cX5_tell 78 = .ok (.getfield 22, 3) := by decide +kernel
theorem dX5_tell_81 : decode cX5_tell 81 = .ok (.iload_n 1, 1) := by decide +kernel
theorem dX5_tell_82 : decode cX5_tell 82 = .ok (.iaload, 1) := by decide +kernel
theorem dX5_tell_83 : decode cX5_tell 83 = .ok (.ireturn, 1) := by decide +kernel
theorem dX6_init_0 : decode cX6_init 0 = .ok (.aload_n 0, 1) := by decide +kernel
theorem dX6_init_1 : decode cX6_init 1 = .ok (.iconst 4, 1) := by decide +kernel
theorem dX6_init_2 : decode cX6_init 2 = .ok (.newarray .int, 2) := by decide +kernel
theorem dX6_init_4 : decode cX6_init 4 = .ok (.invokespecial 3, 3) := by decide +kernel
theorem dX6_init_7 : decode cX6_init 7 = .ok (.aload_n 0, 1) := by decide +kernel
theorem dX6_init_8 : decode cX6_init 8 = .ok (.iconst 4, 1) := by decide +kernel
theorem dX6_init_9 : decode cX6_init 9 = .ok (.newarray .int, 2) := by decide +kernel
theorem dX6_init_11 : decode cX6_init 11 = .ok (.putfield 9, 3) := by decide +kernel
theorem dX6_init_14 : decode cX6_init 14 = .ok (.aload_n 0, 1) := by decide +kernel
theorem dX6_init_15 : decode cX6_init 15 = .ok (.iconst 4, 1) := by decide +kernel
theorem dX6_init_16 : decode cX6_init 16 = .ok (.newarray .int, 2) := by decide +kernel
theorem dX6_init_18 : decode cX6_init 18 = .ok (.putfield 15, 3) := by decide +kernel
theorem dX6_init_21 : decode cX6_init 21 = .ok (.aload_n 0, 1) := by decide +kernel
theorem dX6_init_22 : decode cX6_init 22 = .ok (.iconst 4, 1) := by decide +kernel
theorem dX6_init_23 : decode cX6_init 23 = .ok (.newarray .int, 2) := by decide +kernel
theorem dX6_init_25 : decode cX6_init 25 = .ok (.putfield 18, 3) := by decide +kernel
theorem dX6_init_28 : decode cX6_init 28 = .ok (.return_, 1) := by decide +kernel
theorem dX6_open_0 : decode cX6_open 0 = .ok (.aload_n 0, 1) := by decide +kernel
theorem dX6_open_1 : decode cX6_open 1 = .ok (.getfield 21, 3) := by decide +kernel
theorem dX6_open_4 : decode cX6_open 4 = .ok (.istore_n 3, 1) := by decide +kernel
theorem dX6_open_5 : decode cX6_open 5 = .ok (.aload_n 0, 1) := by decide +kernel
theorem dX6_open_6 : decode cX6_open 6 = .ok (.getfield 25, 3) := by decide +kernel
theorem dX6_open_9 : decode cX6_open 9 = .ok (.iload_n 3, 1) := by decide +kernel
theorem dX6_open_10 : decode cX6_open 10 = .ok (.iload_n 1, 1) := by decide +kernel
theorem dX6_open_11 : decode cX6_open 11 = .ok (.iastore, 1) := by decide +kernel
theorem dX6_open_12 : decode cX6_open 12 = .ok (.aload_n 0, 1) := by decide +kernel
theorem dX6_open_13 : decode cX6_open 13 = .ok (.getfield 9, 3) := by decide +kernel
theorem dX6_open_16 : decode cX6_open 16 = .ok (.iload_n 3, 1) := by decide +kernel
theorem dX6_open_17 : decode cX6_open 17 = .ok (.iload_n 2, 1) := by decide +kernel
theorem dX6_open_18 : decode cX6_open 18 = .ok (.iastore, 1) := by decide +kernel
theorem dX6_open_19 : decode cX6_open 19 = .ok (.aload_n 0, 1) := by decide +kernel
theorem dX6_open_20 : decode cX6_open 20 = .ok (.dup, 1) := by decide +kernel
theorem dX6_open_21 : decode cX6_open 21 = .ok (.getfield 21, 3) := by decide +kernel
theorem dX6_open_24 : decode cX6_open 24 = .ok (.iconst 1, 1) := by decide +kernel
theorem dX6_open_25 : decode cX6_open 25 = .ok (.iadd, 1) := by decide +kernel
theorem dX6_open_26 : decode cX6_open 26 = .ok (.putfield 21, 3) := by decide +kernel
theorem dX6_open_29 : decode cX6_open 29 = .ok (.iload_n 3, 1) := by decide +kernel
theorem dX6_open_30 : decode cX6_open 30 = .ok (.ireturn, 1) := by decide +kernel
theorem dX6_copyFrom_0 : decode cX6_copyFrom 0 = .ok (.aload_n 0, 1) := by decide +kernel
theorem dX6_copyFrom_1 : decode cX6_copyFrom 1 = .ok (.aload_n 1, 1) := by decide +kernel
theorem dX6_copyFrom_2 : decode cX6_copyFrom 2 = .ok (.invokevirtual 28, 3) := by decide +kernel
theorem dX6_copyFrom_5 : decode cX6_copyFrom 5 = .ok (.iconst 0, 1) := by decide +kernel
theorem dX6_copyFrom_6 : decode cX6_copyFrom 6 = .ok (.istore_n 2, 1) := by decide +kernel
theorem dX6_copyFrom_7 : decode cX6_copyFrom 7 = .ok (.iload_n 2, 1) := by decide +kernel
theorem dX6_copyFrom_8 : decode cX6_copyFrom 8 = .ok (.aload_n 0, 1) := by decide +kernel
theorem dX6_copyFrom_9 : decode cX6_copyFrom 9 = .ok (.getfield 21, 3) := by decide +kernel
theorem dX6_copyFrom_12 : decode cX6_copyFrom 12 = .ok (.if_icmp .ge 45, 3) := by decide +kernel
theorem dX6_copyFrom_15 : decode cX6_copyFrom 15 = .ok (.aload_n 0, 1) := by decide +kernel
theorem dX6_copyFrom_16 : decode cX6_copyFrom 16 = .ok (.getfield 9, 3) := by decide +kernel
theorem dX6_copyFrom_19 : decode cX6_copyFrom 19 = .ok (.iload_n 2, 1) := by decide +kernel
theorem dX6_copyFrom_20 : decode cX6_copyFrom 20 = .ok (.aload_n 1, 1) := by decide +kernel
theorem dX6_copyFrom_21 : decode cX6_copyFrom 21 = .ok (.getfield 9, 3) := by decide +kernel
theorem dX6_copyFrom_24 : decode cX6_copyFrom 24 = .ok (.iload_n 2, 1) := by decide +kernel
theorem dX6_copyFrom_25 : decode cX6_copyFrom 25 = .ok (.iaload, 1) := by decide +kernel
theorem dX6_copyFrom_26 : decode cX6_copyFrom 26 = .ok (.iastore, 1) := by decide +kernel
theorem dX6_copyFrom_27 : decode cX6_copyFrom 27 = .ok (.aload_n 0, 1) := by decide +kernel
theorem dX6_copyFrom_28 : decode cX6_copyFrom 28 = .ok (.getfield 15, 3) := by decide +kernel
theorem dX6_copyFrom_31 : decode cX6_copyFrom 31 = .ok (.iload_n 2, 1) := by decide +kernel
theorem dX6_copyFrom_32 : decode cX6_copyFrom 32 = .ok (.aload_n 1, 1) := by decide +kernel
theorem dX6_copyFrom_33 : decode cX6_copyFrom 33 = .ok (.getfield 15, 3) := by decide +kernel
theorem dX6_copyFrom_36 : decode cX6_copyFrom 36 = .ok (.iload_n 2, 1) := by decide +kernel
theorem dX6_copyFrom_37 : decode cX6_copyFrom 37 = .ok (.iaload, 1) := by decide +kernel
theorem dX6_copyFrom_38 : decode cX6_copyFrom 38 = .ok (.iastore, 1) := by decide +kernel
theorem dX6_copyFrom_39 : decode cX6_copyFrom 39 = .ok (.aload_n 0, 1) := by decide +kernel
theorem dX6_copyFrom_40 : decode cX6_copyFrom 40 = .ok (.getfield 18, 3) := by decide +kernel
theorem dX6_copyFrom_43 : decode cX6_copyFrom 43 = .ok (.iload_n 2, 1) := by decide +kernel
theorem dX6_copyFrom_44 : decode cX6_copyFrom 44 = .ok (.aload_n 1, 1) := by decide +kernel
theorem dX6_copyFrom_45 : decode cX6_copyFrom 45 = .ok (.getfield 18, 3) := by decide +kernel
theorem dX6_copyFrom_48 : decode cX6_copyFrom 48 = .ok (.iload_n 2, 1) := by decide +kernel
theorem dX6_copyFrom_49 : decode cX6_copyFrom 49 = .ok (.iaload, 1) := by decide +kernel
theorem dX6_copyFrom_50 : decode cX6_copyFrom 50 = .ok (.iastore, 1) := by decide +kernel
theorem dX6_copyFrom_51 : decode cX6_copyFrom 51 = .ok (.iinc 2 1, 3) := by decide +kernel
theorem dX6_copyFrom_54 : decode cX6_copyFrom 54 = .ok (.goto (-47), 3) := by decide +kernel
theorem dX6_copyFrom_57 : decode cX6_copyFrom 57 = .ok (.return_, 1) := by decide +kernel
theorem dX6_hasRoomFor_0 : decode cX6_hasRoomFor 0 = .ok (.aload_n 0, 1) := by decide +kernel
theorem dX6_hasRoomFor_1 : decode cX6_hasRoomFor 1 = .ok (.getfield 9, 3) := by decide +kernel
theorem dX6_hasRoomFor_4 : decode cX6_hasRoomFor 4 = .ok (.iload_n 1, 1) := by decide +kernel
theorem dX6_hasRoomFor_5 : decode cX6_hasRoomFor 5 = .ok (.iaload, 1) := by decide +kernel
theorem dX6_hasRoomFor_6 : decode cX6_hasRoomFor 6 = .ok (.aload_n 0, 1) := by decide +kernel
theorem dX6_hasRoomFor_7 : decode cX6_hasRoomFor 7 = .ok (.getfield 15, 3) := by decide +kernel
theorem dX6_hasRoomFor_10 : decode cX6_hasRoomFor 10 = .ok (.iload_n 1, 1) := by decide +kernel
theorem dX6_hasRoomFor_11 : decode cX6_hasRoomFor 11 = .ok (.iaload, 1) := by decide +kernel
theorem dX6_hasRoomFor_12 : decode cX6_hasRoomFor 12 = .ok (.isub, 1) := by decide +kernel
theorem dX6_hasRoomFor_13 : decode cX6_hasRoomFor 13 = .ok (.iload_n 2, 1) := by decide +kernel
theorem dX6_hasRoomFor_14 : decode cX6_hasRoomFor 14 = .ok (.if_icmp .lt 7, 3) := by decide +kernel
theorem dX6_hasRoomFor_17 : decode cX6_hasRoomFor 17 = .ok (.iconst 1, 1) := by decide +kernel
theorem dX6_hasRoomFor_18 : decode cX6_hasRoomFor 18 = .ok (.goto 4, 3) := by decide +kernel
theorem dX6_hasRoomFor_21 : decode cX6_hasRoomFor 21 = .ok (.iconst 0, 1) := by decide +kernel
theorem dX6_hasRoomFor_22 : decode cX6_hasRoomFor 22 = .ok (.ireturn, 1) := by decide +kernel
theorem dX6_takeIn_0 : decode cX6_takeIn 0 = .ok (.aload_n 0, 1) := by decide +kernel
theorem dX6_takeIn_1 : decode cX6_takeIn 1 = .ok (.getfield 15, 3) := by decide +kernel
theorem dX6_takeIn_4 : decode cX6_takeIn 4 = .ok (.iload_n 1, 1) := by decide +kernel
theorem dX6_takeIn_5 : decode cX6_takeIn 5 = .ok (.dup2, 1) := by decide +kernel
theorem dX6_takeIn_6 : decode cX6_takeIn 6 = .ok (.iaload, 1) := by decide +kernel
theorem dX6_takeIn_7 : decode cX6_takeIn 7 = .ok (.iload_n 2, 1) := by decide +kernel
theorem dX6_takeIn_8 : decode cX6_takeIn 8 = .ok (.iadd, 1) := by decide +kernel
theorem dX6_takeIn_9 : decode cX6_takeIn 9 = .ok (.iastore, 1) := by decide +kernel
theorem dX6_takeIn_10 : decode cX6_takeIn 10 = .ok (.aload_n 0, 1) := by decide +kernel
theorem dX6_takeIn_11 : decode cX6_takeIn 11 = .ok (.getfield 18, 3) := by decide +kernel
theorem dX6_takeIn_14 : decode cX6_takeIn 14 = .ok (.iload_n 1, 1) := by decide +kernel
theorem dX6_takeIn_15 : decode cX6_takeIn 15 = .ok (.dup2, 1) := by decide +kernel
theorem dX6_takeIn_16 : decode cX6_takeIn 16 = .ok (.iaload, 1) := by decide +kernel
theorem dX6_takeIn_17 : decode cX6_takeIn 17 = .ok (.iconst 1, 1) := by decide +kernel
theorem dX6_takeIn_18 : decode cX6_takeIn 18 = .ok (.iadd, 1) := by decide +kernel
theorem dX6_takeIn_19 : decode cX6_takeIn 19 = .ok (.iastore, 1) := by decide +kernel
theorem dX6_takeIn_20 : decode cX6_takeIn 20 = .ok (.return_, 1) := by decide +kernel
theorem dX6_nearestWithRoom_0 : decode cX6_nearestWithRoom 0 = .ok (.iconst (-1), 1) := by decide +kernel
theorem dX6_nearestWithRoom_1 : decode cX6_nearestWithRoom 1 = .ok (.istore_n 3, 1) := by decide +kernel
theorem dX6_nearestWithRoom_2 : decode cX6_nearestWithRoom 2 = .ok (.iconst (-1), 1) := by decide +kernel
theorem dX6_nearestWithRoom_3 : decode cX6_nearestWithRoom 3 = .ok (.istore 4, 2) := by decide +kernel
theorem dX6_nearestWithRoom_5 : decode cX6_nearestWithRoom 5 = .ok (.iconst 0, 1) := by decide +kernel
theorem dX6_nearestWithRoom_6 : decode cX6_nearestWithRoom 6 = .ok (.istore 5, 2) := by decide +kernel
theorem dX6_nearestWithRoom_8 : decode cX6_nearestWithRoom 8 = .ok (.iload 5, 2) := by decide +kernel
theorem dX6_nearestWithRoom_10 : decode cX6_nearestWithRoom 10 = .ok (.aload_n 0, 1) := by decide +kernel
theorem dX6_nearestWithRoom_11 : decode cX6_nearestWithRoom 11 = .ok (.getfield 21, 3) := by decide +kernel
theorem dX6_nearestWithRoom_14 : decode cX6_nearestWithRoom 14 = .ok (.if_icmp .ge 47, 3) := by decide +kernel
theorem dX6_nearestWithRoom_17 : decode cX6_nearestWithRoom 17 = .ok (.aload_n 0, 1) := by decide +kernel
theorem dX6_nearestWithRoom_18 : decode cX6_nearestWithRoom 18 = .ok (.iload 5, 2) := by decide +kernel
theorem dX6_nearestWithRoom_20 : decode cX6_nearestWithRoom 20 = .ok (.iload_n 1, 1) := by decide +kernel
theorem dX6_nearestWithRoom_21 : decode cX6_nearestWithRoom 21 = .ok (.invokevirtual 32, 3) := by decide +kernel
theorem dX6_nearestWithRoom_24 : decode cX6_nearestWithRoom 24 = .ok (.ifCond .eq 31, 3) := by decide +kernel
theorem dX6_nearestWithRoom_27 : decode cX6_nearestWithRoom 27 = .ok (.aload_n 2, 1) := by decide +kernel
theorem dX6_nearestWithRoom_28 : decode cX6_nearestWithRoom 28 = .ok (.aload_n 0, 1) := by decide +kernel
theorem dX6_nearestWithRoom_29 : decode cX6_nearestWithRoom 29 = .ok (.getfield 25, 3) := by decide +kernel
theorem dX6_nearestWithRoom_32 : decode cX6_nearestWithRoom 32 = .ok (.iload 5, 2) := by decide +kernel
theorem dX6_nearestWithRoom_34 : decode cX6_nearestWithRoom 34 = .ok (.iaload, 1) := by decide +kernel
theorem dX6_nearestWithRoom_35 : decode cX6_nearestWithRoom 35 = .ok (.iload 4, 2) := by decide +kernel
theorem dX6_nearestWithRoom_37 : decode cX6_nearestWithRoom 37 = .ok (.invokevirtual 36, 3) := by decide +kernel
theorem dX6_nearestWithRoom_40 : decode cX6_nearestWithRoom 40 = .ok (.ifCond .eq 15, 3) := by decide +kernel
theorem dX6_nearestWithRoom_43 : decode cX6_nearestWithRoom 43 = .ok (.iload 5, 2) := by decide +kernel
theorem dX6_nearestWithRoom_45 : decode cX6_nearestWithRoom 45 = .ok (.istore_n 3, 1) := by decide +kernel
theorem dX6_nearestWithRoom_46 : decode cX6_nearestWithRoom 46 = .ok (.aload_n 0, 1) := by decide +kernel
theorem dX6_nearestWithRoom_47 : decode cX6_nearestWithRoom 47 = .ok (.getfield 25, 3) := by decide +kernel
theorem dX6_nearestWithRoom_50 : decode cX6_nearestWithRoom 50 = .ok (.iload 5, 2) := by decide +kernel
theorem dX6_nearestWithRoom_52 : decode cX6_nearestWithRoom 52 = .ok (.iaload, 1) := by decide +kernel
theorem dX6_nearestWithRoom_53 : decode cX6_nearestWithRoom 53 = .ok (.istore 4, 2) := by decide +kernel
theorem dX6_nearestWithRoom_55 : decode cX6_nearestWithRoom 55 = .ok (.iinc 5 1, 3) := by decide +kernel
theorem dX6_nearestWithRoom_58 : decode cX6_nearestWithRoom 58 = .ok (.goto (-50), 3) := by decide +kernel
theorem dX6_nearestWithRoom_61 : decode cX6_nearestWithRoom 61 = .ok (.iload_n 3, 1) := by decide +kernel
theorem dX6_nearestWithRoom_62 : decode cX6_nearestWithRoom 62 = .ok (.ireturn, 1) := by decide +kernel
theorem dX6_tell_0 : decode cX6_tell 0 = .ok (.iload_n 2, 1) := by decide +kernel
theorem dX6_tell_1 : decode cX6_tell 1 = .ok (.tableswitch 57 0 3 #[31, 37, 43, 50], 31) := by decide +kernel
theorem dX6_tell_32 : decode cX6_tell 32 = .ok (.aload_n 0, 1) := by decide +kernel
theorem dX6_tell_33 : decode cX6_tell 33 = .ok (.iload_n 1, 1) := by decide +kernel
theorem dX6_tell_34 : decode cX6_tell 34 = .ok (.invokevirtual 41, 3) := by decide +kernel
theorem dX6_tell_37 : decode cX6_tell 37 = .ok (.ireturn, 1) := by decide +kernel
theorem dX6_tell_38 : decode cX6_tell 38 = .ok (.aload_n 0, 1) := by decide +kernel
theorem dX6_tell_39 : decode cX6_tell 39 = .ok (.iload_n 1, 1) := by decide +kernel
theorem dX6_tell_40 : decode cX6_tell 40 = .ok (.invokevirtual 45, 3) := by decide +kernel
theorem dX6_tell_43 : decode cX6_tell 43 = .ok (.ireturn, 1) := by decide +kernel
theorem dX6_tell_44 : decode cX6_tell 44 = .ok (.aload_n 0, 1) := by decide +kernel
theorem dX6_tell_45 : decode cX6_tell 45 = .ok (.getfield 9, 3) := by decide +kernel
theorem dX6_tell_48 : decode cX6_tell 48 = .ok (.iload_n 1, 1) := by decide +kernel
theorem dX6_tell_49 : decode cX6_tell 49 = .ok (.iaload, 1) := by decide +kernel
theorem dX6_tell_50 : decode cX6_tell 50 = .ok (.ireturn, 1) := by decide +kernel
theorem dX6_tell_51 : decode cX6_tell 51 = .ok (.aload_n 0, 1) := by decide +kernel
theorem dX6_tell_52 : decode cX6_tell 52 = .ok (.getfield 15, 3) := by decide +kernel
theorem dX6_tell_55 : decode cX6_tell 55 = .ok (.iload_n 1, 1) := by decide +kernel
theorem dX6_tell_56 : decode cX6_tell 56 = .ok (.iaload, 1) := by decide +kernel
theorem dX6_tell_57 : decode cX6_tell 57 = .ok (.ireturn, 1) := by decide +kernel
theorem dX6_tell_58 : decode cX6_tell 58 = .ok (.aload_n 0, 1) := by decide +kernel
theorem dX6_tell_59 : decode cX6_tell 59 = .ok (.getfield 18, 3) := by decide +kernel
theorem dX6_tell_62 : decode cX6_tell 62 = .ok (.iload_n 1, 1) := by decide +kernel
theorem dX6_tell_63 : decode cX6_tell 63 = .ok (.iaload, 1) := by decide +kernel
theorem dX6_tell_64 : decode cX6_tell 64 = .ok (.ireturn, 1) := by decide +kernel
theorem dX7_init_0 : decode cX7_init 0 = .ok (.aload_n 0, 1) := by decide +kernel
theorem dX7_init_1 : decode cX7_init 1 = .ok (.invokespecial 3, 3) := by decide +kernel
theorem dX7_init_4 : decode cX7_init 4 = .ok (.aload_n 0, 1) := by decide +kernel
theorem dX7_init_5 : decode cX7_init 5 = .ok (.new 9, 3) := by decide +kernel
theorem dX7_init_8 : decode cX7_init 8 = .ok (.dup, 1) := by decide +kernel
theorem dX7_init_9 : decode cX7_init 9 = .ok (.invokespecial 11, 3) := by decide +kernel
theorem dX7_init_12 : decode cX7_init 12 = .ok (.putfield 12, 3) := by decide +kernel
theorem dX7_init_15 : decode cX7_init 15 = .ok (.aload_n 0, 1) := by decide +kernel
theorem dX7_init_16 : decode cX7_init 16 = .ok (.new 18, 3) := by decide +kernel
theorem dX7_init_19 : decode cX7_init 19 = .ok (.dup, 1) := by decide +kernel
theorem dX7_init_20 : decode cX7_init 20 = .ok (.invokespecial 20, 3) := by decide +kernel
theorem dX7_init_23 : decode cX7_init 23 = .ok (.putfield 21, 3) := by decide +kernel
theorem dX7_init_26 : decode cX7_init 26 = .ok (.aload_n 0, 1) := by decide +kernel
theorem dX7_init_27 : decode cX7_init 27 = .ok (.new 25, 3) := by decide +kernel
theorem dX7_init_30 : decode cX7_init 30 = .ok (.dup, 1) := by decide +kernel
theorem dX7_init_31 : decode cX7_init 31 = .ok (.invokespecial 27, 3) := by decide +kernel
theorem dX7_init_34 : decode cX7_init 34 = .ok (.putfield 28, 3) := by decide +kernel
theorem dX7_init_37 : decode cX7_init 37 = .ok (.aload_n 0, 1) := by decide +kernel
theorem dX7_init_38 : decode cX7_init 38 = .ok (.new 32, 3) := by decide +kernel
theorem dX7_init_41 : decode cX7_init 41 = .ok (.dup, 1) := by decide +kernel
theorem dX7_init_42 : decode cX7_init 42 = .ok (.invokespecial 34, 3) := by decide +kernel
theorem dX7_init_45 : decode cX7_init 45 = .ok (.putfield 35, 3) := by decide +kernel
theorem dX7_init_48 : decode cX7_init 48 = .ok (.aload_n 0, 1) := by decide +kernel
theorem dX7_init_49 : decode cX7_init 49 = .ok (.new 39, 3) := by decide +kernel
theorem dX7_init_52 : decode cX7_init 52 = .ok (.dup, 1) := by decide +kernel
theorem dX7_init_53 : decode cX7_init 53 = .ok (.invokespecial 41, 3) := by decide +kernel
theorem dX7_init_56 : decode cX7_init 56 = .ok (.putfield 42, 3) := by decide +kernel
theorem dX7_init_59 : decode cX7_init 59 = .ok (.aload_n 0, 1) := by decide +kernel
theorem dX7_init_60 : decode cX7_init 60 = .ok (.new 46, 3) := by decide +kernel
theorem dX7_init_63 : decode cX7_init 63 = .ok (.dup, 1) := by decide +kernel
theorem dX7_init_64 : decode cX7_init 64 = .ok (.invokespecial 48, 3) := by decide +kernel
theorem dX7_init_67 : decode cX7_init 67 = .ok (.putfield 49, 3) := by decide +kernel
theorem dX7_init_70 : decode cX7_init 70 = .ok (.aload_n 0, 1) := by decide +kernel
theorem dX7_init_71 : decode cX7_init 71 = .ok (.new 53, 3) := by decide +kernel
theorem dX7_init_74 : decode cX7_init 74 = .ok (.dup, 1) := by decide +kernel
theorem dX7_init_75 : decode cX7_init 75 = .ok (.invokespecial 55, 3) := by decide +kernel
theorem dX7_init_78 : decode cX7_init 78 = .ok (.putfield 56, 3) := by decide +kernel
theorem dX7_init_81 : decode cX7_init 81 = .ok (.return_, 1) := by decide +kernel
theorem dX7_copyFrom_0 : decode cX7_copyFrom 0 = .ok (.aload_n 0, 1) := by decide +kernel
theorem dX7_copyFrom_1 : decode cX7_copyFrom 1 = .ok (.aload_n 1, 1) := by decide +kernel
theorem dX7_copyFrom_2 : decode cX7_copyFrom 2 = .ok (.getfield 60, 3) := by decide +kernel
theorem dX7_copyFrom_5 : decode cX7_copyFrom 5 = .ok (.putfield 60, 3) := by decide +kernel
theorem dX7_copyFrom_8 : decode cX7_copyFrom 8 = .ok (.aload_n 0, 1) := by decide +kernel
theorem dX7_copyFrom_9 : decode cX7_copyFrom 9 = .ok (.getfield 12, 3) := by decide +kernel
theorem dX7_copyFrom_12 : decode cX7_copyFrom 12 = .ok (.aload_n 1, 1) := by decide +kernel
theorem dX7_copyFrom_13 : decode cX7_copyFrom 13 = .ok (.getfield 12, 3) := by decide +kernel
theorem dX7_copyFrom_16 : decode cX7_copyFrom 16 = .ok (.invokevirtual 64, 3) := by decide +kernel
theorem dX7_copyFrom_19 : decode cX7_copyFrom 19 = .ok (.aload_n 0, 1) := by decide +kernel
theorem dX7_copyFrom_20 : decode cX7_copyFrom 20 = .ok (.getfield 21, 3) := by decide +kernel
theorem dX7_copyFrom_23 : decode cX7_copyFrom 23 = .ok (.aload_n 1, 1) := by decide +kernel
theorem dX7_copyFrom_24 : decode cX7_copyFrom 24 = .ok (.getfield 21, 3) := by decide +kernel
theorem dX7_copyFrom_27 : decode cX7_copyFrom 27 = .ok (.invokevirtual 68, 3) := by decide +kernel
theorem dX7_copyFrom_30 : decode cX7_copyFrom 30 = .ok (.aload_n 0, 1) := by decide +kernel
theorem dX7_copyFrom_31 : decode cX7_copyFrom 31 = .ok (.getfield 28, 3) := by decide +kernel
theorem dX7_copyFrom_34 : decode cX7_copyFrom 34 = .ok (.aload_n 1, 1) := by decide +kernel
theorem dX7_copyFrom_35 : decode cX7_copyFrom 35 = .ok (.getfield 28, 3) := by decide +kernel
theorem dX7_copyFrom_38 : decode cX7_copyFrom 38 = .ok (.invokevirtual 71, 3) := by decide +kernel
theorem dX7_copyFrom_41 : decode cX7_copyFrom 41 = .ok (.aload_n 0, 1) := by decide +kernel
theorem dX7_copyFrom_42 : decode cX7_copyFrom 42 = .ok (.getfield 35, 3) := by decide +kernel
theorem dX7_copyFrom_45 : decode cX7_copyFrom 45 = .ok (.aload_n 1, 1) := by decide +kernel
theorem dX7_copyFrom_46 : decode cX7_copyFrom 46 = .ok (.getfield 35, 3) := by decide +kernel
theorem dX7_copyFrom_49 : decode cX7_copyFrom 49 = .ok (.invokevirtual 74, 3) := by decide +kernel
theorem dX7_copyFrom_52 : decode cX7_copyFrom 52 = .ok (.aload_n 0, 1) := by decide +kernel
theorem dX7_copyFrom_53 : decode cX7_copyFrom 53 = .ok (.getfield 42, 3) := by decide +kernel
theorem dX7_copyFrom_56 : decode cX7_copyFrom 56 = .ok (.aload_n 1, 1) := by decide +kernel
theorem dX7_copyFrom_57 : decode cX7_copyFrom 57 = .ok (.getfield 42, 3) := by decide +kernel
theorem dX7_copyFrom_60 : decode cX7_copyFrom 60 = .ok (.invokevirtual 77, 3) := by decide +kernel
theorem dX7_copyFrom_63 : decode cX7_copyFrom 63 = .ok (.aload_n 0, 1) := by decide +kernel
theorem dX7_copyFrom_64 : decode cX7_copyFrom 64 = .ok (.getfield 49, 3) := by decide +kernel
theorem dX7_copyFrom_67 : decode cX7_copyFrom 67 = .ok (.aload_n 1, 1) := by decide +kernel
theorem dX7_copyFrom_68 : decode cX7_copyFrom 68 = .ok (.getfield 49, 3) := by decide +kernel
theorem dX7_copyFrom_71 : decode cX7_copyFrom 71 = .ok (.invokevirtual 80, 3) := by decide +kernel
theorem dX7_copyFrom_74 : decode cX7_copyFrom 74 = .ok (.return_, 1) := by decide +kernel
theorem dX7_passHours_0 : decode cX7_passHours 0 = .ok (.iconst 0, 1) := by decide +kernel
theorem dX7_passHours_1 : decode cX7_passHours 1 = .ok (.istore_n 2, 1) := by decide +kernel
theorem dX7_passHours_2 : decode cX7_passHours 2 = .ok (.iload_n 2, 1) := by decide +kernel
theorem dX7_passHours_3 : decode cX7_passHours 3 = .ok (.iload_n 1, 1) := by decide +kernel
theorem dX7_passHours_4 : decode cX7_passHours 4 = .ok (.if_icmp .ge 13, 3) := by decide +kernel
theorem dX7_passHours_7 : decode cX7_passHours 7 = .ok (.aload_n 0, 1) := by decide +kernel
theorem dX7_passHours_8 : decode cX7_passHours 8 = .ok (.invokevirtual 83, 3) := by decide +kernel
theorem dX7_passHours_11 : decode cX7_passHours 11 = .ok (.iinc 2 1, 3) := by decide +kernel
theorem dX7_passHours_14 : decode cX7_passHours 14 = .ok (.goto (-12), 3) := by decide +kernel
theorem dX7_passHours_17 : decode cX7_passHours 17 = .ok (.return_, 1) := by decide +kernel
theorem dX7_passHour_0 : decode cX7_passHour 0 = .ok (.aload_n 0, 1) := by decide +kernel
theorem dX7_passHour_1 : decode cX7_passHour 1 = .ok (.invokevirtual 86, 3) := by decide +kernel
theorem dX7_passHour_4 : decode cX7_passHour 4 = .ok (.aload_n 0, 1) := by decide +kernel
theorem dX7_passHour_5 : decode cX7_passHour 5 = .ok (.getfield 28, 3) := by decide +kernel
theorem dX7_passHour_8 : decode cX7_passHour 8 = .ok (.aload_n 0, 1) := by decide +kernel
theorem dX7_passHour_9 : decode cX7_passHour 9 = .ok (.getfield 12, 3) := by decide +kernel
theorem dX7_passHour_12 : decode cX7_passHour 12 = .ok (.invokevirtual 89, 3) := by decide +kernel
theorem dX7_passHour_15 : decode cX7_passHour 15 = .ok (.ifCond .le 22, 3) := by decide +kernel
theorem dX7_passHour_18 : decode cX7_passHour 18 = .ok (.aload_n 0, 1) := by decide +kernel
theorem dX7_passHour_19 : decode cX7_passHour 19 = .ok (.getfield 49, 3) := by decide +kernel
theorem dX7_passHour_22 : decode cX7_passHour 22 = .ok (.aload_n 0, 1) := by decide +kernel
theorem dX7_passHour_23 : decode cX7_passHour 23 = .ok (.getfield 42, 3) := by decide +kernel
theorem dX7_passHour_26 : decode cX7_passHour 26 = .ok (.aload_n 0, 1) := by decide +kernel
theorem dX7_passHour_27 : decode cX7_passHour 27 = .ok (.getfield 56, 3) := by decide +kernel
theorem dX7_passHour_30 : decode cX7_passHour 30 = .ok (.aload_n 0, 1) := by decide +kernel
theorem dX7_passHour_31 : decode cX7_passHour 31 = .ok (.getfield 12, 3) := by decide +kernel
theorem dX7_passHour_34 : decode cX7_passHour 34 = .ok (.invokevirtual 93, 3) := by decide +kernel
theorem dX7_passHour_37 : decode cX7_passHour 37 = .ok (.aload_n 0, 1) := by decide +kernel
theorem dX7_passHour_38 : decode cX7_passHour 38 = .ok (.getfield 42, 3) := by decide +kernel
theorem dX7_passHour_41 : decode cX7_passHour 41 = .ok (.aload_n 0, 1) := by decide +kernel
theorem dX7_passHour_42 : decode cX7_passHour 42 = .ok (.getfield 35, 3) := by decide +kernel
theorem dX7_passHour_45 : decode cX7_passHour 45 = .ok (.aload_n 0, 1) := by decide +kernel
theorem dX7_passHour_46 : decode cX7_passHour 46 = .ok (.getfield 56, 3) := by decide +kernel
theorem dX7_passHour_49 : decode cX7_passHour 49 = .ok (.aload_n 0, 1) := by decide +kernel
theorem dX7_passHour_50 : decode cX7_passHour 50 = .ok (.getfield 12, 3) := by decide +kernel
theorem dX7_passHour_53 : decode cX7_passHour 53 = .ok (.invokevirtual 97, 3) := by decide +kernel
theorem dX7_passHour_56 : decode cX7_passHour 56 = .ok (.aload_n 0, 1) := by decide +kernel
theorem dX7_passHour_57 : decode cX7_passHour 57 = .ok (.getfield 42, 3) := by decide +kernel
theorem dX7_passHour_60 : decode cX7_passHour 60 = .ok (.aload_n 0, 1) := by decide +kernel
theorem dX7_passHour_61 : decode cX7_passHour 61 = .ok (.getfield 12, 3) := by decide +kernel
theorem dX7_passHour_64 : decode cX7_passHour 64 = .ok (.invokevirtual 101, 3) := by decide +kernel
theorem dX7_passHour_67 : decode cX7_passHour 67 = .ok (.return_, 1) := by decide +kernel
theorem dX7_passWaterHour_0 : decode cX7_passWaterHour 0 = .ok (.aload_n 0, 1) := by decide +kernel
theorem dX7_passWaterHour_1 : decode cX7_passWaterHour 1 = .ok (.getfield 12, 3) := by decide +kernel
theorem dX7_passWaterHour_4 : decode cX7_passWaterHour 4 = .ok (.aload_n 0, 1) := by decide +kernel
theorem dX7_passWaterHour_5 : decode cX7_passWaterHour 5 = .ok (.getfield 60, 3) := by decide +kernel
theorem dX7_passWaterHour_8 : decode cX7_passWaterHour 8 = .ok (.invokevirtual 104, 3) := by decide +kernel
theorem dX7_passWaterHour_11 : decode cX7_passWaterHour 11 = .ok (.aload_n 0, 1) := by decide +kernel
theorem dX7_passWaterHour_12 : decode cX7_passWaterHour 12 = .ok (.getfield 12, 3) := by decide +kernel
theorem dX7_passWaterHour_15 : decode cX7_passWaterHour 15 = .ok (.invokevirtual 108, 3) := by decide +kernel
theorem dX7_passWaterHour_18 : decode cX7_passWaterHour 18 = .ok (.aload_n 0, 1) := by decide +kernel
theorem dX7_passWaterHour_19 : decode cX7_passWaterHour 19 = .ok (.getfield 21, 3) := by decide +kernel
theorem dX7_passWaterHour_22 : decode cX7_passWaterHour 22 = .ok (.aload_n 0, 1) := by decide +kernel
theorem dX7_passWaterHour_23 : decode cX7_passWaterHour 23 = .ok (.getfield 12, 3) := by decide +kernel
theorem dX7_passWaterHour_26 : decode cX7_passWaterHour 26 = .ok (.invokevirtual 111, 3) := by decide +kernel
theorem dX7_passWaterHour_29 : decode cX7_passWaterHour 29 = .ok (.aload_n 0, 1) := by decide +kernel
theorem dX7_passWaterHour_30 : decode cX7_passWaterHour 30 = .ok (.dup, 1) := by decide +kernel
theorem dX7_passWaterHour_31 : decode cX7_passWaterHour 31 = .ok (.getfield 60, 3) := by decide +kernel
theorem dX7_passWaterHour_34 : decode cX7_passWaterHour 34 = .ok (.iconst 1, 1) := by decide +kernel
theorem dX7_passWaterHour_35 : decode cX7_passWaterHour 35 = .ok (.iadd, 1) := by decide +kernel
theorem dX7_passWaterHour_36 : decode cX7_passWaterHour 36 = .ok (.putfield 60, 3) := by decide +kernel
theorem dX7_passWaterHour_39 : decode cX7_passWaterHour 39 = .ok (.return_, 1) := by decide +kernel
theorem dX7_tellCell_0 : decode cX7_tellCell 0 = .ok (.iload_n 2, 1) := by decide +kernel
theorem dX7_tellCell_1 : decode cX7_tellCell 1 = .ok (.tableswitch 83 0 4 #[35, 45, 55, 65, 74], 35) := by decide +kernel
theorem dX7_tellCell_36 : decode cX7_tellCell 36 = .ok (.aload_n 0, 1) := by decide +kernel
theorem dX7_tellCell_37 : decode cX7_tellCell 37 = .ok (.getfield 12, 3) := by decide +kernel
theorem dX7_tellCell_40 : decode cX7_tellCell 40 = .ok (.getfield 114, 3) := by decide +kernel
theorem dX7_tellCell_43 : decode cX7_tellCell 43 = .ok (.iload_n 1, 1) := by decide +kernel
theorem dX7_tellCell_44 : decode cX7_tellCell 44 = .ok (.iaload, 1) := by decide +kernel
theorem dX7_tellCell_45 : decode cX7_tellCell 45 = .ok (.ireturn, 1) := by decide +kernel
theorem dX7_tellCell_46 : decode cX7_tellCell 46 = .ok (.aload_n 0, 1) := by decide +kernel
theorem dX7_tellCell_47 : decode cX7_tellCell 47 = .ok (.getfield 12, 3) := by decide +kernel
theorem dX7_tellCell_50 : decode cX7_tellCell 50 = .ok (.getfield 118, 3) := by decide +kernel
theorem dX7_tellCell_53 : decode cX7_tellCell 53 = .ok (.iload_n 1, 1) := by decide +kernel
theorem dX7_tellCell_54 : decode cX7_tellCell 54 = .ok (.iaload, 1) := by decide +kernel
theorem dX7_tellCell_55 : decode cX7_tellCell 55 = .ok (.ireturn, 1) := by decide +kernel
theorem dX7_tellCell_56 : decode cX7_tellCell 56 = .ok (.aload_n 0, 1) := by decide +kernel
theorem dX7_tellCell_57 : decode cX7_tellCell 57 = .ok (.getfield 12, 3) := by decide +kernel
theorem dX7_tellCell_60 : decode cX7_tellCell 60 = .ok (.getfield 121, 3) := by decide +kernel
theorem dX7_tellCell_63 : decode cX7_tellCell 63 = .ok (.iload_n 1, 1) := by decide +kernel
theorem dX7_tellCell_64 : decode cX7_tellCell 64 = .ok (.iaload, 1) := by decide +kernel
theorem dX7_tellCell_65 : decode cX7_tellCell 65 = .ok (.ireturn, 1) := by decide +kernel
theorem dX7_tellCell_66 : decode cX7_tellCell 66 = .ok (.aload_n 0, 1) := by decide +kernel
theorem dX7_tellCell_67 : decode cX7_tellCell 67 = .ok (.getfield 12, 3) := by decide +kernel
theorem dX7_tellCell_70 : decode cX7_tellCell 70 = .ok (.iload_n 1, 1) := by decide +kernel
theorem dX7_tellCell_71 : decode cX7_tellCell 71 = .ok (.invokevirtual 124, 3) := by decide +kernel
theorem dX7_tellCell_74 : decode cX7_tellCell 74 = .ok (.ireturn, 1) := by decide +kernel
theorem dX7_tellCell_75 : decode cX7_tellCell 75 = .ok (.aload_n 0, 1) := by decide +kernel
theorem dX7_tellCell_76 : decode cX7_tellCell 76 = .ok (.getfield 42, 3) := by decide +kernel
theorem dX7_tellCell_79 : decode cX7_tellCell 79 = .ok (.iload_n 1, 1) := by decide +kernel
theorem dX7_tellCell_80 : decode cX7_tellCell 80 = .ok (.invokevirtual 128, 3) := by decide +kernel
theorem dX7_tellCell_83 : decode cX7_tellCell 83 = .ok (.ireturn, 1) := by decide +kernel
theorem dX7_tellCell_84 : decode cX7_tellCell 84 = .ok (.aload_n 0, 1) := by decide +kernel
theorem dX7_tellCell_85 : decode cX7_tellCell 85 = .ok (.getfield 12, 3) := by decide +kernel
theorem dX7_tellCell_88 : decode cX7_tellCell 88 = .ok (.iload_n 1, 1) := by decide +kernel
theorem dX7_tellCell_89 : decode cX7_tellCell 89 = .ok (.invokevirtual 131, 3) := by decide +kernel
theorem dX7_tellCell_92 : decode cX7_tellCell 92 = .ok (.ifCond .eq 7, 3) := by decide +kernel
theorem dX7_tellCell_95 : decode cX7_tellCell 95 = .ok (.iconst 1, 1) := by decide +kernel
theorem dX7_tellCell_96 : decode cX7_tellCell 96 = .ok (.goto 4, 3) := by decide +kernel
theorem dX7_tellCell_99 : decode cX7_tellCell 99 = .ok (.iconst 0, 1) := by decide +kernel
theorem dX7_tellCell_100 : decode cX7_tellCell 100 = .ok (.ireturn, 1) := by decide +kernel
theorem dX7_tellHousehold_0 : decode cX7_tellHousehold 0 = .ok (.iload_n 2, 1) := by decide +kernel
theorem dX7_tellHousehold_1 : decode cX7_tellHousehold 1 = .ok (.tableswitch 69 0 3 #[31, 40, 49, 59], 31) := by decide +kernel
theorem dX7_tellHousehold_32 : decode cX7_tellHousehold 32 = .ok (.aload_n 0, 1) := by decide +kernel
theorem dX7_tellHousehold_33 : decode cX7_tellHousehold 33 = .ok (.getfield 42, 3) := by decide +kernel
theorem dX7_tellHousehold_36 : decode cX7_tellHousehold 36 = .ok (.iload_n 1, 1) := by decide +kernel
theorem dX7_tellHousehold_37 : decode cX7_tellHousehold 37 = .ok (.invokevirtual 135, 3) := by decide +kernel
theorem dX7_tellHousehold_40 : decode cX7_tellHousehold 40 = .ok (.ireturn, 1) := by decide +kernel
theorem dX7_tellHousehold_41 : decode cX7_tellHousehold 41 = .ok (.aload_n 0, 1) := by decide +kernel
theorem dX7_tellHousehold_42 : decode cX7_tellHousehold 42 = .ok (.getfield 42, 3) := by decide +kernel
theorem dX7_tellHousehold_45 : decode cX7_tellHousehold 45 = .ok (.iload_n 1, 1) := by decide +kernel
theorem dX7_tellHousehold_46 : decode cX7_tellHousehold 46 = .ok (.invokevirtual 138, 3) := by decide +kernel
theorem dX7_tellHousehold_49 : decode cX7_tellHousehold 49 = .ok (.ireturn, 1) := by decide +kernel
theorem dX7_tellHousehold_50 : decode cX7_tellHousehold 50 = .ok (.aload_n 0, 1) := by decide +kernel
theorem dX7_tellHousehold_51 : decode cX7_tellHousehold 51 = .ok (.getfield 42, 3) := by decide +kernel
theorem dX7_tellHousehold_54 : decode cX7_tellHousehold 54 = .ok (.getfield 141, 3) := by decide +kernel
theorem dX7_tellHousehold_57 : decode cX7_tellHousehold 57 = .ok (.iload_n 1, 1) := by decide +kernel
theorem dX7_tellHousehold_58 : decode cX7_tellHousehold 58 = .ok (.iaload, 1) := by decide +kernel
theorem dX7_tellHousehold_59 : decode cX7_tellHousehold 59 = .ok (.ireturn, 1) := by decide +kernel
theorem dX7_tellHousehold_60 : decode cX7_tellHousehold 60 = .ok (.aload_n 0, 1) := by decide +kernel
theorem dX7_tellHousehold_61 : decode cX7_tellHousehold 61 = .ok (.getfield 42, 3) := by decide +kernel
theorem dX7_tellHousehold_64 : decode cX7_tellHousehold 64 = .ok (.getfield 144, 3) := by decide +kernel
theorem dX7_tellHousehold_67 : decode cX7_tellHousehold 67 = .ok (.iload_n 1, 1) := by decide +kernel
theorem dX7_tellHousehold_68 : decode cX7_tellHousehold 68 = .ok (.iaload, 1) := by decide +kernel
theorem dX7_tellHousehold_69 : decode cX7_tellHousehold 69 = .ok (.ireturn, 1) := by decide +kernel
theorem dX7_tellHousehold_70 : decode cX7_tellHousehold 70 = .ok (.aload_n 0, 1) := by decide +kernel
theorem dX7_tellHousehold_71 : decode cX7_tellHousehold 71 = .ok (.iload_n 1, 1) := by decide +kernel
theorem dX7_tellHousehold_72 : decode cX7_tellHousehold 72 = .ok (.invokevirtual 147, 3) := by decide +kernel
theorem dX7_tellHousehold_75 : decode cX7_tellHousehold 75 = .ok (.ireturn, 1) := by decide +kernel
theorem dX7_stepsToRefuge_0 : decode cX7_stepsToRefuge 0 = .ok (.aload_n 0, 1) := by decide +kernel
theorem dX7_stepsToRefuge_1 : decode cX7_stepsToRefuge 1 = .ok (.getfield 42, 3) := by decide +kernel
theorem dX7_stepsToRefuge_4 : decode cX7_stepsToRefuge 4 = .ok (.getfield 144, 3) := by decide +kernel
theorem dX7_stepsToRefuge_7 : decode cX7_stepsToRefuge 7 = .ok (.iload_n 1, 1) := by decide +kernel
theorem dX7_stepsToRefuge_8 : decode cX7_stepsToRefuge 8 = .ok (.iaload, 1) := by decide +kernel
theorem dX7_stepsToRefuge_9 : decode cX7_stepsToRefuge 9 = .ok (.iconst 2, 1) := by decide +kernel
theorem dX7_stepsToRefuge_10 : decode cX7_stepsToRefuge 10 = .ok (.if_icmp .ne 5, 3) := by decide +kernel
theorem dX7_stepsToRefuge_13 : decode cX7_stepsToRefuge 13 = .ok (.iconst 0, 1) := by decide +kernel
theorem dX7_stepsToRefuge_14 : decode cX7_stepsToRefuge 14 = .ok (.ireturn, 1) := by decide +kernel
theorem dX7_stepsToRefuge_15 : decode cX7_stepsToRefuge 15 = .ok (.aload_n 0, 1) := by decide +kernel
theorem dX7_stepsToRefuge_16 : decode cX7_stepsToRefuge 16 = .ok (.getfield 42, 3) := by decide +kernel
theorem dX7_stepsToRefuge_19 : decode cX7_stepsToRefuge 19 = .ok (.getfield 144, 3) := by decide +kernel
theorem dX7_stepsToRefuge_22 : decode cX7_stepsToRefuge 22 = .ok (.iload_n 1, 1) := by decide +kernel
theorem dX7_stepsToRefuge_23 : decode cX7_stepsToRefuge 23 = .ok (.iaload, 1) := by decide +kernel
theorem dX7_stepsToRefuge_24 : decode cX7_stepsToRefuge 24 = .ok (.iconst 3, 1) := by decide +kernel
theorem dX7_stepsToRefuge_25 : decode cX7_stepsToRefuge 25 = .ok (.if_icmp .ne 5, 3) := by decide +kernel
theorem dX7_stepsToRefuge_28 : decode cX7_stepsToRefuge 28 = .ok (.iconst (-1), 1) := by decide +kernel
theorem dX7_stepsToRefuge_29 : decode cX7_stepsToRefuge 29 = .ok (.ireturn, 1) := by decide +kernel
theorem dX7_stepsToRefuge_30 : decode cX7_stepsToRefuge 30 = .ok (.aload_n 0, 1) := by decide +kernel
theorem dX7_stepsToRefuge_31 : decode cX7_stepsToRefuge 31 = .ok (.getfield 56, 3) := by decide +kernel
theorem dX7_stepsToRefuge_34 : decode cX7_stepsToRefuge 34 = .ok (.aload_n 0, 1) := by decide +kernel
theorem dX7_stepsToRefuge_35 : decode cX7_stepsToRefuge 35 = .ok (.getfield 42, 3) := by decide +kernel
theorem dX7_stepsToRefuge_38 : decode cX7_stepsToRefuge 38 = .ok (.getfield 150, 3) := by decide +kernel
theorem dX7_stepsToRefuge_41 : decode cX7_stepsToRefuge 41 = .ok (.iload_n 1, 1) := by decide +kernel
theorem dX7_stepsToRefuge_42 : decode cX7_stepsToRefuge 42 = .ok (.iaload, 1) := by decide +kernel
theorem dX7_stepsToRefuge_43 : decode cX7_stepsToRefuge 43 = .ok (.aload_n 0, 1) := by decide +kernel
theorem dX7_stepsToRefuge_44 : decode cX7_stepsToRefuge 44 = .ok (.getfield 12, 3) := by decide +kernel
theorem dX7_stepsToRefuge_47 : decode cX7_stepsToRefuge 47 = .ok (.invokevirtual 153, 3) := by decide +kernel
theorem dX7_stepsToRefuge_50 : decode cX7_stepsToRefuge 50 = .ok (.aload_n 0, 1) := by decide +kernel
theorem dX7_stepsToRefuge_51 : decode cX7_stepsToRefuge 51 = .ok (.getfield 35, 3) := by decide +kernel
theorem dX7_stepsToRefuge_54 : decode cX7_stepsToRefuge 54 = .ok (.aload_n 0, 1) := by decide +kernel
theorem dX7_stepsToRefuge_55 : decode cX7_stepsToRefuge 55 = .ok (.getfield 42, 3) := by decide +kernel
theorem dX7_stepsToRefuge_58 : decode cX7_stepsToRefuge 58 = .ok (.getfield 141, 3) := by decide +kernel
theorem dX7_stepsToRefuge_61 : decode cX7_stepsToRefuge 61 = .ok (.iload_n 1, 1) := by decide +kernel
theorem dX7_stepsToRefuge_62 : decode cX7_stepsToRefuge 62 = .ok (.iaload, 1) := by decide +kernel
theorem dX7_stepsToRefuge_63 : decode cX7_stepsToRefuge 63 = .ok (.aload_n 0, 1) := by decide +kernel
theorem dX7_stepsToRefuge_64 : decode cX7_stepsToRefuge 64 = .ok (.getfield 56, 3) := by decide +kernel
theorem dX7_stepsToRefuge_67 : decode cX7_stepsToRefuge 67 = .ok (.invokevirtual 157, 3) := by decide +kernel
theorem dX7_stepsToRefuge_70 : decode cX7_stepsToRefuge 70 = .ok (.istore_n 2, 1) := by decide +kernel
theorem dX7_stepsToRefuge_71 : decode cX7_stepsToRefuge 71 = .ok (.iload_n 2, 1) := by decide +kernel
theorem dX7_stepsToRefuge_72 : decode cX7_stepsToRefuge 72 = .ok (.iconst (-1), 1) := by decide +kernel
theorem dX7_stepsToRefuge_73 : decode cX7_stepsToRefuge 73 = .ok (.if_icmp .ne 7, 3) := by decide +kernel
theorem dX7_stepsToRefuge_76 : decode cX7_stepsToRefuge 76 = .ok (.iconst (-1), 1) := by decide +kernel
theorem dX7_stepsToRefuge_77 : decode cX7_stepsToRefuge 77 = .ok (.goto 20, 3) := by decide +kernel
theorem dX7_stepsToRefuge_80 : decode cX7_stepsToRefuge 80 = .ok (.aload_n 0, 1) := by decide +kernel
theorem dX7_stepsToRefuge_81 : decode cX7_stepsToRefuge 81 = .ok (.getfield 56, 3) := by decide +kernel
theorem dX7_stepsToRefuge_84 : decode cX7_stepsToRefuge 84 = .ok (.getfield 161, 3) := by decide +kernel
theorem dX7_stepsToRefuge_87 : decode cX7_stepsToRefuge 87 = .ok (.aload_n 0, 1) := by decide +kernel
theorem dX7_stepsToRefuge_88 : decode cX7_stepsToRefuge 88 = .ok (.getfield 35, 3) := by decide +kernel
theorem dX7_stepsToRefuge_91 : decode cX7_stepsToRefuge 91 = .ok (.getfield 164, 3) := by decide +kernel
theorem dX7_stepsToRefuge_94 : decode cX7_stepsToRefuge 94 = .ok (.iload_n 2, 1) := by decide +kernel
theorem dX7_stepsToRefuge_95 : decode cX7_stepsToRefuge 95 = .ok (.iaload, 1) := by decide +kernel
theorem dX7_stepsToRefuge_96 : decode cX7_stepsToRefuge 96 = .ok (.iaload, 1) := by decide +kernel
theorem dX7_stepsToRefuge_97 : decode cX7_stepsToRefuge 97 = .ok (.ireturn, 1) := by decide +kernel
theorem dX7_tellCount_0 : decode cX7_tellCount 0 = .ok (.iload_n 1, 1) := by decide +kernel
theorem dX7_tellCount_1 : decode cX7_tellCount 1 = .ok (.tableswitch 123 0 8 #[51, 56, 64, 73, 82, 91, 99, 107, 115], 51) := by decide +kernel
theorem dX7_tellCount_52 : decode cX7_tellCount 52 = .ok (.aload_n 0, 1) := by decide +kernel
theorem dX7_tellCount_53 : decode cX7_tellCount 53 = .ok (.getfield 60, 3) := by decide +kernel
theorem dX7_tellCount_56 : decode cX7_tellCount 56 = .ok (.ireturn, 1) := by decide +kernel
theorem dX7_tellCount_57 : decode cX7_tellCount 57 = .ok (.aload_n 0, 1) := by decide +kernel
theorem dX7_tellCount_58 : decode cX7_tellCount 58 = .ok (.getfield 42, 3) := by decide +kernel
theorem dX7_tellCount_61 : decode cX7_tellCount 61 = .ok (.getfield 165, 3) := by decide +kernel
theorem dX7_tellCount_64 : decode cX7_tellCount 64 = .ok (.ireturn, 1) := by decide +kernel
theorem dX7_tellCount_65 : decode cX7_tellCount 65 = .ok (.aload_n 0, 1) := by decide +kernel
theorem dX7_tellCount_66 : decode cX7_tellCount 66 = .ok (.getfield 42, 3) := by decide +kernel
theorem dX7_tellCount_69 : decode cX7_tellCount 69 = .ok (.iconst 0, 1) := by decide +kernel
theorem dX7_tellCount_70 : decode cX7_tellCount 70 = .ok (.invokevirtual 168, 3) := by decide +kernel
theorem dX7_tellCount_73 : decode cX7_tellCount 73 = .ok (.ireturn, 1) := by decide +kernel
theorem dX7_tellCount_74 : decode cX7_tellCount 74 = .ok (.aload_n 0, 1) := by decide +kernel
theorem dX7_tellCount_75 : decode cX7_tellCount 75 = .ok (.getfield 42, 3) := by decide +kernel
theorem dX7_tellCount_78 : decode cX7_tellCount 78 = .ok (.iconst 1, 1) := by decide +kernel
theorem dX7_tellCount_79 : decode cX7_tellCount 79 = .ok (.invokevirtual 168, 3) := by decide +kernel
theorem dX7_tellCount_82 : decode cX7_tellCount 82 = .ok (.ireturn, 1) := by decide +kernel
theorem dX7_tellCount_83 : decode cX7_tellCount 83 = .ok (.aload_n 0, 1) := by decide +kernel
theorem dX7_tellCount_84 : decode cX7_tellCount 84 = .ok (.getfield 42, 3) := by decide +kernel
theorem dX7_tellCount_87 : decode cX7_tellCount 87 = .ok (.iconst 2, 1) := by decide +kernel
theorem dX7_tellCount_88 : decode cX7_tellCount 88 = .ok (.invokevirtual 168, 3) := by decide +kernel
theorem dX7_tellCount_91 : decode cX7_tellCount 91 = .ok (.ireturn, 1) := by decide +kernel
theorem dX7_tellCount_92 : decode cX7_tellCount 92 = .ok (.aload_n 0, 1) := by decide +kernel
theorem dX7_tellCount_93 : decode cX7_tellCount 93 = .ok (.getfield 42, 3) := by decide +kernel
theorem dX7_tellCount_96 : decode cX7_tellCount 96 = .ok (.getfield 171, 3) := by decide +kernel
theorem dX7_tellCount_99 : decode cX7_tellCount 99 = .ok (.ireturn, 1) := by decide +kernel
theorem dX7_tellCount_100 : decode cX7_tellCount 100 = .ok (.aload_n 0, 1) := by decide +kernel
theorem dX7_tellCount_101 : decode cX7_tellCount 101 = .ok (.getfield 12, 3) := by decide +kernel
theorem dX7_tellCount_104 : decode cX7_tellCount 104 = .ok (.invokevirtual 174, 3) := by decide +kernel
theorem dX7_tellCount_107 : decode cX7_tellCount 107 = .ok (.ireturn, 1) := by decide +kernel
theorem dX7_tellCount_108 : decode cX7_tellCount 108 = .ok (.aload_n 0, 1) := by decide +kernel
theorem dX7_tellCount_109 : decode cX7_tellCount 109 = .ok (.getfield 12, 3) := by decide +kernel
theorem dX7_tellCount_112 : decode cX7_tellCount 112 = .ok (.invokevirtual 178, 3) := by decide +kernel
theorem dX7_tellCount_115 : decode cX7_tellCount 115 = .ok (.ireturn, 1) := by decide +kernel
theorem dX7_tellCount_116 : decode cX7_tellCount 116 = .ok (.aload_n 0, 1) := by decide +kernel
theorem dX7_tellCount_117 : decode cX7_tellCount 117 = .ok (.getfield 12, 3) := by decide +kernel
theorem dX7_tellCount_120 : decode cX7_tellCount 120 = .ok (.invokevirtual 181, 3) := by decide +kernel
theorem dX7_tellCount_123 : decode cX7_tellCount 123 = .ok (.ireturn, 1) := by decide +kernel
theorem dX7_tellCount_124 : decode cX7_tellCount 124 = .ok (.aload_n 0, 1) := by decide +kernel
theorem dX7_tellCount_125 : decode cX7_tellCount 125 = .ok (.getfield 28, 3) := by decide +kernel
theorem dX7_tellCount_128 : decode cX7_tellCount 128 = .ok (.aload_n 0, 1) := by decide +kernel
theorem dX7_tellCount_129 : decode cX7_tellCount 129 = .ok (.getfield 12, 3) := by decide +kernel
theorem dX7_tellCount_132 : decode cX7_tellCount 132 = .ok (.invokevirtual 89, 3) := by decide +kernel
theorem dX7_tellCount_135 : decode cX7_tellCount 135 = .ok (.ireturn, 1) := by decide +kernel
theorem dX8_init_0 : decode cX8_init 0 = .ok (.aload_n 0, 1) := by decide +kernel
theorem dX8_init_1 : decode cX8_init 1 = .ok (.invokespecial 3, 3) := by decide +kernel
theorem dX8_init_4 : decode cX8_init 4 = .ok (.aload_n 0, 1) := by decide +kernel
theorem dX8_init_5 : decode cX8_init 5 = .ok (.bipush 80, 2) := by decide +kernel
theorem dX8_init_7 : decode cX8_init 7 = .ok (.newarray .int, 2) := by decide +kernel
theorem dX8_init_9 : decode cX8_init 9 = .ok (.putfield 9, 3) := by decide +kernel
theorem dX8_init_12 : decode cX8_init 12 = .ok (.aload_n 0, 1) := by decide +kernel
theorem dX8_init_13 : decode cX8_init 13 = .ok (.bipush 80, 2) := by decide +kernel
theorem dX8_init_15 : decode cX8_init 15 = .ok (.newarray .int, 2) := by decide +kernel
theorem dX8_init_17 : decode cX8_init 17 = .ok (.putfield 15, 3) := by decide +kernel
theorem dX8_init_20 : decode cX8_init 20 = .ok (.aload_n 0, 1) := by decide +kernel
theorem dX8_init_21 : decode cX8_init 21 = .ok (.bipush 80, 2) := by decide +kernel
theorem dX8_init_23 : decode cX8_init 23 = .ok (.newarray .int, 2) := by decide +kernel
theorem dX8_init_25 : decode cX8_init 25 = .ok (.putfield 18, 3) := by decide +kernel
theorem dX8_init_28 : decode cX8_init 28 = .ok (.return_, 1) := by decide +kernel
theorem dX8_search_0 : decode cX8_search 0 = .ok (.iconst 0, 1) := by decide +kernel
theorem dX8_search_1 : decode cX8_search 1 = .ok (.istore_n 3, 1) := by decide +kernel
theorem dX8_search_2 : decode cX8_search 2 = .ok (.iload_n 3, 1) := by decide +kernel
theorem dX8_search_3 : decode cX8_search 3 = .ok (.bipush 80, 2) := by decide +kernel
theorem dX8_search_5 : decode cX8_search 5 = .ok (.if_icmp .ge 16, 3) := by decide +kernel
theorem dX8_search_8 : decode cX8_search 8 = .ok (.aload_n 0, 1) := by decide +kernel
theorem dX8_search_9 : decode cX8_search 9 = .ok (.getfield 9, 3) := by decide +kernel
theorem dX8_search_12 : decode cX8_search 12 = .ok (.iload_n 3, 1) := by decide +kernel
theorem dX8_search_13 : decode cX8_search 13 = .ok (.iconst (-1), 1) := by decide +kernel
theorem dX8_search_14 : decode cX8_search 14 = .ok (.iastore, 1) := by decide +kernel
theorem dX8_search_15 : decode cX8_search 15 = .ok (.iinc 3 1, 3) := by decide +kernel
theorem dX8_search_18 : decode cX8_search 18 = .ok (.goto (-16), 3) := by decide +kernel
theorem dX8_search_21 : decode cX8_search 21 = .ok (.aload_n 0, 1) := by decide +kernel
theorem dX8_search_22 : decode cX8_search 22 = .ok (.getfield 9, 3) := by decide +kernel
theorem dX8_search_25 : decode cX8_search 25 = .ok (.iload_n 1, 1) := by decide +kernel
theorem dX8_search_26 : decode cX8_search 26 = .ok (.iconst 0, 1) := by decide +kernel
theorem dX8_search_27 : decode cX8_search 27 = .ok (.iastore, 1) := by decide +kernel
theorem dX8_search_28 : decode cX8_search 28 = .ok (.aload_n 0, 1) := by decide +kernel
theorem dX8_search_29 : decode cX8_search 29 = .ok (.getfield 15, 3) := by decide +kernel
theorem dX8_search_32 : decode cX8_search 32 = .ok (.iload_n 1, 1) := by decide +kernel
theorem dX8_search_33 : decode cX8_search 33 = .ok (.iload_n 1, 1) := by decide +kernel
theorem dX8_search_34 : decode cX8_search 34 = .ok (.iastore, 1) := by decide +kernel
theorem dX8_search_35 : decode cX8_search 35 = .ok (.aload_n 0, 1) := by decide +kernel
theorem dX8_search_36 : decode cX8_search 36 = .ok (.getfield 18, 3) := by decide +kernel
theorem dX8_search_39 : decode cX8_search 39 = .ok (.iconst 0, 1) := by decide +kernel
theorem dX8_search_40 : decode cX8_search 40 = .ok (.iload_n 1, 1) := by decide +kernel
theorem dX8_search_41 : decode cX8_search 41 = .ok (.iastore, 1) := by decide +kernel
theorem dX8_search_42 : decode cX8_search 42 = .ok (.aload_n 0, 1) := by decide +kernel
theorem dX8_search_43 : decode cX8_search 43 = .ok (.iconst 1, 1) := by decide +kernel
theorem dX8_search_44 : decode cX8_search 44 = .ok (.putfield 21, 3) := by decide +kernel
theorem dX8_search_47 : decode cX8_search 47 = .ok (.iconst 0, 1) := by decide +kernel
theorem dX8_search_48 : decode cX8_search 48 = .ok (.istore_n 3, 1) := by decide +kernel
theorem dX8_search_49 : decode cX8_search 49 = .ok (.iload_n 3, 1) := by decide +kernel
theorem dX8_search_50 : decode cX8_search 50 = .ok (.aload_n 0, 1) := by decide +kernel
theorem dX8_search_51 : decode cX8_search 51 = .ok (.getfield 21, 3) := by decide +kernel
theorem dX8_search_54 : decode cX8_search 54 = .ok (.if_icmp .ge 26, 3) := by decide +kernel
theorem dX8_search_57 : decode cX8_search 57 = .ok (.iload_n 3, 1) := by decide +kernel
theorem dX8_search_58 : decode cX8_search 58 = .ok (.bipush 80, 2) := by decide +kernel
theorem dX8_search_60 : decode cX8_search 60 = .ok (.if_icmp .ge 20, 3) := by decide +kernel
theorem dX8_search_63 : decode cX8_search 63 = .ok (.aload_n 0, 1) := by decide +kernel
theorem dX8_search_64 : decode cX8_search 64 = .ok (.aload_n 0, 1) := by decide +kernel
theorem dX8_search_65 : decode cX8_search 65 = .ok (.getfield 18, 3) := by decide +kernel
theorem dX8_search_68 : decode cX8_search 68 = .ok (.iload_n 3, 1) := by decide +kernel
theorem dX8_search_69 : decode cX8_search 69 = .ok (.iaload, 1) := by decide +kernel
theorem dX8_search_70 : decode cX8_search 70 = .ok (.aload_n 2, 1) := by decide +kernel
theorem dX8_search_71 : decode cX8_search 71 = .ok (.invokevirtual 25, 3) := by decide +kernel
theorem dX8_search_74 : decode cX8_search 74 = .ok (.iinc 3 1, 3) := by decide +kernel
theorem dX8_search_77 : decode cX8_search 77 = .ok (.goto (-28), 3) := by decide +kernel
theorem dX8_search_80 : decode cX8_search 80 = .ok (.return_, 1) := by decide +kernel
theorem dX8_goOnFrom_0 : decode cX8_goOnFrom 0 = .ok (.iconst 0, 1) := by decide +kernel
theorem dX8_goOnFrom_1 : decode cX8_goOnFrom 1 = .ok (.istore_n 3, 1) := by decide +kernel
theorem dX8_goOnFrom_2 : decode cX8_goOnFrom 2 = .ok (.iload_n 3, 1) := by decide +kernel
theorem dX8_goOnFrom_3 : decode cX8_goOnFrom 3 = .ok (.iconst 4, 1) := by decide +kernel
theorem dX8_goOnFrom_4 : decode cX8_goOnFrom 4 = .ok (.if_icmp .ge 114, 3) := by decide +kernel
theorem dX8_goOnFrom_7 : decode cX8_goOnFrom 7 = .ok (.iload_n 1, 1) := by decide +kernel
theorem dX8_goOnFrom_8 : decode cX8_goOnFrom 8 = .ok (.iload_n 3, 1) := by decide +kernel
theorem dX8_goOnFrom_9 : decode cX8_goOnFrom 9 = .ok (.invokestatic 29, 3) := by decide +kernel
theorem dX8_goOnFrom_12 : decode cX8_goOnFrom 12 = .ok (.istore 4, 2) := by decide +kernel
theorem dX8_goOnFrom_14 : decode cX8_goOnFrom 14 = .ok (.iload 4, 2) := by decide +kernel
theorem dX8_goOnFrom_16 : decode cX8_goOnFrom 16 = .ok (.iconst (-1), 1) := by decide +kernel
theorem dX8_goOnFrom_17 : decode cX8_goOnFrom 17 = .ok (.if_icmp .eq 95, 3) := by decide +kernel
theorem dX8_goOnFrom_20 : decode cX8_goOnFrom 20 = .ok (.aload_n 0, 1) := by decide +kernel
theorem dX8_goOnFrom_21 : decode cX8_goOnFrom 21 = .ok (.getfield 9, 3) := by decide +kernel
theorem dX8_goOnFrom_24 : decode cX8_goOnFrom 24 = .ok (.iload 4, 2) := by decide +kernel
theorem dX8_goOnFrom_26 : decode cX8_goOnFrom 26 = .ok (.iaload, 1) := by decide +kernel
theorem dX8_goOnFrom_27 : decode cX8_goOnFrom 27 = .ok (.iconst (-1), 1) := by decide +kernel
theorem dX8_goOnFrom_28 : decode cX8_goOnFrom 28 = .ok (.if_icmp .ne 84, 3) := by decide +kernel
theorem dX8_goOnFrom_31 : decode cX8_goOnFrom 31 = .ok (.aload_n 2, 1) := by decide +kernel
theorem dX8_goOnFrom_32 : decode cX8_goOnFrom 32 = .ok (.iload 4, 2) := by decide +kernel
theorem dX8_goOnFrom_34 : decode cX8_goOnFrom 34 = .ok (.invokevirtual 35, 3) := by decide +kernel
theorem dX8_goOnFrom_37 : decode cX8_goOnFrom 37 = .ok (.ifCond .eq 75, 3) := by decide +kernel
theorem dX8_goOnFrom_40 : decode cX8_goOnFrom 40 = .ok (.aload_n 0, 1) := by decide +kernel
theorem dX8_goOnFrom_41 : decode cX8_goOnFrom 41 = .ok (.getfield 21, 3) := by decide +kernel
theorem dX8_goOnFrom_44 : decode cX8_goOnFrom 44 = .ok (.bipush 80, 2) := by decide +kernel
theorem dX8_goOnFrom_46 : decode cX8_goOnFrom 46 = .ok (.if_icmp .ge 66, 3) := by decide +kernel
theorem dX8_goOnFrom_49 : decode cX8_goOnFrom 49 = .ok (.aload_n 0, 1) := by decide +kernel
theorem dX8_goOnFrom_50 : decode cX8_goOnFrom 50 = .ok (.getfield 9, 3) := by decide +kernel
theorem dX8_goOnFrom_53 : decode cX8_goOnFrom 53 = .ok (.iload 4, 2) := by decide +kernel
theorem dX8_goOnFrom_55 : decode cX8_goOnFrom 55 = .ok (.aload_n 0, 1) := by decide +kernel
theorem dX8_goOnFrom_56 : decode cX8_goOnFrom 56 = .ok (.getfield 9, 3) := by decide +kernel
theorem dX8_goOnFrom_59 : decode cX8_goOnFrom 59 = .ok (.iload_n 1, 1) := by decide +kernel
theorem dX8_goOnFrom_60 : decode cX8_goOnFrom 60 = .ok (.iaload, 1) := by decide +kernel
theorem dX8_goOnFrom_61 : decode cX8_goOnFrom 61 = .ok (.iconst 1, 1) := by decide +kernel
theorem dX8_goOnFrom_62 : decode cX8_goOnFrom 62 = .ok (.iadd, 1) := by decide +kernel
theorem dX8_goOnFrom_63 : decode cX8_goOnFrom 63 = .ok (.iastore, 1) := by decide +kernel
theorem dX8_goOnFrom_64 : decode cX8_goOnFrom 64 = .ok (.aload_n 0, 1) := by decide +kernel
theorem dX8_goOnFrom_65 : decode cX8_goOnFrom 65 = .ok (.getfield 15, 3) := by decide +kernel
theorem dX8_goOnFrom_68 : decode cX8_goOnFrom 68 = .ok (.iload 4, 2) := by decide +kernel
theorem dX8_goOnFrom_70 : decode cX8_goOnFrom 70 = .ok (.aload_n 0, 1) := by decide +kernel
theorem dX8_goOnFrom_71 : decode cX8_goOnFrom 71 = .ok (.getfield 9, 3) := by decide +kernel
theorem dX8_goOnFrom_74 : decode cX8_goOnFrom 74 = .ok (.iload_n 1, 1) := by decide +kernel
theorem dX8_goOnFrom_75 : decode cX8_goOnFrom 75 = .ok (.iaload, 1) := by decide +kernel
theorem dX8_goOnFrom_76 : decode cX8_goOnFrom 76 = .ok (.ifCond .ne 8, 3) := by decide +kernel
theorem dX8_goOnFrom_79 : decode cX8_goOnFrom 79 = .ok (.iload 4, 2) := by decide +kernel
theorem dX8_goOnFrom_81 : decode cX8_goOnFrom 81 = .ok (.goto 9, 3) := by decide +kernel
theorem dX8_goOnFrom_84 : decode cX8_goOnFrom 84 = .ok (.aload_n 0, 1) := by decide +kernel
theorem dX8_goOnFrom_85 : decode cX8_goOnFrom 85 = .ok (.getfield 15, 3) := by decide +kernel
theorem dX8_goOnFrom_88 : decode cX8_goOnFrom 88 = .ok (.iload_n 1, 1) := by decide +kernel
theorem dX8_goOnFrom_89 : decode cX8_goOnFrom 89 = .ok (.iaload, 1) := by decide +kernel
theorem dX8_goOnFrom_90 : decode cX8_goOnFrom 90 = .ok (.iastore, 1) := by decide +kernel
theorem dX8_goOnFrom_91 : decode cX8_goOnFrom 91 = .ok (.aload_n 0, 1) := by decide +kernel
theorem dX8_goOnFrom_92 : decode cX8_goOnFrom 92 = .ok (.getfield 18, 3) := by decide +kernel
theorem dX8_goOnFrom_95 : decode cX8_goOnFrom 95 = .ok (.aload_n 0, 1) := by decide +kernel
theorem dX8_goOnFrom_96 : decode cX8_goOnFrom 96 = .ok (.getfield 21, 3) := by decide +kernel
end
section
theorem dX8_goOnFrom_99 : decode cX8_goOnFrom 99 = .ok (.iload 4, 2) := by decide +kernel
theorem dX8_goOnFrom_101 : decode cX8_goOnFrom 101 = .ok (.iastore, 1) := by decide +kernel
theorem dX8_goOnFrom_102 : decode cX8_goOnFrom 102 = .ok (.aload_n 0, 1) := by decide +kernel
theorem dX8_goOnFrom_103 : decode cX8_goOnFrom 103 = .ok (.dup, 1) := by decide +kernel
theorem dX8_goOnFrom_104 : decode cX8_goOnFrom 104 = .ok (.getfield 21, 3) := by decide +kernel
theorem dX8_goOnFrom_107 : decode cX8_goOnFrom 107 = .ok (.iconst 1, 1) := by decide +kernel
theorem dX8_goOnFrom_108 : decode cX8_goOnFrom 108 = .ok (.iadd, 1) := by decide +kernel
theorem dX8_goOnFrom_109 : decode cX8_goOnFrom 109 = .ok (.putfield 21, 3) := by decide +kernel
theorem dX8_goOnFrom_112 : decode cX8_goOnFrom 112 = .ok (.iinc 3 1, 3) := by decide +kernel
theorem dX8_goOnFrom_115 : decode cX8_goOnFrom 115 = .ok (.goto (-113), 3) := by decide +kernel
theorem dX8_goOnFrom_118 : decode cX8_goOnFrom 118 = .ok (.return_, 1) := by decide +kernel
theorem dX8_isNearer_0 : decode cX8_isNearer 0 = .ok (.aload_n 0, 1) := by decide +kernel
theorem dX8_isNearer_1 : decode cX8_isNearer 1 = .ok (.getfield 9, 3) := by decide +kernel
theorem dX8_isNearer_4 : decode cX8_isNearer 4 = .ok (.iload_n 1, 1) := by decide +kernel
theorem dX8_isNearer_5 : decode cX8_isNearer 5 = .ok (.iaload, 1) := by decide +kernel
theorem dX8_isNearer_6 : decode cX8_isNearer 6 = .ok (.iconst (-1), 1) := by decide +kernel
theorem dX8_isNearer_7 : decode cX8_isNearer 7 = .ok (.if_icmp .eq 27, 3) := by decide +kernel
theorem dX8_isNearer_10 : decode cX8_isNearer 10 = .ok (.iload_n 2, 1) := by decide +kernel
theorem dX8_isNearer_11 : decode cX8_isNearer 11 = .ok (.iconst (-1), 1) := by decide +kernel
theorem dX8_isNearer_12 : decode cX8_isNearer 12 = .ok (.if_icmp .eq 18, 3) := by decide +kernel
theorem dX8_isNearer_15 : decode cX8_isNearer 15 = .ok (.aload_n 0, 1) := by decide +kernel
theorem dX8_isNearer_16 : decode cX8_isNearer 16 = .ok (.getfield 9, 3) := by decide +kernel
theorem dX8_isNearer_19 : decode cX8_isNearer 19 = .ok (.iload_n 1, 1) := by decide +kernel
theorem dX8_isNearer_20 : decode cX8_isNearer 20 = .ok (.iaload, 1) := by decide +kernel
theorem dX8_isNearer_21 : decode cX8_isNearer 21 = .ok (.aload_n 0, 1) := by decide +kernel
theorem dX8_isNearer_22 : decode cX8_isNearer 22 = .ok (.getfield 9, 3) := by decide +kernel
theorem dX8_isNearer_25 : decode cX8_isNearer 25 = .ok (.iload_n 2, 1) := by decide +kernel
theorem dX8_isNearer_26 : decode cX8_isNearer 26 = .ok (.iaload, 1) := by decide +kernel
theorem dX8_isNearer_27 : decode cX8_isNearer 27 = .ok (.if_icmp .ge 7, 3) := by decide +kernel
theorem dX8_isNearer_30 : decode cX8_isNearer 30 = .ok (.iconst 1, 1) := by decide +kernel
theorem dX8_isNearer_31 : decode cX8_isNearer 31 = .ok (.goto 4, 3) := by decide +kernel
theorem dX8_isNearer_34 : decode cX8_isNearer 34 = .ok (.iconst 0, 1) := by decide +kernel
theorem dX8_isNearer_35 : decode cX8_isNearer 35 = .ok (.ireturn, 1) := by decide +kernel
theorem dX9_init_0 : decode cX9_init 0 = .ok (.aload_n 0, 1) := by decide +kernel
theorem dX9_init_1 : decode cX9_init 1 = .ok (.invokespecial 1, 3) := by decide +kernel
theorem dX9_init_4 : decode cX9_init 4 = .ok (.aload_n 0, 1) := by decide +kernel
theorem dX9_init_5 : decode cX9_init 5 = .ok (.new 7, 3) := by decide +kernel
theorem dX9_init_8 : decode cX9_init 8 = .ok (.dup, 1) := by decide +kernel
theorem dX9_init_9 : decode cX9_init 9 = .ok (.invokespecial 9, 3) := by decide +kernel
theorem dX9_init_12 : decode cX9_init 12 = .ok (.putfield 10, 3) := by decide +kernel
theorem dX9_init_15 : decode cX9_init 15 = .ok (.aload_n 0, 1) := by decide +kernel
theorem dX9_init_16 : decode cX9_init 16 = .ok (.new 7, 3) := by decide +kernel
theorem dX9_init_19 : decode cX9_init 19 = .ok (.dup, 1) := by decide +kernel
theorem dX9_init_20 : decode cX9_init 20 = .ok (.invokespecial 9, 3) := by decide +kernel
theorem dX9_init_23 : decode cX9_init 23 = .ok (.putfield 16, 3) := by decide +kernel
theorem dX9_init_26 : decode cX9_init 26 = .ok (.return_, 1) := by decide +kernel
theorem dX9_setGround_0 : decode cX9_setGround 0 = .ok (.iload_n 1, 1) := by decide +kernel
theorem dX9_setGround_1 : decode cX9_setGround 1 = .ok (.iload_n 2, 1) := by decide +kernel
theorem dX9_setGround_2 : decode cX9_setGround 2 = .ok (.invokestatic 19, 3) := by decide +kernel
theorem dX9_setGround_5 : decode cX9_setGround 5 = .ok (.iload_n 3, 1) := by decide +kernel
theorem dX9_setGround_6 : decode cX9_setGround 6 = .ok (.iconst 0, 1) := by decide +kernel
theorem dX9_setGround_7 : decode cX9_setGround 7 = .ok (.bipush 9, 2) := by decide +kernel
theorem dX9_setGround_9 : decode cX9_setGround 9 = .ok (.invokestatic 23, 3) := by decide +kernel
theorem dX9_setGround_12 : decode cX9_setGround 12 = .ok (.invokestatic 27, 3) := by decide +kernel
theorem dX9_setGround_15 : decode cX9_setGround 15 = .ok (.iload_n 1, 1) := by decide +kernel
theorem dX9_setGround_16 : decode cX9_setGround 16 = .ok (.iload_n 2, 1) := by decide +kernel
theorem dX9_setGround_17 : decode cX9_setGround 17 = .ok (.invokestatic 31, 3) := by decide +kernel
theorem dX9_setGround_20 : decode cX9_setGround 20 = .ok (.istore 4, 2) := by decide +kernel
theorem dX9_setGround_22 : decode cX9_setGround 22 = .ok (.aload_n 0, 1) := by decide +kernel
theorem dX9_setGround_23 : decode cX9_setGround 23 = .ok (.getfield 10, 3) := by decide +kernel
theorem dX9_setGround_26 : decode cX9_setGround 26 = .ok (.getfield 35, 3) := by decide +kernel
theorem dX9_setGround_29 : decode cX9_setGround 29 = .ok (.getfield 39, 3) := by decide +kernel
theorem dX9_setGround_32 : decode cX9_setGround 32 = .ok (.iload 4, 2) := by decide +kernel
theorem dX9_setGround_34 : decode cX9_setGround 34 = .ok (.iaload, 1) := by decide +kernel
theorem dX9_setGround_35 : decode cX9_setGround 35 = .ok (.istore 5, 2) := by decide +kernel
theorem dX9_setGround_37 : decode cX9_setGround 37 = .ok (.aload_n 0, 1) := by decide +kernel
theorem dX9_setGround_38 : decode cX9_setGround 38 = .ok (.getfield 10, 3) := by decide +kernel
theorem dX9_setGround_41 : decode cX9_setGround 41 = .ok (.getfield 35, 3) := by decide +kernel
theorem dX9_setGround_44 : decode cX9_setGround 44 = .ok (.getfield 39, 3) := by decide +kernel
theorem dX9_setGround_47 : decode cX9_setGround 47 = .ok (.iload 4, 2) := by decide +kernel
theorem dX9_setGround_49 : decode cX9_setGround 49 = .ok (.iload_n 3, 1) := by decide +kernel
theorem dX9_setGround_50 : decode cX9_setGround 50 = .ok (.iastore, 1) := by decide +kernel
theorem dX9_setGround_51 : decode cX9_setGround 51 = .ok (.iload 5, 2) := by decide +kernel
theorem dX9_setGround_53 : decode cX9_setGround 53 = .ok (.ireturn, 1) := by decide +kernel
theorem dX9_lay_0 : decode cX9_lay 0 = .ok (.iload_n 1, 1) := by decide +kernel
theorem dX9_lay_1 : decode cX9_lay 1 = .ok (.iload_n 2, 1) := by decide +kernel
theorem dX9_lay_2 : decode cX9_lay 2 = .ok (.invokestatic 19, 3) := by decide +kernel
theorem dX9_lay_5 : decode cX9_lay 5 = .ok (.iload_n 3, 1) := by decide +kernel
theorem dX9_lay_6 : decode cX9_lay 6 = .ok (.iconst 0, 1) := by decide +kernel
theorem dX9_lay_7 : decode cX9_lay 7 = .ok (.iconst 5, 1) := by decide +kernel
theorem dX9_lay_8 : decode cX9_lay 8 = .ok (.invokestatic 23, 3) := by decide +kernel
theorem dX9_lay_11 : decode cX9_lay 11 = .ok (.invokestatic 27, 3) := by decide +kernel
theorem dX9_lay_14 : decode cX9_lay 14 = .ok (.iload_n 1, 1) := by decide +kernel
theorem dX9_lay_15 : decode cX9_lay 15 = .ok (.iload_n 2, 1) := by decide +kernel
theorem dX9_lay_16 : decode cX9_lay 16 = .ok (.invokestatic 31, 3) := by decide +kernel
theorem dX9_lay_19 : decode cX9_lay 19 = .ok (.istore 4, 2) := by decide +kernel
theorem dX9_lay_21 : decode cX9_lay 21 = .ok (.aload_n 0, 1) := by decide +kernel
theorem dX9_lay_22 : decode cX9_lay 22 = .ok (.getfield 10, 3) := by decide +kernel
theorem dX9_lay_25 : decode cX9_lay 25 = .ok (.getfield 35, 3) := by decide +kernel
theorem dX9_lay_28 : decode cX9_lay 28 = .ok (.invokevirtual 45, 3) := by decide +kernel
theorem dX9_lay_31 : decode cX9_lay 31 = .ok (.aload_n 0, 1) := by decide +kernel
theorem dX9_lay_32 : decode cX9_lay 32 = .ok (.getfield 10, 3) := by decide +kernel
theorem dX9_lay_35 : decode cX9_lay 35 = .ok (.getfield 35, 3) := by decide +kernel
theorem dX9_lay_38 : decode cX9_lay 38 = .ok (.getfield 49, 3) := by decide +kernel
theorem dX9_lay_41 : decode cX9_lay 41 = .ok (.iload 4, 2) := by decide +kernel
theorem dX9_lay_43 : decode cX9_lay 43 = .ok (.iaload, 1) := by decide +kernel
theorem dX9_lay_44 : decode cX9_lay 44 = .ok (.isub, 1) := by decide +kernel
theorem dX9_lay_45 : decode cX9_lay 45 = .ok (.iload_n 3, 1) := by decide +kernel
theorem dX9_lay_46 : decode cX9_lay 46 = .ok (.iadd, 1) := by decide +kernel
theorem dX9_lay_47 : decode cX9_lay 47 = .ok (.istore 5, 2) := by decide +kernel
theorem dX9_lay_49 : decode cX9_lay 49 = .ok (.iload 5, 2) := by decide +kernel
theorem dX9_lay_51 : decode cX9_lay 51 = .ok (.bipush 40, 2) := by decide +kernel
theorem dX9_lay_53 : decode cX9_lay 53 = .ok (.if_icmp .gt 7, 3) := by decide +kernel
theorem dX9_lay_56 : decode cX9_lay 56 = .ok (.iconst 1, 1) := by decide +kernel
theorem dX9_lay_57 : decode cX9_lay 57 = .ok (.goto 4, 3) := by decide +kernel
theorem dX9_lay_60 : decode cX9_lay 60 = .ok (.iconst 0, 1) := by decide +kernel
theorem dX9_lay_61 : decode cX9_lay 61 = .ok (.invokestatic 52, 3) := by decide +kernel
theorem dX9_lay_64 : decode cX9_lay 64 = .ok (.aload_n 0, 1) := by decide +kernel
theorem dX9_lay_65 : decode cX9_lay 65 = .ok (.getfield 10, 3) := by decide +kernel
theorem dX9_lay_68 : decode cX9_lay 68 = .ok (.getfield 35, 3) := by decide +kernel
theorem dX9_lay_71 : decode cX9_lay 71 = .ok (.getfield 49, 3) := by decide +kernel
theorem dX9_lay_74 : decode cX9_lay 74 = .ok (.iload 4, 2) := by decide +kernel
theorem dX9_lay_76 : decode cX9_lay 76 = .ok (.iload_n 3, 1) := by decide +kernel
theorem dX9_lay_77 : decode cX9_lay 77 = .ok (.iastore, 1) := by decide +kernel
theorem dX9_lay_78 : decode cX9_lay 78 = .ok (.iload 5, 2) := by decide +kernel
theorem dX9_lay_80 : decode cX9_lay 80 = .ok (.ireturn, 1) := by decide +kernel
theorem dX9_setRiver_0 : decode cX9_setRiver 0 = .ok (.iload_n 1, 1) := by decide +kernel
theorem dX9_setRiver_1 : decode cX9_setRiver 1 = .ok (.iconst 0, 1) := by decide +kernel
theorem dX9_setRiver_2 : decode cX9_setRiver 2 = .ok (.bipush 11, 2) := by decide +kernel
theorem dX9_setRiver_4 : decode cX9_setRiver 4 = .ok (.invokestatic 23, 3) := by decide +kernel
theorem dX9_setRiver_7 : decode cX9_setRiver 7 = .ok (.invokestatic 55, 3) := by decide +kernel
theorem dX9_setRiver_10 : decode cX9_setRiver 10 = .ok (.iload_n 2, 1) := by decide +kernel
theorem dX9_setRiver_11 : decode cX9_setRiver 11 = .ok (.iconst 0, 1) := by decide +kernel
theorem dX9_setRiver_12 : decode cX9_setRiver 12 = .ok (.bipush 12, 2) := by decide +kernel
theorem dX9_setRiver_14 : decode cX9_setRiver 14 = .ok (.invokestatic 23, 3) := by decide +kernel
theorem dX9_setRiver_17 : decode cX9_setRiver 17 = .ok (.invokestatic 27, 3) := by decide +kernel
theorem dX9_setRiver_20 : decode cX9_setRiver 20 = .ok (.aload_n 0, 1) := by decide +kernel
theorem dX9_setRiver_21 : decode cX9_setRiver 21 = .ok (.getfield 10, 3) := by decide +kernel
theorem dX9_setRiver_24 : decode cX9_setRiver 24 = .ok (.getfield 35, 3) := by decide +kernel
theorem dX9_setRiver_27 : decode cX9_setRiver 27 = .ok (.getfield 58, 3) := by decide +kernel
theorem dX9_setRiver_30 : decode cX9_setRiver 30 = .ok (.iload_n 1, 1) := by decide +kernel
theorem dX9_setRiver_31 : decode cX9_setRiver 31 = .ok (.iaload, 1) := by decide +kernel
theorem dX9_setRiver_32 : decode cX9_setRiver 32 = .ok (.istore_n 3, 1) := by decide +kernel
theorem dX9_setRiver_33 : decode cX9_setRiver 33 = .ok (.aload_n 0, 1) := by decide +kernel
theorem dX9_setRiver_34 : decode cX9_setRiver 34 = .ok (.getfield 10, 3) := by decide +kernel
theorem dX9_setRiver_37 : decode cX9_setRiver 37 = .ok (.getfield 35, 3) := by decide +kernel
theorem dX9_setRiver_40 : decode cX9_setRiver 40 = .ok (.getfield 58, 3) := by decide +kernel
theorem dX9_setRiver_43 : decode cX9_setRiver 43 = .ok (.iload_n 1, 1) := by decide +kernel
theorem dX9_setRiver_44 : decode cX9_setRiver 44 = .ok (.iload_n 2, 1) := by decide +kernel
theorem dX9_setRiver_45 : decode cX9_setRiver 45 = .ok (.iastore, 1) := by decide +kernel
theorem dX9_setRiver_46 : decode cX9_setRiver 46 = .ok (.iload_n 3, 1) := by decide +kernel
theorem dX9_setRiver_47 : decode cX9_setRiver 47 = .ok (.ireturn, 1) := by decide +kernel
theorem dX9_addPump_0 : decode cX9_addPump 0 = .ok (.iload_n 1, 1) := by decide +kernel
theorem dX9_addPump_1 : decode cX9_addPump 1 = .ok (.iload_n 2, 1) := by decide +kernel
theorem dX9_addPump_2 : decode cX9_addPump 2 = .ok (.invokestatic 19, 3) := by decide +kernel
theorem dX9_addPump_5 : decode cX9_addPump 5 = .ok (.iload_n 3, 1) := by decide +kernel
theorem dX9_addPump_6 : decode cX9_addPump 6 = .ok (.iconst 1, 1) := by decide +kernel
theorem dX9_addPump_7 : decode cX9_addPump 7 = .ok (.iconst 5, 1) := by decide +kernel
theorem dX9_addPump_8 : decode cX9_addPump 8 = .ok (.invokestatic 23, 3) := by decide +kernel
theorem dX9_addPump_11 : decode cX9_addPump 11 = .ok (.ifCond .eq 18, 3) := by decide +kernel
theorem dX9_addPump_14 : decode cX9_addPump 14 = .ok (.iload 4, 2) := by decide +kernel
theorem dX9_addPump_16 : decode cX9_addPump 16 = .ok (.iconst 0, 1) := by decide +kernel
theorem dX9_addPump_17 : decode cX9_addPump 17 = .ok (.bipush 30, 2) := by decide +kernel
theorem dX9_addPump_19 : decode cX9_addPump 19 = .ok (.invokestatic 23, 3) := by decide +kernel
theorem dX9_addPump_22 : decode cX9_addPump 22 = .ok (.ifCond .eq 7, 3) := by decide +kernel
theorem dX9_addPump_25 : decode cX9_addPump 25 = .ok (.iconst 1, 1) := by decide +kernel
theorem dX9_addPump_26 : decode cX9_addPump 26 = .ok (.goto 4, 3) := by decide +kernel
theorem dX9_addPump_29 : decode cX9_addPump 29 = .ok (.iconst 0, 1) := by decide +kernel
theorem dX9_addPump_30 : decode cX9_addPump 30 = .ok (.invokestatic 27, 3) := by decide +kernel
theorem dX9_addPump_33 : decode cX9_addPump 33 = .ok (.aload_n 0, 1) := by decide +kernel
theorem dX9_addPump_34 : decode cX9_addPump 34 = .ok (.getfield 10, 3) := by decide +kernel
theorem dX9_addPump_37 : decode cX9_addPump 37 = .ok (.getfield 61, 3) := by decide +kernel
theorem dX9_addPump_40 : decode cX9_addPump 40 = .ok (.iload_n 1, 1) := by decide +kernel
theorem dX9_addPump_41 : decode cX9_addPump 41 = .ok (.iload_n 2, 1) := by decide +kernel
theorem dX9_addPump_42 : decode cX9_addPump 42 = .ok (.invokestatic 31, 3) := by decide +kernel
theorem dX9_addPump_45 : decode cX9_addPump 45 = .ok (.invokevirtual 65, 3) := by decide +kernel
theorem dX9_addPump_48 : decode cX9_addPump 48 = .ok (.invokestatic 52, 3) := by decide +kernel
theorem dX9_addPump_51 : decode cX9_addPump 51 = .ok (.aload_n 0, 1) := by decide +kernel
theorem dX9_addPump_52 : decode cX9_addPump 52 = .ok (.getfield 10, 3) := by decide +kernel
theorem dX9_addPump_55 : decode cX9_addPump 55 = .ok (.getfield 61, 3) := by decide +kernel
theorem dX9_addPump_58 : decode cX9_addPump 58 = .ok (.iload_n 1, 1) := by decide +kernel
theorem dX9_addPump_59 : decode cX9_addPump 59 = .ok (.iload_n 2, 1) := by decide +kernel
theorem dX9_addPump_60 : decode cX9_addPump 60 = .ok (.invokestatic 31, 3) := by decide +kernel
theorem dX9_addPump_63 : decode cX9_addPump 63 = .ok (.iload_n 3, 1) := by decide +kernel
theorem dX9_addPump_64 : decode cX9_addPump 64 = .ok (.iload 4, 2) := by decide +kernel
theorem dX9_addPump_66 : decode cX9_addPump 66 = .ok (.invokevirtual 71, 3) := by decide +kernel
theorem dX9_addPump_69 : decode cX9_addPump 69 = .ok (.ireturn, 1) := by decide +kernel
theorem dX9_run_0 : decode cX9_run 0 = .ok (.aload_n 0, 1) := by decide +kernel
theorem dX9_run_1 : decode cX9_run 1 = .ok (.getfield 10, 3) := by decide +kernel
theorem dX9_run_4 : decode cX9_run 4 = .ok (.getfield 61, 3) := by decide +kernel
theorem dX9_run_7 : decode cX9_run 7 = .ok (.iload_n 1, 1) := by decide +kernel
theorem dX9_run_8 : decode cX9_run 8 = .ok (.invokevirtual 75, 3) := by decide +kernel
theorem dX9_run_11 : decode cX9_run 11 = .ok (.invokestatic 55, 3) := by decide +kernel
theorem dX9_run_14 : decode cX9_run 14 = .ok (.aload_n 0, 1) := by decide +kernel
theorem dX9_run_15 : decode cX9_run 15 = .ok (.getfield 10, 3) := by decide +kernel
theorem dX9_run_18 : decode cX9_run 18 = .ok (.getfield 61, 3) := by decide +kernel
theorem dX9_run_21 : decode cX9_run 21 = .ok (.getfield 78, 3) := by decide +kernel
theorem dX9_run_24 : decode cX9_run 24 = .ok (.iload_n 1, 1) := by decide +kernel
theorem dX9_run_25 : decode cX9_run 25 = .ok (.aload_n 0, 1) := by decide +kernel
theorem dX9_run_26 : decode cX9_run 26 = .ok (.getfield 10, 3) := by decide +kernel
theorem dX9_run_29 : decode cX9_run 29 = .ok (.getfield 61, 3) := by decide +kernel
theorem dX9_run_32 : decode cX9_run 32 = .ok (.getfield 78, 3) := by decide +kernel
theorem dX9_run_35 : decode cX9_run 35 = .ok (.iload_n 1, 1) := by decide +kernel
theorem dX9_run_36 : decode cX9_run 36 = .ok (.baload, 1) := by decide +kernel
theorem dX9_run_37 : decode cX9_run 37 = .ok (.ifCond .ne 7, 3) := by decide +kernel
theorem dX9_run_40 : decode cX9_run 40 = .ok (.iconst 1, 1) := by decide +kernel
theorem dX9_run_41 : decode cX9_run 41 = .ok (.goto 4, 3) := by decide +kernel
theorem dX9_run_44 : decode cX9_run 44 = .ok (.iconst 0, 1) := by decide +kernel
theorem dX9_run_45 : decode cX9_run 45 = .ok (.bastore, 1) := by decide +kernel
theorem dX9_run_46 : decode cX9_run 46 = .ok (.aload_n 0, 1) := by decide +kernel
theorem dX9_run_47 : decode cX9_run 47 = .ok (.getfield 10, 3) := by decide +kernel
theorem dX9_run_50 : decode cX9_run 50 = .ok (.getfield 61, 3) := by decide +kernel
theorem dX9_run_53 : decode cX9_run 53 = .ok (.getfield 78, 3) := by decide +kernel
theorem dX9_run_56 : decode cX9_run 56 = .ok (.iload_n 1, 1) := by decide +kernel
theorem dX9_run_57 : decode cX9_run 57 = .ok (.baload, 1) := by decide +kernel
theorem dX9_run_58 : decode cX9_run 58 = .ok (.ireturn, 1) := by decide +kernel
theorem dX9_addGauge_0 : decode cX9_addGauge 0 = .ok (.iload_n 1, 1) := by decide +kernel
theorem dX9_addGauge_1 : decode cX9_addGauge 1 = .ok (.iload_n 2, 1) := by decide +kernel
theorem dX9_addGauge_2 : decode cX9_addGauge 2 = .ok (.invokestatic 19, 3) := by decide +kernel
theorem dX9_addGauge_5 : decode cX9_addGauge 5 = .ok (.iload_n 3, 1) := by decide +kernel
theorem dX9_addGauge_6 : decode cX9_addGauge 6 = .ok (.iconst 1, 1) := by decide +kernel
theorem dX9_addGauge_7 : decode cX9_addGauge 7 = .ok (.bipush 20, 2) := by decide +kernel
theorem dX9_addGauge_9 : decode cX9_addGauge 9 = .ok (.invokestatic 23, 3) := by decide +kernel
theorem dX9_addGauge_12 : decode cX9_addGauge 12 = .ok (.invokestatic 27, 3) := by decide +kernel
theorem dX9_addGauge_15 : decode cX9_addGauge 15 = .ok (.aload_n 0, 1) := by decide +kernel
theorem dX9_addGauge_16 : decode cX9_addGauge 16 = .ok (.getfield 10, 3) := by decide +kernel
theorem dX9_addGauge_19 : decode cX9_addGauge 19 = .ok (.getfield 82, 3) := by decide +kernel
theorem dX9_addGauge_22 : decode cX9_addGauge 22 = .ok (.iload_n 1, 1) := by decide +kernel
theorem dX9_addGauge_23 : decode cX9_addGauge 23 = .ok (.iload_n 2, 1) := by decide +kernel
theorem dX9_addGauge_24 : decode cX9_addGauge 24 = .ok (.invokestatic 31, 3) := by decide +kernel
theorem dX9_addGauge_27 : decode cX9_addGauge 27 = .ok (.invokevirtual 86, 3) := by decide +kernel
theorem dX9_addGauge_30 : decode cX9_addGauge 30 = .ok (.invokestatic 52, 3) := by decide +kernel
theorem dX9_addGauge_33 : decode cX9_addGauge 33 = .ok (.aload_n 0, 1) := by decide +kernel
theorem dX9_addGauge_34 : decode cX9_addGauge 34 = .ok (.getfield 10, 3) := by decide +kernel
theorem dX9_addGauge_37 : decode cX9_addGauge 37 = .ok (.getfield 82, 3) := by decide +kernel
theorem dX9_addGauge_40 : decode cX9_addGauge 40 = .ok (.iload_n 1, 1) := by decide +kernel
theorem dX9_addGauge_41 : decode cX9_addGauge 41 = .ok (.iload_n 2, 1) := by decide +kernel
theorem dX9_addGauge_42 : decode cX9_addGauge 42 = .ok (.invokestatic 31, 3) := by decide +kernel
theorem dX9_addGauge_45 : decode cX9_addGauge 45 = .ok (.iload_n 3, 1) := by decide +kernel
theorem dX9_addGauge_46 : decode cX9_addGauge 46 = .ok (.invokevirtual 89, 3) := by decide +kernel
theorem dX9_addGauge_49 : decode cX9_addGauge 49 = .ok (.ireturn, 1) := by decide +kernel
theorem dX9_addRefuge_0 : decode cX9_addRefuge 0 = .ok (.iload_n 1, 1) := by decide +kernel
theorem dX9_addRefuge_1 : decode cX9_addRefuge 1 = .ok (.iload_n 2, 1) := by decide +kernel
theorem dX9_addRefuge_2 : decode cX9_addRefuge 2 = .ok (.invokestatic 19, 3) := by decide +kernel
theorem dX9_addRefuge_5 : decode cX9_addRefuge 5 = .ok (.iload_n 3, 1) := by decide +kernel
theorem dX9_addRefuge_6 : decode cX9_addRefuge 6 = .ok (.iconst 1, 1) := by decide +kernel
theorem dX9_addRefuge_7 : decode cX9_addRefuge 7 = .ok (.bipush 20, 2) := by decide +kernel
theorem dX9_addRefuge_9 : decode cX9_addRefuge 9 = .ok (.invokestatic 23, 3) := by decide +kernel
theorem dX9_addRefuge_12 : decode cX9_addRefuge 12 = .ok (.invokestatic 27, 3) := by decide +kernel
theorem dX9_addRefuge_15 : decode cX9_addRefuge 15 = .ok (.aload_n 0, 1) := by decide +kernel
theorem dX9_addRefuge_16 : decode cX9_addRefuge 16 = .ok (.getfield 10, 3) := by decide +kernel
theorem dX9_addRefuge_19 : decode cX9_addRefuge 19 = .ok (.getfield 92, 3) := by decide +kernel
theorem dX9_addRefuge_22 : decode cX9_addRefuge 22 = .ok (.iload_n 1, 1) := by decide +kernel
theorem dX9_addRefuge_23 : decode cX9_addRefuge 23 = .ok (.iload_n 2, 1) := by decide +kernel
theorem dX9_addRefuge_24 : decode cX9_addRefuge 24 = .ok (.invokestatic 31, 3) := by decide +kernel
theorem dX9_addRefuge_27 : decode cX9_addRefuge 27 = .ok (.invokevirtual 96, 3) := by decide +kernel
theorem dX9_addRefuge_30 : decode cX9_addRefuge 30 = .ok (.invokestatic 52, 3) := by decide +kernel
theorem dX9_addRefuge_33 : decode cX9_addRefuge 33 = .ok (.aload_n 0, 1) := by decide +kernel
theorem dX9_addRefuge_34 : decode cX9_addRefuge 34 = .ok (.getfield 10, 3) := by decide +kernel
theorem dX9_addRefuge_37 : decode cX9_addRefuge 37 = .ok (.getfield 92, 3) := by decide +kernel
theorem dX9_addRefuge_40 : decode cX9_addRefuge 40 = .ok (.iload_n 1, 1) := by decide +kernel
theorem dX9_addRefuge_41 : decode cX9_addRefuge 41 = .ok (.iload_n 2, 1) := by decide +kernel
theorem dX9_addRefuge_42 : decode cX9_addRefuge 42 = .ok (.invokestatic 31, 3) := by decide +kernel
theorem dX9_addRefuge_45 : decode cX9_addRefuge 45 = .ok (.iload_n 3, 1) := by decide +kernel
theorem dX9_addRefuge_46 : decode cX9_addRefuge 46 = .ok (.invokevirtual 99, 3) := by decide +kernel
theorem dX9_addRefuge_49 : decode cX9_addRefuge 49 = .ok (.ireturn, 1) := by decide +kernel
theorem dX9_settle_0 : decode cX9_settle 0 = .ok (.iload_n 1, 1) := by decide +kernel
theorem dX9_settle_1 : decode cX9_settle 1 = .ok (.iload_n 2, 1) := by decide +kernel
theorem dX9_settle_2 : decode cX9_settle 2 = .ok (.invokestatic 19, 3) := by decide +kernel
theorem dX9_settle_5 : decode cX9_settle 5 = .ok (.iload_n 3, 1) := by decide +kernel
theorem dX9_settle_6 : decode cX9_settle 6 = .ok (.iconst 1, 1) := by decide +kernel
theorem dX9_settle_7 : decode cX9_settle 7 = .ok (.bipush 6, 2) := by decide +kernel
theorem dX9_settle_9 : decode cX9_settle 9 = .ok (.invokestatic 23, 3) := by decide +kernel
theorem dX9_settle_12 : decode cX9_settle 12 = .ok (.invokestatic 27, 3) := by decide +kernel
theorem dX9_settle_15 : decode cX9_settle 15 = .ok (.aload_n 0, 1) := by decide +kernel
theorem dX9_settle_16 : decode cX9_settle 16 = .ok (.getfield 10, 3) := by decide +kernel
theorem dX9_settle_19 : decode cX9_settle 19 = .ok (.getfield 102, 3) := by decide +kernel
theorem dX9_settle_22 : decode cX9_settle 22 = .ok (.invokevirtual 106, 3) := by decide +kernel
theorem dX9_settle_25 : decode cX9_settle 25 = .ok (.ifCond .ne 7, 3) := by decide +kernel
theorem dX9_settle_28 : decode cX9_settle 28 = .ok (.iconst 1, 1) := by decide +kernel
theorem dX9_settle_29 : decode cX9_settle 29 = .ok (.goto 4, 3) := by decide +kernel
theorem dX9_settle_32 : decode cX9_settle 32 = .ok (.iconst 0, 1) := by decide +kernel
theorem dX9_settle_33 : decode cX9_settle 33 = .ok (.invokestatic 52, 3) := by decide +kernel
theorem dX9_settle_36 : decode cX9_settle 36 = .ok (.aload_n 0, 1) := by decide +kernel
theorem dX9_settle_37 : decode cX9_settle 37 = .ok (.getfield 10, 3) := by decide +kernel
theorem dX9_settle_40 : decode cX9_settle 40 = .ok (.getfield 102, 3) := by decide +kernel
theorem dX9_settle_43 : decode cX9_settle 43 = .ok (.iload_n 1, 1) := by decide +kernel
theorem dX9_settle_44 : decode cX9_settle 44 = .ok (.iload_n 2, 1) := by decide +kernel
theorem dX9_settle_45 : decode cX9_settle 45 = .ok (.invokestatic 31, 3) := by decide +kernel
theorem dX9_settle_48 : decode cX9_settle 48 = .ok (.iload_n 3, 1) := by decide +kernel
theorem dX9_settle_49 : decode cX9_settle 49 = .ok (.invokevirtual 112, 3) := by decide +kernel
theorem dX9_settle_52 : decode cX9_settle 52 = .ok (.ireturn, 1) := by decide +kernel
theorem dX9_addCaller_0 : decode cX9_addCaller 0 = .ok (.iload_n 1, 1) := by decide +kernel
theorem dX9_addCaller_1 : decode cX9_addCaller 1 = .ok (.iload_n 2, 1) := by decide +kernel
theorem dX9_addCaller_2 : decode cX9_addCaller 2 = .ok (.invokestatic 19, 3) := by decide +kernel
theorem dX9_addCaller_5 : decode cX9_addCaller 5 = .ok (.aload_n 0, 1) := by decide +kernel
theorem dX9_addCaller_6 : decode cX9_addCaller 6 = .ok (.getfield 10, 3) := by decide +kernel
theorem dX9_addCaller_9 : decode cX9_addCaller 9 = .ok (.getfield 115, 3) := by decide +kernel
theorem dX9_addCaller_12 : decode cX9_addCaller 12 = .ok (.invokevirtual 119, 3) := by decide +kernel
theorem dX9_addCaller_15 : decode cX9_addCaller 15 = .ok (.ifCond .ne 7, 3) := by decide +kernel
theorem dX9_addCaller_18 : decode cX9_addCaller 18 = .ok (.iconst 1, 1) := by decide +kernel
theorem dX9_addCaller_19 : decode cX9_addCaller 19 = .ok (.goto 4, 3) := by decide +kernel
theorem dX9_addCaller_22 : decode cX9_addCaller 22 = .ok (.iconst 0, 1) := by decide +kernel
theorem dX9_addCaller_23 : decode cX9_addCaller 23 = .ok (.invokestatic 52, 3) := by decide +kernel
theorem dX9_addCaller_26 : decode cX9_addCaller 26 = .ok (.aload_n 0, 1) := by decide +kernel
theorem dX9_addCaller_27 : decode cX9_addCaller 27 = .ok (.getfield 10, 3) := by decide +kernel
theorem dX9_addCaller_30 : decode cX9_addCaller 30 = .ok (.getfield 115, 3) := by decide +kernel
theorem dX9_addCaller_33 : decode cX9_addCaller 33 = .ok (.iload_n 1, 1) := by decide +kernel
theorem dX9_addCaller_34 : decode cX9_addCaller 34 = .ok (.iload_n 2, 1) := by decide +kernel
theorem dX9_addCaller_35 : decode cX9_addCaller 35 = .ok (.invokestatic 31, 3) := by decide +kernel
theorem dX9_addCaller_38 : decode cX9_addCaller 38 = .ok (.invokevirtual 122, 3) := by decide +kernel
theorem dX9_addCaller_41 : decode cX9_addCaller 41 = .ok (.ireturn, 1) := by decide +kernel
theorem dX9_cell_0 : decode cX9_cell 0 = .ok (.iload_n 1, 1) := by decide +kernel
theorem dX9_cell_1 : decode cX9_cell 1 = .ok (.iload_n 2, 1) := by decide +kernel
theorem dX9_cell_2 : decode cX9_cell 2 = .ok (.invokestatic 19, 3) := by decide +kernel
theorem dX9_cell_5 : decode cX9_cell 5 = .ok (.iload_n 3, 1) := by decide +kernel
theorem dX9_cell_6 : decode cX9_cell 6 = .ok (.iconst 0, 1) := by decide +kernel
theorem dX9_cell_7 : decode cX9_cell 7 = .ok (.iconst 5, 1) := by decide +kernel
theorem dX9_cell_8 : decode cX9_cell 8 = .ok (.invokestatic 23, 3) := by decide +kernel
theorem dX9_cell_11 : decode cX9_cell 11 = .ok (.invokestatic 55, 3) := by decide +kernel
theorem dX9_cell_14 : decode cX9_cell 14 = .ok (.aload_n 0, 1) := by decide +kernel
theorem dX9_cell_15 : decode cX9_cell 15 = .ok (.getfield 10, 3) := by decide +kernel
theorem dX9_cell_18 : decode cX9_cell 18 = .ok (.iload_n 1, 1) := by decide +kernel
theorem dX9_cell_19 : decode cX9_cell 19 = .ok (.iload_n 2, 1) := by decide +kernel
theorem dX9_cell_20 : decode cX9_cell 20 = .ok (.invokestatic 31, 3) := by decide +kernel
theorem dX9_cell_23 : decode cX9_cell 23 = .ok (.iload_n 3, 1) := by decide +kernel
theorem dX9_cell_24 : decode cX9_cell 24 = .ok (.invokevirtual 126, 3) := by decide +kernel
theorem dX9_cell_27 : decode cX9_cell 27 = .ok (.ireturn, 1) := by decide +kernel
theorem dX9_pump_0 : decode cX9_pump 0 = .ok (.aload_n 0, 1) := by decide +kernel
theorem dX9_pump_1 : decode cX9_pump 1 = .ok (.getfield 10, 3) := by decide +kernel
theorem dX9_pump_4 : decode cX9_pump 4 = .ok (.getfield 61, 3) := by decide +kernel
theorem dX9_pump_7 : decode cX9_pump 7 = .ok (.iload_n 1, 1) := by decide +kernel
theorem dX9_pump_8 : decode cX9_pump 8 = .ok (.invokevirtual 75, 3) := by decide +kernel
theorem dX9_pump_11 : decode cX9_pump 11 = .ok (.ifCond .eq 16, 3) := by decide +kernel
theorem dX9_pump_14 : decode cX9_pump 14 = .ok (.iload_n 2, 1) := by decide +kernel
theorem dX9_pump_15 : decode cX9_pump 15 = .ok (.iconst 0, 1) := by decide +kernel
theorem dX9_pump_16 : decode cX9_pump 16 = .ok (.iconst 5, 1) := by decide +kernel
theorem dX9_pump_17 : decode cX9_pump 17 = .ok (.invokestatic 23, 3) := by decide +kernel
theorem dX9_pump_20 : decode cX9_pump 20 = .ok (.ifCond .eq 7, 3) := by decide +kernel
theorem dX9_pump_23 : decode cX9_pump 23 = .ok (.iconst 1, 1) := by decide +kernel
theorem dX9_pump_24 : decode cX9_pump 24 = .ok (.goto 4, 3) := by decide +kernel
theorem dX9_pump_27 : decode cX9_pump 27 = .ok (.iconst 0, 1) := by decide +kernel
theorem dX9_pump_28 : decode cX9_pump 28 = .ok (.invokestatic 55, 3) := by decide +kernel
theorem dX9_pump_31 : decode cX9_pump 31 = .ok (.aload_n 0, 1) := by decide +kernel
theorem dX9_pump_32 : decode cX9_pump 32 = .ok (.getfield 10, 3) := by decide +kernel
theorem dX9_pump_35 : decode cX9_pump 35 = .ok (.getfield 61, 3) := by decide +kernel
theorem dX9_pump_38 : decode cX9_pump 38 = .ok (.iload_n 1, 1) := by decide +kernel
theorem dX9_pump_39 : decode cX9_pump 39 = .ok (.iload_n 2, 1) := by decide +kernel
theorem dX9_pump_40 : decode cX9_pump 40 = .ok (.invokevirtual 129, 3) := by decide +kernel
theorem dX9_pump_43 : decode cX9_pump 43 = .ok (.ireturn, 1) := by decide +kernel
theorem dX9_gauge_0 : decode cX9_gauge 0 = .ok (.aload_n 0, 1) := by decide +kernel
theorem dX9_gauge_1 : decode cX9_gauge 1 = .ok (.getfield 10, 3) := by decide +kernel
theorem dX9_gauge_4 : decode cX9_gauge 4 = .ok (.getfield 82, 3) := by decide +kernel
theorem dX9_gauge_7 : decode cX9_gauge 7 = .ok (.iload_n 1, 1) := by decide +kernel
theorem dX9_gauge_8 : decode cX9_gauge 8 = .ok (.invokevirtual 132, 3) := by decide +kernel
theorem dX9_gauge_11 : decode cX9_gauge 11 = .ok (.ifCond .eq 16, 3) := by decide +kernel
theorem dX9_gauge_14 : decode cX9_gauge 14 = .ok (.iload_n 2, 1) := by decide +kernel
theorem dX9_gauge_15 : decode cX9_gauge 15 = .ok (.iconst 0, 1) := by decide +kernel
theorem dX9_gauge_16 : decode cX9_gauge 16 = .ok (.iconst 4, 1) := by decide +kernel
theorem dX9_gauge_17 : decode cX9_gauge 17 = .ok (.invokestatic 23, 3) := by decide +kernel
theorem dX9_gauge_20 : decode cX9_gauge 20 = .ok (.ifCond .eq 7, 3) := by decide +kernel
theorem dX9_gauge_23 : decode cX9_gauge 23 = .ok (.iconst 1, 1) := by decide +kernel
theorem dX9_gauge_24 : decode cX9_gauge 24 = .ok (.goto 4, 3) := by decide +kernel
theorem dX9_gauge_27 : decode cX9_gauge 27 = .ok (.iconst 0, 1) := by decide +kernel
theorem dX9_gauge_28 : decode cX9_gauge 28 = .ok (.invokestatic 55, 3) := by decide +kernel
theorem dX9_gauge_31 : decode cX9_gauge 31 = .ok (.aload_n 0, 1) := by decide +kernel
theorem dX9_gauge_32 : decode cX9_gauge 32 = .ok (.getfield 10, 3) := by decide +kernel
theorem dX9_gauge_35 : decode cX9_gauge 35 = .ok (.getfield 82, 3) := by decide +kernel
theorem dX9_gauge_38 : decode cX9_gauge 38 = .ok (.iload_n 1, 1) := by decide +kernel
theorem dX9_gauge_39 : decode cX9_gauge 39 = .ok (.iload_n 2, 1) := by decide +kernel
theorem dX9_gauge_40 : decode cX9_gauge 40 = .ok (.aload_n 0, 1) := by decide +kernel
theorem dX9_gauge_41 : decode cX9_gauge 41 = .ok (.getfield 10, 3) := by decide +kernel
theorem dX9_gauge_44 : decode cX9_gauge 44 = .ok (.getfield 35, 3) := by decide +kernel
theorem dX9_gauge_47 : decode cX9_gauge 47 = .ok (.invokevirtual 133, 3) := by decide +kernel
theorem dX9_gauge_50 : decode cX9_gauge 50 = .ok (.ireturn, 1) := by decide +kernel
theorem dX9_refuge_0 : decode cX9_refuge 0 = .ok (.aload_n 0, 1) := by decide +kernel
theorem dX9_refuge_1 : decode cX9_refuge 1 = .ok (.getfield 10, 3) := by decide +kernel
theorem dX9_refuge_4 : decode cX9_refuge 4 = .ok (.getfield 92, 3) := by decide +kernel
theorem dX9_refuge_7 : decode cX9_refuge 7 = .ok (.iload_n 1, 1) := by decide +kernel
theorem dX9_refuge_8 : decode cX9_refuge 8 = .ok (.invokevirtual 136, 3) := by decide +kernel
theorem dX9_refuge_11 : decode cX9_refuge 11 = .ok (.ifCond .eq 16, 3) := by decide +kernel
theorem dX9_refuge_14 : decode cX9_refuge 14 = .ok (.iload_n 2, 1) := by decide +kernel
theorem dX9_refuge_15 : decode cX9_refuge 15 = .ok (.iconst 0, 1) := by decide +kernel
theorem dX9_refuge_16 : decode cX9_refuge 16 = .ok (.iconst 4, 1) := by decide +kernel
theorem dX9_refuge_17 : decode cX9_refuge 17 = .ok (.invokestatic 23, 3) := by decide +kernel
theorem dX9_refuge_20 : decode cX9_refuge 20 = .ok (.ifCond .eq 7, 3) := by decide +kernel
theorem dX9_refuge_23 : decode cX9_refuge 23 = .ok (.iconst 1, 1) := by decide +kernel
theorem dX9_refuge_24 : decode cX9_refuge 24 = .ok (.goto 4, 3) := by decide +kernel
theorem dX9_refuge_27 : decode cX9_refuge 27 = .ok (.iconst 0, 1) := by decide +kernel
theorem dX9_refuge_28 : decode cX9_refuge 28 = .ok (.invokestatic 55, 3) := by decide +kernel
theorem dX9_refuge_31 : decode cX9_refuge 31 = .ok (.aload_n 0, 1) := by decide +kernel
theorem dX9_refuge_32 : decode cX9_refuge 32 = .ok (.getfield 10, 3) := by decide +kernel
theorem dX9_refuge_35 : decode cX9_refuge 35 = .ok (.getfield 92, 3) := by decide +kernel
theorem dX9_refuge_38 : decode cX9_refuge 38 = .ok (.iload_n 1, 1) := by decide +kernel
theorem dX9_refuge_39 : decode cX9_refuge 39 = .ok (.iload_n 2, 1) := by decide +kernel
theorem dX9_refuge_40 : decode cX9_refuge 40 = .ok (.invokevirtual 137, 3) := by decide +kernel
theorem dX9_refuge_43 : decode cX9_refuge 43 = .ok (.ireturn, 1) := by decide +kernel
theorem dX9_household_0 : decode cX9_household 0 = .ok (.aload_n 0, 1) := by decide +kernel
theorem dX9_household_1 : decode cX9_household 1 = .ok (.getfield 10, 3) := by decide +kernel
theorem dX9_household_4 : decode cX9_household 4 = .ok (.getfield 102, 3) := by decide +kernel
theorem dX9_household_7 : decode cX9_household 7 = .ok (.iload_n 1, 1) := by decide +kernel
theorem dX9_household_8 : decode cX9_household 8 = .ok (.invokevirtual 138, 3) := by decide +kernel
theorem dX9_household_11 : decode cX9_household 11 = .ok (.ifCond .eq 16, 3) := by decide +kernel
theorem dX9_household_14 : decode cX9_household 14 = .ok (.iload_n 2, 1) := by decide +kernel
theorem dX9_household_15 : decode cX9_household 15 = .ok (.iconst 0, 1) := by decide +kernel
theorem dX9_household_16 : decode cX9_household 16 = .ok (.iconst 4, 1) := by decide +kernel
theorem dX9_household_17 : decode cX9_household 17 = .ok (.invokestatic 23, 3) := by decide +kernel
theorem dX9_household_20 : decode cX9_household 20 = .ok (.ifCond .eq 7, 3) := by decide +kernel
theorem dX9_household_23 : decode cX9_household 23 = .ok (.iconst 1, 1) := by decide +kernel
theorem dX9_household_24 : decode cX9_household 24 = .ok (.goto 4, 3) := by decide +kernel
theorem dX9_household_27 : decode cX9_household 27 = .ok (.iconst 0, 1) := by decide +kernel
theorem dX9_household_28 : decode cX9_household 28 = .ok (.invokestatic 55, 3) := by decide +kernel
theorem dX9_household_31 : decode cX9_household 31 = .ok (.aload_n 0, 1) := by decide +kernel
theorem dX9_household_32 : decode cX9_household 32 = .ok (.getfield 10, 3) := by decide +kernel
theorem dX9_household_35 : decode cX9_household 35 = .ok (.iload_n 1, 1) := by decide +kernel
theorem dX9_household_36 : decode cX9_household 36 = .ok (.iload_n 2, 1) := by decide +kernel
theorem dX9_household_37 : decode cX9_household 37 = .ok (.invokevirtual 139, 3) := by decide +kernel
theorem dX9_household_40 : decode cX9_household 40 = .ok (.ireturn, 1) := by decide +kernel
theorem dX9_caller_0 : decode cX9_caller 0 = .ok (.aload_n 0, 1) := by decide +kernel
theorem dX9_caller_1 : decode cX9_caller 1 = .ok (.getfield 10, 3) := by decide +kernel
theorem dX9_caller_4 : decode cX9_caller 4 = .ok (.getfield 115, 3) := by decide +kernel
theorem dX9_caller_7 : decode cX9_caller 7 = .ok (.iload_n 1, 1) := by decide +kernel
theorem dX9_caller_8 : decode cX9_caller 8 = .ok (.invokevirtual 142, 3) := by decide +kernel
theorem dX9_caller_11 : decode cX9_caller 11 = .ok (.ifCond .eq 16, 3) := by decide +kernel
theorem dX9_caller_14 : decode cX9_caller 14 = .ok (.iload_n 2, 1) := by decide +kernel
theorem dX9_caller_15 : decode cX9_caller 15 = .ok (.iconst 0, 1) := by decide +kernel
theorem dX9_caller_16 : decode cX9_caller 16 = .ok (.iconst 2, 1) := by decide +kernel
theorem dX9_caller_17 : decode cX9_caller 17 = .ok (.invokestatic 23, 3) := by decide +kernel
theorem dX9_caller_20 : decode cX9_caller 20 = .ok (.ifCond .eq 7, 3) := by decide +kernel
theorem dX9_caller_23 : decode cX9_caller 23 = .ok (.iconst 1, 1) := by decide +kernel
theorem dX9_caller_24 : decode cX9_caller 24 = .ok (.goto 4, 3) := by decide +kernel
theorem dX9_caller_27 : decode cX9_caller 27 = .ok (.iconst 0, 1) := by decide +kernel
theorem dX9_caller_28 : decode cX9_caller 28 = .ok (.invokestatic 55, 3) := by decide +kernel
theorem dX9_caller_31 : decode cX9_caller 31 = .ok (.aload_n 0, 1) := by decide +kernel
theorem dX9_caller_32 : decode cX9_caller 32 = .ok (.getfield 10, 3) := by decide +kernel
theorem dX9_caller_35 : decode cX9_caller 35 = .ok (.getfield 115, 3) := by decide +kernel
theorem dX9_caller_38 : decode cX9_caller 38 = .ok (.iload_n 1, 1) := by decide +kernel
theorem dX9_caller_39 : decode cX9_caller 39 = .ok (.iload_n 2, 1) := by decide +kernel
theorem dX9_caller_40 : decode cX9_caller 40 = .ok (.invokevirtual 143, 3) := by decide +kernel
theorem dX9_caller_43 : decode cX9_caller 43 = .ok (.ireturn, 1) := by decide +kernel
theorem dX9_count_0 : decode cX9_count 0 = .ok (.iload_n 1, 1) := by decide +kernel
theorem dX9_count_1 : decode cX9_count 1 = .ok (.iconst 0, 1) := by decide +kernel
theorem dX9_count_2 : decode cX9_count 2 = .ok (.bipush 9, 2) := by decide +kernel
theorem dX9_count_4 : decode cX9_count 4 = .ok (.invokestatic 23, 3) := by decide +kernel
theorem dX9_count_7 : decode cX9_count 7 = .ok (.invokestatic 55, 3) := by decide +kernel
theorem dX9_count_10 : decode cX9_count 10 = .ok (.aload_n 0, 1) := by decide +kernel
theorem dX9_count_11 : decode cX9_count 11 = .ok (.getfield 10, 3) := by decide +kernel
theorem dX9_count_14 : decode cX9_count 14 = .ok (.iload_n 1, 1) := by decide +kernel
theorem dX9_count_15 : decode cX9_count 15 = .ok (.invokevirtual 144, 3) := by decide +kernel
theorem dX9_count_18 : decode cX9_count 18 = .ok (.ireturn, 1) := by decide +kernel
theorem dX9_pass_0 : decode cX9_pass 0 = .ok (.iload_n 1, 1) := by decide +kernel
theorem dX9_pass_1 : decode cX9_pass 1 = .ok (.iconst 1, 1) := by decide +kernel
theorem dX9_pass_2 : decode cX9_pass 2 = .ok (.bipush 36, 2) := by decide +kernel
theorem dX9_pass_4 : decode cX9_pass 4 = .ok (.invokestatic 23, 3) := by decide +kernel
theorem dX9_pass_7 : decode cX9_pass 7 = .ok (.invokestatic 27, 3) := by decide +kernel
theorem dX9_pass_10 : decode cX9_pass 10 = .ok (.aload_n 0, 1) := by decide +kernel
theorem dX9_pass_11 : decode cX9_pass 11 = .ok (.getfield 10, 3) := by decide +kernel
theorem dX9_pass_14 : decode cX9_pass 14 = .ok (.getfield 102, 3) := by decide +kernel
theorem dX9_pass_17 : decode cX9_pass 17 = .ok (.getfield 147, 3) := by decide +kernel
theorem dX9_pass_20 : decode cX9_pass 20 = .ok (.istore_n 2, 1) := by decide +kernel
theorem dX9_pass_21 : decode cX9_pass 21 = .ok (.aload_n 0, 1) := by decide +kernel
theorem dX9_pass_22 : decode cX9_pass 22 = .ok (.getfield 10, 3) := by decide +kernel
theorem dX9_pass_25 : decode cX9_pass 25 = .ok (.iload_n 1, 1) := by decide +kernel
theorem dX9_pass_26 : decode cX9_pass 26 = .ok (.invokevirtual 151, 3) := by decide +kernel
theorem dX9_pass_29 : decode cX9_pass 29 = .ok (.aload_n 0, 1) := by decide +kernel
theorem dX9_pass_30 : decode cX9_pass 30 = .ok (.getfield 10, 3) := by decide +kernel
theorem dX9_pass_33 : decode cX9_pass 33 = .ok (.getfield 102, 3) := by decide +kernel
theorem dX9_pass_36 : decode cX9_pass 36 = .ok (.getfield 147, 3) := by decide +kernel
theorem dX9_pass_39 : decode cX9_pass 39 = .ok (.iload_n 2, 1) := by decide +kernel
theorem dX9_pass_40 : decode cX9_pass 40 = .ok (.isub, 1) := by decide +kernel
theorem dX9_pass_41 : decode cX9_pass 41 = .ok (.ireturn, 1) := by decide +kernel
theorem dX9_foresee_0 : decode cX9_foresee 0 = .ok (.iload_n 1, 1) := by decide +kernel
theorem dX9_foresee_1 : decode cX9_foresee 1 = .ok (.iconst 1, 1) := by decide +kernel
theorem dX9_foresee_2 : decode cX9_foresee 2 = .ok (.bipush 36, 2) := by decide +kernel
theorem dX9_foresee_4 : decode cX9_foresee 4 = .ok (.invokestatic 23, 3) := by decide +kernel
theorem dX9_foresee_7 : decode cX9_foresee 7 = .ok (.invokestatic 27, 3) := by decide +kernel
theorem dX9_foresee_10 : decode cX9_foresee 10 = .ok (.iload_n 2, 1) := by decide +kernel
theorem dX9_foresee_11 : decode cX9_foresee 11 = .ok (.iconst 0, 1) := by decide +kernel
theorem dX9_foresee_12 : decode cX9_foresee 12 = .ok (.iconst 3, 1) := by decide +kernel
theorem dX9_foresee_13 : decode cX9_foresee 13 = .ok (.invokestatic 23, 3) := by decide +kernel
theorem dX9_foresee_16 : decode cX9_foresee 16 = .ok (.invokestatic 55, 3) := by decide +kernel
theorem dX9_foresee_19 : decode cX9_foresee 19 = .ok (.aload_n 0, 1) := by decide +kernel
theorem dX9_foresee_20 : decode cX9_foresee 20 = .ok (.getfield 16, 3) := by decide +kernel
theorem dX9_foresee_23 : decode cX9_foresee 23 = .ok (.aload_n 0, 1) := by decide +kernel
theorem dX9_foresee_24 : decode cX9_foresee 24 = .ok (.getfield 10, 3) := by decide +kernel
theorem dX9_foresee_27 : decode cX9_foresee 27 = .ok (.invokevirtual 155, 3) := by decide +kernel
theorem dX9_foresee_30 : decode cX9_foresee 30 = .ok (.aload_n 0, 1) := by decide +kernel
theorem dX9_foresee_31 : decode cX9_foresee 31 = .ok (.getfield 16, 3) := by decide +kernel
theorem dX9_foresee_34 : decode cX9_foresee 34 = .ok (.iload_n 1, 1) := by decide +kernel
theorem dX9_foresee_35 : decode cX9_foresee 35 = .ok (.invokevirtual 151, 3) := by decide +kernel
theorem dX9_foresee_38 : decode cX9_foresee 38 = .ok (.iload_n 2, 1) := by decide +kernel
theorem dX9_foresee_39 : decode cX9_foresee 39 = .ok (.tableswitch 70 0 2 #[25, 37, 59], 25) := by decide +kernel
theorem dX9_foresee_64 : decode cX9_foresee 64 = .ok (.aload_n 0, 1) := by decide +kernel
theorem dX9_foresee_65 : decode cX9_foresee 65 = .ok (.getfield 16, 3) := by decide +kernel
theorem dX9_foresee_68 : decode cX9_foresee 68 = .ok (.getfield 102, 3) := by decide +kernel
theorem dX9_foresee_71 : decode cX9_foresee 71 = .ok (.iconst 2, 1) := by decide +kernel
theorem dX9_foresee_72 : decode cX9_foresee 72 = .ok (.invokevirtual 159, 3) := by decide +kernel
theorem dX9_foresee_75 : decode cX9_foresee 75 = .ok (.ireturn, 1) := by decide +kernel
theorem dX9_foresee_76 : decode cX9_foresee 76 = .ok (.aload_n 0, 1) := by decide +kernel
theorem dX9_foresee_77 : decode cX9_foresee 77 = .ok (.getfield 16, 3) := by decide +kernel
theorem dX9_foresee_80 : decode cX9_foresee 80 = .ok (.getfield 102, 3) := by decide +kernel
theorem dX9_foresee_83 : decode cX9_foresee 83 = .ok (.getfield 147, 3) := by decide +kernel
theorem dX9_foresee_86 : decode cX9_foresee 86 = .ok (.aload_n 0, 1) := by decide +kernel
theorem dX9_foresee_87 : decode cX9_foresee 87 = .ok (.getfield 10, 3) := by decide +kernel
theorem dX9_foresee_90 : decode cX9_foresee 90 = .ok (.getfield 102, 3) := by decide +kernel
theorem dX9_foresee_93 : decode cX9_foresee 93 = .ok (.getfield 147, 3) := by decide +kernel
theorem dX9_foresee_96 : decode cX9_foresee 96 = .ok (.isub, 1) := by decide +kernel
theorem dX9_foresee_97 : decode cX9_foresee 97 = .ok (.ireturn, 1) := by decide +kernel
theorem dX9_foresee_98 : decode cX9_foresee 98 = .ok (.aload_n 0, 1) := by decide +kernel
theorem dX9_foresee_99 : decode cX9_foresee 99 = .ok (.getfield 16, 3) := by decide +kernel
theorem dX9_foresee_102 : decode cX9_foresee 102 = .ok (.getfield 35, 3) := by decide +kernel
theorem dX9_foresee_105 : decode cX9_foresee 105 = .ok (.invokevirtual 162, 3) := by decide +kernel
theorem dX9_foresee_108 : decode cX9_foresee 108 = .ok (.ireturn, 1) := by decide +kernel
theorem dX9_foresee_109 : decode cX9_foresee 109 = .ok (.aload_n 0, 1) := by decide +kernel
theorem dX9_foresee_110 : decode cX9_foresee 110 = .ok (.getfield 16, 3) := by decide +kernel
theorem dX9_foresee_113 : decode cX9_foresee 113 = .ok (.getfield 61, 3) := by decide +kernel
theorem dX9_foresee_116 : decode cX9_foresee 116 = .ok (.invokevirtual 165, 3) := by decide +kernel
theorem dX9_foresee_119 : decode cX9_foresee 119 = .ok (.ireturn, 1) := by decide +kernel
theorem dX9_rings_0 : decode cX9_rings 0 = .ok (.aload_n 0, 1) := by decide +kernel
theorem dX9_rings_1 : decode cX9_rings 1 = .ok (.getfield 10, 3) := by decide +kernel
theorem dX9_rings_4 : decode cX9_rings 4 = .ok (.getfield 82, 3) := by decide +kernel
theorem dX9_rings_7 : decode cX9_rings 7 = .ok (.iload_n 1, 1) := by decide +kernel
theorem dX9_rings_8 : decode cX9_rings 8 = .ok (.invokevirtual 132, 3) := by decide +kernel
theorem dX9_rings_11 : decode cX9_rings 11 = .ok (.invokestatic 55, 3) := by decide +kernel
theorem dX9_rings_14 : decode cX9_rings 14 = .ok (.aload_n 0, 1) := by decide +kernel
theorem dX9_rings_15 : decode cX9_rings 15 = .ok (.getfield 16, 3) := by decide +kernel
theorem dX9_rings_18 : decode cX9_rings 18 = .ok (.aload_n 0, 1) := by decide +kernel
theorem dX9_rings_19 : decode cX9_rings 19 = .ok (.getfield 10, 3) := by decide +kernel
theorem dX9_rings_22 : decode cX9_rings 22 = .ok (.invokevirtual 155, 3) := by decide +kernel
theorem dX9_rings_25 : decode cX9_rings 25 = .ok (.iconst 0, 1) := by decide +kernel
theorem dX9_rings_26 : decode cX9_rings 26 = .ok (.istore_n 2, 1) := by decide +kernel
theorem dX9_rings_27 : decode cX9_rings 27 = .ok (.iload_n 2, 1) := by decide +kernel
theorem dX9_rings_28 : decode cX9_rings 28 = .ok (.bipush 48, 2) := by decide +kernel
theorem dX9_rings_30 : decode cX9_rings 30 = .ok (.if_icmp .ge 39, 3) := by decide +kernel
theorem dX9_rings_33 : decode cX9_rings 33 = .ok (.aload_n 0, 1) := by decide +kernel
theorem dX9_rings_34 : decode cX9_rings 34 = .ok (.getfield 16, 3) := by decide +kernel
theorem dX9_rings_37 : decode cX9_rings 37 = .ok (.getfield 82, 3) := by decide +kernel
theorem dX9_rings_40 : decode cX9_rings 40 = .ok (.iload_n 1, 1) := by decide +kernel
theorem dX9_rings_41 : decode cX9_rings 41 = .ok (.aload_n 0, 1) := by decide +kernel
theorem dX9_rings_42 : decode cX9_rings 42 = .ok (.getfield 16, 3) := by decide +kernel
theorem dX9_rings_45 : decode cX9_rings 45 = .ok (.getfield 35, 3) := by decide +kernel
theorem dX9_rings_48 : decode cX9_rings 48 = .ok (.invokevirtual 168, 3) := by decide +kernel
theorem dX9_rings_51 : decode cX9_rings 51 = .ok (.ifCond .eq 5, 3) := by decide +kernel
theorem dX9_rings_54 : decode cX9_rings 54 = .ok (.iload_n 2, 1) := by decide +kernel
theorem dX9_rings_55 : decode cX9_rings 55 = .ok (.ireturn, 1) := by decide +kernel
theorem dX9_rings_56 : decode cX9_rings 56 = .ok (.aload_n 0, 1) := by decide +kernel
theorem dX9_rings_57 : decode cX9_rings 57 = .ok (.getfield 16, 3) := by decide +kernel
theorem dX9_rings_60 : decode cX9_rings 60 = .ok (.invokevirtual 172, 3) := by decide +kernel
theorem dX9_rings_63 : decode cX9_rings 63 = .ok (.iinc 2 1, 3) := by decide +kernel
theorem dX9_rings_66 : decode cX9_rings 66 = .ok (.goto (-39), 3) := by decide +kernel
theorem dX9_rings_69 : decode cX9_rings 69 = .ok (.aload_n 0, 1) := by decide +kernel
theorem dX9_rings_70 : decode cX9_rings 70 = .ok (.getfield 16, 3) := by decide +kernel
theorem dX9_rings_73 : decode cX9_rings 73 = .ok (.getfield 82, 3) := by decide +kernel
theorem dX9_rings_76 : decode cX9_rings 76 = .ok (.iload_n 1, 1) := by decide +kernel
theorem dX9_rings_77 : decode cX9_rings 77 = .ok (.aload_n 0, 1) := by decide +kernel
theorem dX9_rings_78 : decode cX9_rings 78 = .ok (.getfield 16, 3) := by decide +kernel
theorem dX9_rings_81 : decode cX9_rings 81 = .ok (.getfield 35, 3) := by decide +kernel
theorem dX9_rings_84 : decode cX9_rings 84 = .ok (.invokevirtual 168, 3) := by decide +kernel
theorem dX9_rings_87 : decode cX9_rings 87 = .ok (.ifCond .eq 8, 3) := by decide +kernel
theorem dX9_rings_90 : decode cX9_rings 90 = .ok (.bipush 48, 2) := by decide +kernel
theorem dX9_rings_92 : decode cX9_rings 92 = .ok (.goto 4, 3) := by decide +kernel
theorem dX9_rings_95 : decode cX9_rings 95 = .ok (.iconst (-1), 1) := by decide +kernel
theorem dX9_rings_96 : decode cX9_rings 96 = .ok (.ireturn, 1) := by decide +kernel
theorem dX9_advise_0 : decode cX9_advise 0 = .ok (.iload_n 1, 1) := by decide +kernel
theorem dX9_advise_1 : decode cX9_advise 1 = .ok (.iconst 1, 1) := by decide +kernel
theorem dX9_advise_2 : decode cX9_advise 2 = .ok (.bipush 6, 2) := by decide +kernel
theorem dX9_advise_4 : decode cX9_advise 4 = .ok (.invokestatic 23, 3) := by decide +kernel
theorem dX9_advise_7 : decode cX9_advise 7 = .ok (.invokestatic 27, 3) := by decide +kernel
theorem dX9_advise_10 : decode cX9_advise 10 = .ok (.iconst (-1), 1) := by decide +kernel
theorem dX9_advise_11 : decode cX9_advise 11 = .ok (.istore_n 2, 1) := by decide +kernel
theorem dX9_advise_12 : decode cX9_advise 12 = .ok (.aload_n 0, 1) := by decide +kernel
theorem dX9_advise_13 : decode cX9_advise 13 = .ok (.iload_n 1, 1) := by decide +kernel
theorem dX9_advise_14 : decode cX9_advise 14 = .ok (.iconst (-1), 1) := by decide +kernel
theorem dX9_advise_15 : decode cX9_advise 15 = .ok (.invokevirtual 175, 3) := by decide +kernel
theorem dX9_advise_18 : decode cX9_advise 18 = .ok (.istore_n 3, 1) := by decide +kernel
theorem dX9_advise_19 : decode cX9_advise 19 = .ok (.iconst 0, 1) := by decide +kernel
theorem dX9_advise_20 : decode cX9_advise 20 = .ok (.istore 4, 2) := by decide +kernel
theorem dX9_advise_22 : decode cX9_advise 22 = .ok (.iload 4, 2) := by decide +kernel
theorem dX9_advise_24 : decode cX9_advise 24 = .ok (.bipush 10, 2) := by decide +kernel
theorem dX9_advise_26 : decode cX9_advise 26 = .ok (.if_icmp .ge 55, 3) := by decide +kernel
theorem dX9_advise_29 : decode cX9_advise 29 = .ok (.iload 4, 2) := by decide +kernel
theorem dX9_advise_31 : decode cX9_advise 31 = .ok (.iconst 1, 1) := by decide +kernel
theorem dX9_advise_32 : decode cX9_advise 32 = .ok (.invokestatic 31, 3) := by decide +kernel
theorem dX9_advise_35 : decode cX9_advise 35 = .ok (.istore 5, 2) := by decide +kernel
theorem dX9_advise_37 : decode cX9_advise 37 = .ok (.aload_n 0, 1) := by decide +kernel
theorem dX9_advise_38 : decode cX9_advise 38 = .ok (.getfield 10, 3) := by decide +kernel
theorem dX9_advise_41 : decode cX9_advise 41 = .ok (.getfield 35, 3) := by decide +kernel
theorem dX9_advise_44 : decode cX9_advise 44 = .ok (.getfield 49, 3) := by decide +kernel
theorem dX9_advise_47 : decode cX9_advise 47 = .ok (.iload 5, 2) := by decide +kernel
theorem dX9_advise_49 : decode cX9_advise 49 = .ok (.iaload, 1) := by decide +kernel
theorem dX9_advise_50 : decode cX9_advise 50 = .ok (.iconst 5, 1) := by decide +kernel
theorem dX9_advise_51 : decode cX9_advise 51 = .ok (.if_icmp .ge 24, 3) := by decide +kernel
theorem dX9_advise_54 : decode cX9_advise 54 = .ok (.aload_n 0, 1) := by decide +kernel
theorem dX9_advise_55 : decode cX9_advise 55 = .ok (.iload_n 1, 1) := by decide +kernel
theorem dX9_advise_56 : decode cX9_advise 56 = .ok (.iload 5, 2) := by decide +kernel
theorem dX9_advise_58 : decode cX9_advise 58 = .ok (.invokevirtual 175, 3) := by decide +kernel
theorem dX9_advise_61 : decode cX9_advise 61 = .ok (.istore 6, 2) := by decide +kernel
theorem dX9_advise_63 : decode cX9_advise 63 = .ok (.iload 6, 2) := by decide +kernel
theorem dX9_advise_65 : decode cX9_advise 65 = .ok (.iload_n 3, 1) := by decide +kernel
theorem dX9_advise_66 : decode cX9_advise 66 = .ok (.if_icmp .ge 9, 3) := by decide +kernel
theorem dX9_advise_69 : decode cX9_advise 69 = .ok (.iload 6, 2) := by decide +kernel
theorem dX9_advise_71 : decode cX9_advise 71 = .ok (.istore_n 3, 1) := by decide +kernel
theorem dX9_advise_72 : decode cX9_advise 72 = .ok (.iload 4, 2) := by decide +kernel
theorem dX9_advise_74 : decode cX9_advise 74 = .ok (.istore_n 2, 1) := by decide +kernel
theorem dX9_advise_75 : decode cX9_advise 75 = .ok (.iinc 4 1, 3) := by decide +kernel
theorem dX9_advise_78 : decode cX9_advise 78 = .ok (.goto (-56), 3) := by decide +kernel
theorem dX9_advise_81 : decode cX9_advise 81 = .ok (.iload_n 2, 1) := by decide +kernel
theorem dX9_advise_82 : decode cX9_advise 82 = .ok (.ireturn, 1) := by decide +kernel
theorem dX9_share_0 : decode cX9_share 0 = .ok (.aload_n 0, 1) := by decide +kernel
theorem dX9_share_1 : decode cX9_share 1 = .ok (.getfield 10, 3) := by decide +kernel
theorem dX9_share_4 : decode cX9_share 4 = .ok (.getfield 102, 3) := by decide +kernel
theorem dX9_share_7 : decode cX9_share 7 = .ok (.iconst 2, 1) := by decide +kernel
theorem dX9_share_8 : decode cX9_share 8 = .ok (.invokevirtual 159, 3) := by decide +kernel
theorem dX9_share_11 : decode cX9_share 11 = .ok (.istore_n 1, 1) := by decide +kernel
theorem dX9_share_12 : decode cX9_share 12 = .ok (.iload_n 1, 1) := by decide +kernel
theorem dX9_share_13 : decode cX9_share 13 = .ok (.aload_n 0, 1) := by decide +kernel
theorem dX9_share_14 : decode cX9_share 14 = .ok (.getfield 10, 3) := by decide +kernel
theorem dX9_share_17 : decode cX9_share 17 = .ok (.getfield 102, 3) := by decide +kernel
theorem dX9_share_20 : decode cX9_share 20 = .ok (.iconst 0, 1) := by decide +kernel
theorem dX9_share_21 : decode cX9_share 21 = .ok (.invokevirtual 159, 3) := by decide +kernel
theorem dX9_share_24 : decode cX9_share 24 = .ok (.iadd, 1) := by decide +kernel
theorem dX9_share_25 : decode cX9_share 25 = .ok (.aload_n 0, 1) := by decide +kernel
theorem dX9_share_26 : decode cX9_share 26 = .ok (.getfield 10, 3) := by decide +kernel
theorem dX9_share_29 : decode cX9_share 29 = .ok (.getfield 102, 3) := by decide +kernel
theorem dX9_share_32 : decode cX9_share 32 = .ok (.iconst 1, 1) := by decide +kernel
theorem dX9_share_33 : decode cX9_share 33 = .ok (.invokevirtual 159, 3) := by decide +kernel
theorem dX9_share_36 : decode cX9_share 36 = .ok (.iadd, 1) := by decide +kernel
theorem dX9_share_37 : decode cX9_share 37 = .ok (.istore_n 2, 1) := by decide +kernel
theorem dX9_share_38 : decode cX9_share 38 = .ok (.iload_n 2, 1) := by decide +kernel
theorem dX9_share_39 : decode cX9_share 39 = .ok (.ifCond .le 11, 3) := by decide +kernel
theorem dX9_share_42 : decode cX9_share 42 = .ok (.iload_n 1, 1) := by decide +kernel
theorem dX9_share_43 : decode cX9_share 43 = .ok (.i2d, 1) := by decide +kernel
theorem dX9_share_44 : decode cX9_share 44 = .ok (.iload_n 2, 1) := by decide +kernel
theorem dX9_share_45 : decode cX9_share 45 = .ok (.i2d, 1) := by decide +kernel
theorem dX9_share_46 : decode cX9_share 46 = .ok (.ddiv, 1) := by decide +kernel
theorem dX9_share_47 : decode cX9_share 47 = .ok (.goto 4, 3) := by decide +kernel
theorem dX9_share_50 : decode cX9_share 50 = .ok (.dconst 0, 1) := by decide +kernel
theorem dX9_share_51 : decode cX9_share 51 = .ok (.dreturn, 1) := by decide +kernel
theorem dX9_digest_0 : decode cX9_digest 0 = .ok (.ldc2_w 178, 3) := by decide +kernel
theorem dX9_digest_3 : decode cX9_digest 3 = .ok (.lstore_n 1, 1) := by decide +kernel
theorem dX9_digest_4 : decode cX9_digest 4 = .ok (.iconst 0, 1) := by decide +kernel
theorem dX9_digest_5 : decode cX9_digest 5 = .ok (.istore_n 3, 1) := by decide +kernel
theorem dX9_digest_6 : decode cX9_digest 6 = .ok (.iload_n 3, 1) := by decide +kernel
theorem dX9_digest_7 : decode cX9_digest 7 = .ok (.bipush 10, 2) := by decide +kernel
theorem dX9_digest_9 : decode cX9_digest 9 = .ok (.if_icmp .ge 25, 3) := by decide +kernel
theorem dX9_digest_12 : decode cX9_digest 12 = .ok (.lload_n 1, 1) := by decide +kernel
theorem dX9_digest_13 : decode cX9_digest 13 = .ok (.ldc2_w 180, 3) := by decide +kernel
theorem dX9_digest_16 : decode cX9_digest 16 = .ok (.lmul, 1) := by decide +kernel
theorem dX9_digest_17 : decode cX9_digest 17 = .ok (.aload_n 0, 1) := by decide +kernel
theorem dX9_digest_18 : decode cX9_digest 18 = .ok (.getfield 10, 3) := by decide +kernel
theorem dX9_digest_21 : decode cX9_digest 21 = .ok (.iload_n 3, 1) := by decide +kernel
theorem dX9_digest_22 : decode cX9_digest 22 = .ok (.invokevirtual 144, 3) := by decide +kernel
theorem dX9_digest_25 : decode cX9_digest 25 = .ok (.i2l, 1) := by decide +kernel
theorem dX9_digest_26 : decode cX9_digest 26 = .ok (.ladd, 1) := by decide +kernel
theorem dX9_digest_27 : decode cX9_digest 27 = .ok (.lstore_n 1, 1) := by decide +kernel
theorem dX9_digest_28 : decode cX9_digest 28 = .ok (.iinc 3 1, 3) := by decide +kernel
theorem dX9_digest_31 : decode cX9_digest 31 = .ok (.goto (-25), 3) := by decide +kernel
theorem dX9_digest_34 : decode cX9_digest 34 = .ok (.iconst 0, 1) := by decide +kernel
theorem dX9_digest_35 : decode cX9_digest 35 = .ok (.istore_n 3, 1) := by decide +kernel
theorem dX9_digest_36 : decode cX9_digest 36 = .ok (.iload_n 3, 1) := by decide +kernel
theorem dX9_digest_37 : decode cX9_digest 37 = .ok (.bipush 80, 2) := by decide +kernel
theorem dX9_digest_39 : decode cX9_digest 39 = .ok (.if_icmp .ge 43, 3) := by decide +kernel
theorem dX9_digest_42 : decode cX9_digest 42 = .ok (.iconst 0, 1) := by decide +kernel
theorem dX9_digest_43 : decode cX9_digest 43 = .ok (.istore 4, 2) := by decide +kernel
theorem dX9_digest_45 : decode cX9_digest 45 = .ok (.iload 4, 2) := by decide +kernel
theorem dX9_digest_47 : decode cX9_digest 47 = .ok (.bipush 6, 2) := by decide +kernel
theorem dX9_digest_49 : decode cX9_digest 49 = .ok (.if_icmp .ge 27, 3) := by decide +kernel
theorem dX9_digest_52 : decode cX9_digest 52 = .ok (.lload_n 1, 1) := by decide +kernel
theorem dX9_digest_53 : decode cX9_digest 53 = .ok (.ldc2_w 180, 3) := by decide +kernel
theorem dX9_digest_56 : decode cX9_digest 56 = .ok (.lmul, 1) := by decide +kernel
theorem dX9_digest_57 : decode cX9_digest 57 = .ok (.aload_n 0, 1) := by decide +kernel
theorem dX9_digest_58 : decode cX9_digest 58 = .ok (.getfield 10, 3) := by decide +kernel
theorem dX9_digest_61 : decode cX9_digest 61 = .ok (.iload_n 3, 1) := by decide +kernel
theorem dX9_digest_62 : decode cX9_digest 62 = .ok (.iload 4, 2) := by decide +kernel
theorem dX9_digest_64 : decode cX9_digest 64 = .ok (.invokevirtual 126, 3) := by decide +kernel
theorem dX9_digest_67 : decode cX9_digest 67 = .ok (.i2l, 1) := by decide +kernel
theorem dX9_digest_68 : decode cX9_digest 68 = .ok (.ladd, 1) := by decide +kernel
theorem dX9_digest_69 : decode cX9_digest 69 = .ok (.lstore_n 1, 1) := by decide +kernel
theorem dX9_digest_70 : decode cX9_digest 70 = .ok (.iinc 4 1, 3) := by decide +kernel
theorem dX9_digest_73 : decode cX9_digest 73 = .ok (.goto (-28), 3) := by decide +kernel
theorem dX9_digest_76 : decode cX9_digest 76 = .ok (.iinc 3 1, 3) := by decide +kernel
theorem dX9_digest_79 : decode cX9_digest 79 = .ok (.goto (-43), 3) := by decide +kernel
theorem dX9_digest_82 : decode cX9_digest 82 = .ok (.iconst 0, 1) := by decide +kernel
theorem dX9_digest_83 : decode cX9_digest 83 = .ok (.istore_n 3, 1) := by decide +kernel
theorem dX9_digest_84 : decode cX9_digest 84 = .ok (.iload_n 3, 1) := by decide +kernel
theorem dX9_digest_85 : decode cX9_digest 85 = .ok (.bipush 12, 2) := by decide +kernel
theorem dX9_digest_87 : decode cX9_digest 87 = .ok (.if_icmp .ge 29, 3) := by decide +kernel
theorem dX9_digest_90 : decode cX9_digest 90 = .ok (.lload_n 1, 1) := by decide +kernel
theorem dX9_digest_91 : decode cX9_digest 91 = .ok (.ldc2_w 180, 3) := by decide +kernel
theorem dX9_digest_94 : decode cX9_digest 94 = .ok (.lmul, 1) := by decide +kernel
theorem dX9_digest_95 : decode cX9_digest 95 = .ok (.aload_n 0, 1) := by decide +kernel
theorem dX9_digest_96 : decode cX9_digest 96 = .ok (.getfield 10, 3) := by decide +kernel
theorem dX9_digest_99 : decode cX9_digest 99 = .ok (.getfield 35, 3) := by decide +kernel
theorem dX9_digest_102 : decode cX9_digest 102 = .ok (.getfield 58, 3) := by decide +kernel
theorem dX9_digest_105 : decode cX9_digest 105 = .ok (.iload_n 3, 1) := by decide +kernel
theorem dX9_digest_106 : decode cX9_digest 106 = .ok (.iaload, 1) := by decide +kernel
theorem dX9_digest_107 : decode cX9_digest 107 = .ok (.i2l, 1) := by decide +kernel
theorem dX9_digest_108 : decode cX9_digest 108 = .ok (.ladd, 1) := by decide +kernel
theorem dX9_digest_109 : decode cX9_digest 109 = .ok (.lstore_n 1, 1) := by decide +kernel
theorem dX9_digest_110 : decode cX9_digest 110 = .ok (.iinc 3 1, 3) := by decide +kernel
theorem dX9_digest_113 : decode cX9_digest 113 = .ok (.goto (-29), 3) := by decide +kernel
theorem dX9_digest_116 : decode cX9_digest 116 = .ok (.aload_n 0, 1) := by decide +kernel
theorem dX9_digest_117 : decode cX9_digest 117 = .ok (.aload_n 0, 1) := by decide +kernel
theorem dX9_digest_118 : decode cX9_digest 118 = .ok (.lload_n 1, 1) := by decide +kernel
theorem dX9_digest_119 : decode cX9_digest 119 = .ok (.invokevirtual 182, 3) := by decide +kernel
theorem dX9_digest_122 : decode cX9_digest 122 = .ok (.invokevirtual 186, 3) := by decide +kernel
theorem dX9_digest_125 : decode cX9_digest 125 = .ok (.lreturn, 1) := by decide +kernel
theorem dX9_digestOfTools_0 : decode cX9_digestOfTools 0 = .ok (.lload_n 1, 1) := by decide +kernel
theorem dX9_digestOfTools_1 : decode cX9_digestOfTools 1 = .ok (.lstore_n 3, 1) := by decide +kernel
theorem dX9_digestOfTools_2 : decode cX9_digestOfTools 2 = .ok (.iconst 0, 1) := by decide +kernel
theorem dX9_digestOfTools_3 : decode cX9_digestOfTools 3 = .ok (.istore 5, 2) := by decide +kernel
theorem dX9_digestOfTools_5 : decode cX9_digestOfTools 5 = .ok (.iload 5, 2) := by decide +kernel
theorem dX9_digestOfTools_7 : decode cX9_digestOfTools 7 = .ok (.aload_n 0, 1) := by decide +kernel
theorem dX9_digestOfTools_8 : decode cX9_digestOfTools 8 = .ok (.getfield 10, 3) := by decide +kernel
theorem dX9_digestOfTools_11 : decode cX9_digestOfTools 11 = .ok (.getfield 61, 3) := by decide +kernel
theorem dX9_digestOfTools_14 : decode cX9_digestOfTools 14 = .ok (.getfield 189, 3) := by decide +kernel
theorem dX9_digestOfTools_17 : decode cX9_digestOfTools 17 = .ok (.if_icmp .ge 47, 3) := by decide +kernel
theorem dX9_digestOfTools_20 : decode cX9_digestOfTools 20 = .ok (.iconst 0, 1) := by decide +kernel
theorem dX9_digestOfTools_21 : decode cX9_digestOfTools 21 = .ok (.istore 6, 2) := by decide +kernel
theorem dX9_digestOfTools_23 : decode cX9_digestOfTools 23 = .ok (.iload 6, 2) := by decide +kernel
theorem dX9_digestOfTools_25 : decode cX9_digestOfTools 25 = .ok (.bipush 6, 2) := by decide +kernel
theorem dX9_digestOfTools_27 : decode cX9_digestOfTools 27 = .ok (.if_icmp .ge 31, 3) := by decide +kernel
theorem dX9_digestOfTools_30 : decode cX9_digestOfTools 30 = .ok (.lload_n 3, 1) := by decide +kernel
theorem dX9_digestOfTools_31 : decode cX9_digestOfTools 31 = .ok (.ldc2_w 180, 3) := by decide +kernel
theorem dX9_digestOfTools_34 : decode cX9_digestOfTools 34 = .ok (.lmul, 1) := by decide +kernel
theorem dX9_digestOfTools_35 : decode cX9_digestOfTools 35 = .ok (.aload_n 0, 1) := by decide +kernel
theorem dX9_digestOfTools_36 : decode cX9_digestOfTools 36 = .ok (.getfield 10, 3) := by decide +kernel
theorem dX9_digestOfTools_39 : decode cX9_digestOfTools 39 = .ok (.getfield 61, 3) := by decide +kernel
theorem dX9_digestOfTools_42 : decode cX9_digestOfTools 42 = .ok (.iload 5, 2) := by decide +kernel
theorem dX9_digestOfTools_44 : decode cX9_digestOfTools 44 = .ok (.iload 6, 2) := by decide +kernel
theorem dX9_digestOfTools_46 : decode cX9_digestOfTools 46 = .ok (.invokevirtual 129, 3) := by decide +kernel
theorem dX9_digestOfTools_49 : decode cX9_digestOfTools 49 = .ok (.i2l, 1) := by decide +kernel
theorem dX9_digestOfTools_50 : decode cX9_digestOfTools 50 = .ok (.ladd, 1) := by decide +kernel
theorem dX9_digestOfTools_51 : decode cX9_digestOfTools 51 = .ok (.lstore_n 3, 1) := by decide +kernel
theorem dX9_digestOfTools_52 : decode cX9_digestOfTools 52 = .ok (.iinc 6 1, 3) := by decide +kernel
theorem dX9_digestOfTools_55 : decode cX9_digestOfTools 55 = .ok (.goto (-32), 3) := by decide +kernel
theorem dX9_digestOfTools_58 : decode cX9_digestOfTools 58 = .ok (.iinc 5 1, 3) := by decide +kernel
theorem dX9_digestOfTools_61 : decode cX9_digestOfTools 61 = .ok (.goto (-56), 3) := by decide +kernel
theorem dX9_digestOfTools_64 : decode cX9_digestOfTools 64 = .ok (.iconst 0, 1) := by decide +kernel
theorem dX9_digestOfTools_65 : decode cX9_digestOfTools 65 = .ok (.istore 5, 2) := by decide +kernel
theorem dX9_digestOfTools_67 : decode cX9_digestOfTools 67 = .ok (.iload 5, 2) := by decide +kernel
theorem dX9_digestOfTools_69 : decode cX9_digestOfTools 69 = .ok (.aload_n 0, 1) := by decide +kernel
theorem dX9_digestOfTools_70 : decode cX9_digestOfTools 70 = .ok (.getfield 10, 3) := by decide +kernel
theorem dX9_digestOfTools_73 : decode cX9_digestOfTools 73 = .ok (.getfield 82, 3) := by decide +kernel
theorem dX9_digestOfTools_76 : decode cX9_digestOfTools 76 = .ok (.getfield 192, 3) := by decide +kernel
theorem dX9_digestOfTools_79 : decode cX9_digestOfTools 79 = .ok (.if_icmp .ge 53, 3) := by decide +kernel
theorem dX9_digestOfTools_82 : decode cX9_digestOfTools 82 = .ok (.iconst 0, 1) := by decide +kernel
theorem dX9_digestOfTools_83 : decode cX9_digestOfTools 83 = .ok (.istore 6, 2) := by decide +kernel
theorem dX9_digestOfTools_85 : decode cX9_digestOfTools 85 = .ok (.iload 6, 2) := by decide +kernel
theorem dX9_digestOfTools_87 : decode cX9_digestOfTools 87 = .ok (.iconst 5, 1) := by decide +kernel
theorem dX9_digestOfTools_88 : decode cX9_digestOfTools 88 = .ok (.if_icmp .ge 38, 3) := by decide +kernel
theorem dX9_digestOfTools_91 : decode cX9_digestOfTools 91 = .ok (.lload_n 3, 1) := by decide +kernel
theorem dX9_digestOfTools_92 : decode cX9_digestOfTools 92 = .ok (.ldc2_w 180, 3) := by decide +kernel
theorem dX9_digestOfTools_95 : decode cX9_digestOfTools 95 = .ok (.lmul, 1) := by decide +kernel
theorem dX9_digestOfTools_96 : decode cX9_digestOfTools 96 = .ok (.aload_n 0, 1) := by decide +kernel
theorem dX9_digestOfTools_97 : decode cX9_digestOfTools 97 = .ok (.getfield 10, 3) := by decide +kernel
theorem dX9_digestOfTools_100 : decode cX9_digestOfTools 100 = .ok (.getfield 82, 3) := by decide +kernel
theorem dX9_digestOfTools_103 : decode cX9_digestOfTools 103 = .ok (.iload 5, 2) := by decide +kernel
theorem dX9_digestOfTools_105 : decode cX9_digestOfTools 105 = .ok (.iload 6, 2) := by decide +kernel
theorem dX9_digestOfTools_107 : decode cX9_digestOfTools 107 = .ok (.aload_n 0, 1) := by decide +kernel
theorem dX9_digestOfTools_108 : decode cX9_digestOfTools 108 = .ok (.getfield 10, 3) := by decide +kernel
theorem dX9_digestOfTools_111 : decode cX9_digestOfTools 111 = .ok (.getfield 35, 3) := by decide +kernel
theorem dX9_digestOfTools_114 : decode cX9_digestOfTools 114 = .ok (.invokevirtual 133, 3) := by decide +kernel
theorem dX9_digestOfTools_117 : decode cX9_digestOfTools 117 = .ok (.i2l, 1) := by decide +kernel
theorem dX9_digestOfTools_118 : decode cX9_digestOfTools 118 = .ok (.ladd, 1) := by decide +kernel
theorem dX9_digestOfTools_119 : decode cX9_digestOfTools 119 = .ok (.lstore_n 3, 1) := by decide +kernel
theorem dX9_digestOfTools_120 : decode cX9_digestOfTools 120 = .ok (.iinc 6 1, 3) := by decide +kernel
theorem dX9_digestOfTools_123 : decode cX9_digestOfTools 123 = .ok (.goto (-38), 3) := by decide +kernel
theorem dX9_digestOfTools_126 : decode cX9_digestOfTools 126 = .ok (.iinc 5 1, 3) := by decide +kernel
theorem dX9_digestOfTools_129 : decode cX9_digestOfTools 129 = .ok (.goto (-62), 3) := by decide +kernel
theorem dX9_digestOfTools_132 : decode cX9_digestOfTools 132 = .ok (.iconst 0, 1) := by decide +kernel
theorem dX9_digestOfTools_133 : decode cX9_digestOfTools 133 = .ok (.istore 5, 2) := by decide +kernel
theorem dX9_digestOfTools_135 : decode cX9_digestOfTools 135 = .ok (.iload 5, 2) := by decide +kernel
theorem dX9_digestOfTools_137 : decode cX9_digestOfTools 137 = .ok (.aload_n 0, 1) := by decide +kernel
theorem dX9_digestOfTools_138 : decode cX9_digestOfTools 138 = .ok (.getfield 10, 3) := by decide +kernel
theorem dX9_digestOfTools_141 : decode cX9_digestOfTools 141 = .ok (.getfield 92, 3) := by decide +kernel
theorem dX9_digestOfTools_144 : decode cX9_digestOfTools 144 = .ok (.getfield 193, 3) := by decide +kernel
theorem dX9_digestOfTools_147 : decode cX9_digestOfTools 147 = .ok (.if_icmp .ge 46, 3) := by decide +kernel
theorem dX9_digestOfTools_150 : decode cX9_digestOfTools 150 = .ok (.iconst 0, 1) := by decide +kernel
theorem dX9_digestOfTools_151 : decode cX9_digestOfTools 151 = .ok (.istore 6, 2) := by decide +kernel
theorem dX9_digestOfTools_153 : decode cX9_digestOfTools 153 = .ok (.iload 6, 2) := by decide +kernel
theorem dX9_digestOfTools_155 : decode cX9_digestOfTools 155 = .ok (.iconst 5, 1) := by decide +kernel
theorem dX9_digestOfTools_156 : decode cX9_digestOfTools 156 = .ok (.if_icmp .ge 31, 3) := by decide +kernel
theorem dX9_digestOfTools_159 : decode cX9_digestOfTools 159 = .ok (.lload_n 3, 1) := by decide +kernel
theorem dX9_digestOfTools_160 : decode cX9_digestOfTools 160 = .ok (.ldc2_w 180, 3) := by decide +kernel
theorem dX9_digestOfTools_163 : decode cX9_digestOfTools 163 = .ok (.lmul, 1) := by decide +kernel
theorem dX9_digestOfTools_164 : decode cX9_digestOfTools 164 = .ok (.aload_n 0, 1) := by decide +kernel
theorem dX9_digestOfTools_165 : decode cX9_digestOfTools 165 = .ok (.getfield 10, 3) := by decide +kernel
theorem dX9_digestOfTools_168 : decode cX9_digestOfTools 168 = .ok (.getfield 92, 3) := by decide +kernel
theorem dX9_digestOfTools_171 : decode cX9_digestOfTools 171 = .ok (.iload 5, 2) := by decide +kernel
theorem dX9_digestOfTools_173 : decode cX9_digestOfTools 173 = .ok (.iload 6, 2) := by decide +kernel
theorem dX9_digestOfTools_175 : decode cX9_digestOfTools 175 = .ok (.invokevirtual 137, 3) := by decide +kernel
theorem dX9_digestOfTools_178 : decode cX9_digestOfTools 178 = .ok (.i2l, 1) := by decide +kernel
theorem dX9_digestOfTools_179 : decode cX9_digestOfTools 179 = .ok (.ladd, 1) := by decide +kernel
theorem dX9_digestOfTools_180 : decode cX9_digestOfTools 180 = .ok (.lstore_n 3, 1) := by decide +kernel
theorem dX9_digestOfTools_181 : decode cX9_digestOfTools 181 = .ok (.iinc 6 1, 3) := by decide +kernel
theorem dX9_digestOfTools_184 : decode cX9_digestOfTools 184 = .ok (.goto (-31), 3) := by decide +kernel
theorem dX9_digestOfTools_187 : decode cX9_digestOfTools 187 = .ok (.iinc 5 1, 3) := by decide +kernel
theorem dX9_digestOfTools_190 : decode cX9_digestOfTools 190 = .ok (.goto (-55), 3) := by decide +kernel
theorem dX9_digestOfTools_193 : decode cX9_digestOfTools 193 = .ok (.lload_n 3, 1) := by decide +kernel
theorem dX9_digestOfTools_194 : decode cX9_digestOfTools 194 = .ok (.lreturn, 1) := by decide +kernel
theorem dX9_digestOfPeople_0 : decode cX9_digestOfPeople 0 = .ok (.lload_n 1, 1) := by decide +kernel
theorem dX9_digestOfPeople_1 : decode cX9_digestOfPeople 1 = .ok (.lstore_n 3, 1) := by decide +kernel
theorem dX9_digestOfPeople_2 : decode cX9_digestOfPeople 2 = .ok (.iconst 0, 1) := by decide +kernel
theorem dX9_digestOfPeople_3 : decode cX9_digestOfPeople 3 = .ok (.istore 5, 2) := by decide +kernel
theorem dX9_digestOfPeople_5 : decode cX9_digestOfPeople 5 = .ok (.iload 5, 2) := by decide +kernel
theorem dX9_digestOfPeople_7 : decode cX9_digestOfPeople 7 = .ok (.aload_n 0, 1) := by decide +kernel
theorem dX9_digestOfPeople_8 : decode cX9_digestOfPeople 8 = .ok (.getfield 10, 3) := by decide +kernel
theorem dX9_digestOfPeople_11 : decode cX9_digestOfPeople 11 = .ok (.getfield 102, 3) := by decide +kernel
theorem dX9_digestOfPeople_14 : decode cX9_digestOfPeople 14 = .ok (.getfield 194, 3) := by decide +kernel
theorem dX9_digestOfPeople_17 : decode cX9_digestOfPeople 17 = .ok (.if_icmp .ge 43, 3) := by decide +kernel
theorem dX9_digestOfPeople_20 : decode cX9_digestOfPeople 20 = .ok (.iconst 0, 1) := by decide +kernel
theorem dX9_digestOfPeople_21 : decode cX9_digestOfPeople 21 = .ok (.istore 6, 2) := by decide +kernel
theorem dX9_digestOfPeople_23 : decode cX9_digestOfPeople 23 = .ok (.iload 6, 2) := by decide +kernel
theorem dX9_digestOfPeople_25 : decode cX9_digestOfPeople 25 = .ok (.iconst 5, 1) := by decide +kernel
theorem dX9_digestOfPeople_26 : decode cX9_digestOfPeople 26 = .ok (.if_icmp .ge 28, 3) := by decide +kernel
theorem dX9_digestOfPeople_29 : decode cX9_digestOfPeople 29 = .ok (.lload_n 3, 1) := by decide +kernel
theorem dX9_digestOfPeople_30 : decode cX9_digestOfPeople 30 = .ok (.ldc2_w 180, 3) := by decide +kernel
theorem dX9_digestOfPeople_33 : decode cX9_digestOfPeople 33 = .ok (.lmul, 1) := by decide +kernel
theorem dX9_digestOfPeople_34 : decode cX9_digestOfPeople 34 = .ok (.aload_n 0, 1) := by decide +kernel
theorem dX9_digestOfPeople_35 : decode cX9_digestOfPeople 35 = .ok (.getfield 10, 3) := by decide +kernel
theorem dX9_digestOfPeople_38 : decode cX9_digestOfPeople 38 = .ok (.iload 5, 2) := by decide +kernel
theorem dX9_digestOfPeople_40 : decode cX9_digestOfPeople 40 = .ok (.iload 6, 2) := by decide +kernel
theorem dX9_digestOfPeople_42 : decode cX9_digestOfPeople 42 = .ok (.invokevirtual 139, 3) := by decide +kernel
theorem dX9_digestOfPeople_45 : decode cX9_digestOfPeople 45 = .ok (.i2l, 1) := by decide +kernel
theorem dX9_digestOfPeople_46 : decode cX9_digestOfPeople 46 = .ok (.ladd, 1) := by decide +kernel
theorem dX9_digestOfPeople_47 : decode cX9_digestOfPeople 47 = .ok (.lstore_n 3, 1) := by decide +kernel
theorem dX9_digestOfPeople_48 : decode cX9_digestOfPeople 48 = .ok (.iinc 6 1, 3) := by decide +kernel
theorem dX9_digestOfPeople_51 : decode cX9_digestOfPeople 51 = .ok (.goto (-28), 3) := by decide +kernel
theorem dX9_digestOfPeople_54 : decode cX9_digestOfPeople 54 = .ok (.iinc 5 1, 3) := by decide +kernel
theorem dX9_digestOfPeople_57 : decode cX9_digestOfPeople 57 = .ok (.goto (-52), 3) := by decide +kernel
theorem dX9_digestOfPeople_60 : decode cX9_digestOfPeople 60 = .ok (.iconst 0, 1) := by decide +kernel
theorem dX9_digestOfPeople_61 : decode cX9_digestOfPeople 61 = .ok (.istore 5, 2) := by decide +kernel
theorem dX9_digestOfPeople_63 : decode cX9_digestOfPeople 63 = .ok (.iload 5, 2) := by decide +kernel
theorem dX9_digestOfPeople_65 : decode cX9_digestOfPeople 65 = .ok (.aload_n 0, 1) := by decide +kernel
theorem dX9_digestOfPeople_66 : decode cX9_digestOfPeople 66 = .ok (.getfield 10, 3) := by decide +kernel
theorem dX9_digestOfPeople_69 : decode cX9_digestOfPeople 69 = .ok (.getfield 115, 3) := by decide +kernel
theorem dX9_digestOfPeople_72 : decode cX9_digestOfPeople 72 = .ok (.getfield 195, 3) := by decide +kernel
theorem dX9_digestOfPeople_75 : decode cX9_digestOfPeople 75 = .ok (.if_icmp .ge 46, 3) := by decide +kernel
theorem dX9_digestOfPeople_78 : decode cX9_digestOfPeople 78 = .ok (.iconst 0, 1) := by decide +kernel
theorem dX9_digestOfPeople_79 : decode cX9_digestOfPeople 79 = .ok (.istore 6, 2) := by decide +kernel
theorem dX9_digestOfPeople_81 : decode cX9_digestOfPeople 81 = .ok (.iload 6, 2) := by decide +kernel
theorem dX9_digestOfPeople_83 : decode cX9_digestOfPeople 83 = .ok (.iconst 3, 1) := by decide +kernel
theorem dX9_digestOfPeople_84 : decode cX9_digestOfPeople 84 = .ok (.if_icmp .ge 31, 3) := by decide +kernel
theorem dX9_digestOfPeople_87 : decode cX9_digestOfPeople 87 = .ok (.lload_n 3, 1) := by decide +kernel
theorem dX9_digestOfPeople_88 : decode cX9_digestOfPeople 88 = .ok (.ldc2_w 180, 3) := by decide +kernel
theorem dX9_digestOfPeople_91 : decode cX9_digestOfPeople 91 = .ok (.lmul, 1) := by decide +kernel
theorem dX9_digestOfPeople_92 : decode cX9_digestOfPeople 92 = .ok (.aload_n 0, 1) := by decide +kernel
theorem dX9_digestOfPeople_93 : decode cX9_digestOfPeople 93 = .ok (.getfield 10, 3) := by decide +kernel
theorem dX9_digestOfPeople_96 : decode cX9_digestOfPeople 96 = .ok (.getfield 115, 3) := by decide +kernel
theorem dX9_digestOfPeople_99 : decode cX9_digestOfPeople 99 = .ok (.iload 5, 2) := by decide +kernel
theorem dX9_digestOfPeople_101 : decode cX9_digestOfPeople 101 = .ok (.iload 6, 2) := by decide +kernel
theorem dX9_digestOfPeople_103 : decode cX9_digestOfPeople 103 = .ok (.invokevirtual 143, 3) := by decide +kernel
theorem dX9_digestOfPeople_106 : decode cX9_digestOfPeople 106 = .ok (.i2l, 1) := by decide +kernel
theorem dX9_digestOfPeople_107 : decode cX9_digestOfPeople 107 = .ok (.ladd, 1) := by decide +kernel
theorem dX9_digestOfPeople_108 : decode cX9_digestOfPeople 108 = .ok (.lstore_n 3, 1) := by decide +kernel
theorem dX9_digestOfPeople_109 : decode cX9_digestOfPeople 109 = .ok (.iinc 6 1, 3) := by decide +kernel
theorem dX9_digestOfPeople_112 : decode cX9_digestOfPeople 112 = .ok (.goto (-31), 3) := by decide +kernel
theorem dX9_digestOfPeople_115 : decode cX9_digestOfPeople 115 = .ok (.iinc 5 1, 3) := by decide +kernel
theorem dX9_digestOfPeople_118 : decode cX9_digestOfPeople 118 = .ok (.goto (-55), 3) := by decide +kernel
theorem dX9_digestOfPeople_121 : decode cX9_digestOfPeople 121 = .ok (.lload_n 3, 1) := by decide +kernel
theorem dX9_digestOfPeople_122 : decode cX9_digestOfPeople 122 = .ok (.lreturn, 1) := by decide +kernel
theorem dX9_waterBehind_0 : decode cX9_waterBehind 0 = .ok (.aload_n 0, 1) := by decide +kernel
theorem dX9_waterBehind_1 : decode cX9_waterBehind 1 = .ok (.getfield 16, 3) := by decide +kernel
theorem dX9_waterBehind_4 : decode cX9_waterBehind 4 = .ok (.aload_n 0, 1) := by decide +kernel
theorem dX9_waterBehind_5 : decode cX9_waterBehind 5 = .ok (.getfield 10, 3) := by decide +kernel
theorem dX9_waterBehind_8 : decode cX9_waterBehind 8 = .ok (.invokevirtual 155, 3) := by decide +kernel
theorem dX9_waterBehind_11 : decode cX9_waterBehind 11 = .ok (.iload_n 2, 1) := by decide +kernel
theorem dX9_waterBehind_12 : decode cX9_waterBehind 12 = .ok (.ifCond .lt 25, 3) := by decide +kernel
theorem dX9_waterBehind_15 : decode cX9_waterBehind 15 = .ok (.iload_n 2, 1) := by decide +kernel
theorem dX9_waterBehind_16 : decode cX9_waterBehind 16 = .ok (.bipush 80, 2) := by decide +kernel
theorem dX9_waterBehind_18 : decode cX9_waterBehind 18 = .ok (.if_icmp .ge 19, 3) := by decide +kernel
theorem dX9_waterBehind_21 : decode cX9_waterBehind 21 = .ok (.aload_n 0, 1) := by decide +kernel
theorem dX9_waterBehind_22 : decode cX9_waterBehind 22 = .ok (.getfield 16, 3) := by decide +kernel
theorem dX9_waterBehind_25 : decode cX9_waterBehind 25 = .ok (.getfield 35, 3) := by decide +kernel
theorem dX9_waterBehind_28 : decode cX9_waterBehind 28 = .ok (.getfield 49, 3) := by decide +kernel
theorem dX9_waterBehind_31 : decode cX9_waterBehind 31 = .ok (.iload_n 2, 1) := by decide +kernel
theorem dX9_waterBehind_32 : decode cX9_waterBehind 32 = .ok (.dup2, 1) := by decide +kernel
theorem dX9_waterBehind_33 : decode cX9_waterBehind 33 = .ok (.iaload, 1) := by decide +kernel
theorem dX9_waterBehind_34 : decode cX9_waterBehind 34 = .ok (.iconst 1, 1) := by decide +kernel
theorem dX9_waterBehind_35 : decode cX9_waterBehind 35 = .ok (.iadd, 1) := by decide +kernel
theorem dX9_waterBehind_36 : decode cX9_waterBehind 36 = .ok (.iastore, 1) := by decide +kernel
theorem dX9_waterBehind_37 : decode cX9_waterBehind 37 = .ok (.iconst 0, 1) := by decide +kernel
theorem dX9_waterBehind_38 : decode cX9_waterBehind 38 = .ok (.istore_n 3, 1) := by decide +kernel
theorem dX9_waterBehind_39 : decode cX9_waterBehind 39 = .ok (.iload_n 3, 1) := by decide +kernel
theorem dX9_waterBehind_40 : decode cX9_waterBehind 40 = .ok (.iload_n 1, 1) := by decide +kernel
theorem dX9_waterBehind_41 : decode cX9_waterBehind 41 = .ok (.if_icmp .ge 16, 3) := by decide +kernel
theorem dX9_waterBehind_44 : decode cX9_waterBehind 44 = .ok (.aload_n 0, 1) := by decide +kernel
theorem dX9_waterBehind_45 : decode cX9_waterBehind 45 = .ok (.getfield 16, 3) := by decide +kernel
theorem dX9_waterBehind_48 : decode cX9_waterBehind 48 = .ok (.invokevirtual 172, 3) := by decide +kernel
theorem dX9_waterBehind_51 : decode cX9_waterBehind 51 = .ok (.iinc 3 1, 3) := by decide +kernel
theorem dX9_waterBehind_54 : decode cX9_waterBehind 54 = .ok (.goto (-15), 3) := by decide +kernel
theorem dX9_waterBehind_57 : decode cX9_waterBehind 57 = .ok (.aload_n 0, 1) := by decide +kernel
theorem dX9_waterBehind_58 : decode cX9_waterBehind 58 = .ok (.getfield 16, 3) := by decide +kernel
theorem dX9_waterBehind_61 : decode cX9_waterBehind 61 = .ok (.getfield 35, 3) := by decide +kernel
theorem dX9_waterBehind_64 : decode cX9_waterBehind 64 = .ok (.invokevirtual 196, 3) := by decide +kernel
theorem dX9_waterBehind_67 : decode cX9_waterBehind 67 = .ok (.ireturn, 1) := by decide +kernel
theorem dX9_placeOf_0 : decode cX9_placeOf 0 = .ok (.bipush 10, 2) := by decide +kernel
theorem dX9_placeOf_2 : decode cX9_placeOf 2 = .ok (.iload_n 1, 1) := by decide +kernel
theorem dX9_placeOf_3 : decode cX9_placeOf 3 = .ok (.imul, 1) := by decide +kernel
theorem dX9_placeOf_4 : decode cX9_placeOf 4 = .ok (.iload_n 0, 1) := by decide +kernel
theorem dX9_placeOf_5 : decode cX9_placeOf 5 = .ok (.iadd, 1) := by decide +kernel
theorem dX9_placeOf_6 : decode cX9_placeOf 6 = .ok (.ireturn, 1) := by decide +kernel
theorem dX9_isWithin_0 : decode cX9_isWithin 0 = .ok (.iload_n 0, 1) := by decide +kernel
theorem dX9_isWithin_1 : decode cX9_isWithin 1 = .ok (.iload_n 1, 1) := by decide +kernel
theorem dX9_isWithin_2 : decode cX9_isWithin 2 = .ok (.if_icmp .lt 12, 3) := by decide +kernel
theorem dX9_isWithin_5 : decode cX9_isWithin 5 = .ok (.iload_n 0, 1) := by decide +kernel
theorem dX9_isWithin_6 : decode cX9_isWithin 6 = .ok (.iload_n 2, 1) := by decide +kernel
theorem dX9_isWithin_7 : decode cX9_isWithin 7 = .ok (.if_icmp .gt 7, 3) := by decide +kernel
theorem dX9_isWithin_10 : decode cX9_isWithin 10 = .ok (.iconst 1, 1) := by decide +kernel
theorem dX9_isWithin_11 : decode cX9_isWithin 11 = .ok (.goto 4, 3) := by decide +kernel
theorem dX9_isWithin_14 : decode cX9_isWithin 14 = .ok (.iconst 0, 1) := by decide +kernel
theorem dX9_isWithin_15 : decode cX9_isWithin 15 = .ok (.ireturn, 1) := by decide +kernel
theorem dX9_checkCell_0 : decode cX9_checkCell 0 = .ok (.iload_n 0, 1) := by decide +kernel
theorem dX9_checkCell_1 : decode cX9_checkCell 1 = .ok (.iconst 0, 1) := by decide +kernel
theorem dX9_checkCell_2 : decode cX9_checkCell 2 = .ok (.bipush 9, 2) := by decide +kernel
theorem dX9_checkCell_4 : decode cX9_checkCell 4 = .ok (.invokestatic 23, 3) := by decide +kernel
theorem dX9_checkCell_7 : decode cX9_checkCell 7 = .ok (.ifCond .eq 17, 3) := by decide +kernel
theorem dX9_checkCell_10 : decode cX9_checkCell 10 = .ok (.iload_n 1, 1) := by decide +kernel
theorem dX9_checkCell_11 : decode cX9_checkCell 11 = .ok (.iconst 0, 1) := by decide +kernel
theorem dX9_checkCell_12 : decode cX9_checkCell 12 = .ok (.bipush 7, 2) := by decide +kernel
theorem dX9_checkCell_14 : decode cX9_checkCell 14 = .ok (.invokestatic 23, 3) := by decide +kernel
theorem dX9_checkCell_17 : decode cX9_checkCell 17 = .ok (.ifCond .eq 7, 3) := by decide +kernel
theorem dX9_checkCell_20 : decode cX9_checkCell 20 = .ok (.iconst 1, 1) := by decide +kernel
theorem dX9_checkCell_21 : decode cX9_checkCell 21 = .ok (.goto 4, 3) := by decide +kernel
theorem dX9_checkCell_24 : decode cX9_checkCell 24 = .ok (.iconst 0, 1) := by decide +kernel
theorem dX9_checkCell_25 : decode cX9_checkCell 25 = .ok (.invokestatic 55, 3) := by decide +kernel
theorem dX9_checkCell_28 : decode cX9_checkCell 28 = .ok (.return_, 1) := by decide +kernel
theorem dX9_checkIndex_0 : decode cX9_checkIndex 0 = .ok (.iload_n 0, 1) := by decide +kernel
theorem dX9_checkIndex_1 : decode cX9_checkIndex 1 = .ok (.ifCond .ne 13, 3) := by decide +kernel
theorem dX9_checkIndex_4 : decode cX9_checkIndex 4 = .ok (.new 199, 3) := by decide +kernel
theorem dX9_checkIndex_7 : decode cX9_checkIndex 7 = .ok (.dup, 1) := by decide +kernel
theorem dX9_checkIndex_8 : decode cX9_checkIndex 8 = .ok (.ldc 201, 2) := by decide +kernel
theorem dX9_checkIndex_10 : decode cX9_checkIndex 10 = .ok (.invokespecial 203, 3) := by decide +kernel
theorem dX9_checkIndex_13 : decode cX9_checkIndex 13 = .ok (.athrow, 1) := by decide +kernel
theorem dX9_checkIndex_14 : decode cX9_checkIndex 14 = .ok (.return_, 1) := by decide +kernel
theorem dX9_checkArgument_0 : decode cX9_checkArgument 0 = .ok (.iload_n 0, 1) := by decide +kernel
theorem dX9_checkArgument_1 : decode cX9_checkArgument 1 = .ok (.ifCond .ne 13, 3) := by decide +kernel
theorem dX9_checkArgument_4 : decode cX9_checkArgument 4 = .ok (.new 206, 3) := by decide +kernel
theorem dX9_checkArgument_7 : decode cX9_checkArgument 7 = .ok (.dup, 1) := by decide +kernel
theorem dX9_checkArgument_8 : decode cX9_checkArgument 8 = .ok (.ldc 208, 2) := by decide +kernel
theorem dX9_checkArgument_10 : decode cX9_checkArgument 10 = .ok (.invokespecial 210, 3) := by decide +kernel
theorem dX9_checkArgument_13 : decode cX9_checkArgument 13 = .ok (.athrow, 1) := by decide +kernel
theorem dX9_checkArgument_14 : decode cX9_checkArgument 14 = .ok (.return_, 1) := by decide +kernel
theorem dX9_checkState_0 : decode cX9_checkState 0 = .ok (.iload_n 0, 1) := by decide +kernel
theorem dX9_checkState_1 : decode cX9_checkState 1 = .ok (.ifCond .ne 13, 3) := by decide +kernel
theorem dX9_checkState_4 : decode cX9_checkState 4 = .ok (.new 211, 3) := by decide +kernel
theorem dX9_checkState_7 : decode cX9_checkState 7 = .ok (.dup, 1) := by decide +kernel
theorem dX9_checkState_8 : decode cX9_checkState 8 = .ok (.ldc 213, 2) := by decide +kernel
theorem dX9_checkState_10 : decode cX9_checkState 10 = .ok (.invokespecial 215, 3) := by decide +kernel
theorem dX9_checkState_13 : decode cX9_checkState 13 = .ok (.athrow, 1) := by decide +kernel
theorem dX9_checkState_14 : decode cX9_checkState 14 = .ok (.return_, 1) := by decide +kernel
theorem dX10_init_0 : decode cX10_init 0 = .ok (.aload_n 0, 1) := by decide +kernel
theorem dX10_init_1 : decode cX10_init 1 = .ok (.invokespecial 3, 3) := by decide +kernel
theorem dX10_init_4 : decode cX10_init 4 = .ok (.aload_n 0, 1) := by decide +kernel
theorem dX10_init_5 : decode cX10_init 5 = .ok (.bipush 80, 2) := by decide +kernel
theorem dX10_init_7 : decode cX10_init 7 = .ok (.newarray .int, 2) := by decide +kernel
theorem dX10_init_9 : decode cX10_init 9 = .ok (.putfield 9, 3) := by decide +kernel
theorem dX10_init_12 : decode cX10_init 12 = .ok (.aload_n 0, 1) := by decide +kernel
theorem dX10_init_13 : decode cX10_init 13 = .ok (.bipush 80, 2) := by decide +kernel
theorem dX10_init_15 : decode cX10_init 15 = .ok (.newarray .int, 2) := by decide +kernel
theorem dX10_init_17 : decode cX10_init 17 = .ok (.putfield 15, 3) := by decide +kernel
theorem dX10_init_20 : decode cX10_init 20 = .ok (.aload_n 0, 1) := by decide +kernel
theorem dX10_init_21 : decode cX10_init 21 = .ok (.bipush 80, 2) := by decide +kernel
theorem dX10_init_23 : decode cX10_init 23 = .ok (.newarray .int, 2) := by decide +kernel
theorem dX10_init_25 : decode cX10_init 25 = .ok (.putfield 18, 3) := by decide +kernel
theorem dX10_init_28 : decode cX10_init 28 = .ok (.aload_n 0, 1) := by decide +kernel
theorem dX10_init_29 : decode cX10_init 29 = .ok (.bipush 25, 2) := by decide +kernel
theorem dX10_init_31 : decode cX10_init 31 = .ok (.newarray .int, 2) := by decide +kernel
theorem dX10_init_33 : decode cX10_init 33 = .ok (.putfield 21, 3) := by decide +kernel
theorem dX10_init_36 : decode cX10_init 36 = .ok (.aload_n 0, 1) := by decide +kernel
theorem dX10_init_37 : decode cX10_init 37 = .ok (.bipush 8, 2) := by decide +kernel
theorem dX10_init_39 : decode cX10_init 39 = .ok (.newarray .int, 2) := by decide +kernel
theorem dX10_init_41 : decode cX10_init 41 = .ok (.putfield 24, 3) := by decide +kernel
theorem dX10_init_44 : decode cX10_init 44 = .ok (.aload_n 0, 1) := by decide +kernel
theorem dX10_init_45 : decode cX10_init 45 = .ok (.bipush 8, 2) := by decide +kernel
theorem dX10_init_47 : decode cX10_init 47 = .ok (.newarray .int, 2) := by decide +kernel
theorem dX10_init_49 : decode cX10_init 49 = .ok (.putfield 27, 3) := by decide +kernel
theorem dX10_init_52 : decode cX10_init 52 = .ok (.aload_n 0, 1) := by decide +kernel
theorem dX10_init_53 : decode cX10_init 53 = .ok (.bipush 40, 2) := by decide +kernel
theorem dX10_init_55 : decode cX10_init 55 = .ok (.newarray .int, 2) := by decide +kernel
theorem dX10_init_57 : decode cX10_init 57 = .ok (.putfield 30, 3) := by decide +kernel
theorem dX10_init_60 : decode cX10_init 60 = .ok (.aload_n 0, 1) := by decide +kernel
theorem dX10_init_61 : decode cX10_init 61 = .ok (.bipush 6, 2) := by decide +kernel
theorem dX10_init_63 : decode cX10_init 63 = .ok (.newarray .int, 2) := by decide +kernel
theorem dX10_init_65 : decode cX10_init 65 = .ok (.putfield 33, 3) := by decide +kernel
theorem dX10_init_68 : decode cX10_init 68 = .ok (.return_, 1) := by decide +kernel
theorem dX10_copy_0 : decode cX10_copy 0 = .ok (.aload_n 0, 1) := by decide +kernel
theorem dX10_copy_1 : decode cX10_copy 1 = .ok (.iconst 0, 1) := by decide +kernel
theorem dX10_copy_2 : decode cX10_copy 2 = .ok (.aload_n 1, 1) := by decide +kernel
theorem dX10_copy_3 : decode cX10_copy 3 = .ok (.iconst 0, 1) := by decide +kernel
theorem dX10_copy_4 : decode cX10_copy 4 = .ok (.aload_n 0, 1) := by decide +kernel
theorem dX10_copy_5 : decode cX10_copy 5 = .ok (.arraylength, 1) := by decide +kernel
theorem dX10_copy_6 : decode cX10_copy 6 = .ok (.invokestatic 36, 3) := by decide +kernel
theorem dX10_copy_9 : decode cX10_copy 9 = .ok (.return_, 1) := by decide +kernel
theorem dX10_become_0 : decode cX10_become 0 = .ok (.aload_n 0, 1) := by decide +kernel
theorem dX10_become_1 : decode cX10_become 1 = .ok (.aload_n 1, 1) := by decide +kernel
theorem dX10_become_2 : decode cX10_become 2 = .ok (.getfield 42, 3) := by decide +kernel
theorem dX10_become_5 : decode cX10_become 5 = .ok (.putfield 42, 3) := by decide +kernel
theorem dX10_become_8 : decode cX10_become 8 = .ok (.aload_n 0, 1) := by decide +kernel
theorem dX10_become_9 : decode cX10_become 9 = .ok (.aload_n 1, 1) := by decide +kernel
theorem dX10_become_10 : decode cX10_become 10 = .ok (.getfield 46, 3) := by decide +kernel
theorem dX10_become_13 : decode cX10_become 13 = .ok (.putfield 46, 3) := by decide +kernel
theorem dX10_become_16 : decode cX10_become 16 = .ok (.aload_n 1, 1) := by decide +kernel
theorem dX10_become_17 : decode cX10_become 17 = .ok (.getfield 9, 3) := by decide +kernel
theorem dX10_become_20 : decode cX10_become 20 = .ok (.aload_n 0, 1) := by decide +kernel
theorem dX10_become_21 : decode cX10_become 21 = .ok (.getfield 9, 3) := by decide +kernel
theorem dX10_become_24 : decode cX10_become 24 = .ok (.invokestatic 49, 3) := by decide +kernel
theorem dX10_become_27 : decode cX10_become 27 = .ok (.aload_n 1, 1) := by decide +kernel
theorem dX10_become_28 : decode cX10_become 28 = .ok (.getfield 15, 3) := by decide +kernel
theorem dX10_become_31 : decode cX10_become 31 = .ok (.aload_n 0, 1) := by decide +kernel
theorem dX10_become_32 : decode cX10_become 32 = .ok (.getfield 15, 3) := by decide +kernel
theorem dX10_become_35 : decode cX10_become 35 = .ok (.invokestatic 49, 3) := by decide +kernel
theorem dX10_become_38 : decode cX10_become 38 = .ok (.aload_n 1, 1) := by decide +kernel
theorem dX10_become_39 : decode cX10_become 39 = .ok (.getfield 18, 3) := by decide +kernel
theorem dX10_become_42 : decode cX10_become 42 = .ok (.aload_n 0, 1) := by decide +kernel
theorem dX10_become_43 : decode cX10_become 43 = .ok (.getfield 18, 3) := by decide +kernel
theorem dX10_become_46 : decode cX10_become 46 = .ok (.invokestatic 49, 3) := by decide +kernel
theorem dX10_become_49 : decode cX10_become 49 = .ok (.aload_n 1, 1) := by decide +kernel
theorem dX10_become_50 : decode cX10_become 50 = .ok (.getfield 21, 3) := by decide +kernel
theorem dX10_become_53 : decode cX10_become 53 = .ok (.aload_n 0, 1) := by decide +kernel
theorem dX10_become_54 : decode cX10_become 54 = .ok (.getfield 21, 3) := by decide +kernel
theorem dX10_become_57 : decode cX10_become 57 = .ok (.invokestatic 49, 3) := by decide +kernel
theorem dX10_become_60 : decode cX10_become 60 = .ok (.aload_n 1, 1) := by decide +kernel
theorem dX10_become_61 : decode cX10_become 61 = .ok (.getfield 24, 3) := by decide +kernel
theorem dX10_become_64 : decode cX10_become 64 = .ok (.aload_n 0, 1) := by decide +kernel
theorem dX10_become_65 : decode cX10_become 65 = .ok (.getfield 24, 3) := by decide +kernel
theorem dX10_become_68 : decode cX10_become 68 = .ok (.invokestatic 49, 3) := by decide +kernel
theorem dX10_become_71 : decode cX10_become 71 = .ok (.aload_n 1, 1) := by decide +kernel
theorem dX10_become_72 : decode cX10_become 72 = .ok (.getfield 27, 3) := by decide +kernel
theorem dX10_become_75 : decode cX10_become 75 = .ok (.aload_n 0, 1) := by decide +kernel
theorem dX10_become_76 : decode cX10_become 76 = .ok (.getfield 27, 3) := by decide +kernel
theorem dX10_become_79 : decode cX10_become 79 = .ok (.invokestatic 49, 3) := by decide +kernel
theorem dX10_become_82 : decode cX10_become 82 = .ok (.aload_n 1, 1) := by decide +kernel
theorem dX10_become_83 : decode cX10_become 83 = .ok (.getfield 30, 3) := by decide +kernel
theorem dX10_become_86 : decode cX10_become 86 = .ok (.aload_n 0, 1) := by decide +kernel
theorem dX10_become_87 : decode cX10_become 87 = .ok (.getfield 30, 3) := by decide +kernel
theorem dX10_become_90 : decode cX10_become 90 = .ok (.invokestatic 49, 3) := by decide +kernel
theorem dX10_become_93 : decode cX10_become 93 = .ok (.aload_n 1, 1) := by decide +kernel
theorem dX10_become_94 : decode cX10_become 94 = .ok (.getfield 33, 3) := by decide +kernel
theorem dX10_become_97 : decode cX10_become 97 = .ok (.aload_n 0, 1) := by decide +kernel
theorem dX10_become_98 : decode cX10_become 98 = .ok (.getfield 33, 3) := by decide +kernel
theorem dX10_become_101 : decode cX10_become 101 = .ok (.invokestatic 49, 3) := by decide +kernel
theorem dX10_become_104 : decode cX10_become 104 = .ok (.return_, 1) := by decide +kernel
theorem dX10_canBeWalked_0 : decode cX10_canBeWalked 0 = .ok (.iload_n 1, 1) := by decide +kernel
theorem dX10_canBeWalked_1 : decode cX10_canBeWalked 1 = .ok (.iconst (-1), 1) := by decide +kernel
theorem dX10_canBeWalked_2 : decode cX10_canBeWalked 2 = .ok (.if_icmp .eq 17, 3) := by decide +kernel
theorem dX10_canBeWalked_5 : decode cX10_canBeWalked 5 = .ok (.aload_n 0, 1) := by decide +kernel
theorem dX10_canBeWalked_6 : decode cX10_canBeWalked 6 = .ok (.getfield 18, 3) := by decide +kernel
theorem dX10_canBeWalked_9 : decode cX10_canBeWalked 9 = .ok (.iload_n 1, 1) := by decide +kernel
theorem dX10_canBeWalked_10 : decode cX10_canBeWalked 10 = .ok (.iaload, 1) := by decide +kernel
theorem dX10_canBeWalked_11 : decode cX10_canBeWalked 11 = .ok (.iconst 3, 1) := by decide +kernel
theorem dX10_canBeWalked_12 : decode cX10_canBeWalked 12 = .ok (.if_icmp .ge 7, 3) := by decide +kernel
theorem dX10_canBeWalked_15 : decode cX10_canBeWalked 15 = .ok (.iconst 1, 1) := by decide +kernel
theorem dX10_canBeWalked_16 : decode cX10_canBeWalked 16 = .ok (.goto 4, 3) := by decide +kernel
theorem dX10_canBeWalked_19 : decode cX10_canBeWalked 19 = .ok (.iconst 0, 1) := by decide +kernel
theorem dX10_canBeWalked_20 : decode cX10_canBeWalked 20 = .ok (.ireturn, 1) := by decide +kernel
theorem dX10_levelOf_0 : decode cX10_levelOf 0 = .ok (.aload_n 0, 1) := by decide +kernel
theorem dX10_levelOf_1 : decode cX10_levelOf 1 = .ok (.getfield 9, 3) := by decide +kernel
theorem dX10_levelOf_4 : decode cX10_levelOf 4 = .ok (.iload_n 1, 1) := by decide +kernel
theorem dX10_levelOf_5 : decode cX10_levelOf 5 = .ok (.iaload, 1) := by decide +kernel
theorem dX10_levelOf_6 : decode cX10_levelOf 6 = .ok (.aload_n 0, 1) := by decide +kernel
theorem dX10_levelOf_7 : decode cX10_levelOf 7 = .ok (.getfield 15, 3) := by decide +kernel
theorem dX10_levelOf_10 : decode cX10_levelOf 10 = .ok (.iload_n 1, 1) := by decide +kernel
theorem dX10_levelOf_11 : decode cX10_levelOf 11 = .ok (.iaload, 1) := by decide +kernel
theorem dX10_levelOf_12 : decode cX10_levelOf 12 = .ok (.iadd, 1) := by decide +kernel
theorem dX10_levelOf_13 : decode cX10_levelOf 13 = .ok (.aload_n 0, 1) := by decide +kernel
theorem dX10_levelOf_14 : decode cX10_levelOf 14 = .ok (.getfield 18, 3) := by decide +kernel
theorem dX10_levelOf_17 : decode cX10_levelOf 17 = .ok (.iload_n 1, 1) := by decide +kernel
theorem dX10_levelOf_18 : decode cX10_levelOf 18 = .ok (.iaload, 1) := by decide +kernel
theorem dX10_levelOf_19 : decode cX10_levelOf 19 = .ok (.iadd, 1) := by decide +kernel
theorem dX10_levelOf_20 : decode cX10_levelOf 20 = .ok (.ireturn, 1) := by decide +kernel
theorem dX11_init_0 : decode cX11_init 0 = .ok (.aload_n 0, 1) := by decide +kernel
theorem dX11_init_1 : decode cX11_init 1 = .ok (.invokespecial 1, 3) := by decide +kernel
theorem dX11_init_4 : decode cX11_init 4 = .ok (.aload_n 0, 1) := by decide +kernel
theorem dX11_init_5 : decode cX11_init 5 = .ok (.bipush 12, 2) := by decide +kernel
theorem dX11_init_7 : decode cX11_init 7 = .ok (.newarray .int, 2) := by decide +kernel
theorem dX11_init_9 : decode cX11_init 9 = .ok (.putfield 9, 3) := by decide +kernel
theorem dX11_init_12 : decode cX11_init 12 = .ok (.aload_n 0, 1) := by decide +kernel
theorem dX11_init_13 : decode cX11_init 13 = .ok (.bipush 80, 2) := by decide +kernel
theorem dX11_init_15 : decode cX11_init 15 = .ok (.newarray .int, 2) := by decide +kernel
theorem dX11_init_17 : decode cX11_init 17 = .ok (.putfield 13, 3) := by decide +kernel
theorem dX11_init_20 : decode cX11_init 20 = .ok (.aload_n 0, 1) := by decide +kernel
theorem dX11_init_21 : decode cX11_init 21 = .ok (.bipush 80, 2) := by decide +kernel
theorem dX11_init_23 : decode cX11_init 23 = .ok (.newarray .int, 2) := by decide +kernel
theorem dX11_init_25 : decode cX11_init 25 = .ok (.putfield 16, 3) := by decide +kernel
theorem dX11_init_28 : decode cX11_init 28 = .ok (.aload_n 0, 1) := by decide +kernel
theorem dX11_init_29 : decode cX11_init 29 = .ok (.bipush 80, 2) := by decide +kernel
theorem dX11_init_31 : decode cX11_init 31 = .ok (.newarray .int, 2) := by decide +kernel
theorem dX11_init_33 : decode cX11_init 33 = .ok (.putfield 19, 3) := by decide +kernel
theorem dX11_init_36 : decode cX11_init 36 = .ok (.aload_n 0, 1) := by decide +kernel
theorem dX11_init_37 : decode cX11_init 37 = .ok (.bipush 80, 2) := by decide +kernel
theorem dX11_init_39 : decode cX11_init 39 = .ok (.newarray .int, 2) := by decide +kernel
theorem dX11_init_41 : decode cX11_init 41 = .ok (.putfield 22, 3) := by decide +kernel
theorem dX11_init_44 : decode cX11_init 44 = .ok (.aload_n 0, 1) := by decide +kernel
theorem dX11_init_45 : decode cX11_init 45 = .ok (.new 25, 3) := by decide +kernel
theorem dX11_init_48 : decode cX11_init 48 = .ok (.dup, 1) := by decide +kernel
theorem dX11_init_49 : decode cX11_init 49 = .ok (.invokespecial 27, 3) := by decide +kernel
theorem dX11_init_52 : decode cX11_init 52 = .ok (.putfield 28, 3) := by decide +kernel
theorem dX11_init_55 : decode cX11_init 55 = .ok (.aload_n 0, 1) := by decide +kernel
theorem dX11_init_56 : decode cX11_init 56 = .ok (.new 25, 3) := by decide +kernel
theorem dX11_init_59 : decode cX11_init 59 = .ok (.dup, 1) := by decide +kernel
theorem dX11_init_60 : decode cX11_init 60 = .ok (.invokespecial 27, 3) := by decide +kernel
theorem dX11_init_63 : decode cX11_init 63 = .ok (.putfield 32, 3) := by decide +kernel
theorem dX11_init_66 : decode cX11_init 66 = .ok (.iconst 0, 1) := by decide +kernel
theorem dX11_init_67 : decode cX11_init 67 = .ok (.istore_n 1, 1) := by decide +kernel
theorem dX11_init_68 : decode cX11_init 68 = .ok (.iload_n 1, 1) := by decide +kernel
theorem dX11_init_69 : decode cX11_init 69 = .ok (.bipush 80, 2) := by decide +kernel
theorem dX11_init_71 : decode cX11_init 71 = .ok (.if_icmp .ge 19, 3) := by decide +kernel
theorem dX11_init_74 : decode cX11_init 74 = .ok (.aload_n 0, 1) := by decide +kernel
theorem dX11_init_75 : decode cX11_init 75 = .ok (.getfield 28, 3) := by decide +kernel
theorem dX11_init_78 : decode cX11_init 78 = .ok (.getfield 35, 3) := by decide +kernel
theorem dX11_init_81 : decode cX11_init 81 = .ok (.iload_n 1, 1) := by decide +kernel
theorem dX11_init_82 : decode cX11_init 82 = .ok (.iconst 2, 1) := by decide +kernel
theorem dX11_init_83 : decode cX11_init 83 = .ok (.iastore, 1) := by decide +kernel
theorem dX11_init_84 : decode cX11_init 84 = .ok (.iinc 1 1, 3) := by decide +kernel
theorem dX11_init_87 : decode cX11_init 87 = .ok (.goto (-19), 3) := by decide +kernel
theorem dX11_init_90 : decode cX11_init 90 = .ok (.return_, 1) := by decide +kernel
theorem dX11_thrown_0 : decode cX11_thrown 0 = .ok (.aload_n 0, 1) := by decide +kernel
theorem dX11_thrown_1 : decode cX11_thrown 1 = .ok (.getfield 38, 3) := by decide +kernel
theorem dX11_thrown_4 : decode cX11_thrown 4 = .ok (.ireturn, 1) := by decide +kernel
theorem dX11_no_0 : decode cX11_no 0 = .ok (.aload_n 0, 1) := by decide +kernel
theorem dX11_no_1 : decode cX11_no 1 = .ok (.iload_n 1, 1) := by decide +kernel
theorem dX11_no_2 : decode cX11_no 2 = .ok (.putfield 38, 3) := by decide +kernel
theorem dX11_no_5 : decode cX11_no 5 = .ok (.iconst 0, 1) := by decide +kernel
theorem dX11_no_6 : decode cX11_no 6 = .ok (.ireturn, 1) := by decide +kernel
theorem dX11_isIn_0 : decode cX11_isIn 0 = .ok (.iload_n 0, 1) := by decide +kernel
theorem dX11_isIn_1 : decode cX11_isIn 1 = .ok (.iload_n 1, 1) := by decide +kernel
theorem dX11_isIn_2 : decode cX11_isIn 2 = .ok (.if_icmp .lt 12, 3) := by decide +kernel
theorem dX11_isIn_5 : decode cX11_isIn 5 = .ok (.iload_n 0, 1) := by decide +kernel
theorem dX11_isIn_6 : decode cX11_isIn 6 = .ok (.iload_n 2, 1) := by decide +kernel
theorem dX11_isIn_7 : decode cX11_isIn 7 = .ok (.if_icmp .gt 7, 3) := by decide +kernel
theorem dX11_isIn_10 : decode cX11_isIn 10 = .ok (.iconst 1, 1) := by decide +kernel
theorem dX11_isIn_11 : decode cX11_isIn 11 = .ok (.goto 4, 3) := by decide +kernel
theorem dX11_isIn_14 : decode cX11_isIn 14 = .ok (.iconst 0, 1) := by decide +kernel
theorem dX11_isIn_15 : decode cX11_isIn 15 = .ok (.ireturn, 1) := by decide +kernel
theorem dX11_isCell_0 : decode cX11_isCell 0 = .ok (.iload_n 0, 1) := by decide +kernel
theorem dX11_isCell_1 : decode cX11_isCell 1 = .ok (.iconst 0, 1) := by decide +kernel
theorem dX11_isCell_2 : decode cX11_isCell 2 = .ok (.bipush 9, 2) := by decide +kernel
theorem dX11_isCell_4 : decode cX11_isCell 4 = .ok (.invokestatic 42, 3) := by decide +kernel
theorem dX11_isCell_7 : decode cX11_isCell 7 = .ok (.ifCond .eq 17, 3) := by decide +kernel
theorem dX11_isCell_10 : decode cX11_isCell 10 = .ok (.iload_n 1, 1) := by decide +kernel
theorem dX11_isCell_11 : decode cX11_isCell 11 = .ok (.iconst 0, 1) := by decide +kernel
theorem dX11_isCell_12 : decode cX11_isCell 12 = .ok (.bipush 7, 2) := by decide +kernel
theorem dX11_isCell_14 : decode cX11_isCell 14 = .ok (.invokestatic 42, 3) := by decide +kernel
theorem dX11_isCell_17 : decode cX11_isCell 17 = .ok (.ifCond .eq 7, 3) := by decide +kernel
theorem dX11_isCell_20 : decode cX11_isCell 20 = .ok (.iconst 1, 1) := by decide +kernel
theorem dX11_isCell_21 : decode cX11_isCell 21 = .ok (.goto 4, 3) := by decide +kernel
theorem dX11_isCell_24 : decode cX11_isCell 24 = .ok (.iconst 0, 1) := by decide +kernel
theorem dX11_isCell_25 : decode cX11_isCell 25 = .ok (.ireturn, 1) := by decide +kernel
theorem dX11_beside_0 : decode cX11_beside 0 = .ok (.iload_n 0, 1) := by decide +kernel
theorem dX11_beside_1 : decode cX11_beside 1 = .ok (.bipush 10, 2) := by decide +kernel
theorem dX11_beside_3 : decode cX11_beside 3 = .ok (.irem, 1) := by decide +kernel
theorem dX11_beside_4 : decode cX11_beside 4 = .ok (.iload_n 1, 1) := by decide +kernel
theorem dX11_beside_5 : decode cX11_beside 5 = .ok (.iconst 1, 1) := by decide +kernel
theorem dX11_beside_6 : decode cX11_beside 6 = .ok (.if_icmp .ne 7, 3) := by decide +kernel
theorem dX11_beside_9 : decode cX11_beside 9 = .ok (.iconst 1, 1) := by decide +kernel
theorem dX11_beside_10 : decode cX11_beside 10 = .ok (.goto 13, 3) := by decide +kernel
theorem dX11_beside_13 : decode cX11_beside 13 = .ok (.iload_n 1, 1) := by decide +kernel
theorem dX11_beside_14 : decode cX11_beside 14 = .ok (.iconst 3, 1) := by decide +kernel
theorem dX11_beside_15 : decode cX11_beside 15 = .ok (.if_icmp .ne 7, 3) := by decide +kernel
theorem dX11_beside_18 : decode cX11_beside 18 = .ok (.iconst (-1), 1) := by decide +kernel
theorem dX11_beside_19 : decode cX11_beside 19 = .ok (.goto 4, 3) := by decide +kernel
theorem dX11_beside_22 : decode cX11_beside 22 = .ok (.iconst 0, 1) := by decide +kernel
theorem dX11_beside_23 : decode cX11_beside 23 = .ok (.iadd, 1) := by decide +kernel
theorem dX11_beside_24 : decode cX11_beside 24 = .ok (.istore_n 2, 1) := by decide +kernel
theorem dX11_beside_25 : decode cX11_beside 25 = .ok (.iload_n 0, 1) := by decide +kernel
theorem dX11_beside_26 : decode cX11_beside 26 = .ok (.bipush 10, 2) := by decide +kernel
theorem dX11_beside_28 : decode cX11_beside 28 = .ok (.idiv, 1) := by decide +kernel
theorem dX11_beside_29 : decode cX11_beside 29 = .ok (.iload_n 1, 1) := by decide +kernel
theorem dX11_beside_30 : decode cX11_beside 30 = .ok (.iconst 2, 1) := by decide +kernel
theorem dX11_beside_31 : decode cX11_beside 31 = .ok (.if_icmp .ne 7, 3) := by decide +kernel
theorem dX11_beside_34 : decode cX11_beside 34 = .ok (.iconst 1, 1) := by decide +kernel
theorem dX11_beside_35 : decode cX11_beside 35 = .ok (.goto 12, 3) := by decide +kernel
theorem dX11_beside_38 : decode cX11_beside 38 = .ok (.iload_n 1, 1) := by decide +kernel
theorem dX11_beside_39 : decode cX11_beside 39 = .ok (.ifCond .ne 7, 3) := by decide +kernel
theorem dX11_beside_42 : decode cX11_beside 42 = .ok (.iconst (-1), 1) := by decide +kernel
theorem dX11_beside_43 : decode cX11_beside 43 = .ok (.goto 4, 3) := by decide +kernel
theorem dX11_beside_46 : decode cX11_beside 46 = .ok (.iconst 0, 1) := by decide +kernel
theorem dX11_beside_47 : decode cX11_beside 47 = .ok (.iadd, 1) := by decide +kernel
theorem dX11_beside_48 : decode cX11_beside 48 = .ok (.istore_n 3, 1) := by decide +kernel
theorem dX11_beside_49 : decode cX11_beside 49 = .ok (.iload_n 2, 1) := by decide +kernel
theorem dX11_beside_50 : decode cX11_beside 50 = .ok (.iload_n 3, 1) := by decide +kernel
theorem dX11_beside_51 : decode cX11_beside 51 = .ok (.invokestatic 46, 3) := by decide +kernel
theorem dX11_beside_54 : decode cX11_beside 54 = .ok (.ifCond .eq 12, 3) := by decide +kernel
theorem dX11_beside_57 : decode cX11_beside 57 = .ok (.bipush 10, 2) := by decide +kernel
theorem dX11_beside_59 : decode cX11_beside 59 = .ok (.iload_n 3, 1) := by decide +kernel
theorem dX11_beside_60 : decode cX11_beside 60 = .ok (.imul, 1) := by decide +kernel
theorem dX11_beside_61 : decode cX11_beside 61 = .ok (.iload_n 2, 1) := by decide +kernel
theorem dX11_beside_62 : decode cX11_beside 62 = .ok (.iadd, 1) := by decide +kernel
theorem dX11_beside_63 : decode cX11_beside 63 = .ok (.goto 4, 3) := by decide +kernel
theorem dX11_beside_66 : decode cX11_beside 66 = .ok (.iconst (-1), 1) := by decide +kernel
theorem dX11_beside_67 : decode cX11_beside 67 = .ok (.ireturn, 1) := by decide +kernel
theorem dX11_setGround_0 : decode cX11_setGround 0 = .ok (.aload_n 0, 1) := by decide +kernel
theorem dX11_setGround_1 : decode cX11_setGround 1 = .ok (.iconst 0, 1) := by decide +kernel
theorem dX11_setGround_2 : decode cX11_setGround 2 = .ok (.putfield 38, 3) := by decide +kernel
theorem dX11_setGround_5 : decode cX11_setGround 5 = .ok (.iload_n 1, 1) := by decide +kernel
theorem dX11_setGround_6 : decode cX11_setGround 6 = .ok (.iload_n 2, 1) := by decide +kernel
theorem dX11_setGround_7 : decode cX11_setGround 7 = .ok (.invokestatic 46, 3) := by decide +kernel
theorem dX11_setGround_10 : decode cX11_setGround 10 = .ok (.ifCond .ne 9, 3) := by decide +kernel
theorem dX11_setGround_13 : decode cX11_setGround 13 = .ok (.aload_n 0, 1) := by decide +kernel
theorem dX11_setGround_14 : decode cX11_setGround 14 = .ok (.iconst 1, 1) := by decide +kernel
theorem dX11_setGround_15 : decode cX11_setGround 15 = .ok (.invokevirtual 50, 3) := by decide +kernel
theorem dX11_setGround_18 : decode cX11_setGround 18 = .ok (.ireturn, 1) := by decide +kernel
theorem dX11_setGround_19 : decode cX11_setGround 19 = .ok (.iload_n 3, 1) := by decide +kernel
theorem dX11_setGround_20 : decode cX11_setGround 20 = .ok (.iconst 0, 1) := by decide +kernel
theorem dX11_setGround_21 : decode cX11_setGround 21 = .ok (.bipush 9, 2) := by decide +kernel
theorem dX11_setGround_23 : decode cX11_setGround 23 = .ok (.invokestatic 42, 3) := by decide +kernel
theorem dX11_setGround_26 : decode cX11_setGround 26 = .ok (.ifCond .ne 9, 3) := by decide +kernel
theorem dX11_setGround_29 : decode cX11_setGround 29 = .ok (.aload_n 0, 1) := by decide +kernel
theorem dX11_setGround_30 : decode cX11_setGround 30 = .ok (.iconst 2, 1) := by decide +kernel
theorem dX11_setGround_31 : decode cX11_setGround 31 = .ok (.invokevirtual 50, 3) := by decide +kernel
theorem dX11_setGround_34 : decode cX11_setGround 34 = .ok (.ireturn, 1) := by decide +kernel
theorem dX11_setGround_35 : decode cX11_setGround 35 = .ok (.aload_n 0, 1) := by decide +kernel
theorem dX11_setGround_36 : decode cX11_setGround 36 = .ok (.getfield 28, 3) := by decide +kernel
theorem dX11_setGround_39 : decode cX11_setGround 39 = .ok (.getfield 35, 3) := by decide +kernel
theorem dX11_setGround_42 : decode cX11_setGround 42 = .ok (.bipush 10, 2) := by decide +kernel
theorem dX11_setGround_44 : decode cX11_setGround 44 = .ok (.iload_n 2, 1) := by decide +kernel
theorem dX11_setGround_45 : decode cX11_setGround 45 = .ok (.imul, 1) := by decide +kernel
theorem dX11_setGround_46 : decode cX11_setGround 46 = .ok (.iload_n 1, 1) := by decide +kernel
theorem dX11_setGround_47 : decode cX11_setGround 47 = .ok (.iadd, 1) := by decide +kernel
theorem dX11_setGround_48 : decode cX11_setGround 48 = .ok (.iaload, 1) := by decide +kernel
theorem dX11_setGround_49 : decode cX11_setGround 49 = .ok (.istore 4, 2) := by decide +kernel
theorem dX11_setGround_51 : decode cX11_setGround 51 = .ok (.aload_n 0, 1) := by decide +kernel
theorem dX11_setGround_52 : decode cX11_setGround 52 = .ok (.getfield 28, 3) := by decide +kernel
theorem dX11_setGround_55 : decode cX11_setGround 55 = .ok (.getfield 35, 3) := by decide +kernel
theorem dX11_setGround_58 : decode cX11_setGround 58 = .ok (.bipush 10, 2) := by decide +kernel
theorem dX11_setGround_60 : decode cX11_setGround 60 = .ok (.iload_n 2, 1) := by decide +kernel
theorem dX11_setGround_61 : decode cX11_setGround 61 = .ok (.imul, 1) := by decide +kernel
theorem dX11_setGround_62 : decode cX11_setGround 62 = .ok (.iload_n 1, 1) := by decide +kernel
theorem dX11_setGround_63 : decode cX11_setGround 63 = .ok (.iadd, 1) := by decide +kernel
theorem dX11_setGround_64 : decode cX11_setGround 64 = .ok (.iload_n 3, 1) := by decide +kernel
theorem dX11_setGround_65 : decode cX11_setGround 65 = .ok (.iastore, 1) := by decide +kernel
theorem dX11_setGround_66 : decode cX11_setGround 66 = .ok (.iload 4, 2) := by decide +kernel
theorem dX11_setGround_68 : decode cX11_setGround 68 = .ok (.ireturn, 1) := by decide +kernel
theorem dX11_all_0 : decode cX11_all 0 = .ok (.iconst 0, 1) := by decide +kernel
theorem dX11_all_1 : decode cX11_all 1 = .ok (.istore_n 1, 1) := by decide +kernel
theorem dX11_all_2 : decode cX11_all 2 = .ok (.aload_n 0, 1) := by decide +kernel
theorem dX11_all_3 : decode cX11_all 3 = .ok (.astore_n 2, 1) := by decide +kernel
theorem dX11_all_4 : decode cX11_all 4 = .ok (.aload_n 2, 1) := by decide +kernel
theorem dX11_all_5 : decode cX11_all 5 = .ok (.arraylength, 1) := by decide +kernel
theorem dX11_all_6 : decode cX11_all 6 = .ok (.istore_n 3, 1) := by decide +kernel
theorem dX11_all_7 : decode cX11_all 7 = .ok (.iconst 0, 1) := by decide +kernel
theorem dX11_all_8 : decode cX11_all 8 = .ok (.istore 4, 2) := by decide +kernel
theorem dX11_all_10 : decode cX11_all 10 = .ok (.iload 4, 2) := by decide +kernel
theorem dX11_all_12 : decode cX11_all 12 = .ok (.iload_n 3, 1) := by decide +kernel
theorem dX11_all_13 : decode cX11_all 13 = .ok (.if_icmp .ge 20, 3) := by decide +kernel
theorem dX11_all_16 : decode cX11_all 16 = .ok (.aload_n 2, 1) := by decide +kernel
theorem dX11_all_17 : decode cX11_all 17 = .ok (.iload 4, 2) := by decide +kernel
theorem dX11_all_19 : decode cX11_all 19 = .ok (.iaload, 1) := by decide +kernel
theorem dX11_all_20 : decode cX11_all 20 = .ok (.istore 5, 2) := by decide +kernel
theorem dX11_all_22 : decode cX11_all 22 = .ok (.iload_n 1, 1) := by decide +kernel
theorem dX11_all_23 : decode cX11_all 23 = .ok (.iload 5, 2) := by decide +kernel
theorem dX11_all_25 : decode cX11_all 25 = .ok (.iadd, 1) := by decide +kernel
theorem dX11_all_26 : decode cX11_all 26 = .ok (.istore_n 1, 1) := by decide +kernel
theorem dX11_all_27 : decode cX11_all 27 = .ok (.iinc 4 1, 3) := by decide +kernel
theorem dX11_all_30 : decode cX11_all 30 = .ok (.goto (-20), 3) := by decide +kernel
theorem dX11_all_33 : decode cX11_all 33 = .ok (.iload_n 1, 1) := by decide +kernel
theorem dX11_all_34 : decode cX11_all 34 = .ok (.ireturn, 1) := by decide +kernel
theorem dX11_lay_0 : decode cX11_lay 0 = .ok (.aload_n 0, 1) := by decide +kernel
theorem dX11_lay_1 : decode cX11_lay 1 = .ok (.iconst 0, 1) := by decide +kernel
theorem dX11_lay_2 : decode cX11_lay 2 = .ok (.putfield 38, 3) := by decide +kernel
theorem dX11_lay_5 : decode cX11_lay 5 = .ok (.iload_n 1, 1) := by decide +kernel
theorem dX11_lay_6 : decode cX11_lay 6 = .ok (.iload_n 2, 1) := by decide +kernel
theorem dX11_lay_7 : decode cX11_lay 7 = .ok (.invokestatic 46, 3) := by decide +kernel
theorem dX11_lay_10 : decode cX11_lay 10 = .ok (.ifCond .ne 9, 3) := by decide +kernel
theorem dX11_lay_13 : decode cX11_lay 13 = .ok (.aload_n 0, 1) := by decide +kernel
theorem dX11_lay_14 : decode cX11_lay 14 = .ok (.iconst 1, 1) := by decide +kernel
theorem dX11_lay_15 : decode cX11_lay 15 = .ok (.invokevirtual 50, 3) := by decide +kernel
theorem dX11_lay_18 : decode cX11_lay 18 = .ok (.ireturn, 1) := by decide +kernel
theorem dX11_lay_19 : decode cX11_lay 19 = .ok (.iload_n 3, 1) := by decide +kernel
theorem dX11_lay_20 : decode cX11_lay 20 = .ok (.iconst 0, 1) := by decide +kernel
theorem dX11_lay_21 : decode cX11_lay 21 = .ok (.iconst 5, 1) := by decide +kernel
theorem dX11_lay_22 : decode cX11_lay 22 = .ok (.invokestatic 42, 3) := by decide +kernel
theorem dX11_lay_25 : decode cX11_lay 25 = .ok (.ifCond .ne 9, 3) := by decide +kernel
theorem dX11_lay_28 : decode cX11_lay 28 = .ok (.aload_n 0, 1) := by decide +kernel
theorem dX11_lay_29 : decode cX11_lay 29 = .ok (.iconst 2, 1) := by decide +kernel
theorem dX11_lay_30 : decode cX11_lay 30 = .ok (.invokevirtual 50, 3) := by decide +kernel
theorem dX11_lay_33 : decode cX11_lay 33 = .ok (.ireturn, 1) := by decide +kernel
theorem dX11_lay_34 : decode cX11_lay 34 = .ok (.bipush 10, 2) := by decide +kernel
theorem dX11_lay_36 : decode cX11_lay 36 = .ok (.iload_n 2, 1) := by decide +kernel
theorem dX11_lay_37 : decode cX11_lay 37 = .ok (.imul, 1) := by decide +kernel
theorem dX11_lay_38 : decode cX11_lay 38 = .ok (.iload_n 1, 1) := by decide +kernel
theorem dX11_lay_39 : decode cX11_lay 39 = .ok (.iadd, 1) := by decide +kernel
theorem dX11_lay_40 : decode cX11_lay 40 = .ok (.istore 4, 2) := by decide +kernel
theorem dX11_lay_42 : decode cX11_lay 42 = .ok (.aload_n 0, 1) := by decide +kernel
theorem dX11_lay_43 : decode cX11_lay 43 = .ok (.getfield 28, 3) := by decide +kernel
theorem dX11_lay_46 : decode cX11_lay 46 = .ok (.getfield 54, 3) := by decide +kernel
theorem dX11_lay_49 : decode cX11_lay 49 = .ok (.invokestatic 57, 3) := by decide +kernel
theorem dX11_lay_52 : decode cX11_lay 52 = .ok (.aload_n 0, 1) := by decide +kernel
theorem dX11_lay_53 : decode cX11_lay 53 = .ok (.getfield 28, 3) := by decide +kernel
theorem dX11_lay_56 : decode cX11_lay 56 = .ok (.getfield 54, 3) := by decide +kernel
theorem dX11_lay_59 : decode cX11_lay 59 = .ok (.iload 4, 2) := by decide +kernel
theorem dX11_lay_61 : decode cX11_lay 61 = .ok (.iaload, 1) := by decide +kernel
theorem dX11_lay_62 : decode cX11_lay 62 = .ok (.isub, 1) := by decide +kernel
theorem dX11_lay_63 : decode cX11_lay 63 = .ok (.iload_n 3, 1) := by decide +kernel
theorem dX11_lay_64 : decode cX11_lay 64 = .ok (.iadd, 1) := by decide +kernel
theorem dX11_lay_65 : decode cX11_lay 65 = .ok (.istore 5, 2) := by decide +kernel
theorem dX11_lay_67 : decode cX11_lay 67 = .ok (.iload 5, 2) := by decide +kernel
theorem dX11_lay_69 : decode cX11_lay 69 = .ok (.bipush 40, 2) := by decide +kernel
theorem dX11_lay_71 : decode cX11_lay 71 = .ok (.if_icmp .le 9, 3) := by decide +kernel
theorem dX11_lay_74 : decode cX11_lay 74 = .ok (.aload_n 0, 1) := by decide +kernel
theorem dX11_lay_75 : decode cX11_lay 75 = .ok (.iconst 3, 1) := by decide +kernel
theorem dX11_lay_76 : decode cX11_lay 76 = .ok (.invokevirtual 50, 3) := by decide +kernel
theorem dX11_lay_79 : decode cX11_lay 79 = .ok (.ireturn, 1) := by decide +kernel
theorem dX11_lay_80 : decode cX11_lay 80 = .ok (.aload_n 0, 1) := by decide +kernel
theorem dX11_lay_81 : decode cX11_lay 81 = .ok (.getfield 28, 3) := by decide +kernel
theorem dX11_lay_84 : decode cX11_lay 84 = .ok (.getfield 54, 3) := by decide +kernel
theorem dX11_lay_87 : decode cX11_lay 87 = .ok (.iload 4, 2) := by decide +kernel
theorem dX11_lay_89 : decode cX11_lay 89 = .ok (.iload_n 3, 1) := by decide +kernel
theorem dX11_lay_90 : decode cX11_lay 90 = .ok (.iastore, 1) := by decide +kernel
theorem dX11_lay_91 : decode cX11_lay 91 = .ok (.iload 5, 2) := by decide +kernel
theorem dX11_lay_93 : decode cX11_lay 93 = .ok (.ireturn, 1) := by decide +kernel
theorem dX11_setRiver_0 : decode cX11_setRiver 0 = .ok (.aload_n 0, 1) := by decide +kernel
theorem dX11_setRiver_1 : decode cX11_setRiver 1 = .ok (.iconst 0, 1) := by decide +kernel
theorem dX11_setRiver_2 : decode cX11_setRiver 2 = .ok (.putfield 38, 3) := by decide +kernel
theorem dX11_setRiver_5 : decode cX11_setRiver 5 = .ok (.iload_n 1, 1) := by decide +kernel
theorem dX11_setRiver_6 : decode cX11_setRiver 6 = .ok (.iconst 0, 1) := by decide +kernel
theorem dX11_setRiver_7 : decode cX11_setRiver 7 = .ok (.bipush 11, 2) := by decide +kernel
theorem dX11_setRiver_9 : decode cX11_setRiver 9 = .ok (.invokestatic 42, 3) := by decide +kernel
theorem dX11_setRiver_12 : decode cX11_setRiver 12 = .ok (.ifCond .ne 9, 3) := by decide +kernel
theorem dX11_setRiver_15 : decode cX11_setRiver 15 = .ok (.aload_n 0, 1) := by decide +kernel
theorem dX11_setRiver_16 : decode cX11_setRiver 16 = .ok (.iconst 1, 1) := by decide +kernel
theorem dX11_setRiver_17 : decode cX11_setRiver 17 = .ok (.invokevirtual 50, 3) := by decide +kernel
theorem dX11_setRiver_20 : decode cX11_setRiver 20 = .ok (.ireturn, 1) := by decide +kernel
theorem dX11_setRiver_21 : decode cX11_setRiver 21 = .ok (.iload_n 2, 1) := by decide +kernel
theorem dX11_setRiver_22 : decode cX11_setRiver 22 = .ok (.iconst 0, 1) := by decide +kernel
theorem dX11_setRiver_23 : decode cX11_setRiver 23 = .ok (.bipush 12, 2) := by decide +kernel
theorem dX11_setRiver_25 : decode cX11_setRiver 25 = .ok (.invokestatic 42, 3) := by decide +kernel
theorem dX11_setRiver_28 : decode cX11_setRiver 28 = .ok (.ifCond .ne 9, 3) := by decide +kernel
theorem dX11_setRiver_31 : decode cX11_setRiver 31 = .ok (.aload_n 0, 1) := by decide +kernel
theorem dX11_setRiver_32 : decode cX11_setRiver 32 = .ok (.iconst 2, 1) := by decide +kernel
theorem dX11_setRiver_33 : decode cX11_setRiver 33 = .ok (.invokevirtual 50, 3) := by decide +kernel
theorem dX11_setRiver_36 : decode cX11_setRiver 36 = .ok (.ireturn, 1) := by decide +kernel
theorem dX11_setRiver_37 : decode cX11_setRiver 37 = .ok (.aload_n 0, 1) := by decide +kernel
theorem dX11_setRiver_38 : decode cX11_setRiver 38 = .ok (.getfield 9, 3) := by decide +kernel
theorem dX11_setRiver_41 : decode cX11_setRiver 41 = .ok (.iload_n 1, 1) := by decide +kernel
theorem dX11_setRiver_42 : decode cX11_setRiver 42 = .ok (.iaload, 1) := by decide +kernel
theorem dX11_setRiver_43 : decode cX11_setRiver 43 = .ok (.istore_n 3, 1) := by decide +kernel
theorem dX11_setRiver_44 : decode cX11_setRiver 44 = .ok (.aload_n 0, 1) := by decide +kernel
theorem dX11_setRiver_45 : decode cX11_setRiver 45 = .ok (.getfield 9, 3) := by decide +kernel
theorem dX11_setRiver_48 : decode cX11_setRiver 48 = .ok (.iload_n 1, 1) := by decide +kernel
theorem dX11_setRiver_49 : decode cX11_setRiver 49 = .ok (.iload_n 2, 1) := by decide +kernel
theorem dX11_setRiver_50 : decode cX11_setRiver 50 = .ok (.iastore, 1) := by decide +kernel
theorem dX11_setRiver_51 : decode cX11_setRiver 51 = .ok (.iload_n 3, 1) := by decide +kernel
theorem dX11_setRiver_52 : decode cX11_setRiver 52 = .ok (.ireturn, 1) := by decide +kernel
theorem dX11_placeOf_0 : decode cX11_placeOf 0 = .ok (.iconst 0, 1) := by decide +kernel
theorem dX11_placeOf_1 : decode cX11_placeOf 1 = .ok (.istore 4, 2) := by decide +kernel
theorem dX11_placeOf_3 : decode cX11_placeOf 3 = .ok (.iload 4, 2) := by decide +kernel
theorem dX11_placeOf_5 : decode cX11_placeOf 5 = .ok (.iload_n 2, 1) := by decide +kernel
theorem dX11_placeOf_6 : decode cX11_placeOf 6 = .ok (.if_icmp .ge 22, 3) := by decide +kernel
theorem dX11_placeOf_9 : decode cX11_placeOf 9 = .ok (.aload_n 0, 1) := by decide +kernel
theorem dX11_placeOf_10 : decode cX11_placeOf 10 = .ok (.iload_n 1, 1) := by decide +kernel
theorem dX11_placeOf_11 : decode cX11_placeOf 11 = .ok (.iload 4, 2) := by decide +kernel
theorem dX11_placeOf_13 : decode cX11_placeOf 13 = .ok (.imul, 1) := by decide +kernel
theorem dX11_placeOf_14 : decode cX11_placeOf 14 = .ok (.iaload, 1) := by decide +kernel
theorem dX11_placeOf_15 : decode cX11_placeOf 15 = .ok (.iload_n 3, 1) := by decide +kernel
theorem dX11_placeOf_16 : decode cX11_placeOf 16 = .ok (.if_icmp .ne 6, 3) := by decide +kernel
theorem dX11_placeOf_19 : decode cX11_placeOf 19 = .ok (.iload 4, 2) := by decide +kernel
theorem dX11_placeOf_21 : decode cX11_placeOf 21 = .ok (.ireturn, 1) := by decide +kernel
theorem dX11_placeOf_22 : decode cX11_placeOf 22 = .ok (.iinc 4 1, 3) := by decide +kernel
theorem dX11_placeOf_25 : decode cX11_placeOf 25 = .ok (.goto (-22), 3) := by decide +kernel
theorem dX11_placeOf_28 : decode cX11_placeOf 28 = .ok (.iconst (-1), 1) := by decide +kernel
theorem dX11_placeOf_29 : decode cX11_placeOf 29 = .ok (.ireturn, 1) := by decide +kernel
theorem dX11_addPump_0 : decode cX11_addPump 0 = .ok (.aload_n 0, 1) := by decide +kernel
theorem dX11_addPump_1 : decode cX11_addPump 1 = .ok (.iconst 0, 1) := by decide +kernel
theorem dX11_addPump_2 : decode cX11_addPump 2 = .ok (.putfield 38, 3) := by decide +kernel
theorem dX11_addPump_5 : decode cX11_addPump 5 = .ok (.iload_n 1, 1) := by decide +kernel
theorem dX11_addPump_6 : decode cX11_addPump 6 = .ok (.iload_n 2, 1) := by decide +kernel
theorem dX11_addPump_7 : decode cX11_addPump 7 = .ok (.invokestatic 46, 3) := by decide +kernel
theorem dX11_addPump_10 : decode cX11_addPump 10 = .ok (.ifCond .ne 9, 3) := by decide +kernel
theorem dX11_addPump_13 : decode cX11_addPump 13 = .ok (.aload_n 0, 1) := by decide +kernel
theorem dX11_addPump_14 : decode cX11_addPump 14 = .ok (.iconst 1, 1) := by decide +kernel
theorem dX11_addPump_15 : decode cX11_addPump 15 = .ok (.invokevirtual 50, 3) := by decide +kernel
theorem dX11_addPump_18 : decode cX11_addPump 18 = .ok (.ireturn, 1) := by decide +kernel
theorem dX11_addPump_19 : decode cX11_addPump 19 = .ok (.iload_n 3, 1) := by decide +kernel
theorem dX11_addPump_20 : decode cX11_addPump 20 = .ok (.iconst 1, 1) := by decide +kernel
theorem dX11_addPump_21 : decode cX11_addPump 21 = .ok (.iconst 5, 1) := by decide +kernel
theorem dX11_addPump_22 : decode cX11_addPump 22 = .ok (.invokestatic 42, 3) := by decide +kernel
theorem dX11_addPump_25 : decode cX11_addPump 25 = .ok (.ifCond .eq 14, 3) := by decide +kernel
theorem dX11_addPump_28 : decode cX11_addPump 28 = .ok (.iload 4, 2) := by decide +kernel
theorem dX11_addPump_30 : decode cX11_addPump 30 = .ok (.iconst 0, 1) := by decide +kernel
theorem dX11_addPump_31 : decode cX11_addPump 31 = .ok (.bipush 30, 2) := by decide +kernel
theorem dX11_addPump_33 : decode cX11_addPump 33 = .ok (.invokestatic 42, 3) := by decide +kernel
theorem dX11_addPump_36 : decode cX11_addPump 36 = .ok (.ifCond .ne 9, 3) := by decide +kernel
theorem dX11_addPump_39 : decode cX11_addPump 39 = .ok (.aload_n 0, 1) := by decide +kernel
theorem dX11_addPump_40 : decode cX11_addPump 40 = .ok (.iconst 2, 1) := by decide +kernel
theorem dX11_addPump_41 : decode cX11_addPump 41 = .ok (.invokevirtual 50, 3) := by decide +kernel
theorem dX11_addPump_44 : decode cX11_addPump 44 = .ok (.ireturn, 1) := by decide +kernel
theorem dX11_addPump_45 : decode cX11_addPump 45 = .ok (.bipush 10, 2) := by decide +kernel
theorem dX11_addPump_47 : decode cX11_addPump 47 = .ok (.iload_n 2, 1) := by decide +kernel
theorem dX11_addPump_48 : decode cX11_addPump 48 = .ok (.imul, 1) := by decide +kernel
theorem dX11_addPump_49 : decode cX11_addPump 49 = .ok (.iload_n 1, 1) := by decide +kernel
theorem dX11_addPump_50 : decode cX11_addPump 50 = .ok (.iadd, 1) := by decide +kernel
theorem dX11_addPump_51 : decode cX11_addPump 51 = .ok (.istore 5, 2) := by decide +kernel
theorem dX11_addPump_53 : decode cX11_addPump 53 = .ok (.aload_n 0, 1) := by decide +kernel
theorem dX11_addPump_54 : decode cX11_addPump 54 = .ok (.getfield 61, 3) := by decide +kernel
theorem dX11_addPump_57 : decode cX11_addPump 57 = .ok (.iconst 5, 1) := by decide +kernel
theorem dX11_addPump_58 : decode cX11_addPump 58 = .ok (.if_icmp .eq 24, 3) := by decide +kernel
theorem dX11_addPump_61 : decode cX11_addPump 61 = .ok (.aload_n 0, 1) := by decide +kernel
theorem dX11_addPump_62 : decode cX11_addPump 62 = .ok (.getfield 28, 3) := by decide +kernel
theorem dX11_addPump_65 : decode cX11_addPump 65 = .ok (.getfield 64, 3) := by decide +kernel
theorem dX11_addPump_68 : decode cX11_addPump 68 = .ok (.iconst 5, 1) := by decide +kernel
theorem dX11_addPump_69 : decode cX11_addPump 69 = .ok (.aload_n 0, 1) := by decide +kernel
theorem dX11_addPump_70 : decode cX11_addPump 70 = .ok (.getfield 61, 3) := by decide +kernel
theorem dX11_addPump_73 : decode cX11_addPump 73 = .ok (.iload 5, 2) := by decide +kernel
theorem dX11_addPump_75 : decode cX11_addPump 75 = .ok (.invokestatic 67, 3) := by decide +kernel
theorem dX11_addPump_78 : decode cX11_addPump 78 = .ok (.iconst (-1), 1) := by decide +kernel
theorem dX11_addPump_79 : decode cX11_addPump 79 = .ok (.if_icmp .eq 9, 3) := by decide +kernel
theorem dX11_addPump_82 : decode cX11_addPump 82 = .ok (.aload_n 0, 1) := by decide +kernel
theorem dX11_addPump_83 : decode cX11_addPump 83 = .ok (.iconst 3, 1) := by decide +kernel
theorem dX11_addPump_84 : decode cX11_addPump 84 = .ok (.invokevirtual 50, 3) := by decide +kernel
theorem dX11_addPump_87 : decode cX11_addPump 87 = .ok (.ireturn, 1) := by decide +kernel
theorem dX11_addPump_88 : decode cX11_addPump 88 = .ok (.aload_n 0, 1) := by decide +kernel
theorem dX11_addPump_89 : decode cX11_addPump 89 = .ok (.getfield 28, 3) := by decide +kernel
theorem dX11_addPump_92 : decode cX11_addPump 92 = .ok (.getfield 64, 3) := by decide +kernel
theorem dX11_addPump_95 : decode cX11_addPump 95 = .ok (.iconst 5, 1) := by decide +kernel
theorem dX11_addPump_96 : decode cX11_addPump 96 = .ok (.aload_n 0, 1) := by decide +kernel
theorem dX11_addPump_97 : decode cX11_addPump 97 = .ok (.getfield 61, 3) := by decide +kernel
theorem dX11_addPump_100 : decode cX11_addPump 100 = .ok (.imul, 1) := by decide +kernel
theorem dX11_addPump_101 : decode cX11_addPump 101 = .ok (.iload 5, 2) := by decide +kernel
theorem dX11_addPump_103 : decode cX11_addPump 103 = .ok (.iastore, 1) := by decide +kernel
theorem dX11_addPump_104 : decode cX11_addPump 104 = .ok (.aload_n 0, 1) := by decide +kernel
theorem dX11_addPump_105 : decode cX11_addPump 105 = .ok (.getfield 28, 3) := by decide +kernel
theorem dX11_addPump_108 : decode cX11_addPump 108 = .ok (.getfield 64, 3) := by decide +kernel
theorem dX11_addPump_111 : decode cX11_addPump 111 = .ok (.iconst 5, 1) := by decide +kernel
theorem dX11_addPump_112 : decode cX11_addPump 112 = .ok (.aload_n 0, 1) := by decide +kernel
theorem dX11_addPump_113 : decode cX11_addPump 113 = .ok (.getfield 61, 3) := by decide +kernel
theorem dX11_addPump_116 : decode cX11_addPump 116 = .ok (.imul, 1) := by decide +kernel
theorem dX11_addPump_117 : decode cX11_addPump 117 = .ok (.iconst 1, 1) := by decide +kernel
theorem dX11_addPump_118 : decode cX11_addPump 118 = .ok (.iadd, 1) := by decide +kernel
theorem dX11_addPump_119 : decode cX11_addPump 119 = .ok (.iload_n 3, 1) := by decide +kernel
theorem dX11_addPump_120 : decode cX11_addPump 120 = .ok (.iastore, 1) := by decide +kernel
theorem dX11_addPump_121 : decode cX11_addPump 121 = .ok (.aload_n 0, 1) := by decide +kernel
theorem dX11_addPump_122 : decode cX11_addPump 122 = .ok (.getfield 28, 3) := by decide +kernel
theorem dX11_addPump_125 : decode cX11_addPump 125 = .ok (.getfield 64, 3) := by decide +kernel
theorem dX11_addPump_128 : decode cX11_addPump 128 = .ok (.iconst 5, 1) := by decide +kernel
theorem dX11_addPump_129 : decode cX11_addPump 129 = .ok (.aload_n 0, 1) := by decide +kernel
theorem dX11_addPump_130 : decode cX11_addPump 130 = .ok (.getfield 61, 3) := by decide +kernel
theorem dX11_addPump_133 : decode cX11_addPump 133 = .ok (.imul, 1) := by decide +kernel
theorem dX11_addPump_134 : decode cX11_addPump 134 = .ok (.iconst 2, 1) := by decide +kernel
theorem dX11_addPump_135 : decode cX11_addPump 135 = .ok (.iadd, 1) := by decide +kernel
theorem dX11_addPump_136 : decode cX11_addPump 136 = .ok (.iload 4, 2) := by decide +kernel
theorem dX11_addPump_138 : decode cX11_addPump 138 = .ok (.iastore, 1) := by decide +kernel
theorem dX11_addPump_139 : decode cX11_addPump 139 = .ok (.aload_n 0, 1) := by decide +kernel
theorem dX11_addPump_140 : decode cX11_addPump 140 = .ok (.getfield 28, 3) := by decide +kernel
theorem dX11_addPump_143 : decode cX11_addPump 143 = .ok (.getfield 64, 3) := by decide +kernel
theorem dX11_addPump_146 : decode cX11_addPump 146 = .ok (.iconst 5, 1) := by decide +kernel
theorem dX11_addPump_147 : decode cX11_addPump 147 = .ok (.aload_n 0, 1) := by decide +kernel
theorem dX11_addPump_148 : decode cX11_addPump 148 = .ok (.getfield 61, 3) := by decide +kernel
theorem dX11_addPump_151 : decode cX11_addPump 151 = .ok (.imul, 1) := by decide +kernel
theorem dX11_addPump_152 : decode cX11_addPump 152 = .ok (.iconst 3, 1) := by decide +kernel
theorem dX11_addPump_153 : decode cX11_addPump 153 = .ok (.iadd, 1) := by decide +kernel
theorem dX11_addPump_154 : decode cX11_addPump 154 = .ok (.iconst 1, 1) := by decide +kernel
theorem dX11_addPump_155 : decode cX11_addPump 155 = .ok (.iastore, 1) := by decide +kernel
theorem dX11_addPump_156 : decode cX11_addPump 156 = .ok (.aload_n 0, 1) := by decide +kernel
theorem dX11_addPump_157 : decode cX11_addPump 157 = .ok (.dup, 1) := by decide +kernel
theorem dX11_addPump_158 : decode cX11_addPump 158 = .ok (.getfield 61, 3) := by decide +kernel
theorem dX11_addPump_161 : decode cX11_addPump 161 = .ok (.iconst 1, 1) := by decide +kernel
theorem dX11_addPump_162 : decode cX11_addPump 162 = .ok (.iadd, 1) := by decide +kernel
theorem dX11_addPump_163 : decode cX11_addPump 163 = .ok (.putfield 61, 3) := by decide +kernel
theorem dX11_addPump_166 : decode cX11_addPump 166 = .ok (.aload_n 0, 1) := by decide +kernel
theorem dX11_addPump_167 : decode cX11_addPump 167 = .ok (.getfield 61, 3) := by decide +kernel
theorem dX11_addPump_170 : decode cX11_addPump 170 = .ok (.iconst 1, 1) := by decide +kernel
theorem dX11_addPump_171 : decode cX11_addPump 171 = .ok (.isub, 1) := by decide +kernel
theorem dX11_addPump_172 : decode cX11_addPump 172 = .ok (.ireturn, 1) := by decide +kernel
theorem dX11_run_0 : decode cX11_run 0 = .ok (.aload_n 0, 1) := by decide +kernel
theorem dX11_run_1 : decode cX11_run 1 = .ok (.iconst 0, 1) := by decide +kernel
theorem dX11_run_2 : decode cX11_run 2 = .ok (.putfield 38, 3) := by decide +kernel
theorem dX11_run_5 : decode cX11_run 5 = .ok (.iload_n 1, 1) := by decide +kernel
theorem dX11_run_6 : decode cX11_run 6 = .ok (.iconst 0, 1) := by decide +kernel
theorem dX11_run_7 : decode cX11_run 7 = .ok (.aload_n 0, 1) := by decide +kernel
theorem dX11_run_8 : decode cX11_run 8 = .ok (.getfield 61, 3) := by decide +kernel
theorem dX11_run_11 : decode cX11_run 11 = .ok (.iconst 1, 1) := by decide +kernel
theorem dX11_run_12 : decode cX11_run 12 = .ok (.isub, 1) := by decide +kernel
theorem dX11_run_13 : decode cX11_run 13 = .ok (.invokestatic 42, 3) := by decide +kernel
theorem dX11_run_16 : decode cX11_run 16 = .ok (.ifCond .ne 18, 3) := by decide +kernel
theorem dX11_run_19 : decode cX11_run 19 = .ok (.aload_n 0, 1) := by decide +kernel
theorem dX11_run_20 : decode cX11_run 20 = .ok (.iconst 1, 1) := by decide +kernel
theorem dX11_run_21 : decode cX11_run 21 = .ok (.invokevirtual 50, 3) := by decide +kernel
theorem dX11_run_24 : decode cX11_run 24 = .ok (.iconst 1, 1) := by decide +kernel
theorem dX11_run_25 : decode cX11_run 25 = .ok (.if_icmp .ne 7, 3) := by decide +kernel
theorem dX11_run_28 : decode cX11_run 28 = .ok (.iconst 1, 1) := by decide +kernel
theorem dX11_run_29 : decode cX11_run 29 = .ok (.goto 4, 3) := by decide +kernel
theorem dX11_run_32 : decode cX11_run 32 = .ok (.iconst 0, 1) := by decide +kernel
theorem dX11_run_33 : decode cX11_run 33 = .ok (.ireturn, 1) := by decide +kernel
theorem dX11_run_34 : decode cX11_run 34 = .ok (.aload_n 0, 1) := by decide +kernel
theorem dX11_run_35 : decode cX11_run 35 = .ok (.getfield 28, 3) := by decide +kernel
theorem dX11_run_38 : decode cX11_run 38 = .ok (.getfield 64, 3) := by decide +kernel
theorem dX11_run_41 : decode cX11_run 41 = .ok (.iconst 5, 1) := by decide +kernel
theorem dX11_run_42 : decode cX11_run 42 = .ok (.iload_n 1, 1) := by decide +kernel
theorem dX11_run_43 : decode cX11_run 43 = .ok (.imul, 1) := by decide +kernel
theorem dX11_run_44 : decode cX11_run 44 = .ok (.iconst 3, 1) := by decide +kernel
theorem dX11_run_45 : decode cX11_run 45 = .ok (.iadd, 1) := by decide +kernel
theorem dX11_run_46 : decode cX11_run 46 = .ok (.iconst 1, 1) := by decide +kernel
theorem dX11_run_47 : decode cX11_run 47 = .ok (.aload_n 0, 1) := by decide +kernel
theorem dX11_run_48 : decode cX11_run 48 = .ok (.getfield 28, 3) := by decide +kernel
theorem dX11_run_51 : decode cX11_run 51 = .ok (.getfield 64, 3) := by decide +kernel
theorem dX11_run_54 : decode cX11_run 54 = .ok (.iconst 5, 1) := by decide +kernel
theorem dX11_run_55 : decode cX11_run 55 = .ok (.iload_n 1, 1) := by decide +kernel
theorem dX11_run_56 : decode cX11_run 56 = .ok (.imul, 1) := by decide +kernel
theorem dX11_run_57 : decode cX11_run 57 = .ok (.iconst 3, 1) := by decide +kernel
theorem dX11_run_58 : decode cX11_run 58 = .ok (.iadd, 1) := by decide +kernel
theorem dX11_run_59 : decode cX11_run 59 = .ok (.iaload, 1) := by decide +kernel
theorem dX11_run_60 : decode cX11_run 60 = .ok (.isub, 1) := by decide +kernel
theorem dX11_run_61 : decode cX11_run 61 = .ok (.iastore, 1) := by decide +kernel
theorem dX11_run_62 : decode cX11_run 62 = .ok (.aload_n 0, 1) := by decide +kernel
theorem dX11_run_63 : decode cX11_run 63 = .ok (.getfield 28, 3) := by decide +kernel
theorem dX11_run_66 : decode cX11_run 66 = .ok (.getfield 64, 3) := by decide +kernel
theorem dX11_run_69 : decode cX11_run 69 = .ok (.iconst 5, 1) := by decide +kernel
theorem dX11_run_70 : decode cX11_run 70 = .ok (.iload_n 1, 1) := by decide +kernel
theorem dX11_run_71 : decode cX11_run 71 = .ok (.imul, 1) := by decide +kernel
theorem dX11_run_72 : decode cX11_run 72 = .ok (.iconst 3, 1) := by decide +kernel
theorem dX11_run_73 : decode cX11_run 73 = .ok (.iadd, 1) := by decide +kernel
theorem dX11_run_74 : decode cX11_run 74 = .ok (.iaload, 1) := by decide +kernel
theorem dX11_run_75 : decode cX11_run 75 = .ok (.iconst 1, 1) := by decide +kernel
theorem dX11_run_76 : decode cX11_run 76 = .ok (.if_icmp .ne 7, 3) := by decide +kernel
theorem dX11_run_79 : decode cX11_run 79 = .ok (.iconst 1, 1) := by decide +kernel
theorem dX11_run_80 : decode cX11_run 80 = .ok (.goto 4, 3) := by decide +kernel
theorem dX11_run_83 : decode cX11_run 83 = .ok (.iconst 0, 1) := by decide +kernel
theorem dX11_run_84 : decode cX11_run 84 = .ok (.ireturn, 1) := by decide +kernel
theorem dX11_addGauge_0 : decode cX11_addGauge 0 = .ok (.aload_n 0, 1) := by decide +kernel
theorem dX11_addGauge_1 : decode cX11_addGauge 1 = .ok (.iconst 0, 1) := by decide +kernel
theorem dX11_addGauge_2 : decode cX11_addGauge 2 = .ok (.putfield 38, 3) := by decide +kernel
theorem dX11_addGauge_5 : decode cX11_addGauge 5 = .ok (.iload_n 1, 1) := by decide +kernel
theorem dX11_addGauge_6 : decode cX11_addGauge 6 = .ok (.iload_n 2, 1) := by decide +kernel
theorem dX11_addGauge_7 : decode cX11_addGauge 7 = .ok (.invokestatic 46, 3) := by decide +kernel
theorem dX11_addGauge_10 : decode cX11_addGauge 10 = .ok (.ifCond .ne 9, 3) := by decide +kernel
theorem dX11_addGauge_13 : decode cX11_addGauge 13 = .ok (.aload_n 0, 1) := by decide +kernel
theorem dX11_addGauge_14 : decode cX11_addGauge 14 = .ok (.iconst 1, 1) := by decide +kernel
theorem dX11_addGauge_15 : decode cX11_addGauge 15 = .ok (.invokevirtual 50, 3) := by decide +kernel
theorem dX11_addGauge_18 : decode cX11_addGauge 18 = .ok (.ireturn, 1) := by decide +kernel
theorem dX11_addGauge_19 : decode cX11_addGauge 19 = .ok (.iload_n 3, 1) := by decide +kernel
theorem dX11_addGauge_20 : decode cX11_addGauge 20 = .ok (.iconst 1, 1) := by decide +kernel
theorem dX11_addGauge_21 : decode cX11_addGauge 21 = .ok (.bipush 20, 2) := by decide +kernel
theorem dX11_addGauge_23 : decode cX11_addGauge 23 = .ok (.invokestatic 42, 3) := by decide +kernel
theorem dX11_addGauge_26 : decode cX11_addGauge 26 = .ok (.ifCond .ne 9, 3) := by decide +kernel
theorem dX11_addGauge_29 : decode cX11_addGauge 29 = .ok (.aload_n 0, 1) := by decide +kernel
theorem dX11_addGauge_30 : decode cX11_addGauge 30 = .ok (.iconst 2, 1) := by decide +kernel
theorem dX11_addGauge_31 : decode cX11_addGauge 31 = .ok (.invokevirtual 50, 3) := by decide +kernel
theorem dX11_addGauge_34 : decode cX11_addGauge 34 = .ok (.ireturn, 1) := by decide +kernel
theorem dX11_addGauge_35 : decode cX11_addGauge 35 = .ok (.bipush 10, 2) := by decide +kernel
theorem dX11_addGauge_37 : decode cX11_addGauge 37 = .ok (.iload_n 2, 1) := by decide +kernel
theorem dX11_addGauge_38 : decode cX11_addGauge 38 = .ok (.imul, 1) := by decide +kernel
theorem dX11_addGauge_39 : decode cX11_addGauge 39 = .ok (.iload_n 1, 1) := by decide +kernel
theorem dX11_addGauge_40 : decode cX11_addGauge 40 = .ok (.iadd, 1) := by decide +kernel
theorem dX11_addGauge_41 : decode cX11_addGauge 41 = .ok (.istore 4, 2) := by decide +kernel
theorem dX11_addGauge_43 : decode cX11_addGauge 43 = .ok (.aload_n 0, 1) := by decide +kernel
theorem dX11_addGauge_44 : decode cX11_addGauge 44 = .ok (.getfield 71, 3) := by decide +kernel
theorem dX11_addGauge_47 : decode cX11_addGauge 47 = .ok (.iconst 4, 1) := by decide +kernel
theorem dX11_addGauge_48 : decode cX11_addGauge 48 = .ok (.if_icmp .eq 24, 3) := by decide +kernel
theorem dX11_addGauge_51 : decode cX11_addGauge 51 = .ok (.aload_n 0, 1) := by decide +kernel
theorem dX11_addGauge_52 : decode cX11_addGauge 52 = .ok (.getfield 28, 3) := by decide +kernel
theorem dX11_addGauge_55 : decode cX11_addGauge 55 = .ok (.getfield 74, 3) := by decide +kernel
theorem dX11_addGauge_58 : decode cX11_addGauge 58 = .ok (.iconst 2, 1) := by decide +kernel
theorem dX11_addGauge_59 : decode cX11_addGauge 59 = .ok (.aload_n 0, 1) := by decide +kernel
theorem dX11_addGauge_60 : decode cX11_addGauge 60 = .ok (.getfield 71, 3) := by decide +kernel
theorem dX11_addGauge_63 : decode cX11_addGauge 63 = .ok (.iload 4, 2) := by decide +kernel
theorem dX11_addGauge_65 : decode cX11_addGauge 65 = .ok (.invokestatic 67, 3) := by decide +kernel
theorem dX11_addGauge_68 : decode cX11_addGauge 68 = .ok (.iconst (-1), 1) := by decide +kernel
theorem dX11_addGauge_69 : decode cX11_addGauge 69 = .ok (.if_icmp .eq 9, 3) := by decide +kernel
theorem dX11_addGauge_72 : decode cX11_addGauge 72 = .ok (.aload_n 0, 1) := by decide +kernel
theorem dX11_addGauge_73 : decode cX11_addGauge 73 = .ok (.iconst 3, 1) := by decide +kernel
theorem dX11_addGauge_74 : decode cX11_addGauge 74 = .ok (.invokevirtual 50, 3) := by decide +kernel
theorem dX11_addGauge_77 : decode cX11_addGauge 77 = .ok (.ireturn, 1) := by decide +kernel
theorem dX11_addGauge_78 : decode cX11_addGauge 78 = .ok (.aload_n 0, 1) := by decide +kernel
theorem dX11_addGauge_79 : decode cX11_addGauge 79 = .ok (.getfield 28, 3) := by decide +kernel
theorem dX11_addGauge_82 : decode cX11_addGauge 82 = .ok (.getfield 74, 3) := by decide +kernel
theorem dX11_addGauge_85 : decode cX11_addGauge 85 = .ok (.iconst 2, 1) := by decide +kernel
theorem dX11_addGauge_86 : decode cX11_addGauge 86 = .ok (.aload_n 0, 1) := by decide +kernel
theorem dX11_addGauge_87 : decode cX11_addGauge 87 = .ok (.getfield 71, 3) := by decide +kernel
theorem dX11_addGauge_90 : decode cX11_addGauge 90 = .ok (.imul, 1) := by decide +kernel
theorem dX11_addGauge_91 : decode cX11_addGauge 91 = .ok (.iload 4, 2) := by decide +kernel
theorem dX11_addGauge_93 : decode cX11_addGauge 93 = .ok (.iastore, 1) := by decide +kernel
theorem dX11_addGauge_94 : decode cX11_addGauge 94 = .ok (.aload_n 0, 1) := by decide +kernel
theorem dX11_addGauge_95 : decode cX11_addGauge 95 = .ok (.getfield 28, 3) := by decide +kernel
theorem dX11_addGauge_98 : decode cX11_addGauge 98 = .ok (.getfield 74, 3) := by decide +kernel
theorem dX11_addGauge_101 : decode cX11_addGauge 101 = .ok (.iconst 2, 1) := by decide +kernel
theorem dX11_addGauge_102 : decode cX11_addGauge 102 = .ok (.aload_n 0, 1) := by decide +kernel
theorem dX11_addGauge_103 : decode cX11_addGauge 103 = .ok (.getfield 71, 3) := by decide +kernel
theorem dX11_addGauge_106 : decode cX11_addGauge 106 = .ok (.imul, 1) := by decide +kernel
theorem dX11_addGauge_107 : decode cX11_addGauge 107 = .ok (.iconst 1, 1) := by decide +kernel
theorem dX11_addGauge_108 : decode cX11_addGauge 108 = .ok (.iadd, 1) := by decide +kernel
theorem dX11_addGauge_109 : decode cX11_addGauge 109 = .ok (.iload_n 3, 1) := by decide +kernel
theorem dX11_addGauge_110 : decode cX11_addGauge 110 = .ok (.iastore, 1) := by decide +kernel
theorem dX11_addGauge_111 : decode cX11_addGauge 111 = .ok (.aload_n 0, 1) := by decide +kernel
theorem dX11_addGauge_112 : decode cX11_addGauge 112 = .ok (.dup, 1) := by decide +kernel
theorem dX11_addGauge_113 : decode cX11_addGauge 113 = .ok (.getfield 71, 3) := by decide +kernel
theorem dX11_addGauge_116 : decode cX11_addGauge 116 = .ok (.iconst 1, 1) := by decide +kernel
theorem dX11_addGauge_117 : decode cX11_addGauge 117 = .ok (.iadd, 1) := by decide +kernel
theorem dX11_addGauge_118 : decode cX11_addGauge 118 = .ok (.putfield 71, 3) := by decide +kernel
theorem dX11_addGauge_121 : decode cX11_addGauge 121 = .ok (.aload_n 0, 1) := by decide +kernel
theorem dX11_addGauge_122 : decode cX11_addGauge 122 = .ok (.getfield 71, 3) := by decide +kernel
theorem dX11_addGauge_125 : decode cX11_addGauge 125 = .ok (.iconst 1, 1) := by decide +kernel
theorem dX11_addGauge_126 : decode cX11_addGauge 126 = .ok (.isub, 1) := by decide +kernel
theorem dX11_addGauge_127 : decode cX11_addGauge 127 = .ok (.ireturn, 1) := by decide +kernel
theorem dX11_addRefuge_0 : decode cX11_addRefuge 0 = .ok (.aload_n 0, 1) := by decide +kernel
theorem dX11_addRefuge_1 : decode cX11_addRefuge 1 = .ok (.iconst 0, 1) := by decide +kernel
theorem dX11_addRefuge_2 : decode cX11_addRefuge 2 = .ok (.putfield 38, 3) := by decide +kernel
theorem dX11_addRefuge_5 : decode cX11_addRefuge 5 = .ok (.iload_n 1, 1) := by decide +kernel
theorem dX11_addRefuge_6 : decode cX11_addRefuge 6 = .ok (.iload_n 2, 1) := by decide +kernel
theorem dX11_addRefuge_7 : decode cX11_addRefuge 7 = .ok (.invokestatic 46, 3) := by decide +kernel
theorem dX11_addRefuge_10 : decode cX11_addRefuge 10 = .ok (.ifCond .ne 9, 3) := by decide +kernel
theorem dX11_addRefuge_13 : decode cX11_addRefuge 13 = .ok (.aload_n 0, 1) := by decide +kernel
theorem dX11_addRefuge_14 : decode cX11_addRefuge 14 = .ok (.iconst 1, 1) := by decide +kernel
theorem dX11_addRefuge_15 : decode cX11_addRefuge 15 = .ok (.invokevirtual 50, 3) := by decide +kernel
theorem dX11_addRefuge_18 : decode cX11_addRefuge 18 = .ok (.ireturn, 1) := by decide +kernel
theorem dX11_addRefuge_19 : decode cX11_addRefuge 19 = .ok (.iload_n 3, 1) := by decide +kernel
theorem dX11_addRefuge_20 : decode cX11_addRefuge 20 = .ok (.iconst 1, 1) := by decide +kernel
theorem dX11_addRefuge_21 : decode cX11_addRefuge 21 = .ok (.bipush 20, 2) := by decide +kernel
theorem dX11_addRefuge_23 : decode cX11_addRefuge 23 = .ok (.invokestatic 42, 3) := by decide +kernel
theorem dX11_addRefuge_26 : decode cX11_addRefuge 26 = .ok (.ifCond .ne 9, 3) := by decide +kernel
theorem dX11_addRefuge_29 : decode cX11_addRefuge 29 = .ok (.aload_n 0, 1) := by decide +kernel
theorem dX11_addRefuge_30 : decode cX11_addRefuge 30 = .ok (.iconst 2, 1) := by decide +kernel
theorem dX11_addRefuge_31 : decode cX11_addRefuge 31 = .ok (.invokevirtual 50, 3) := by decide +kernel
theorem dX11_addRefuge_34 : decode cX11_addRefuge 34 = .ok (.ireturn, 1) := by decide +kernel
theorem dX11_addRefuge_35 : decode cX11_addRefuge 35 = .ok (.bipush 10, 2) := by decide +kernel
theorem dX11_addRefuge_37 : decode cX11_addRefuge 37 = .ok (.iload_n 2, 1) := by decide +kernel
theorem dX11_addRefuge_38 : decode cX11_addRefuge 38 = .ok (.imul, 1) := by decide +kernel
theorem dX11_addRefuge_39 : decode cX11_addRefuge 39 = .ok (.iload_n 1, 1) := by decide +kernel
theorem dX11_addRefuge_40 : decode cX11_addRefuge 40 = .ok (.iadd, 1) := by decide +kernel
theorem dX11_addRefuge_41 : decode cX11_addRefuge 41 = .ok (.istore 4, 2) := by decide +kernel
theorem dX11_addRefuge_43 : decode cX11_addRefuge 43 = .ok (.aload_n 0, 1) := by decide +kernel
theorem dX11_addRefuge_44 : decode cX11_addRefuge 44 = .ok (.getfield 77, 3) := by decide +kernel
theorem dX11_addRefuge_47 : decode cX11_addRefuge 47 = .ok (.iconst 4, 1) := by decide +kernel
theorem dX11_addRefuge_48 : decode cX11_addRefuge 48 = .ok (.if_icmp .eq 24, 3) := by decide +kernel
theorem dX11_addRefuge_51 : decode cX11_addRefuge 51 = .ok (.aload_n 0, 1) := by decide +kernel
theorem dX11_addRefuge_52 : decode cX11_addRefuge 52 = .ok (.getfield 28, 3) := by decide +kernel
theorem dX11_addRefuge_55 : decode cX11_addRefuge 55 = .ok (.getfield 80, 3) := by decide +kernel
theorem dX11_addRefuge_58 : decode cX11_addRefuge 58 = .ok (.iconst 2, 1) := by decide +kernel
theorem dX11_addRefuge_59 : decode cX11_addRefuge 59 = .ok (.aload_n 0, 1) := by decide +kernel
theorem dX11_addRefuge_60 : decode cX11_addRefuge 60 = .ok (.getfield 77, 3) := by decide +kernel
theorem dX11_addRefuge_63 : decode cX11_addRefuge 63 = .ok (.iload 4, 2) := by decide +kernel
theorem dX11_addRefuge_65 : decode cX11_addRefuge 65 = .ok (.invokestatic 67, 3) := by decide +kernel
theorem dX11_addRefuge_68 : decode cX11_addRefuge 68 = .ok (.iconst (-1), 1) := by decide +kernel
theorem dX11_addRefuge_69 : decode cX11_addRefuge 69 = .ok (.if_icmp .eq 9, 3) := by decide +kernel
theorem dX11_addRefuge_72 : decode cX11_addRefuge 72 = .ok (.aload_n 0, 1) := by decide +kernel
theorem dX11_addRefuge_73 : decode cX11_addRefuge 73 = .ok (.iconst 3, 1) := by decide +kernel
theorem dX11_addRefuge_74 : decode cX11_addRefuge 74 = .ok (.invokevirtual 50, 3) := by decide +kernel
theorem dX11_addRefuge_77 : decode cX11_addRefuge 77 = .ok (.ireturn, 1) := by decide +kernel
theorem dX11_addRefuge_78 : decode cX11_addRefuge 78 = .ok (.aload_n 0, 1) := by decide +kernel
theorem dX11_addRefuge_79 : decode cX11_addRefuge 79 = .ok (.getfield 28, 3) := by decide +kernel
theorem dX11_addRefuge_82 : decode cX11_addRefuge 82 = .ok (.getfield 80, 3) := by decide +kernel
theorem dX11_addRefuge_85 : decode cX11_addRefuge 85 = .ok (.iconst 2, 1) := by decide +kernel
theorem dX11_addRefuge_86 : decode cX11_addRefuge 86 = .ok (.aload_n 0, 1) := by decide +kernel
theorem dX11_addRefuge_87 : decode cX11_addRefuge 87 = .ok (.getfield 77, 3) := by decide +kernel
theorem dX11_addRefuge_90 : decode cX11_addRefuge 90 = .ok (.imul, 1) := by decide +kernel
theorem dX11_addRefuge_91 : decode cX11_addRefuge 91 = .ok (.iload 4, 2) := by decide +kernel
theorem dX11_addRefuge_93 : decode cX11_addRefuge 93 = .ok (.iastore, 1) := by decide +kernel
theorem dX11_addRefuge_94 : decode cX11_addRefuge 94 = .ok (.aload_n 0, 1) := by decide +kernel
theorem dX11_addRefuge_95 : decode cX11_addRefuge 95 = .ok (.getfield 28, 3) := by decide +kernel
theorem dX11_addRefuge_98 : decode cX11_addRefuge 98 = .ok (.getfield 80, 3) := by decide +kernel
theorem dX11_addRefuge_101 : decode cX11_addRefuge 101 = .ok (.iconst 2, 1) := by decide +kernel
theorem dX11_addRefuge_102 : decode cX11_addRefuge 102 = .ok (.aload_n 0, 1) := by decide +kernel
theorem dX11_addRefuge_103 : decode cX11_addRefuge 103 = .ok (.getfield 77, 3) := by decide +kernel
theorem dX11_addRefuge_106 : decode cX11_addRefuge 106 = .ok (.imul, 1) := by decide +kernel
theorem dX11_addRefuge_107 : decode cX11_addRefuge 107 = .ok (.iconst 1, 1) := by decide +kernel
theorem dX11_addRefuge_108 : decode cX11_addRefuge 108 = .ok (.iadd, 1) := by decide +kernel
theorem dX11_addRefuge_109 : decode cX11_addRefuge 109 = .ok (.iload_n 3, 1) := by decide +kernel
theorem dX11_addRefuge_110 : decode cX11_addRefuge 110 = .ok (.iastore, 1) := by decide +kernel
theorem dX11_addRefuge_111 : decode cX11_addRefuge 111 = .ok (.aload_n 0, 1) := by decide +kernel
theorem dX11_addRefuge_112 : decode cX11_addRefuge 112 = .ok (.dup, 1) := by decide +kernel
theorem dX11_addRefuge_113 : decode cX11_addRefuge 113 = .ok (.getfield 77, 3) := by decide +kernel
theorem dX11_addRefuge_116 : decode cX11_addRefuge 116 = .ok (.iconst 1, 1) := by decide +kernel
theorem dX11_addRefuge_117 : decode cX11_addRefuge 117 = .ok (.iadd, 1) := by decide +kernel
theorem dX11_addRefuge_118 : decode cX11_addRefuge 118 = .ok (.putfield 77, 3) := by decide +kernel
theorem dX11_addRefuge_121 : decode cX11_addRefuge 121 = .ok (.aload_n 0, 1) := by decide +kernel
theorem dX11_addRefuge_122 : decode cX11_addRefuge 122 = .ok (.getfield 77, 3) := by decide +kernel
theorem dX11_addRefuge_125 : decode cX11_addRefuge 125 = .ok (.iconst 1, 1) := by decide +kernel
theorem dX11_addRefuge_126 : decode cX11_addRefuge 126 = .ok (.isub, 1) := by decide +kernel
theorem dX11_addRefuge_127 : decode cX11_addRefuge 127 = .ok (.ireturn, 1) := by decide +kernel
theorem dX11_settle_0 : decode cX11_settle 0 = .ok (.aload_n 0, 1) := by decide +kernel
theorem dX11_settle_1 : decode cX11_settle 1 = .ok (.iconst 0, 1) := by decide +kernel
theorem dX11_settle_2 : decode cX11_settle 2 = .ok (.putfield 38, 3) := by decide +kernel
theorem dX11_settle_5 : decode cX11_settle 5 = .ok (.iload_n 1, 1) := by decide +kernel
theorem dX11_settle_6 : decode cX11_settle 6 = .ok (.iload_n 2, 1) := by decide +kernel
theorem dX11_settle_7 : decode cX11_settle 7 = .ok (.invokestatic 46, 3) := by decide +kernel
theorem dX11_settle_10 : decode cX11_settle 10 = .ok (.ifCond .ne 9, 3) := by decide +kernel
theorem dX11_settle_13 : decode cX11_settle 13 = .ok (.aload_n 0, 1) := by decide +kernel
theorem dX11_settle_14 : decode cX11_settle 14 = .ok (.iconst 1, 1) := by decide +kernel
theorem dX11_settle_15 : decode cX11_settle 15 = .ok (.invokevirtual 50, 3) := by decide +kernel
theorem dX11_settle_18 : decode cX11_settle 18 = .ok (.ireturn, 1) := by decide +kernel
theorem dX11_settle_19 : decode cX11_settle 19 = .ok (.iload_n 3, 1) := by decide +kernel
theorem dX11_settle_20 : decode cX11_settle 20 = .ok (.iconst 1, 1) := by decide +kernel
theorem dX11_settle_21 : decode cX11_settle 21 = .ok (.bipush 6, 2) := by decide +kernel
theorem dX11_settle_23 : decode cX11_settle 23 = .ok (.invokestatic 42, 3) := by decide +kernel
theorem dX11_settle_26 : decode cX11_settle 26 = .ok (.ifCond .ne 9, 3) := by decide +kernel
theorem dX11_settle_29 : decode cX11_settle 29 = .ok (.aload_n 0, 1) := by decide +kernel
theorem dX11_settle_30 : decode cX11_settle 30 = .ok (.iconst 2, 1) := by decide +kernel
theorem dX11_settle_31 : decode cX11_settle 31 = .ok (.invokevirtual 50, 3) := by decide +kernel
theorem dX11_settle_34 : decode cX11_settle 34 = .ok (.ireturn, 1) := by decide +kernel
theorem dX11_settle_35 : decode cX11_settle 35 = .ok (.aload_n 0, 1) := by decide +kernel
theorem dX11_settle_36 : decode cX11_settle 36 = .ok (.getfield 83, 3) := by decide +kernel
theorem dX11_settle_39 : decode cX11_settle 39 = .ok (.bipush 10, 2) := by decide +kernel
theorem dX11_settle_41 : decode cX11_settle 41 = .ok (.if_icmp .ne 9, 3) := by decide +kernel
theorem dX11_settle_44 : decode cX11_settle 44 = .ok (.aload_n 0, 1) := by decide +kernel
theorem dX11_settle_45 : decode cX11_settle 45 = .ok (.iconst 3, 1) := by decide +kernel
theorem dX11_settle_46 : decode cX11_settle 46 = .ok (.invokevirtual 50, 3) := by decide +kernel
theorem dX11_settle_49 : decode cX11_settle 49 = .ok (.ireturn, 1) := by decide +kernel
theorem dX11_settle_50 : decode cX11_settle 50 = .ok (.iconst 4, 1) := by decide +kernel
theorem dX11_settle_51 : decode cX11_settle 51 = .ok (.aload_n 0, 1) := by decide +kernel
theorem dX11_settle_52 : decode cX11_settle 52 = .ok (.getfield 83, 3) := by decide +kernel
theorem dX11_settle_55 : decode cX11_settle 55 = .ok (.imul, 1) := by decide +kernel
theorem dX11_settle_56 : decode cX11_settle 56 = .ok (.istore 4, 2) := by decide +kernel
theorem dX11_settle_58 : decode cX11_settle 58 = .ok (.aload_n 0, 1) := by decide +kernel
theorem dX11_settle_59 : decode cX11_settle 59 = .ok (.getfield 28, 3) := by decide +kernel
theorem dX11_settle_62 : decode cX11_settle 62 = .ok (.getfield 86, 3) := by decide +kernel
theorem dX11_settle_65 : decode cX11_settle 65 = .ok (.iload 4, 2) := by decide +kernel
theorem dX11_settle_67 : decode cX11_settle 67 = .ok (.bipush 10, 2) := by decide +kernel
theorem dX11_settle_69 : decode cX11_settle 69 = .ok (.iload_n 2, 1) := by decide +kernel
theorem dX11_settle_70 : decode cX11_settle 70 = .ok (.imul, 1) := by decide +kernel
theorem dX11_settle_71 : decode cX11_settle 71 = .ok (.iload_n 1, 1) := by decide +kernel
theorem dX11_settle_72 : decode cX11_settle 72 = .ok (.iadd, 1) := by decide +kernel
theorem dX11_settle_73 : decode cX11_settle 73 = .ok (.iastore, 1) := by decide +kernel
theorem dX11_settle_74 : decode cX11_settle 74 = .ok (.aload_n 0, 1) := by decide +kernel
theorem dX11_settle_75 : decode cX11_settle 75 = .ok (.getfield 28, 3) := by decide +kernel
theorem dX11_settle_78 : decode cX11_settle 78 = .ok (.getfield 86, 3) := by decide +kernel
theorem dX11_settle_81 : decode cX11_settle 81 = .ok (.iload 4, 2) := by decide +kernel
theorem dX11_settle_83 : decode cX11_settle 83 = .ok (.iconst 1, 1) := by decide +kernel
theorem dX11_settle_84 : decode cX11_settle 84 = .ok (.iadd, 1) := by decide +kernel
theorem dX11_settle_85 : decode cX11_settle 85 = .ok (.iload_n 3, 1) := by decide +kernel
theorem dX11_settle_86 : decode cX11_settle 86 = .ok (.iastore, 1) := by decide +kernel
theorem dX11_settle_87 : decode cX11_settle 87 = .ok (.aload_n 0, 1) := by decide +kernel
theorem dX11_settle_88 : decode cX11_settle 88 = .ok (.getfield 28, 3) := by decide +kernel
theorem dX11_settle_91 : decode cX11_settle 91 = .ok (.getfield 86, 3) := by decide +kernel
theorem dX11_settle_94 : decode cX11_settle 94 = .ok (.iload 4, 2) := by decide +kernel
theorem dX11_settle_96 : decode cX11_settle 96 = .ok (.iconst 2, 1) := by decide +kernel
theorem dX11_settle_97 : decode cX11_settle 97 = .ok (.iadd, 1) := by decide +kernel
theorem dX11_settle_98 : decode cX11_settle 98 = .ok (.iconst 0, 1) := by decide +kernel
theorem dX11_settle_99 : decode cX11_settle 99 = .ok (.iastore, 1) := by decide +kernel
theorem dX11_settle_100 : decode cX11_settle 100 = .ok (.aload_n 0, 1) := by decide +kernel
theorem dX11_settle_101 : decode cX11_settle 101 = .ok (.getfield 28, 3) := by decide +kernel
theorem dX11_settle_104 : decode cX11_settle 104 = .ok (.getfield 86, 3) := by decide +kernel
theorem dX11_settle_107 : decode cX11_settle 107 = .ok (.iload 4, 2) := by decide +kernel
theorem dX11_settle_109 : decode cX11_settle 109 = .ok (.iconst 3, 1) := by decide +kernel
theorem dX11_settle_110 : decode cX11_settle 110 = .ok (.iadd, 1) := by decide +kernel
theorem dX11_settle_111 : decode cX11_settle 111 = .ok (.iconst (-1), 1) := by decide +kernel
theorem dX11_settle_112 : decode cX11_settle 112 = .ok (.iastore, 1) := by decide +kernel
theorem dX11_settle_113 : decode cX11_settle 113 = .ok (.aload_n 0, 1) := by decide +kernel
theorem dX11_settle_114 : decode cX11_settle 114 = .ok (.dup, 1) := by decide +kernel
theorem dX11_settle_115 : decode cX11_settle 115 = .ok (.getfield 83, 3) := by decide +kernel
theorem dX11_settle_118 : decode cX11_settle 118 = .ok (.iconst 1, 1) := by decide +kernel
theorem dX11_settle_119 : decode cX11_settle 119 = .ok (.iadd, 1) := by decide +kernel
theorem dX11_settle_120 : decode cX11_settle 120 = .ok (.putfield 83, 3) := by decide +kernel
theorem dX11_settle_123 : decode cX11_settle 123 = .ok (.aload_n 0, 1) := by decide +kernel
theorem dX11_settle_124 : decode cX11_settle 124 = .ok (.getfield 83, 3) := by decide +kernel
theorem dX11_settle_127 : decode cX11_settle 127 = .ok (.iconst 1, 1) := by decide +kernel
theorem dX11_settle_128 : decode cX11_settle 128 = .ok (.isub, 1) := by decide +kernel
theorem dX11_settle_129 : decode cX11_settle 129 = .ok (.ireturn, 1) := by decide +kernel
theorem dX11_addCaller_0 : decode cX11_addCaller 0 = .ok (.aload_n 0, 1) := by decide +kernel
theorem dX11_addCaller_1 : decode cX11_addCaller 1 = .ok (.iconst 0, 1) := by decide +kernel
theorem dX11_addCaller_2 : decode cX11_addCaller 2 = .ok (.putfield 38, 3) := by decide +kernel
theorem dX11_addCaller_5 : decode cX11_addCaller 5 = .ok (.iload_n 1, 1) := by decide +kernel
theorem dX11_addCaller_6 : decode cX11_addCaller 6 = .ok (.iload_n 2, 1) := by decide +kernel
theorem dX11_addCaller_7 : decode cX11_addCaller 7 = .ok (.invokestatic 46, 3) := by decide +kernel
theorem dX11_addCaller_10 : decode cX11_addCaller 10 = .ok (.ifCond .ne 9, 3) := by decide +kernel
theorem dX11_addCaller_13 : decode cX11_addCaller 13 = .ok (.aload_n 0, 1) := by decide +kernel
theorem dX11_addCaller_14 : decode cX11_addCaller 14 = .ok (.iconst 1, 1) := by decide +kernel
theorem dX11_addCaller_15 : decode cX11_addCaller 15 = .ok (.invokevirtual 50, 3) := by decide +kernel
theorem dX11_addCaller_18 : decode cX11_addCaller 18 = .ok (.ireturn, 1) := by decide +kernel
theorem dX11_addCaller_19 : decode cX11_addCaller 19 = .ok (.aload_n 0, 1) := by decide +kernel
theorem dX11_addCaller_20 : decode cX11_addCaller 20 = .ok (.getfield 89, 3) := by decide +kernel
theorem dX11_addCaller_23 : decode cX11_addCaller 23 = .ok (.iconst 3, 1) := by decide +kernel
theorem dX11_addCaller_24 : decode cX11_addCaller 24 = .ok (.if_icmp .ne 9, 3) := by decide +kernel
theorem dX11_addCaller_27 : decode cX11_addCaller 27 = .ok (.aload_n 0, 1) := by decide +kernel
theorem dX11_addCaller_28 : decode cX11_addCaller 28 = .ok (.iconst 2, 1) := by decide +kernel
theorem dX11_addCaller_29 : decode cX11_addCaller 29 = .ok (.invokevirtual 50, 3) := by decide +kernel
theorem dX11_addCaller_32 : decode cX11_addCaller 32 = .ok (.ireturn, 1) := by decide +kernel
theorem dX11_addCaller_33 : decode cX11_addCaller 33 = .ok (.aload_n 0, 1) := by decide +kernel
theorem dX11_addCaller_34 : decode cX11_addCaller 34 = .ok (.getfield 28, 3) := by decide +kernel
theorem dX11_addCaller_37 : decode cX11_addCaller 37 = .ok (.getfield 92, 3) := by decide +kernel
theorem dX11_addCaller_40 : decode cX11_addCaller 40 = .ok (.iconst 2, 1) := by decide +kernel
theorem dX11_addCaller_41 : decode cX11_addCaller 41 = .ok (.aload_n 0, 1) := by decide +kernel
theorem dX11_addCaller_42 : decode cX11_addCaller 42 = .ok (.getfield 89, 3) := by decide +kernel
theorem dX11_addCaller_45 : decode cX11_addCaller 45 = .ok (.imul, 1) := by decide +kernel
theorem dX11_addCaller_46 : decode cX11_addCaller 46 = .ok (.bipush 10, 2) := by decide +kernel
theorem dX11_addCaller_48 : decode cX11_addCaller 48 = .ok (.iload_n 2, 1) := by decide +kernel
theorem dX11_addCaller_49 : decode cX11_addCaller 49 = .ok (.imul, 1) := by decide +kernel
theorem dX11_addCaller_50 : decode cX11_addCaller 50 = .ok (.iload_n 1, 1) := by decide +kernel
theorem dX11_addCaller_51 : decode cX11_addCaller 51 = .ok (.iadd, 1) := by decide +kernel
theorem dX11_addCaller_52 : decode cX11_addCaller 52 = .ok (.iastore, 1) := by decide +kernel
theorem dX11_addCaller_53 : decode cX11_addCaller 53 = .ok (.aload_n 0, 1) := by decide +kernel
theorem dX11_addCaller_54 : decode cX11_addCaller 54 = .ok (.getfield 28, 3) := by decide +kernel
theorem dX11_addCaller_57 : decode cX11_addCaller 57 = .ok (.getfield 92, 3) := by decide +kernel
theorem dX11_addCaller_60 : decode cX11_addCaller 60 = .ok (.iconst 2, 1) := by decide +kernel
theorem dX11_addCaller_61 : decode cX11_addCaller 61 = .ok (.aload_n 0, 1) := by decide +kernel
theorem dX11_addCaller_62 : decode cX11_addCaller 62 = .ok (.getfield 89, 3) := by decide +kernel
theorem dX11_addCaller_65 : decode cX11_addCaller 65 = .ok (.imul, 1) := by decide +kernel
theorem dX11_addCaller_66 : decode cX11_addCaller 66 = .ok (.iconst 1, 1) := by decide +kernel
theorem dX11_addCaller_67 : decode cX11_addCaller 67 = .ok (.iadd, 1) := by decide +kernel
theorem dX11_addCaller_68 : decode cX11_addCaller 68 = .ok (.iconst 0, 1) := by decide +kernel
theorem dX11_addCaller_69 : decode cX11_addCaller 69 = .ok (.iastore, 1) := by decide +kernel
theorem dX11_addCaller_70 : decode cX11_addCaller 70 = .ok (.aload_n 0, 1) := by decide +kernel
theorem dX11_addCaller_71 : decode cX11_addCaller 71 = .ok (.dup, 1) := by decide +kernel
theorem dX11_addCaller_72 : decode cX11_addCaller 72 = .ok (.getfield 89, 3) := by decide +kernel
theorem dX11_addCaller_75 : decode cX11_addCaller 75 = .ok (.iconst 1, 1) := by decide +kernel
theorem dX11_addCaller_76 : decode cX11_addCaller 76 = .ok (.iadd, 1) := by decide +kernel
theorem dX11_addCaller_77 : decode cX11_addCaller 77 = .ok (.putfield 89, 3) := by decide +kernel
theorem dX11_addCaller_80 : decode cX11_addCaller 80 = .ok (.aload_n 0, 1) := by decide +kernel
theorem dX11_addCaller_81 : decode cX11_addCaller 81 = .ok (.getfield 89, 3) := by decide +kernel
theorem dX11_addCaller_84 : decode cX11_addCaller 84 = .ok (.iconst 1, 1) := by decide +kernel
theorem dX11_addCaller_85 : decode cX11_addCaller 85 = .ok (.isub, 1) := by decide +kernel
theorem dX11_addCaller_86 : decode cX11_addCaller 86 = .ok (.ireturn, 1) := by decide +kernel
theorem dX11_reckon_0 : decode cX11_reckon 0 = .ok (.iconst 0, 1) := by decide +kernel
theorem dX11_reckon_1 : decode cX11_reckon 1 = .ok (.istore_n 3, 1) := by decide +kernel
theorem dX11_reckon_2 : decode cX11_reckon 2 = .ok (.iload_n 3, 1) := by decide +kernel
theorem dX11_reckon_3 : decode cX11_reckon 3 = .ok (.bipush 80, 2) := by decide +kernel
theorem dX11_reckon_5 : decode cX11_reckon 5 = .ok (.if_icmp .ge 16, 3) := by decide +kernel
theorem dX11_reckon_8 : decode cX11_reckon 8 = .ok (.aload_n 0, 1) := by decide +kernel
theorem dX11_reckon_9 : decode cX11_reckon 9 = .ok (.getfield 13, 3) := by decide +kernel
end
section
theorem dX11_reckon_12 : decode cX11_reckon 12 = .ok (.iload_n 3, 1) := by decide +kernel
theorem dX11_reckon_13 : decode cX11_reckon 13 = .ok (.iconst (-1), 1) := by decide +kernel
theorem dX11_reckon_14 : decode cX11_reckon 14 = .ok (.iastore, 1) := by decide +kernel
theorem dX11_reckon_15 : decode cX11_reckon 15 = .ok (.iinc 3 1, 3) := by decide +kernel
theorem dX11_reckon_18 : decode cX11_reckon 18 = .ok (.goto (-16), 3) := by decide +kernel
theorem dX11_reckon_21 : decode cX11_reckon 21 = .ok (.aload_n 1, 1) := by decide +kernel
theorem dX11_reckon_22 : decode cX11_reckon 22 = .ok (.iload_n 2, 1) := by decide +kernel
theorem dX11_reckon_23 : decode cX11_reckon 23 = .ok (.invokevirtual 95, 3) := by decide +kernel
theorem dX11_reckon_26 : decode cX11_reckon 26 = .ok (.ifCond .ne 4, 3) := by decide +kernel
theorem dX11_reckon_29 : decode cX11_reckon 29 = .ok (.return_, 1) := by decide +kernel
theorem dX11_reckon_30 : decode cX11_reckon 30 = .ok (.aload_n 0, 1) := by decide +kernel
theorem dX11_reckon_31 : decode cX11_reckon 31 = .ok (.getfield 13, 3) := by decide +kernel
theorem dX11_reckon_34 : decode cX11_reckon 34 = .ok (.iload_n 2, 1) := by decide +kernel
theorem dX11_reckon_35 : decode cX11_reckon 35 = .ok (.iconst 0, 1) := by decide +kernel
theorem dX11_reckon_36 : decode cX11_reckon 36 = .ok (.iastore, 1) := by decide +kernel
theorem dX11_reckon_37 : decode cX11_reckon 37 = .ok (.aload_n 0, 1) := by decide +kernel
theorem dX11_reckon_38 : decode cX11_reckon 38 = .ok (.getfield 16, 3) := by decide +kernel
theorem dX11_reckon_41 : decode cX11_reckon 41 = .ok (.iconst 0, 1) := by decide +kernel
theorem dX11_reckon_42 : decode cX11_reckon 42 = .ok (.iload_n 2, 1) := by decide +kernel
theorem dX11_reckon_43 : decode cX11_reckon 43 = .ok (.iastore, 1) := by decide +kernel
theorem dX11_reckon_44 : decode cX11_reckon 44 = .ok (.iconst 1, 1) := by decide +kernel
theorem dX11_reckon_45 : decode cX11_reckon 45 = .ok (.istore_n 3, 1) := by decide +kernel
theorem dX11_reckon_46 : decode cX11_reckon 46 = .ok (.iconst 0, 1) := by decide +kernel
theorem dX11_reckon_47 : decode cX11_reckon 47 = .ok (.istore 4, 2) := by decide +kernel
theorem dX11_reckon_49 : decode cX11_reckon 49 = .ok (.iload 4, 2) := by decide +kernel
theorem dX11_reckon_51 : decode cX11_reckon 51 = .ok (.iload_n 3, 1) := by decide +kernel
theorem dX11_reckon_52 : decode cX11_reckon 52 = .ok (.if_icmp .ge 93, 3) := by decide +kernel
theorem dX11_reckon_55 : decode cX11_reckon 55 = .ok (.iconst 0, 1) := by decide +kernel
theorem dX11_reckon_56 : decode cX11_reckon 56 = .ok (.istore 5, 2) := by decide +kernel
theorem dX11_reckon_58 : decode cX11_reckon 58 = .ok (.iload 5, 2) := by decide +kernel
theorem dX11_reckon_60 : decode cX11_reckon 60 = .ok (.iconst 4, 1) := by decide +kernel
theorem dX11_reckon_61 : decode cX11_reckon 61 = .ok (.if_icmp .ge 78, 3) := by decide +kernel
theorem dX11_reckon_64 : decode cX11_reckon 64 = .ok (.aload_n 0, 1) := by decide +kernel
theorem dX11_reckon_65 : decode cX11_reckon 65 = .ok (.getfield 16, 3) := by decide +kernel
theorem dX11_reckon_68 : decode cX11_reckon 68 = .ok (.iload 4, 2) := by decide +kernel
theorem dX11_reckon_70 : decode cX11_reckon 70 = .ok (.iaload, 1) := by decide +kernel
theorem dX11_reckon_71 : decode cX11_reckon 71 = .ok (.iload 5, 2) := by decide +kernel
theorem dX11_reckon_73 : decode cX11_reckon 73 = .ok (.invokestatic 99, 3) := by decide +kernel
theorem dX11_reckon_76 : decode cX11_reckon 76 = .ok (.istore 6, 2) := by decide +kernel
theorem dX11_reckon_78 : decode cX11_reckon 78 = .ok (.aload_n 1, 1) := by decide +kernel
theorem dX11_reckon_79 : decode cX11_reckon 79 = .ok (.iload 6, 2) := by decide +kernel
theorem dX11_reckon_81 : decode cX11_reckon 81 = .ok (.invokevirtual 95, 3) := by decide +kernel
theorem dX11_reckon_84 : decode cX11_reckon 84 = .ok (.ifCond .eq 49, 3) := by decide +kernel
theorem dX11_reckon_87 : decode cX11_reckon 87 = .ok (.aload_n 0, 1) := by decide +kernel
theorem dX11_reckon_88 : decode cX11_reckon 88 = .ok (.getfield 13, 3) := by decide +kernel
theorem dX11_reckon_91 : decode cX11_reckon 91 = .ok (.iload 6, 2) := by decide +kernel
theorem dX11_reckon_93 : decode cX11_reckon 93 = .ok (.iaload, 1) := by decide +kernel
theorem dX11_reckon_94 : decode cX11_reckon 94 = .ok (.iconst (-1), 1) := by decide +kernel
theorem dX11_reckon_95 : decode cX11_reckon 95 = .ok (.if_icmp .eq 6, 3) := by decide +kernel
theorem dX11_reckon_98 : decode cX11_reckon 98 = .ok (.goto 35, 3) := by decide +kernel
theorem dX11_reckon_101 : decode cX11_reckon 101 = .ok (.aload_n 0, 1) := by decide +kernel
theorem dX11_reckon_102 : decode cX11_reckon 102 = .ok (.getfield 13, 3) := by decide +kernel
theorem dX11_reckon_105 : decode cX11_reckon 105 = .ok (.iload 6, 2) := by decide +kernel
theorem dX11_reckon_107 : decode cX11_reckon 107 = .ok (.aload_n 0, 1) := by decide +kernel
theorem dX11_reckon_108 : decode cX11_reckon 108 = .ok (.getfield 13, 3) := by decide +kernel
theorem dX11_reckon_111 : decode cX11_reckon 111 = .ok (.aload_n 0, 1) := by decide +kernel
theorem dX11_reckon_112 : decode cX11_reckon 112 = .ok (.getfield 16, 3) := by decide +kernel
theorem dX11_reckon_115 : decode cX11_reckon 115 = .ok (.iload 4, 2) := by decide +kernel
theorem dX11_reckon_117 : decode cX11_reckon 117 = .ok (.iaload, 1) := by decide +kernel
theorem dX11_reckon_118 : decode cX11_reckon 118 = .ok (.iaload, 1) := by decide +kernel
theorem dX11_reckon_119 : decode cX11_reckon 119 = .ok (.iconst 1, 1) := by decide +kernel
theorem dX11_reckon_120 : decode cX11_reckon 120 = .ok (.iadd, 1) := by decide +kernel
theorem dX11_reckon_121 : decode cX11_reckon 121 = .ok (.iastore, 1) := by decide +kernel
theorem dX11_reckon_122 : decode cX11_reckon 122 = .ok (.aload_n 0, 1) := by decide +kernel
theorem dX11_reckon_123 : decode cX11_reckon 123 = .ok (.getfield 16, 3) := by decide +kernel
theorem dX11_reckon_126 : decode cX11_reckon 126 = .ok (.iload_n 3, 1) := by decide +kernel
theorem dX11_reckon_127 : decode cX11_reckon 127 = .ok (.iload 6, 2) := by decide +kernel
theorem dX11_reckon_129 : decode cX11_reckon 129 = .ok (.iastore, 1) := by decide +kernel
theorem dX11_reckon_130 : decode cX11_reckon 130 = .ok (.iinc 3 1, 3) := by decide +kernel
theorem dX11_reckon_133 : decode cX11_reckon 133 = .ok (.iinc 5 1, 3) := by decide +kernel
theorem dX11_reckon_136 : decode cX11_reckon 136 = .ok (.goto (-78), 3) := by decide +kernel
theorem dX11_reckon_139 : decode cX11_reckon 139 = .ok (.iinc 4 1, 3) := by decide +kernel
theorem dX11_reckon_142 : decode cX11_reckon 142 = .ok (.goto (-93), 3) := by decide +kernel
theorem dX11_reckon_145 : decode cX11_reckon 145 = .ok (.return_, 1) := by decide +kernel
theorem dX11_first_0 : decode cX11_first 0 = .ok (.iconst (-1), 1) := by decide +kernel
theorem dX11_first_1 : decode cX11_first 1 = .ok (.istore_n 2, 1) := by decide +kernel
theorem dX11_first_2 : decode cX11_first 2 = .ok (.iconst 0, 1) := by decide +kernel
theorem dX11_first_3 : decode cX11_first 3 = .ok (.istore_n 3, 1) := by decide +kernel
theorem dX11_first_4 : decode cX11_first 4 = .ok (.iload_n 3, 1) := by decide +kernel
theorem dX11_first_5 : decode cX11_first 5 = .ok (.iconst 4, 1) := by decide +kernel
theorem dX11_first_6 : decode cX11_first 6 = .ok (.if_icmp .ge 63, 3) := by decide +kernel
theorem dX11_first_9 : decode cX11_first 9 = .ok (.iload_n 1, 1) := by decide +kernel
theorem dX11_first_10 : decode cX11_first 10 = .ok (.iload_n 3, 1) := by decide +kernel
theorem dX11_first_11 : decode cX11_first 11 = .ok (.invokestatic 99, 3) := by decide +kernel
theorem dX11_first_14 : decode cX11_first 14 = .ok (.istore 4, 2) := by decide +kernel
theorem dX11_first_16 : decode cX11_first 16 = .ok (.iload 4, 2) := by decide +kernel
theorem dX11_first_18 : decode cX11_first 18 = .ok (.iconst (-1), 1) := by decide +kernel
theorem dX11_first_19 : decode cX11_first 19 = .ok (.if_icmp .eq 44, 3) := by decide +kernel
theorem dX11_first_22 : decode cX11_first 22 = .ok (.aload_n 0, 1) := by decide +kernel
theorem dX11_first_23 : decode cX11_first 23 = .ok (.getfield 13, 3) := by decide +kernel
theorem dX11_first_26 : decode cX11_first 26 = .ok (.iload 4, 2) := by decide +kernel
theorem dX11_first_28 : decode cX11_first 28 = .ok (.iaload, 1) := by decide +kernel
theorem dX11_first_29 : decode cX11_first 29 = .ok (.iconst (-1), 1) := by decide +kernel
theorem dX11_first_30 : decode cX11_first 30 = .ok (.if_icmp .ne 6, 3) := by decide +kernel
theorem dX11_first_33 : decode cX11_first 33 = .ok (.goto 30, 3) := by decide +kernel
theorem dX11_first_36 : decode cX11_first 36 = .ok (.iload_n 2, 1) := by decide +kernel
theorem dX11_first_37 : decode cX11_first 37 = .ok (.iconst (-1), 1) := by decide +kernel
theorem dX11_first_38 : decode cX11_first 38 = .ok (.if_icmp .eq 23, 3) := by decide +kernel
theorem dX11_first_41 : decode cX11_first 41 = .ok (.aload_n 0, 1) := by decide +kernel
theorem dX11_first_42 : decode cX11_first 42 = .ok (.getfield 13, 3) := by decide +kernel
theorem dX11_first_45 : decode cX11_first 45 = .ok (.iload 4, 2) := by decide +kernel
theorem dX11_first_47 : decode cX11_first 47 = .ok (.iaload, 1) := by decide +kernel
theorem dX11_first_48 : decode cX11_first 48 = .ok (.aload_n 0, 1) := by decide +kernel
theorem dX11_first_49 : decode cX11_first 49 = .ok (.getfield 13, 3) := by decide +kernel
theorem dX11_first_52 : decode cX11_first 52 = .ok (.iload_n 1, 1) := by decide +kernel
theorem dX11_first_53 : decode cX11_first 53 = .ok (.iload_n 2, 1) := by decide +kernel
theorem dX11_first_54 : decode cX11_first 54 = .ok (.invokestatic 99, 3) := by decide +kernel
theorem dX11_first_57 : decode cX11_first 57 = .ok (.iaload, 1) := by decide +kernel
theorem dX11_first_58 : decode cX11_first 58 = .ok (.if_icmp .ge 5, 3) := by decide +kernel
theorem dX11_first_61 : decode cX11_first 61 = .ok (.iload_n 3, 1) := by decide +kernel
theorem dX11_first_62 : decode cX11_first 62 = .ok (.istore_n 2, 1) := by decide +kernel
theorem dX11_first_63 : decode cX11_first 63 = .ok (.iinc 3 1, 3) := by decide +kernel
theorem dX11_first_66 : decode cX11_first 66 = .ok (.goto (-62), 3) := by decide +kernel
theorem dX11_first_69 : decode cX11_first 69 = .ok (.iload_n 2, 1) := by decide +kernel
theorem dX11_first_70 : decode cX11_first 70 = .ok (.ireturn, 1) := by decide +kernel
theorem dX11_steps_0 : decode cX11_steps 0 = .ok (.iload_n 2, 1) := by decide +kernel
theorem dX11_steps_1 : decode cX11_steps 1 = .ok (.iload_n 3, 1) := by decide +kernel
theorem dX11_steps_2 : decode cX11_steps 2 = .ok (.if_icmp .ne 5, 3) := by decide +kernel
theorem dX11_steps_5 : decode cX11_steps 5 = .ok (.iconst 0, 1) := by decide +kernel
theorem dX11_steps_6 : decode cX11_steps 6 = .ok (.ireturn, 1) := by decide +kernel
theorem dX11_steps_7 : decode cX11_steps 7 = .ok (.aload_n 0, 1) := by decide +kernel
theorem dX11_steps_8 : decode cX11_steps 8 = .ok (.aload_n 1, 1) := by decide +kernel
theorem dX11_steps_9 : decode cX11_steps 9 = .ok (.iload_n 3, 1) := by decide +kernel
theorem dX11_steps_10 : decode cX11_steps 10 = .ok (.invokevirtual 103, 3) := by decide +kernel
theorem dX11_steps_13 : decode cX11_steps 13 = .ok (.aload_n 0, 1) := by decide +kernel
theorem dX11_steps_14 : decode cX11_steps 14 = .ok (.iload_n 2, 1) := by decide +kernel
theorem dX11_steps_15 : decode cX11_steps 15 = .ok (.invokevirtual 107, 3) := by decide +kernel
theorem dX11_steps_18 : decode cX11_steps 18 = .ok (.istore 4, 2) := by decide +kernel
theorem dX11_steps_20 : decode cX11_steps 20 = .ok (.iload 4, 2) := by decide +kernel
theorem dX11_steps_22 : decode cX11_steps 22 = .ok (.iconst (-1), 1) := by decide +kernel
theorem dX11_steps_23 : decode cX11_steps 23 = .ok (.if_icmp .ne 7, 3) := by decide +kernel
theorem dX11_steps_26 : decode cX11_steps 26 = .ok (.iconst (-1), 1) := by decide +kernel
theorem dX11_steps_27 : decode cX11_steps 27 = .ok (.goto 16, 3) := by decide +kernel
theorem dX11_steps_30 : decode cX11_steps 30 = .ok (.aload_n 0, 1) := by decide +kernel
theorem dX11_steps_31 : decode cX11_steps 31 = .ok (.getfield 13, 3) := by decide +kernel
theorem dX11_steps_34 : decode cX11_steps 34 = .ok (.iload_n 2, 1) := by decide +kernel
theorem dX11_steps_35 : decode cX11_steps 35 = .ok (.iload 4, 2) := by decide +kernel
theorem dX11_steps_37 : decode cX11_steps 37 = .ok (.invokestatic 99, 3) := by decide +kernel
theorem dX11_steps_40 : decode cX11_steps 40 = .ok (.iaload, 1) := by decide +kernel
theorem dX11_steps_41 : decode cX11_steps 41 = .ok (.iconst 1, 1) := by decide +kernel
theorem dX11_steps_42 : decode cX11_steps 42 = .ok (.iadd, 1) := by decide +kernel
theorem dX11_steps_43 : decode cX11_steps 43 = .ok (.ireturn, 1) := by decide +kernel
theorem dX11_step_0 : decode cX11_step 0 = .ok (.iload_n 2, 1) := by decide +kernel
theorem dX11_step_1 : decode cX11_step 1 = .ok (.iload_n 3, 1) := by decide +kernel
theorem dX11_step_2 : decode cX11_step 2 = .ok (.if_icmp .ne 5, 3) := by decide +kernel
theorem dX11_step_5 : decode cX11_step 5 = .ok (.iload_n 2, 1) := by decide +kernel
theorem dX11_step_6 : decode cX11_step 6 = .ok (.ireturn, 1) := by decide +kernel
theorem dX11_step_7 : decode cX11_step 7 = .ok (.aload_n 0, 1) := by decide +kernel
theorem dX11_step_8 : decode cX11_step 8 = .ok (.aload_n 1, 1) := by decide +kernel
theorem dX11_step_9 : decode cX11_step 9 = .ok (.iload_n 3, 1) := by decide +kernel
theorem dX11_step_10 : decode cX11_step 10 = .ok (.invokevirtual 103, 3) := by decide +kernel
theorem dX11_step_13 : decode cX11_step 13 = .ok (.iload_n 2, 1) := by decide +kernel
theorem dX11_step_14 : decode cX11_step 14 = .ok (.aload_n 0, 1) := by decide +kernel
theorem dX11_step_15 : decode cX11_step 15 = .ok (.iload_n 2, 1) := by decide +kernel
theorem dX11_step_16 : decode cX11_step 16 = .ok (.invokevirtual 107, 3) := by decide +kernel
theorem dX11_step_19 : decode cX11_step 19 = .ok (.invokestatic 99, 3) := by decide +kernel
theorem dX11_step_22 : decode cX11_step 22 = .ok (.ireturn, 1) := by decide +kernel
theorem dX11_rings_0 : decode cX11_rings 0 = .ok (.aload_n 1, 1) := by decide +kernel
theorem dX11_rings_1 : decode cX11_rings 1 = .ok (.getfield 110, 3) := by decide +kernel
theorem dX11_rings_4 : decode cX11_rings 4 = .ok (.aload_n 1, 1) := by decide +kernel
theorem dX11_rings_5 : decode cX11_rings 5 = .ok (.getfield 74, 3) := by decide +kernel
theorem dX11_rings_8 : decode cX11_rings 8 = .ok (.iconst 2, 1) := by decide +kernel
theorem dX11_rings_9 : decode cX11_rings 9 = .ok (.iload_n 2, 1) := by decide +kernel
theorem dX11_rings_10 : decode cX11_rings 10 = .ok (.imul, 1) := by decide +kernel
theorem dX11_rings_11 : decode cX11_rings 11 = .ok (.iaload, 1) := by decide +kernel
theorem dX11_rings_12 : decode cX11_rings 12 = .ok (.iaload, 1) := by decide +kernel
theorem dX11_rings_13 : decode cX11_rings 13 = .ok (.aload_n 1, 1) := by decide +kernel
theorem dX11_rings_14 : decode cX11_rings 14 = .ok (.getfield 74, 3) := by decide +kernel
theorem dX11_rings_17 : decode cX11_rings 17 = .ok (.iconst 2, 1) := by decide +kernel
theorem dX11_rings_18 : decode cX11_rings 18 = .ok (.iload_n 2, 1) := by decide +kernel
theorem dX11_rings_19 : decode cX11_rings 19 = .ok (.imul, 1) := by decide +kernel
theorem dX11_rings_20 : decode cX11_rings 20 = .ok (.iconst 1, 1) := by decide +kernel
theorem dX11_rings_21 : decode cX11_rings 21 = .ok (.iadd, 1) := by decide +kernel
theorem dX11_rings_22 : decode cX11_rings 22 = .ok (.iaload, 1) := by decide +kernel
theorem dX11_rings_23 : decode cX11_rings 23 = .ok (.if_icmp .lt 7, 3) := by decide +kernel
theorem dX11_rings_26 : decode cX11_rings 26 = .ok (.iconst 1, 1) := by decide +kernel
theorem dX11_rings_27 : decode cX11_rings 27 = .ok (.goto 4, 3) := by decide +kernel
theorem dX11_rings_30 : decode cX11_rings 30 = .ok (.iconst 0, 1) := by decide +kernel
theorem dX11_rings_31 : decode cX11_rings 31 = .ok (.ireturn, 1) := by decide +kernel
theorem dX11_ringing_0 : decode cX11_ringing 0 = .ok (.iconst 0, 1) := by decide +kernel
theorem dX11_ringing_1 : decode cX11_ringing 1 = .ok (.istore_n 2, 1) := by decide +kernel
theorem dX11_ringing_2 : decode cX11_ringing 2 = .ok (.iconst 0, 1) := by decide +kernel
theorem dX11_ringing_3 : decode cX11_ringing 3 = .ok (.istore_n 3, 1) := by decide +kernel
theorem dX11_ringing_4 : decode cX11_ringing 4 = .ok (.iload_n 3, 1) := by decide +kernel
theorem dX11_ringing_5 : decode cX11_ringing 5 = .ok (.aload_n 0, 1) := by decide +kernel
theorem dX11_ringing_6 : decode cX11_ringing 6 = .ok (.getfield 71, 3) := by decide +kernel
theorem dX11_ringing_9 : decode cX11_ringing 9 = .ok (.if_icmp .ge 26, 3) := by decide +kernel
theorem dX11_ringing_12 : decode cX11_ringing 12 = .ok (.iload_n 2, 1) := by decide +kernel
theorem dX11_ringing_13 : decode cX11_ringing 13 = .ok (.aload_n 0, 1) := by decide +kernel
theorem dX11_ringing_14 : decode cX11_ringing 14 = .ok (.aload_n 1, 1) := by decide +kernel
theorem dX11_ringing_15 : decode cX11_ringing 15 = .ok (.iload_n 3, 1) := by decide +kernel
theorem dX11_ringing_16 : decode cX11_ringing 16 = .ok (.invokevirtual 113, 3) := by decide +kernel
theorem dX11_ringing_19 : decode cX11_ringing 19 = .ok (.ifCond .eq 7, 3) := by decide +kernel
theorem dX11_ringing_22 : decode cX11_ringing 22 = .ok (.iconst 1, 1) := by decide +kernel
theorem dX11_ringing_23 : decode cX11_ringing 23 = .ok (.goto 4, 3) := by decide +kernel
theorem dX11_ringing_26 : decode cX11_ringing 26 = .ok (.iconst 0, 1) := by decide +kernel
theorem dX11_ringing_27 : decode cX11_ringing 27 = .ok (.iadd, 1) := by decide +kernel
theorem dX11_ringing_28 : decode cX11_ringing 28 = .ok (.istore_n 2, 1) := by decide +kernel
theorem dX11_ringing_29 : decode cX11_ringing 29 = .ok (.iinc 3 1, 3) := by decide +kernel
theorem dX11_ringing_32 : decode cX11_ringing 32 = .ok (.goto (-28), 3) := by decide +kernel
theorem dX11_ringing_35 : decode cX11_ringing 35 = .ok (.iload_n 2, 1) := by decide +kernel
theorem dX11_ringing_36 : decode cX11_ringing 36 = .ok (.ireturn, 1) := by decide +kernel
theorem dX11_flow_0 : decode cX11_flow 0 = .ok (.iconst 0, 1) := by decide +kernel
theorem dX11_flow_1 : decode cX11_flow 1 = .ok (.istore_n 2, 1) := by decide +kernel
theorem dX11_flow_2 : decode cX11_flow 2 = .ok (.iload_n 2, 1) := by decide +kernel
theorem dX11_flow_3 : decode cX11_flow 3 = .ok (.bipush 80, 2) := by decide +kernel
theorem dX11_flow_5 : decode cX11_flow 5 = .ok (.if_icmp .ge 27, 3) := by decide +kernel
theorem dX11_flow_8 : decode cX11_flow 8 = .ok (.aload_n 0, 1) := by decide +kernel
theorem dX11_flow_9 : decode cX11_flow 9 = .ok (.getfield 19, 3) := by decide +kernel
theorem dX11_flow_12 : decode cX11_flow 12 = .ok (.iload_n 2, 1) := by decide +kernel
theorem dX11_flow_13 : decode cX11_flow 13 = .ok (.aload_n 1, 1) := by decide +kernel
theorem dX11_flow_14 : decode cX11_flow 14 = .ok (.iload_n 2, 1) := by decide +kernel
theorem dX11_flow_15 : decode cX11_flow 15 = .ok (.invokevirtual 117, 3) := by decide +kernel
theorem dX11_flow_18 : decode cX11_flow 18 = .ok (.iastore, 1) := by decide +kernel
theorem dX11_flow_19 : decode cX11_flow 19 = .ok (.aload_n 0, 1) := by decide +kernel
theorem dX11_flow_20 : decode cX11_flow 20 = .ok (.getfield 22, 3) := by decide +kernel
theorem dX11_flow_23 : decode cX11_flow 23 = .ok (.iload_n 2, 1) := by decide +kernel
theorem dX11_flow_24 : decode cX11_flow 24 = .ok (.iconst 0, 1) := by decide +kernel
theorem dX11_flow_25 : decode cX11_flow 25 = .ok (.iastore, 1) := by decide +kernel
theorem dX11_flow_26 : decode cX11_flow 26 = .ok (.iinc 2 1, 3) := by decide +kernel
theorem dX11_flow_29 : decode cX11_flow 29 = .ok (.goto (-27), 3) := by decide +kernel
theorem dX11_flow_32 : decode cX11_flow 32 = .ok (.iconst 0, 1) := by decide +kernel
theorem dX11_flow_33 : decode cX11_flow 33 = .ok (.istore_n 2, 1) := by decide +kernel
theorem dX11_flow_34 : decode cX11_flow 34 = .ok (.iload_n 2, 1) := by decide +kernel
theorem dX11_flow_35 : decode cX11_flow 35 = .ok (.bipush 80, 2) := by decide +kernel
theorem dX11_flow_37 : decode cX11_flow 37 = .ok (.if_icmp .ge 133, 3) := by decide +kernel
theorem dX11_flow_40 : decode cX11_flow 40 = .ok (.iconst (-1), 1) := by decide +kernel
theorem dX11_flow_41 : decode cX11_flow 41 = .ok (.istore_n 3, 1) := by decide +kernel
theorem dX11_flow_42 : decode cX11_flow 42 = .ok (.iconst 0, 1) := by decide +kernel
theorem dX11_flow_43 : decode cX11_flow 43 = .ok (.istore 4, 2) := by decide +kernel
theorem dX11_flow_45 : decode cX11_flow 45 = .ok (.iload 4, 2) := by decide +kernel
theorem dX11_flow_47 : decode cX11_flow 47 = .ok (.iconst 4, 1) := by decide +kernel
theorem dX11_flow_48 : decode cX11_flow 48 = .ok (.if_icmp .ge 47, 3) := by decide +kernel
theorem dX11_flow_51 : decode cX11_flow 51 = .ok (.iload_n 2, 1) := by decide +kernel
theorem dX11_flow_52 : decode cX11_flow 52 = .ok (.iload 4, 2) := by decide +kernel
theorem dX11_flow_54 : decode cX11_flow 54 = .ok (.invokestatic 99, 3) := by decide +kernel
theorem dX11_flow_57 : decode cX11_flow 57 = .ok (.istore 5, 2) := by decide +kernel
theorem dX11_flow_59 : decode cX11_flow 59 = .ok (.iload 5, 2) := by decide +kernel
theorem dX11_flow_61 : decode cX11_flow 61 = .ok (.iconst (-1), 1) := by decide +kernel
theorem dX11_flow_62 : decode cX11_flow 62 = .ok (.if_icmp .eq 27, 3) := by decide +kernel
theorem dX11_flow_65 : decode cX11_flow 65 = .ok (.iload_n 3, 1) := by decide +kernel
theorem dX11_flow_66 : decode cX11_flow 66 = .ok (.iconst (-1), 1) := by decide +kernel
theorem dX11_flow_67 : decode cX11_flow 67 = .ok (.if_icmp .eq 19, 3) := by decide +kernel
theorem dX11_flow_70 : decode cX11_flow 70 = .ok (.aload_n 0, 1) := by decide +kernel
theorem dX11_flow_71 : decode cX11_flow 71 = .ok (.getfield 19, 3) := by decide +kernel
theorem dX11_flow_74 : decode cX11_flow 74 = .ok (.iload 5, 2) := by decide +kernel
theorem dX11_flow_76 : decode cX11_flow 76 = .ok (.iaload, 1) := by decide +kernel
theorem dX11_flow_77 : decode cX11_flow 77 = .ok (.aload_n 0, 1) := by decide +kernel
theorem dX11_flow_78 : decode cX11_flow 78 = .ok (.getfield 19, 3) := by decide +kernel
theorem dX11_flow_81 : decode cX11_flow 81 = .ok (.iload_n 3, 1) := by decide +kernel
theorem dX11_flow_82 : decode cX11_flow 82 = .ok (.iaload, 1) := by decide +kernel
theorem dX11_flow_83 : decode cX11_flow 83 = .ok (.if_icmp .ge 6, 3) := by decide +kernel
theorem dX11_flow_86 : decode cX11_flow 86 = .ok (.iload 5, 2) := by decide +kernel
theorem dX11_flow_88 : decode cX11_flow 88 = .ok (.istore_n 3, 1) := by decide +kernel
theorem dX11_flow_89 : decode cX11_flow 89 = .ok (.iinc 4 1, 3) := by decide +kernel
theorem dX11_flow_92 : decode cX11_flow 92 = .ok (.goto (-47), 3) := by decide +kernel
theorem dX11_flow_95 : decode cX11_flow 95 = .ok (.aload_n 0, 1) := by decide +kernel
theorem dX11_flow_96 : decode cX11_flow 96 = .ok (.getfield 19, 3) := by decide +kernel
theorem dX11_flow_99 : decode cX11_flow 99 = .ok (.iload_n 2, 1) := by decide +kernel
theorem dX11_flow_100 : decode cX11_flow 100 = .ok (.iaload, 1) := by decide +kernel
theorem dX11_flow_101 : decode cX11_flow 101 = .ok (.aload_n 0, 1) := by decide +kernel
theorem dX11_flow_102 : decode cX11_flow 102 = .ok (.getfield 19, 3) := by decide +kernel
theorem dX11_flow_105 : decode cX11_flow 105 = .ok (.iload_n 3, 1) := by decide +kernel
theorem dX11_flow_106 : decode cX11_flow 106 = .ok (.iaload, 1) := by decide +kernel
theorem dX11_flow_107 : decode cX11_flow 107 = .ok (.isub, 1) := by decide +kernel
theorem dX11_flow_108 : decode cX11_flow 108 = .ok (.iconst 2, 1) := by decide +kernel
theorem dX11_flow_109 : decode cX11_flow 109 = .ok (.if_icmp .lt 30, 3) := by decide +kernel
theorem dX11_flow_112 : decode cX11_flow 112 = .ok (.aload_n 1, 1) := by decide +kernel
theorem dX11_flow_113 : decode cX11_flow 113 = .ok (.getfield 110, 3) := by decide +kernel
theorem dX11_flow_116 : decode cX11_flow 116 = .ok (.iload_n 2, 1) := by decide +kernel
theorem dX11_flow_117 : decode cX11_flow 117 = .ok (.iaload, 1) := by decide +kernel
theorem dX11_flow_118 : decode cX11_flow 118 = .ok (.aload_n 0, 1) := by decide +kernel
theorem dX11_flow_119 : decode cX11_flow 119 = .ok (.getfield 19, 3) := by decide +kernel
theorem dX11_flow_122 : decode cX11_flow 122 = .ok (.iload_n 2, 1) := by decide +kernel
theorem dX11_flow_123 : decode cX11_flow 123 = .ok (.iaload, 1) := by decide +kernel
theorem dX11_flow_124 : decode cX11_flow 124 = .ok (.aload_n 0, 1) := by decide +kernel
theorem dX11_flow_125 : decode cX11_flow 125 = .ok (.getfield 19, 3) := by decide +kernel
theorem dX11_flow_128 : decode cX11_flow 128 = .ok (.iload_n 3, 1) := by decide +kernel
theorem dX11_flow_129 : decode cX11_flow 129 = .ok (.iaload, 1) := by decide +kernel
theorem dX11_flow_130 : decode cX11_flow 130 = .ok (.isub, 1) := by decide +kernel
theorem dX11_flow_131 : decode cX11_flow 131 = .ok (.iconst 2, 1) := by decide +kernel
theorem dX11_flow_132 : decode cX11_flow 132 = .ok (.idiv, 1) := by decide +kernel
theorem dX11_flow_133 : decode cX11_flow 133 = .ok (.invokestatic 120, 3) := by decide +kernel
theorem dX11_flow_136 : decode cX11_flow 136 = .ok (.goto 4, 3) := by decide +kernel
theorem dX11_flow_139 : decode cX11_flow 139 = .ok (.iconst 0, 1) := by decide +kernel
theorem dX11_flow_140 : decode cX11_flow 140 = .ok (.istore 4, 2) := by decide +kernel
theorem dX11_flow_142 : decode cX11_flow 142 = .ok (.aload_n 0, 1) := by decide +kernel
theorem dX11_flow_143 : decode cX11_flow 143 = .ok (.getfield 22, 3) := by decide +kernel
theorem dX11_flow_146 : decode cX11_flow 146 = .ok (.iload_n 2, 1) := by decide +kernel
theorem dX11_flow_147 : decode cX11_flow 147 = .ok (.dup2, 1) := by decide +kernel
theorem dX11_flow_148 : decode cX11_flow 148 = .ok (.iaload, 1) := by decide +kernel
theorem dX11_flow_149 : decode cX11_flow 149 = .ok (.iload 4, 2) := by decide +kernel
theorem dX11_flow_151 : decode cX11_flow 151 = .ok (.isub, 1) := by decide +kernel
theorem dX11_flow_152 : decode cX11_flow 152 = .ok (.iastore, 1) := by decide +kernel
theorem dX11_flow_153 : decode cX11_flow 153 = .ok (.aload_n 0, 1) := by decide +kernel
theorem dX11_flow_154 : decode cX11_flow 154 = .ok (.getfield 22, 3) := by decide +kernel
theorem dX11_flow_157 : decode cX11_flow 157 = .ok (.iload_n 3, 1) := by decide +kernel
theorem dX11_flow_158 : decode cX11_flow 158 = .ok (.dup2, 1) := by decide +kernel
theorem dX11_flow_159 : decode cX11_flow 159 = .ok (.iaload, 1) := by decide +kernel
theorem dX11_flow_160 : decode cX11_flow 160 = .ok (.iload 4, 2) := by decide +kernel
theorem dX11_flow_162 : decode cX11_flow 162 = .ok (.iadd, 1) := by decide +kernel
theorem dX11_flow_163 : decode cX11_flow 163 = .ok (.iastore, 1) := by decide +kernel
theorem dX11_flow_164 : decode cX11_flow 164 = .ok (.iinc 2 1, 3) := by decide +kernel
theorem dX11_flow_167 : decode cX11_flow 167 = .ok (.goto (-133), 3) := by decide +kernel
theorem dX11_flow_170 : decode cX11_flow 170 = .ok (.iconst 0, 1) := by decide +kernel
theorem dX11_flow_171 : decode cX11_flow 171 = .ok (.istore_n 2, 1) := by decide +kernel
theorem dX11_flow_172 : decode cX11_flow 172 = .ok (.iload_n 2, 1) := by decide +kernel
theorem dX11_flow_173 : decode cX11_flow 173 = .ok (.bipush 80, 2) := by decide +kernel
theorem dX11_flow_175 : decode cX11_flow 175 = .ok (.if_icmp .ge 33, 3) := by decide +kernel
theorem dX11_flow_178 : decode cX11_flow 178 = .ok (.aload_n 1, 1) := by decide +kernel
theorem dX11_flow_179 : decode cX11_flow 179 = .ok (.getfield 110, 3) := by decide +kernel
theorem dX11_flow_182 : decode cX11_flow 182 = .ok (.iload_n 2, 1) := by decide +kernel
theorem dX11_flow_183 : decode cX11_flow 183 = .ok (.bipush 40, 2) := by decide +kernel
theorem dX11_flow_185 : decode cX11_flow 185 = .ok (.aload_n 1, 1) := by decide +kernel
theorem dX11_flow_186 : decode cX11_flow 186 = .ok (.getfield 110, 3) := by decide +kernel
theorem dX11_flow_189 : decode cX11_flow 189 = .ok (.iload_n 2, 1) := by decide +kernel
theorem dX11_flow_190 : decode cX11_flow 190 = .ok (.iaload, 1) := by decide +kernel
theorem dX11_flow_191 : decode cX11_flow 191 = .ok (.aload_n 0, 1) := by decide +kernel
theorem dX11_flow_192 : decode cX11_flow 192 = .ok (.getfield 22, 3) := by decide +kernel
theorem dX11_flow_195 : decode cX11_flow 195 = .ok (.iload_n 2, 1) := by decide +kernel
theorem dX11_flow_196 : decode cX11_flow 196 = .ok (.iaload, 1) := by decide +kernel
theorem dX11_flow_197 : decode cX11_flow 197 = .ok (.iadd, 1) := by decide +kernel
theorem dX11_flow_198 : decode cX11_flow 198 = .ok (.invokestatic 120, 3) := by decide +kernel
theorem dX11_flow_201 : decode cX11_flow 201 = .ok (.iastore, 1) := by decide +kernel
theorem dX11_flow_202 : decode cX11_flow 202 = .ok (.iinc 2 1, 3) := by decide +kernel
theorem dX11_flow_205 : decode cX11_flow 205 = .ok (.goto (-33), 3) := by decide +kernel
theorem dX11_flow_208 : decode cX11_flow 208 = .ok (.return_, 1) := by decide +kernel
theorem dX11_drain_0 : decode cX11_drain 0 = .ok (.iconst 5, 1) := by decide +kernel
theorem dX11_drain_1 : decode cX11_drain 1 = .ok (.iload_n 2, 1) := by decide +kernel
theorem dX11_drain_2 : decode cX11_drain 2 = .ok (.imul, 1) := by decide +kernel
theorem dX11_drain_3 : decode cX11_drain 3 = .ok (.istore_n 3, 1) := by decide +kernel
theorem dX11_drain_4 : decode cX11_drain 4 = .ok (.aload_n 1, 1) := by decide +kernel
theorem dX11_drain_5 : decode cX11_drain 5 = .ok (.getfield 64, 3) := by decide +kernel
theorem dX11_drain_8 : decode cX11_drain 8 = .ok (.iload_n 3, 1) := by decide +kernel
theorem dX11_drain_9 : decode cX11_drain 9 = .ok (.iaload, 1) := by decide +kernel
theorem dX11_drain_10 : decode cX11_drain 10 = .ok (.istore 4, 2) := by decide +kernel
theorem dX11_drain_12 : decode cX11_drain 12 = .ok (.aload_n 1, 1) := by decide +kernel
theorem dX11_drain_13 : decode cX11_drain 13 = .ok (.getfield 64, 3) := by decide +kernel
theorem dX11_drain_16 : decode cX11_drain 16 = .ok (.iload_n 3, 1) := by decide +kernel
theorem dX11_drain_17 : decode cX11_drain 17 = .ok (.iconst 3, 1) := by decide +kernel
theorem dX11_drain_18 : decode cX11_drain 18 = .ok (.iadd, 1) := by decide +kernel
theorem dX11_drain_19 : decode cX11_drain 19 = .ok (.iaload, 1) := by decide +kernel
theorem dX11_drain_20 : decode cX11_drain 20 = .ok (.ifCond .eq 24, 3) := by decide +kernel
theorem dX11_drain_23 : decode cX11_drain 23 = .ok (.aload_n 1, 1) := by decide +kernel
theorem dX11_drain_24 : decode cX11_drain 24 = .ok (.getfield 64, 3) := by decide +kernel
theorem dX11_drain_27 : decode cX11_drain 27 = .ok (.iload_n 3, 1) := by decide +kernel
theorem dX11_drain_28 : decode cX11_drain 28 = .ok (.iconst 2, 1) := by decide +kernel
theorem dX11_drain_29 : decode cX11_drain 29 = .ok (.iadd, 1) := by decide +kernel
theorem dX11_drain_30 : decode cX11_drain 30 = .ok (.iaload, 1) := by decide +kernel
theorem dX11_drain_31 : decode cX11_drain 31 = .ok (.ifCond .eq 13, 3) := by decide +kernel
theorem dX11_drain_34 : decode cX11_drain 34 = .ok (.aload_n 1, 1) := by decide +kernel
theorem dX11_drain_35 : decode cX11_drain 35 = .ok (.getfield 110, 3) := by decide +kernel
theorem dX11_drain_38 : decode cX11_drain 38 = .ok (.iload 4, 2) := by decide +kernel
theorem dX11_drain_40 : decode cX11_drain 40 = .ok (.iaload, 1) := by decide +kernel
theorem dX11_drain_41 : decode cX11_drain 41 = .ok (.ifCond .ne 4, 3) := by decide +kernel
theorem dX11_drain_44 : decode cX11_drain 44 = .ok (.return_, 1) := by decide +kernel
theorem dX11_drain_45 : decode cX11_drain 45 = .ok (.aload_n 1, 1) := by decide +kernel
theorem dX11_drain_46 : decode cX11_drain 46 = .ok (.getfield 64, 3) := by decide +kernel
theorem dX11_drain_49 : decode cX11_drain 49 = .ok (.iload_n 3, 1) := by decide +kernel
theorem dX11_drain_50 : decode cX11_drain 50 = .ok (.iconst 1, 1) := by decide +kernel
theorem dX11_drain_51 : decode cX11_drain 51 = .ok (.iadd, 1) := by decide +kernel
theorem dX11_drain_52 : decode cX11_drain 52 = .ok (.iaload, 1) := by decide +kernel
theorem dX11_drain_53 : decode cX11_drain 53 = .ok (.aload_n 1, 1) := by decide +kernel
theorem dX11_drain_54 : decode cX11_drain 54 = .ok (.getfield 110, 3) := by decide +kernel
theorem dX11_drain_57 : decode cX11_drain 57 = .ok (.iload 4, 2) := by decide +kernel
theorem dX11_drain_59 : decode cX11_drain 59 = .ok (.iaload, 1) := by decide +kernel
theorem dX11_drain_60 : decode cX11_drain 60 = .ok (.invokestatic 120, 3) := by decide +kernel
theorem dX11_drain_63 : decode cX11_drain 63 = .ok (.istore 5, 2) := by decide +kernel
theorem dX11_drain_65 : decode cX11_drain 65 = .ok (.aload_n 1, 1) := by decide +kernel
theorem dX11_drain_66 : decode cX11_drain 66 = .ok (.getfield 110, 3) := by decide +kernel
theorem dX11_drain_69 : decode cX11_drain 69 = .ok (.iload 4, 2) := by decide +kernel
theorem dX11_drain_71 : decode cX11_drain 71 = .ok (.dup2, 1) := by decide +kernel
theorem dX11_drain_72 : decode cX11_drain 72 = .ok (.iaload, 1) := by decide +kernel
theorem dX11_drain_73 : decode cX11_drain 73 = .ok (.iload 5, 2) := by decide +kernel
theorem dX11_drain_75 : decode cX11_drain 75 = .ok (.isub, 1) := by decide +kernel
theorem dX11_drain_76 : decode cX11_drain 76 = .ok (.iastore, 1) := by decide +kernel
theorem dX11_drain_77 : decode cX11_drain 77 = .ok (.aload_n 1, 1) := by decide +kernel
theorem dX11_drain_78 : decode cX11_drain 78 = .ok (.getfield 64, 3) := by decide +kernel
theorem dX11_drain_81 : decode cX11_drain 81 = .ok (.iload_n 3, 1) := by decide +kernel
theorem dX11_drain_82 : decode cX11_drain 82 = .ok (.iconst 2, 1) := by decide +kernel
theorem dX11_drain_83 : decode cX11_drain 83 = .ok (.iadd, 1) := by decide +kernel
theorem dX11_drain_84 : decode cX11_drain 84 = .ok (.dup2, 1) := by decide +kernel
theorem dX11_drain_85 : decode cX11_drain 85 = .ok (.iaload, 1) := by decide +kernel
theorem dX11_drain_86 : decode cX11_drain 86 = .ok (.iconst 1, 1) := by decide +kernel
theorem dX11_drain_87 : decode cX11_drain 87 = .ok (.isub, 1) := by decide +kernel
theorem dX11_drain_88 : decode cX11_drain 88 = .ok (.iastore, 1) := by decide +kernel
theorem dX11_drain_89 : decode cX11_drain 89 = .ok (.aload_n 1, 1) := by decide +kernel
theorem dX11_drain_90 : decode cX11_drain 90 = .ok (.getfield 64, 3) := by decide +kernel
theorem dX11_drain_93 : decode cX11_drain 93 = .ok (.iload_n 3, 1) := by decide +kernel
theorem dX11_drain_94 : decode cX11_drain 94 = .ok (.iconst 4, 1) := by decide +kernel
theorem dX11_drain_95 : decode cX11_drain 95 = .ok (.iadd, 1) := by decide +kernel
theorem dX11_drain_96 : decode cX11_drain 96 = .ok (.dup2, 1) := by decide +kernel
theorem dX11_drain_97 : decode cX11_drain 97 = .ok (.iaload, 1) := by decide +kernel
theorem dX11_drain_98 : decode cX11_drain 98 = .ok (.iload 5, 2) := by decide +kernel
theorem dX11_drain_100 : decode cX11_drain 100 = .ok (.iadd, 1) := by decide +kernel
theorem dX11_drain_101 : decode cX11_drain 101 = .ok (.iastore, 1) := by decide +kernel
theorem dX11_drain_102 : decode cX11_drain 102 = .ok (.return_, 1) := by decide +kernel
theorem dX11_call_0 : decode cX11_call 0 = .ok (.iconst (-1), 1) := by decide +kernel
theorem dX11_call_1 : decode cX11_call 1 = .ok (.istore_n 3, 1) := by decide +kernel
theorem dX11_call_2 : decode cX11_call 2 = .ok (.iconst (-1), 1) := by decide +kernel
theorem dX11_call_3 : decode cX11_call 3 = .ok (.istore 4, 2) := by decide +kernel
theorem dX11_call_5 : decode cX11_call 5 = .ok (.iconst 0, 1) := by decide +kernel
theorem dX11_call_6 : decode cX11_call 6 = .ok (.istore 5, 2) := by decide +kernel
theorem dX11_call_8 : decode cX11_call 8 = .ok (.iload 5, 2) := by decide +kernel
theorem dX11_call_10 : decode cX11_call 10 = .ok (.aload_n 0, 1) := by decide +kernel
theorem dX11_call_11 : decode cX11_call 11 = .ok (.getfield 83, 3) := by decide +kernel
theorem dX11_call_14 : decode cX11_call 14 = .ok (.if_icmp .ge 78, 3) := by decide +kernel
theorem dX11_call_17 : decode cX11_call 17 = .ok (.aload_n 1, 1) := by decide +kernel
theorem dX11_call_18 : decode cX11_call 18 = .ok (.getfield 86, 3) := by decide +kernel
theorem dX11_call_21 : decode cX11_call 21 = .ok (.iconst 4, 1) := by decide +kernel
theorem dX11_call_22 : decode cX11_call 22 = .ok (.iload 5, 2) := by decide +kernel
theorem dX11_call_24 : decode cX11_call 24 = .ok (.imul, 1) := by decide +kernel
theorem dX11_call_25 : decode cX11_call 25 = .ok (.iconst 2, 1) := by decide +kernel
theorem dX11_call_26 : decode cX11_call 26 = .ok (.iadd, 1) := by decide +kernel
theorem dX11_call_27 : decode cX11_call 27 = .ok (.iaload, 1) := by decide +kernel
theorem dX11_call_28 : decode cX11_call 28 = .ok (.ifCond .eq 6, 3) := by decide +kernel
theorem dX11_call_31 : decode cX11_call 31 = .ok (.goto 55, 3) := by decide +kernel
theorem dX11_call_34 : decode cX11_call 34 = .ok (.aload_n 0, 1) := by decide +kernel
theorem dX11_call_35 : decode cX11_call 35 = .ok (.aload_n 1, 1) := by decide +kernel
theorem dX11_call_36 : decode cX11_call 36 = .ok (.aload_n 1, 1) := by decide +kernel
theorem dX11_call_37 : decode cX11_call 37 = .ok (.getfield 92, 3) := by decide +kernel
theorem dX11_call_40 : decode cX11_call 40 = .ok (.iconst 2, 1) := by decide +kernel
theorem dX11_call_41 : decode cX11_call 41 = .ok (.iload_n 2, 1) := by decide +kernel
theorem dX11_call_42 : decode cX11_call 42 = .ok (.imul, 1) := by decide +kernel
theorem dX11_call_43 : decode cX11_call 43 = .ok (.iaload, 1) := by decide +kernel
theorem dX11_call_44 : decode cX11_call 44 = .ok (.aload_n 1, 1) := by decide +kernel
theorem dX11_call_45 : decode cX11_call 45 = .ok (.getfield 86, 3) := by decide +kernel
theorem dX11_call_48 : decode cX11_call 48 = .ok (.iconst 4, 1) := by decide +kernel
theorem dX11_call_49 : decode cX11_call 49 = .ok (.iload 5, 2) := by decide +kernel
theorem dX11_call_51 : decode cX11_call 51 = .ok (.imul, 1) := by decide +kernel
theorem dX11_call_52 : decode cX11_call 52 = .ok (.iaload, 1) := by decide +kernel
theorem dX11_call_53 : decode cX11_call 53 = .ok (.invokevirtual 125, 3) := by decide +kernel
theorem dX11_call_56 : decode cX11_call 56 = .ok (.istore 6, 2) := by decide +kernel
theorem dX11_call_58 : decode cX11_call 58 = .ok (.iload 6, 2) := by decide +kernel
theorem dX11_call_60 : decode cX11_call 60 = .ok (.iconst (-1), 1) := by decide +kernel
theorem dX11_call_61 : decode cX11_call 61 = .ok (.if_icmp .eq 25, 3) := by decide +kernel
theorem dX11_call_64 : decode cX11_call 64 = .ok (.iload_n 3, 1) := by decide +kernel
theorem dX11_call_65 : decode cX11_call 65 = .ok (.iconst (-1), 1) := by decide +kernel
theorem dX11_call_66 : decode cX11_call 66 = .ok (.if_icmp .eq 13, 3) := by decide +kernel
theorem dX11_call_69 : decode cX11_call 69 = .ok (.iload 6, 2) := by decide +kernel
theorem dX11_call_71 : decode cX11_call 71 = .ok (.iload 4, 2) := by decide +kernel
theorem dX11_call_73 : decode cX11_call 73 = .ok (.if_icmp .lt 6, 3) := by decide +kernel
theorem dX11_call_76 : decode cX11_call 76 = .ok (.goto 10, 3) := by decide +kernel
theorem dX11_call_79 : decode cX11_call 79 = .ok (.iload 5, 2) := by decide +kernel
theorem dX11_call_81 : decode cX11_call 81 = .ok (.istore_n 3, 1) := by decide +kernel
theorem dX11_call_82 : decode cX11_call 82 = .ok (.iload 6, 2) := by decide +kernel
theorem dX11_call_84 : decode cX11_call 84 = .ok (.istore 4, 2) := by decide +kernel
theorem dX11_call_86 : decode cX11_call 86 = .ok (.iinc 5 1, 3) := by decide +kernel
theorem dX11_call_89 : decode cX11_call 89 = .ok (.goto (-81), 3) := by decide +kernel
theorem dX11_call_92 : decode cX11_call 92 = .ok (.iload_n 3, 1) := by decide +kernel
theorem dX11_call_93 : decode cX11_call 93 = .ok (.iconst (-1), 1) := by decide +kernel
theorem dX11_call_94 : decode cX11_call 94 = .ok (.if_icmp .eq 32, 3) := by decide +kernel
theorem dX11_call_97 : decode cX11_call 97 = .ok (.aload_n 1, 1) := by decide +kernel
theorem dX11_call_98 : decode cX11_call 98 = .ok (.getfield 92, 3) := by decide +kernel
theorem dX11_call_101 : decode cX11_call 101 = .ok (.iconst 2, 1) := by decide +kernel
theorem dX11_call_102 : decode cX11_call 102 = .ok (.iload_n 2, 1) := by decide +kernel
theorem dX11_call_103 : decode cX11_call 103 = .ok (.imul, 1) := by decide +kernel
theorem dX11_call_104 : decode cX11_call 104 = .ok (.aload_n 0, 1) := by decide +kernel
theorem dX11_call_105 : decode cX11_call 105 = .ok (.aload_n 1, 1) := by decide +kernel
theorem dX11_call_106 : decode cX11_call 106 = .ok (.aload_n 1, 1) := by decide +kernel
theorem dX11_call_107 : decode cX11_call 107 = .ok (.getfield 92, 3) := by decide +kernel
theorem dX11_call_110 : decode cX11_call 110 = .ok (.iconst 2, 1) := by decide +kernel
theorem dX11_call_111 : decode cX11_call 111 = .ok (.iload_n 2, 1) := by decide +kernel
theorem dX11_call_112 : decode cX11_call 112 = .ok (.imul, 1) := by decide +kernel
theorem dX11_call_113 : decode cX11_call 113 = .ok (.iaload, 1) := by decide +kernel
theorem dX11_call_114 : decode cX11_call 114 = .ok (.aload_n 1, 1) := by decide +kernel
theorem dX11_call_115 : decode cX11_call 115 = .ok (.getfield 86, 3) := by decide +kernel
theorem dX11_call_118 : decode cX11_call 118 = .ok (.iconst 4, 1) := by decide +kernel
theorem dX11_call_119 : decode cX11_call 119 = .ok (.iload_n 3, 1) := by decide +kernel
theorem dX11_call_120 : decode cX11_call 120 = .ok (.imul, 1) := by decide +kernel
theorem dX11_call_121 : decode cX11_call 121 = .ok (.iaload, 1) := by decide +kernel
theorem dX11_call_122 : decode cX11_call 122 = .ok (.invokevirtual 129, 3) := by decide +kernel
theorem dX11_call_125 : decode cX11_call 125 = .ok (.iastore, 1) := by decide +kernel
theorem dX11_call_126 : decode cX11_call 126 = .ok (.iconst 0, 1) := by decide +kernel
theorem dX11_call_127 : decode cX11_call 127 = .ok (.istore 5, 2) := by decide +kernel
theorem dX11_call_129 : decode cX11_call 129 = .ok (.iload 5, 2) := by decide +kernel
theorem dX11_call_131 : decode cX11_call 131 = .ok (.aload_n 0, 1) := by decide +kernel
theorem dX11_call_132 : decode cX11_call 132 = .ok (.getfield 83, 3) := by decide +kernel
theorem dX11_call_135 : decode cX11_call 135 = .ok (.if_icmp .ge 75, 3) := by decide +kernel
theorem dX11_call_138 : decode cX11_call 138 = .ok (.aload_n 1, 1) := by decide +kernel
theorem dX11_call_139 : decode cX11_call 139 = .ok (.getfield 86, 3) := by decide +kernel
theorem dX11_call_142 : decode cX11_call 142 = .ok (.iconst 4, 1) := by decide +kernel
theorem dX11_call_143 : decode cX11_call 143 = .ok (.iload 5, 2) := by decide +kernel
theorem dX11_call_145 : decode cX11_call 145 = .ok (.imul, 1) := by decide +kernel
theorem dX11_call_146 : decode cX11_call 146 = .ok (.iconst 2, 1) := by decide +kernel
theorem dX11_call_147 : decode cX11_call 147 = .ok (.iadd, 1) := by decide +kernel
theorem dX11_call_148 : decode cX11_call 148 = .ok (.iaload, 1) := by decide +kernel
theorem dX11_call_149 : decode cX11_call 149 = .ok (.ifCond .ne 55, 3) := by decide +kernel
theorem dX11_call_152 : decode cX11_call 152 = .ok (.aload_n 1, 1) := by decide +kernel
theorem dX11_call_153 : decode cX11_call 153 = .ok (.getfield 92, 3) := by decide +kernel
theorem dX11_call_156 : decode cX11_call 156 = .ok (.iconst 2, 1) := by decide +kernel
theorem dX11_call_157 : decode cX11_call 157 = .ok (.iload_n 2, 1) := by decide +kernel
theorem dX11_call_158 : decode cX11_call 158 = .ok (.imul, 1) := by decide +kernel
theorem dX11_call_159 : decode cX11_call 159 = .ok (.iaload, 1) := by decide +kernel
theorem dX11_call_160 : decode cX11_call 160 = .ok (.aload_n 1, 1) := by decide +kernel
theorem dX11_call_161 : decode cX11_call 161 = .ok (.getfield 86, 3) := by decide +kernel
theorem dX11_call_164 : decode cX11_call 164 = .ok (.iconst 4, 1) := by decide +kernel
theorem dX11_call_165 : decode cX11_call 165 = .ok (.iload 5, 2) := by decide +kernel
theorem dX11_call_167 : decode cX11_call 167 = .ok (.imul, 1) := by decide +kernel
theorem dX11_call_168 : decode cX11_call 168 = .ok (.iaload, 1) := by decide +kernel
theorem dX11_call_169 : decode cX11_call 169 = .ok (.invokestatic 132, 3) := by decide +kernel
theorem dX11_call_172 : decode cX11_call 172 = .ok (.ifCond .ne 6, 3) := by decide +kernel
theorem dX11_call_175 : decode cX11_call 175 = .ok (.goto 29, 3) := by decide +kernel
theorem dX11_call_178 : decode cX11_call 178 = .ok (.aload_n 1, 1) := by decide +kernel
theorem dX11_call_179 : decode cX11_call 179 = .ok (.getfield 86, 3) := by decide +kernel
theorem dX11_call_182 : decode cX11_call 182 = .ok (.iconst 4, 1) := by decide +kernel
theorem dX11_call_183 : decode cX11_call 183 = .ok (.iload 5, 2) := by decide +kernel
theorem dX11_call_185 : decode cX11_call 185 = .ok (.imul, 1) := by decide +kernel
theorem dX11_call_186 : decode cX11_call 186 = .ok (.iconst 2, 1) := by decide +kernel
theorem dX11_call_187 : decode cX11_call 187 = .ok (.iadd, 1) := by decide +kernel
theorem dX11_call_188 : decode cX11_call 188 = .ok (.iconst 1, 1) := by decide +kernel
theorem dX11_call_189 : decode cX11_call 189 = .ok (.iastore, 1) := by decide +kernel
theorem dX11_call_190 : decode cX11_call 190 = .ok (.aload_n 1, 1) := by decide +kernel
theorem dX11_call_191 : decode cX11_call 191 = .ok (.getfield 92, 3) := by decide +kernel
theorem dX11_call_194 : decode cX11_call 194 = .ok (.iconst 2, 1) := by decide +kernel
theorem dX11_call_195 : decode cX11_call 195 = .ok (.iload_n 2, 1) := by decide +kernel
theorem dX11_call_196 : decode cX11_call 196 = .ok (.imul, 1) := by decide +kernel
theorem dX11_call_197 : decode cX11_call 197 = .ok (.iconst 1, 1) := by decide +kernel
theorem dX11_call_198 : decode cX11_call 198 = .ok (.iadd, 1) := by decide +kernel
theorem dX11_call_199 : decode cX11_call 199 = .ok (.dup2, 1) := by decide +kernel
theorem dX11_call_200 : decode cX11_call 200 = .ok (.iaload, 1) := by decide +kernel
theorem dX11_call_201 : decode cX11_call 201 = .ok (.iconst 1, 1) := by decide +kernel
theorem dX11_call_202 : decode cX11_call 202 = .ok (.iadd, 1) := by decide +kernel
theorem dX11_call_203 : decode cX11_call 203 = .ok (.iastore, 1) := by decide +kernel
theorem dX11_call_204 : decode cX11_call 204 = .ok (.iinc 5 1, 3) := by decide +kernel
theorem dX11_call_207 : decode cX11_call 207 = .ok (.goto (-78), 3) := by decide +kernel
theorem dX11_call_210 : decode cX11_call 210 = .ok (.return_, 1) := by decide +kernel
theorem dX11_isNear_0 : decode cX11_isNear 0 = .ok (.iload_n 0, 1) := by decide +kernel
theorem dX11_isNear_1 : decode cX11_isNear 1 = .ok (.bipush 10, 2) := by decide +kernel
theorem dX11_isNear_3 : decode cX11_isNear 3 = .ok (.irem, 1) := by decide +kernel
theorem dX11_isNear_4 : decode cX11_isNear 4 = .ok (.iload_n 1, 1) := by decide +kernel
theorem dX11_isNear_5 : decode cX11_isNear 5 = .ok (.bipush 10, 2) := by decide +kernel
theorem dX11_isNear_7 : decode cX11_isNear 7 = .ok (.irem, 1) := by decide +kernel
theorem dX11_isNear_8 : decode cX11_isNear 8 = .ok (.isub, 1) := by decide +kernel
theorem dX11_isNear_9 : decode cX11_isNear 9 = .ok (.invokestatic 135, 3) := by decide +kernel
theorem dX11_isNear_12 : decode cX11_isNear 12 = .ok (.iload_n 0, 1) := by decide +kernel
theorem dX11_isNear_13 : decode cX11_isNear 13 = .ok (.bipush 10, 2) := by decide +kernel
theorem dX11_isNear_15 : decode cX11_isNear 15 = .ok (.idiv, 1) := by decide +kernel
theorem dX11_isNear_16 : decode cX11_isNear 16 = .ok (.iload_n 1, 1) := by decide +kernel
theorem dX11_isNear_17 : decode cX11_isNear 17 = .ok (.bipush 10, 2) := by decide +kernel
theorem dX11_isNear_19 : decode cX11_isNear 19 = .ok (.idiv, 1) := by decide +kernel
theorem dX11_isNear_20 : decode cX11_isNear 20 = .ok (.isub, 1) := by decide +kernel
theorem dX11_isNear_21 : decode cX11_isNear 21 = .ok (.invokestatic 135, 3) := by decide +kernel
theorem dX11_isNear_24 : decode cX11_isNear 24 = .ok (.iadd, 1) := by decide +kernel
theorem dX11_isNear_25 : decode cX11_isNear 25 = .ok (.iconst 1, 1) := by decide +kernel
theorem dX11_isNear_26 : decode cX11_isNear 26 = .ok (.if_icmp .gt 7, 3) := by decide +kernel
theorem dX11_isNear_29 : decode cX11_isNear 29 = .ok (.iconst 1, 1) := by decide +kernel
theorem dX11_isNear_30 : decode cX11_isNear 30 = .ok (.goto 4, 3) := by decide +kernel
theorem dX11_isNear_33 : decode cX11_isNear 33 = .ok (.iconst 0, 1) := by decide +kernel
theorem dX11_isNear_34 : decode cX11_isNear 34 = .ok (.ireturn, 1) := by decide +kernel
theorem dX11_peopleIn_0 : decode cX11_peopleIn 0 = .ok (.iconst 0, 1) := by decide +kernel
theorem dX11_peopleIn_1 : decode cX11_peopleIn 1 = .ok (.istore_n 3, 1) := by decide +kernel
theorem dX11_peopleIn_2 : decode cX11_peopleIn 2 = .ok (.iconst 0, 1) := by decide +kernel
theorem dX11_peopleIn_3 : decode cX11_peopleIn 3 = .ok (.istore 4, 2) := by decide +kernel
theorem dX11_peopleIn_5 : decode cX11_peopleIn 5 = .ok (.iload 4, 2) := by decide +kernel
theorem dX11_peopleIn_7 : decode cX11_peopleIn 7 = .ok (.aload_n 0, 1) := by decide +kernel
theorem dX11_peopleIn_8 : decode cX11_peopleIn 8 = .ok (.getfield 83, 3) := by decide +kernel
theorem dX11_peopleIn_11 : decode cX11_peopleIn 11 = .ok (.if_icmp .ge 57, 3) := by decide +kernel
theorem dX11_peopleIn_14 : decode cX11_peopleIn 14 = .ok (.iload_n 3, 1) := by decide +kernel
theorem dX11_peopleIn_15 : decode cX11_peopleIn 15 = .ok (.aload_n 1, 1) := by decide +kernel
theorem dX11_peopleIn_16 : decode cX11_peopleIn 16 = .ok (.getfield 86, 3) := by decide +kernel
theorem dX11_peopleIn_19 : decode cX11_peopleIn 19 = .ok (.iconst 4, 1) := by decide +kernel
theorem dX11_peopleIn_20 : decode cX11_peopleIn 20 = .ok (.iload 4, 2) := by decide +kernel
theorem dX11_peopleIn_22 : decode cX11_peopleIn 22 = .ok (.imul, 1) := by decide +kernel
theorem dX11_peopleIn_23 : decode cX11_peopleIn 23 = .ok (.iconst 2, 1) := by decide +kernel
theorem dX11_peopleIn_24 : decode cX11_peopleIn 24 = .ok (.iadd, 1) := by decide +kernel
theorem dX11_peopleIn_25 : decode cX11_peopleIn 25 = .ok (.iaload, 1) := by decide +kernel
theorem dX11_peopleIn_26 : decode cX11_peopleIn 26 = .ok (.iconst 2, 1) := by decide +kernel
theorem dX11_peopleIn_27 : decode cX11_peopleIn 27 = .ok (.if_icmp .ne 32, 3) := by decide +kernel
theorem dX11_peopleIn_30 : decode cX11_peopleIn 30 = .ok (.aload_n 1, 1) := by decide +kernel
theorem dX11_peopleIn_31 : decode cX11_peopleIn 31 = .ok (.getfield 86, 3) := by decide +kernel
theorem dX11_peopleIn_34 : decode cX11_peopleIn 34 = .ok (.iconst 4, 1) := by decide +kernel
theorem dX11_peopleIn_35 : decode cX11_peopleIn 35 = .ok (.iload 4, 2) := by decide +kernel
theorem dX11_peopleIn_37 : decode cX11_peopleIn 37 = .ok (.imul, 1) := by decide +kernel
theorem dX11_peopleIn_38 : decode cX11_peopleIn 38 = .ok (.iconst 3, 1) := by decide +kernel
theorem dX11_peopleIn_39 : decode cX11_peopleIn 39 = .ok (.iadd, 1) := by decide +kernel
theorem dX11_peopleIn_40 : decode cX11_peopleIn 40 = .ok (.iaload, 1) := by decide +kernel
theorem dX11_peopleIn_41 : decode cX11_peopleIn 41 = .ok (.iload_n 2, 1) := by decide +kernel
theorem dX11_peopleIn_42 : decode cX11_peopleIn 42 = .ok (.if_icmp .ne 17, 3) := by decide +kernel
theorem dX11_peopleIn_45 : decode cX11_peopleIn 45 = .ok (.aload_n 1, 1) := by decide +kernel
theorem dX11_peopleIn_46 : decode cX11_peopleIn 46 = .ok (.getfield 86, 3) := by decide +kernel
theorem dX11_peopleIn_49 : decode cX11_peopleIn 49 = .ok (.iconst 4, 1) := by decide +kernel
theorem dX11_peopleIn_50 : decode cX11_peopleIn 50 = .ok (.iload 4, 2) := by decide +kernel
theorem dX11_peopleIn_52 : decode cX11_peopleIn 52 = .ok (.imul, 1) := by decide +kernel
theorem dX11_peopleIn_53 : decode cX11_peopleIn 53 = .ok (.iconst 1, 1) := by decide +kernel
theorem dX11_peopleIn_54 : decode cX11_peopleIn 54 = .ok (.iadd, 1) := by decide +kernel
theorem dX11_peopleIn_55 : decode cX11_peopleIn 55 = .ok (.iaload, 1) := by decide +kernel
theorem dX11_peopleIn_56 : decode cX11_peopleIn 56 = .ok (.goto 4, 3) := by decide +kernel
theorem dX11_peopleIn_59 : decode cX11_peopleIn 59 = .ok (.iconst 0, 1) := by decide +kernel
theorem dX11_peopleIn_60 : decode cX11_peopleIn 60 = .ok (.iadd, 1) := by decide +kernel
theorem dX11_peopleIn_61 : decode cX11_peopleIn 61 = .ok (.istore_n 3, 1) := by decide +kernel
theorem dX11_peopleIn_62 : decode cX11_peopleIn 62 = .ok (.iinc 4 1, 3) := by decide +kernel
theorem dX11_peopleIn_65 : decode cX11_peopleIn 65 = .ok (.goto (-60), 3) := by decide +kernel
theorem dX11_peopleIn_68 : decode cX11_peopleIn 68 = .ok (.iload_n 3, 1) := by decide +kernel
theorem dX11_peopleIn_69 : decode cX11_peopleIn 69 = .ok (.ireturn, 1) := by decide +kernel
theorem dX11_hasRoom_0 : decode cX11_hasRoom 0 = .ok (.aload_n 1, 1) := by decide +kernel
theorem dX11_hasRoom_1 : decode cX11_hasRoom 1 = .ok (.getfield 80, 3) := by decide +kernel
theorem dX11_hasRoom_4 : decode cX11_hasRoom 4 = .ok (.iconst 2, 1) := by decide +kernel
theorem dX11_hasRoom_5 : decode cX11_hasRoom 5 = .ok (.iload_n 2, 1) := by decide +kernel
theorem dX11_hasRoom_6 : decode cX11_hasRoom 6 = .ok (.imul, 1) := by decide +kernel
theorem dX11_hasRoom_7 : decode cX11_hasRoom 7 = .ok (.iconst 1, 1) := by decide +kernel
theorem dX11_hasRoom_8 : decode cX11_hasRoom 8 = .ok (.iadd, 1) := by decide +kernel
theorem dX11_hasRoom_9 : decode cX11_hasRoom 9 = .ok (.iaload, 1) := by decide +kernel
theorem dX11_hasRoom_10 : decode cX11_hasRoom 10 = .ok (.aload_n 0, 1) := by decide +kernel
theorem dX11_hasRoom_11 : decode cX11_hasRoom 11 = .ok (.aload_n 1, 1) := by decide +kernel
theorem dX11_hasRoom_12 : decode cX11_hasRoom 12 = .ok (.iload_n 2, 1) := by decide +kernel
theorem dX11_hasRoom_13 : decode cX11_hasRoom 13 = .ok (.invokevirtual 138, 3) := by decide +kernel
theorem dX11_hasRoom_16 : decode cX11_hasRoom 16 = .ok (.isub, 1) := by decide +kernel
theorem dX11_hasRoom_17 : decode cX11_hasRoom 17 = .ok (.iload_n 3, 1) := by decide +kernel
theorem dX11_hasRoom_18 : decode cX11_hasRoom 18 = .ok (.if_icmp .lt 7, 3) := by decide +kernel
theorem dX11_hasRoom_21 : decode cX11_hasRoom 21 = .ok (.iconst 1, 1) := by decide +kernel
theorem dX11_hasRoom_22 : decode cX11_hasRoom 22 = .ok (.goto 4, 3) := by decide +kernel
theorem dX11_hasRoom_25 : decode cX11_hasRoom 25 = .ok (.iconst 0, 1) := by decide +kernel
theorem dX11_hasRoom_26 : decode cX11_hasRoom 26 = .ok (.ireturn, 1) := by decide +kernel
theorem dX11_refugeFor_0 : decode cX11_refugeFor 0 = .ok (.iconst (-1), 1) := by decide +kernel
theorem dX11_refugeFor_1 : decode cX11_refugeFor 1 = .ok (.istore_n 3, 1) := by decide +kernel
theorem dX11_refugeFor_2 : decode cX11_refugeFor 2 = .ok (.iconst (-1), 1) := by decide +kernel
theorem dX11_refugeFor_3 : decode cX11_refugeFor 3 = .ok (.istore 4, 2) := by decide +kernel
theorem dX11_refugeFor_5 : decode cX11_refugeFor 5 = .ok (.iconst 0, 1) := by decide +kernel
theorem dX11_refugeFor_6 : decode cX11_refugeFor 6 = .ok (.istore 5, 2) := by decide +kernel
theorem dX11_refugeFor_8 : decode cX11_refugeFor 8 = .ok (.iload 5, 2) := by decide +kernel
theorem dX11_refugeFor_10 : decode cX11_refugeFor 10 = .ok (.aload_n 0, 1) := by decide +kernel
theorem dX11_refugeFor_11 : decode cX11_refugeFor 11 = .ok (.getfield 77, 3) := by decide +kernel
theorem dX11_refugeFor_14 : decode cX11_refugeFor 14 = .ok (.if_icmp .ge 84, 3) := by decide +kernel
theorem dX11_refugeFor_17 : decode cX11_refugeFor 17 = .ok (.aload_n 0, 1) := by decide +kernel
theorem dX11_refugeFor_18 : decode cX11_refugeFor 18 = .ok (.aload_n 1, 1) := by decide +kernel
theorem dX11_refugeFor_19 : decode cX11_refugeFor 19 = .ok (.iload 5, 2) := by decide +kernel
theorem dX11_refugeFor_21 : decode cX11_refugeFor 21 = .ok (.aload_n 1, 1) := by decide +kernel
theorem dX11_refugeFor_22 : decode cX11_refugeFor 22 = .ok (.getfield 86, 3) := by decide +kernel
theorem dX11_refugeFor_25 : decode cX11_refugeFor 25 = .ok (.iconst 4, 1) := by decide +kernel
theorem dX11_refugeFor_26 : decode cX11_refugeFor 26 = .ok (.iload_n 2, 1) := by decide +kernel
theorem dX11_refugeFor_27 : decode cX11_refugeFor 27 = .ok (.imul, 1) := by decide +kernel
theorem dX11_refugeFor_28 : decode cX11_refugeFor 28 = .ok (.iconst 1, 1) := by decide +kernel
theorem dX11_refugeFor_29 : decode cX11_refugeFor 29 = .ok (.iadd, 1) := by decide +kernel
theorem dX11_refugeFor_30 : decode cX11_refugeFor 30 = .ok (.iaload, 1) := by decide +kernel
theorem dX11_refugeFor_31 : decode cX11_refugeFor 31 = .ok (.invokevirtual 142, 3) := by decide +kernel
theorem dX11_refugeFor_34 : decode cX11_refugeFor 34 = .ok (.ifCond .ne 6, 3) := by decide +kernel
theorem dX11_refugeFor_37 : decode cX11_refugeFor 37 = .ok (.goto 55, 3) := by decide +kernel
theorem dX11_refugeFor_40 : decode cX11_refugeFor 40 = .ok (.aload_n 0, 1) := by decide +kernel
theorem dX11_refugeFor_41 : decode cX11_refugeFor 41 = .ok (.aload_n 1, 1) := by decide +kernel
theorem dX11_refugeFor_42 : decode cX11_refugeFor 42 = .ok (.aload_n 1, 1) := by decide +kernel
theorem dX11_refugeFor_43 : decode cX11_refugeFor 43 = .ok (.getfield 86, 3) := by decide +kernel
theorem dX11_refugeFor_46 : decode cX11_refugeFor 46 = .ok (.iconst 4, 1) := by decide +kernel
theorem dX11_refugeFor_47 : decode cX11_refugeFor 47 = .ok (.iload_n 2, 1) := by decide +kernel
theorem dX11_refugeFor_48 : decode cX11_refugeFor 48 = .ok (.imul, 1) := by decide +kernel
theorem dX11_refugeFor_49 : decode cX11_refugeFor 49 = .ok (.iaload, 1) := by decide +kernel
theorem dX11_refugeFor_50 : decode cX11_refugeFor 50 = .ok (.aload_n 1, 1) := by decide +kernel
theorem dX11_refugeFor_51 : decode cX11_refugeFor 51 = .ok (.getfield 80, 3) := by decide +kernel
theorem dX11_refugeFor_54 : decode cX11_refugeFor 54 = .ok (.iconst 2, 1) := by decide +kernel
theorem dX11_refugeFor_55 : decode cX11_refugeFor 55 = .ok (.iload 5, 2) := by decide +kernel
theorem dX11_refugeFor_57 : decode cX11_refugeFor 57 = .ok (.imul, 1) := by decide +kernel
theorem dX11_refugeFor_58 : decode cX11_refugeFor 58 = .ok (.iaload, 1) := by decide +kernel
theorem dX11_refugeFor_59 : decode cX11_refugeFor 59 = .ok (.invokevirtual 125, 3) := by decide +kernel
theorem dX11_refugeFor_62 : decode cX11_refugeFor 62 = .ok (.istore 6, 2) := by decide +kernel
theorem dX11_refugeFor_64 : decode cX11_refugeFor 64 = .ok (.iload 6, 2) := by decide +kernel
theorem dX11_refugeFor_66 : decode cX11_refugeFor 66 = .ok (.iconst (-1), 1) := by decide +kernel
theorem dX11_refugeFor_67 : decode cX11_refugeFor 67 = .ok (.if_icmp .eq 25, 3) := by decide +kernel
theorem dX11_refugeFor_70 : decode cX11_refugeFor 70 = .ok (.iload_n 3, 1) := by decide +kernel
theorem dX11_refugeFor_71 : decode cX11_refugeFor 71 = .ok (.iconst (-1), 1) := by decide +kernel
theorem dX11_refugeFor_72 : decode cX11_refugeFor 72 = .ok (.if_icmp .eq 13, 3) := by decide +kernel
theorem dX11_refugeFor_75 : decode cX11_refugeFor 75 = .ok (.iload 6, 2) := by decide +kernel
theorem dX11_refugeFor_77 : decode cX11_refugeFor 77 = .ok (.iload 4, 2) := by decide +kernel
theorem dX11_refugeFor_79 : decode cX11_refugeFor 79 = .ok (.if_icmp .lt 6, 3) := by decide +kernel
theorem dX11_refugeFor_82 : decode cX11_refugeFor 82 = .ok (.goto 10, 3) := by decide +kernel
theorem dX11_refugeFor_85 : decode cX11_refugeFor 85 = .ok (.iload 5, 2) := by decide +kernel
theorem dX11_refugeFor_87 : decode cX11_refugeFor 87 = .ok (.istore_n 3, 1) := by decide +kernel
theorem dX11_refugeFor_88 : decode cX11_refugeFor 88 = .ok (.iload 6, 2) := by decide +kernel
theorem dX11_refugeFor_90 : decode cX11_refugeFor 90 = .ok (.istore 4, 2) := by decide +kernel
theorem dX11_refugeFor_92 : decode cX11_refugeFor 92 = .ok (.iinc 5 1, 3) := by decide +kernel
theorem dX11_refugeFor_95 : decode cX11_refugeFor 95 = .ok (.goto (-87), 3) := by decide +kernel
theorem dX11_refugeFor_98 : decode cX11_refugeFor 98 = .ok (.iload_n 3, 1) := by decide +kernel
theorem dX11_refugeFor_99 : decode cX11_refugeFor 99 = .ok (.ireturn, 1) := by decide +kernel
theorem dX11_flee_0 : decode cX11_flee 0 = .ok (.aload_n 0, 1) := by decide +kernel
theorem dX11_flee_1 : decode cX11_flee 1 = .ok (.aload_n 1, 1) := by decide +kernel
theorem dX11_flee_2 : decode cX11_flee 2 = .ok (.iload_n 2, 1) := by decide +kernel
theorem dX11_flee_3 : decode cX11_flee 3 = .ok (.invokevirtual 146, 3) := by decide +kernel
theorem dX11_flee_6 : decode cX11_flee 6 = .ok (.istore_n 3, 1) := by decide +kernel
theorem dX11_flee_7 : decode cX11_flee 7 = .ok (.iload_n 3, 1) := by decide +kernel
theorem dX11_flee_8 : decode cX11_flee 8 = .ok (.iconst (-1), 1) := by decide +kernel
theorem dX11_flee_9 : decode cX11_flee 9 = .ok (.if_icmp .eq 32, 3) := by decide +kernel
theorem dX11_flee_12 : decode cX11_flee 12 = .ok (.aload_n 1, 1) := by decide +kernel
theorem dX11_flee_13 : decode cX11_flee 13 = .ok (.getfield 86, 3) := by decide +kernel
theorem dX11_flee_16 : decode cX11_flee 16 = .ok (.iconst 4, 1) := by decide +kernel
theorem dX11_flee_17 : decode cX11_flee 17 = .ok (.iload_n 2, 1) := by decide +kernel
theorem dX11_flee_18 : decode cX11_flee 18 = .ok (.imul, 1) := by decide +kernel
theorem dX11_flee_19 : decode cX11_flee 19 = .ok (.aload_n 0, 1) := by decide +kernel
theorem dX11_flee_20 : decode cX11_flee 20 = .ok (.aload_n 1, 1) := by decide +kernel
theorem dX11_flee_21 : decode cX11_flee 21 = .ok (.aload_n 1, 1) := by decide +kernel
theorem dX11_flee_22 : decode cX11_flee 22 = .ok (.getfield 86, 3) := by decide +kernel
theorem dX11_flee_25 : decode cX11_flee 25 = .ok (.iconst 4, 1) := by decide +kernel
theorem dX11_flee_26 : decode cX11_flee 26 = .ok (.iload_n 2, 1) := by decide +kernel
theorem dX11_flee_27 : decode cX11_flee 27 = .ok (.imul, 1) := by decide +kernel
theorem dX11_flee_28 : decode cX11_flee 28 = .ok (.iaload, 1) := by decide +kernel
theorem dX11_flee_29 : decode cX11_flee 29 = .ok (.aload_n 1, 1) := by decide +kernel
theorem dX11_flee_30 : decode cX11_flee 30 = .ok (.getfield 80, 3) := by decide +kernel
theorem dX11_flee_33 : decode cX11_flee 33 = .ok (.iconst 2, 1) := by decide +kernel
theorem dX11_flee_34 : decode cX11_flee 34 = .ok (.iload_n 3, 1) := by decide +kernel
theorem dX11_flee_35 : decode cX11_flee 35 = .ok (.imul, 1) := by decide +kernel
theorem dX11_flee_36 : decode cX11_flee 36 = .ok (.iaload, 1) := by decide +kernel
theorem dX11_flee_37 : decode cX11_flee 37 = .ok (.invokevirtual 129, 3) := by decide +kernel
theorem dX11_flee_40 : decode cX11_flee 40 = .ok (.iastore, 1) := by decide +kernel
theorem dX11_flee_41 : decode cX11_flee 41 = .ok (.aload_n 1, 1) := by decide +kernel
theorem dX11_flee_42 : decode cX11_flee 42 = .ok (.getfield 80, 3) := by decide +kernel
theorem dX11_flee_45 : decode cX11_flee 45 = .ok (.iconst 2, 1) := by decide +kernel
theorem dX11_flee_46 : decode cX11_flee 46 = .ok (.aload_n 0, 1) := by decide +kernel
theorem dX11_flee_47 : decode cX11_flee 47 = .ok (.getfield 77, 3) := by decide +kernel
theorem dX11_flee_50 : decode cX11_flee 50 = .ok (.aload_n 1, 1) := by decide +kernel
theorem dX11_flee_51 : decode cX11_flee 51 = .ok (.getfield 86, 3) := by decide +kernel
theorem dX11_flee_54 : decode cX11_flee 54 = .ok (.iconst 4, 1) := by decide +kernel
theorem dX11_flee_55 : decode cX11_flee 55 = .ok (.iload_n 2, 1) := by decide +kernel
theorem dX11_flee_56 : decode cX11_flee 56 = .ok (.imul, 1) := by decide +kernel
theorem dX11_flee_57 : decode cX11_flee 57 = .ok (.iaload, 1) := by decide +kernel
theorem dX11_flee_58 : decode cX11_flee 58 = .ok (.invokestatic 67, 3) := by decide +kernel
theorem dX11_flee_61 : decode cX11_flee 61 = .ok (.istore 4, 2) := by decide +kernel
theorem dX11_flee_63 : decode cX11_flee 63 = .ok (.iload 4, 2) := by decide +kernel
theorem dX11_flee_65 : decode cX11_flee 65 = .ok (.iconst (-1), 1) := by decide +kernel
theorem dX11_flee_66 : decode cX11_flee 66 = .ok (.if_icmp .eq 23, 3) := by decide +kernel
theorem dX11_flee_69 : decode cX11_flee 69 = .ok (.aload_n 0, 1) := by decide +kernel
theorem dX11_flee_70 : decode cX11_flee 70 = .ok (.aload_n 1, 1) := by decide +kernel
theorem dX11_flee_71 : decode cX11_flee 71 = .ok (.iload 4, 2) := by decide +kernel
theorem dX11_flee_73 : decode cX11_flee 73 = .ok (.aload_n 1, 1) := by decide +kernel
theorem dX11_flee_74 : decode cX11_flee 74 = .ok (.getfield 86, 3) := by decide +kernel
theorem dX11_flee_77 : decode cX11_flee 77 = .ok (.iconst 4, 1) := by decide +kernel
theorem dX11_flee_78 : decode cX11_flee 78 = .ok (.iload_n 2, 1) := by decide +kernel
theorem dX11_flee_79 : decode cX11_flee 79 = .ok (.imul, 1) := by decide +kernel
theorem dX11_flee_80 : decode cX11_flee 80 = .ok (.iconst 1, 1) := by decide +kernel
theorem dX11_flee_81 : decode cX11_flee 81 = .ok (.iadd, 1) := by decide +kernel
theorem dX11_flee_82 : decode cX11_flee 82 = .ok (.iaload, 1) := by decide +kernel
theorem dX11_flee_83 : decode cX11_flee 83 = .ok (.invokevirtual 142, 3) := by decide +kernel
theorem dX11_flee_86 : decode cX11_flee 86 = .ok (.ifCond .ne 4, 3) := by decide +kernel
theorem dX11_flee_89 : decode cX11_flee 89 = .ok (.return_, 1) := by decide +kernel
theorem dX11_flee_90 : decode cX11_flee 90 = .ok (.aload_n 1, 1) := by decide +kernel
theorem dX11_flee_91 : decode cX11_flee 91 = .ok (.getfield 86, 3) := by decide +kernel
theorem dX11_flee_94 : decode cX11_flee 94 = .ok (.iconst 4, 1) := by decide +kernel
theorem dX11_flee_95 : decode cX11_flee 95 = .ok (.iload_n 2, 1) := by decide +kernel
theorem dX11_flee_96 : decode cX11_flee 96 = .ok (.imul, 1) := by decide +kernel
theorem dX11_flee_97 : decode cX11_flee 97 = .ok (.iconst 2, 1) := by decide +kernel
theorem dX11_flee_98 : decode cX11_flee 98 = .ok (.iadd, 1) := by decide +kernel
theorem dX11_flee_99 : decode cX11_flee 99 = .ok (.iconst 2, 1) := by decide +kernel
theorem dX11_flee_100 : decode cX11_flee 100 = .ok (.iastore, 1) := by decide +kernel
theorem dX11_flee_101 : decode cX11_flee 101 = .ok (.aload_n 1, 1) := by decide +kernel
theorem dX11_flee_102 : decode cX11_flee 102 = .ok (.getfield 86, 3) := by decide +kernel
theorem dX11_flee_105 : decode cX11_flee 105 = .ok (.iconst 4, 1) := by decide +kernel
theorem dX11_flee_106 : decode cX11_flee 106 = .ok (.iload_n 2, 1) := by decide +kernel
theorem dX11_flee_107 : decode cX11_flee 107 = .ok (.imul, 1) := by decide +kernel
theorem dX11_flee_108 : decode cX11_flee 108 = .ok (.iconst 3, 1) := by decide +kernel
theorem dX11_flee_109 : decode cX11_flee 109 = .ok (.iadd, 1) := by decide +kernel
theorem dX11_flee_110 : decode cX11_flee 110 = .ok (.iload 4, 2) := by decide +kernel
theorem dX11_flee_112 : decode cX11_flee 112 = .ok (.iastore, 1) := by decide +kernel
theorem dX11_flee_113 : decode cX11_flee 113 = .ok (.return_, 1) := by decide +kernel
theorem dX11_drown_0 : decode cX11_drown 0 = .ok (.aload_n 0, 1) := by decide +kernel
theorem dX11_drown_1 : decode cX11_drown 1 = .ok (.getfield 86, 3) := by decide +kernel
theorem dX11_drown_4 : decode cX11_drown 4 = .ok (.iconst 4, 1) := by decide +kernel
theorem dX11_drown_5 : decode cX11_drown 5 = .ok (.iload_n 1, 1) := by decide +kernel
theorem dX11_drown_6 : decode cX11_drown 6 = .ok (.imul, 1) := by decide +kernel
theorem dX11_drown_7 : decode cX11_drown 7 = .ok (.iconst 2, 1) := by decide +kernel
theorem dX11_drown_8 : decode cX11_drown 8 = .ok (.iadd, 1) := by decide +kernel
theorem dX11_drown_9 : decode cX11_drown 9 = .ok (.iaload, 1) := by decide +kernel
theorem dX11_drown_10 : decode cX11_drown 10 = .ok (.iconst 1, 1) := by decide +kernel
theorem dX11_drown_11 : decode cX11_drown 11 = .ok (.if_icmp .gt 20, 3) := by decide +kernel
theorem dX11_drown_14 : decode cX11_drown 14 = .ok (.aload_n 0, 1) := by decide +kernel
theorem dX11_drown_15 : decode cX11_drown 15 = .ok (.getfield 110, 3) := by decide +kernel
theorem dX11_drown_18 : decode cX11_drown 18 = .ok (.aload_n 0, 1) := by decide +kernel
theorem dX11_drown_19 : decode cX11_drown 19 = .ok (.getfield 86, 3) := by decide +kernel
theorem dX11_drown_22 : decode cX11_drown 22 = .ok (.iconst 4, 1) := by decide +kernel
theorem dX11_drown_23 : decode cX11_drown 23 = .ok (.iload_n 1, 1) := by decide +kernel
theorem dX11_drown_24 : decode cX11_drown 24 = .ok (.imul, 1) := by decide +kernel
theorem dX11_drown_25 : decode cX11_drown 25 = .ok (.iaload, 1) := by decide +kernel
theorem dX11_drown_26 : decode cX11_drown 26 = .ok (.iaload, 1) := by decide +kernel
theorem dX11_drown_27 : decode cX11_drown 27 = .ok (.iconst 5, 1) := by decide +kernel
theorem dX11_drown_28 : decode cX11_drown 28 = .ok (.if_icmp .ge 4, 3) := by decide +kernel
theorem dX11_drown_31 : decode cX11_drown 31 = .ok (.return_, 1) := by decide +kernel
theorem dX11_drown_32 : decode cX11_drown 32 = .ok (.aload_n 0, 1) := by decide +kernel
theorem dX11_drown_33 : decode cX11_drown 33 = .ok (.getfield 86, 3) := by decide +kernel
theorem dX11_drown_36 : decode cX11_drown 36 = .ok (.iconst 4, 1) := by decide +kernel
theorem dX11_drown_37 : decode cX11_drown 37 = .ok (.iload_n 1, 1) := by decide +kernel
theorem dX11_drown_38 : decode cX11_drown 38 = .ok (.imul, 1) := by decide +kernel
theorem dX11_drown_39 : decode cX11_drown 39 = .ok (.iconst 1, 1) := by decide +kernel
theorem dX11_drown_40 : decode cX11_drown 40 = .ok (.iadd, 1) := by decide +kernel
theorem dX11_drown_41 : decode cX11_drown 41 = .ok (.dup2, 1) := by decide +kernel
theorem dX11_drown_42 : decode cX11_drown 42 = .ok (.iaload, 1) := by decide +kernel
theorem dX11_drown_43 : decode cX11_drown 43 = .ok (.iconst 1, 1) := by decide +kernel
theorem dX11_drown_44 : decode cX11_drown 44 = .ok (.isub, 1) := by decide +kernel
theorem dX11_drown_45 : decode cX11_drown 45 = .ok (.iastore, 1) := by decide +kernel
theorem dX11_drown_46 : decode cX11_drown 46 = .ok (.aload_n 0, 1) := by decide +kernel
theorem dX11_drown_47 : decode cX11_drown 47 = .ok (.dup, 1) := by decide +kernel
theorem dX11_drown_48 : decode cX11_drown 48 = .ok (.getfield 149, 3) := by decide +kernel
theorem dX11_drown_51 : decode cX11_drown 51 = .ok (.iconst 1, 1) := by decide +kernel
theorem dX11_drown_52 : decode cX11_drown 52 = .ok (.iadd, 1) := by decide +kernel
theorem dX11_drown_53 : decode cX11_drown 53 = .ok (.putfield 149, 3) := by decide +kernel
theorem dX11_drown_56 : decode cX11_drown 56 = .ok (.aload_n 0, 1) := by decide +kernel
theorem dX11_drown_57 : decode cX11_drown 57 = .ok (.getfield 86, 3) := by decide +kernel
theorem dX11_drown_60 : decode cX11_drown 60 = .ok (.iconst 4, 1) := by decide +kernel
theorem dX11_drown_61 : decode cX11_drown 61 = .ok (.iload_n 1, 1) := by decide +kernel
theorem dX11_drown_62 : decode cX11_drown 62 = .ok (.imul, 1) := by decide +kernel
theorem dX11_drown_63 : decode cX11_drown 63 = .ok (.iconst 1, 1) := by decide +kernel
theorem dX11_drown_64 : decode cX11_drown 64 = .ok (.iadd, 1) := by decide +kernel
theorem dX11_drown_65 : decode cX11_drown 65 = .ok (.iaload, 1) := by decide +kernel
theorem dX11_drown_66 : decode cX11_drown 66 = .ok (.ifCond .ne 14, 3) := by decide +kernel
theorem dX11_drown_69 : decode cX11_drown 69 = .ok (.aload_n 0, 1) := by decide +kernel
theorem dX11_drown_70 : decode cX11_drown 70 = .ok (.getfield 86, 3) := by decide +kernel
theorem dX11_drown_73 : decode cX11_drown 73 = .ok (.iconst 4, 1) := by decide +kernel
theorem dX11_drown_74 : decode cX11_drown 74 = .ok (.iload_n 1, 1) := by decide +kernel
theorem dX11_drown_75 : decode cX11_drown 75 = .ok (.imul, 1) := by decide +kernel
theorem dX11_drown_76 : decode cX11_drown 76 = .ok (.iconst 2, 1) := by decide +kernel
theorem dX11_drown_77 : decode cX11_drown 77 = .ok (.iadd, 1) := by decide +kernel
theorem dX11_drown_78 : decode cX11_drown 78 = .ok (.iconst 3, 1) := by decide +kernel
theorem dX11_drown_79 : decode cX11_drown 79 = .ok (.iastore, 1) := by decide +kernel
theorem dX11_drown_80 : decode cX11_drown 80 = .ok (.return_, 1) := by decide +kernel
theorem dX11_hour_0 : decode cX11_hour 0 = .ok (.iconst 0, 1) := by decide +kernel
theorem dX11_hour_1 : decode cX11_hour 1 = .ok (.istore_n 2, 1) := by decide +kernel
theorem dX11_hour_2 : decode cX11_hour 2 = .ok (.iload_n 2, 1) := by decide +kernel
theorem dX11_hour_3 : decode cX11_hour 3 = .ok (.bipush 10, 2) := by decide +kernel
theorem dX11_hour_5 : decode cX11_hour 5 = .ok (.if_icmp .ge 27, 3) := by decide +kernel
theorem dX11_hour_8 : decode cX11_hour 8 = .ok (.aload_n 1, 1) := by decide +kernel
theorem dX11_hour_9 : decode cX11_hour 9 = .ok (.getfield 110, 3) := by decide +kernel
theorem dX11_hour_12 : decode cX11_hour 12 = .ok (.iload_n 2, 1) := by decide +kernel
theorem dX11_hour_13 : decode cX11_hour 13 = .ok (.aload_n 0, 1) := by decide +kernel
theorem dX11_hour_14 : decode cX11_hour 14 = .ok (.getfield 9, 3) := by decide +kernel
theorem dX11_hour_17 : decode cX11_hour 17 = .ok (.aload_n 1, 1) := by decide +kernel
theorem dX11_hour_18 : decode cX11_hour 18 = .ok (.getfield 152, 3) := by decide +kernel
theorem dX11_hour_21 : decode cX11_hour 21 = .ok (.bipush 12, 2) := by decide +kernel
theorem dX11_hour_23 : decode cX11_hour 23 = .ok (.irem, 1) := by decide +kernel
theorem dX11_hour_24 : decode cX11_hour 24 = .ok (.iaload, 1) := by decide +kernel
theorem dX11_hour_25 : decode cX11_hour 25 = .ok (.iastore, 1) := by decide +kernel
theorem dX11_hour_26 : decode cX11_hour 26 = .ok (.iinc 2 1, 3) := by decide +kernel
theorem dX11_hour_29 : decode cX11_hour 29 = .ok (.goto (-27), 3) := by decide +kernel
theorem dX11_hour_32 : decode cX11_hour 32 = .ok (.aload_n 0, 1) := by decide +kernel
theorem dX11_hour_33 : decode cX11_hour 33 = .ok (.aload_n 1, 1) := by decide +kernel
theorem dX11_hour_34 : decode cX11_hour 34 = .ok (.invokevirtual 155, 3) := by decide +kernel
theorem dX11_hour_37 : decode cX11_hour 37 = .ok (.iconst 0, 1) := by decide +kernel
theorem dX11_hour_38 : decode cX11_hour 38 = .ok (.istore_n 2, 1) := by decide +kernel
theorem dX11_hour_39 : decode cX11_hour 39 = .ok (.iload_n 2, 1) := by decide +kernel
theorem dX11_hour_40 : decode cX11_hour 40 = .ok (.aload_n 0, 1) := by decide +kernel
theorem dX11_hour_41 : decode cX11_hour 41 = .ok (.getfield 61, 3) := by decide +kernel
theorem dX11_hour_44 : decode cX11_hour 44 = .ok (.if_icmp .ge 15, 3) := by decide +kernel
theorem dX11_hour_47 : decode cX11_hour 47 = .ok (.aload_n 0, 1) := by decide +kernel
theorem dX11_hour_48 : decode cX11_hour 48 = .ok (.aload_n 1, 1) := by decide +kernel
theorem dX11_hour_49 : decode cX11_hour 49 = .ok (.iload_n 2, 1) := by decide +kernel
theorem dX11_hour_50 : decode cX11_hour 50 = .ok (.invokevirtual 159, 3) := by decide +kernel
theorem dX11_hour_53 : decode cX11_hour 53 = .ok (.iinc 2 1, 3) := by decide +kernel
theorem dX11_hour_56 : decode cX11_hour 56 = .ok (.goto (-17), 3) := by decide +kernel
theorem dX11_hour_59 : decode cX11_hour 59 = .ok (.aload_n 0, 1) := by decide +kernel
theorem dX11_hour_60 : decode cX11_hour 60 = .ok (.aload_n 1, 1) := by decide +kernel
theorem dX11_hour_61 : decode cX11_hour 61 = .ok (.invokevirtual 162, 3) := by decide +kernel
theorem dX11_hour_64 : decode cX11_hour 64 = .ok (.ifCond .le 7, 3) := by decide +kernel
theorem dX11_hour_67 : decode cX11_hour 67 = .ok (.iconst 1, 1) := by decide +kernel
theorem dX11_hour_68 : decode cX11_hour 68 = .ok (.goto 4, 3) := by decide +kernel
theorem dX11_hour_71 : decode cX11_hour 71 = .ok (.iconst 0, 1) := by decide +kernel
theorem dX11_hour_72 : decode cX11_hour 72 = .ok (.istore_n 2, 1) := by decide +kernel
theorem dX11_hour_73 : decode cX11_hour 73 = .ok (.iconst 0, 1) := by decide +kernel
theorem dX11_hour_74 : decode cX11_hour 74 = .ok (.istore_n 3, 1) := by decide +kernel
theorem dX11_hour_75 : decode cX11_hour 75 = .ok (.iload_n 3, 1) := by decide +kernel
theorem dX11_hour_76 : decode cX11_hour 76 = .ok (.aload_n 0, 1) := by decide +kernel
theorem dX11_hour_77 : decode cX11_hour 77 = .ok (.getfield 89, 3) := by decide +kernel
theorem dX11_hour_80 : decode cX11_hour 80 = .ok (.if_icmp .ge 19, 3) := by decide +kernel
theorem dX11_hour_83 : decode cX11_hour 83 = .ok (.iload_n 2, 1) := by decide +kernel
theorem dX11_hour_84 : decode cX11_hour 84 = .ok (.ifCond .eq 15, 3) := by decide +kernel
theorem dX11_hour_87 : decode cX11_hour 87 = .ok (.aload_n 0, 1) := by decide +kernel
theorem dX11_hour_88 : decode cX11_hour 88 = .ok (.aload_n 1, 1) := by decide +kernel
theorem dX11_hour_89 : decode cX11_hour 89 = .ok (.iload_n 3, 1) := by decide +kernel
theorem dX11_hour_90 : decode cX11_hour 90 = .ok (.invokevirtual 166, 3) := by decide +kernel
theorem dX11_hour_93 : decode cX11_hour 93 = .ok (.iinc 3 1, 3) := by decide +kernel
theorem dX11_hour_96 : decode cX11_hour 96 = .ok (.goto (-21), 3) := by decide +kernel
theorem dX11_hour_99 : decode cX11_hour 99 = .ok (.iconst 0, 1) := by decide +kernel
theorem dX11_hour_100 : decode cX11_hour 100 = .ok (.istore_n 3, 1) := by decide +kernel
theorem dX11_hour_101 : decode cX11_hour 101 = .ok (.iload_n 3, 1) := by decide +kernel
theorem dX11_hour_102 : decode cX11_hour 102 = .ok (.aload_n 0, 1) := by decide +kernel
theorem dX11_hour_103 : decode cX11_hour 103 = .ok (.getfield 83, 3) := by decide +kernel
theorem dX11_hour_106 : decode cX11_hour 106 = .ok (.if_icmp .ge 29, 3) := by decide +kernel
theorem dX11_hour_109 : decode cX11_hour 109 = .ok (.aload_n 1, 1) := by decide +kernel
theorem dX11_hour_110 : decode cX11_hour 110 = .ok (.getfield 86, 3) := by decide +kernel
theorem dX11_hour_113 : decode cX11_hour 113 = .ok (.iconst 4, 1) := by decide +kernel
theorem dX11_hour_114 : decode cX11_hour 114 = .ok (.iload_n 3, 1) := by decide +kernel
theorem dX11_hour_115 : decode cX11_hour 115 = .ok (.imul, 1) := by decide +kernel
theorem dX11_hour_116 : decode cX11_hour 116 = .ok (.iconst 2, 1) := by decide +kernel
theorem dX11_hour_117 : decode cX11_hour 117 = .ok (.iadd, 1) := by decide +kernel
theorem dX11_hour_118 : decode cX11_hour 118 = .ok (.iaload, 1) := by decide +kernel
theorem dX11_hour_119 : decode cX11_hour 119 = .ok (.iconst 1, 1) := by decide +kernel
theorem dX11_hour_120 : decode cX11_hour 120 = .ok (.if_icmp .ne 9, 3) := by decide +kernel
theorem dX11_hour_123 : decode cX11_hour 123 = .ok (.aload_n 0, 1) := by decide +kernel
theorem dX11_hour_124 : decode cX11_hour 124 = .ok (.aload_n 1, 1) := by decide +kernel
theorem dX11_hour_125 : decode cX11_hour 125 = .ok (.iload_n 3, 1) := by decide +kernel
theorem dX11_hour_126 : decode cX11_hour 126 = .ok (.invokevirtual 169, 3) := by decide +kernel
theorem dX11_hour_129 : decode cX11_hour 129 = .ok (.iinc 3 1, 3) := by decide +kernel
theorem dX11_hour_132 : decode cX11_hour 132 = .ok (.goto (-31), 3) := by decide +kernel
theorem dX11_hour_135 : decode cX11_hour 135 = .ok (.iconst 0, 1) := by decide +kernel
theorem dX11_hour_136 : decode cX11_hour 136 = .ok (.istore_n 3, 1) := by decide +kernel
theorem dX11_hour_137 : decode cX11_hour 137 = .ok (.iload_n 3, 1) := by decide +kernel
theorem dX11_hour_138 : decode cX11_hour 138 = .ok (.aload_n 0, 1) := by decide +kernel
theorem dX11_hour_139 : decode cX11_hour 139 = .ok (.getfield 83, 3) := by decide +kernel
theorem dX11_hour_142 : decode cX11_hour 142 = .ok (.if_icmp .ge 14, 3) := by decide +kernel
theorem dX11_hour_145 : decode cX11_hour 145 = .ok (.aload_n 1, 1) := by decide +kernel
theorem dX11_hour_146 : decode cX11_hour 146 = .ok (.iload_n 3, 1) := by decide +kernel
theorem dX11_hour_147 : decode cX11_hour 147 = .ok (.invokestatic 172, 3) := by decide +kernel
theorem dX11_hour_150 : decode cX11_hour 150 = .ok (.iinc 3 1, 3) := by decide +kernel
theorem dX11_hour_153 : decode cX11_hour 153 = .ok (.goto (-16), 3) := by decide +kernel
theorem dX11_hour_156 : decode cX11_hour 156 = .ok (.aload_n 1, 1) := by decide +kernel
theorem dX11_hour_157 : decode cX11_hour 157 = .ok (.dup, 1) := by decide +kernel
theorem dX11_hour_158 : decode cX11_hour 158 = .ok (.getfield 152, 3) := by decide +kernel
theorem dX11_hour_161 : decode cX11_hour 161 = .ok (.iconst 1, 1) := by decide +kernel
theorem dX11_hour_162 : decode cX11_hour 162 = .ok (.iadd, 1) := by decide +kernel
theorem dX11_hour_163 : decode cX11_hour 163 = .ok (.putfield 152, 3) := by decide +kernel
theorem dX11_hour_166 : decode cX11_hour 166 = .ok (.return_, 1) := by decide +kernel
theorem dX11_hours_0 : decode cX11_hours 0 = .ok (.iconst 0, 1) := by decide +kernel
theorem dX11_hours_1 : decode cX11_hours 1 = .ok (.istore_n 3, 1) := by decide +kernel
theorem dX11_hours_2 : decode cX11_hours 2 = .ok (.iload_n 3, 1) := by decide +kernel
theorem dX11_hours_3 : decode cX11_hours 3 = .ok (.iload_n 2, 1) := by decide +kernel
theorem dX11_hours_4 : decode cX11_hours 4 = .ok (.if_icmp .ge 14, 3) := by decide +kernel
theorem dX11_hours_7 : decode cX11_hours 7 = .ok (.aload_n 0, 1) := by decide +kernel
theorem dX11_hours_8 : decode cX11_hours 8 = .ok (.aload_n 1, 1) := by decide +kernel
theorem dX11_hours_9 : decode cX11_hours 9 = .ok (.invokevirtual 175, 3) := by decide +kernel
theorem dX11_hours_12 : decode cX11_hours 12 = .ok (.iinc 3 1, 3) := by decide +kernel
theorem dX11_hours_15 : decode cX11_hours 15 = .ok (.goto (-13), 3) := by decide +kernel
theorem dX11_hours_18 : decode cX11_hours 18 = .ok (.return_, 1) := by decide +kernel
theorem dX11_peopleAt_0 : decode cX11_peopleAt 0 = .ok (.iconst 0, 1) := by decide +kernel
theorem dX11_peopleAt_1 : decode cX11_peopleAt 1 = .ok (.istore_n 2, 1) := by decide +kernel
theorem dX11_peopleAt_2 : decode cX11_peopleAt 2 = .ok (.iconst 0, 1) := by decide +kernel
theorem dX11_peopleAt_3 : decode cX11_peopleAt 3 = .ok (.istore_n 3, 1) := by decide +kernel
theorem dX11_peopleAt_4 : decode cX11_peopleAt 4 = .ok (.iload_n 3, 1) := by decide +kernel
theorem dX11_peopleAt_5 : decode cX11_peopleAt 5 = .ok (.aload_n 0, 1) := by decide +kernel
theorem dX11_peopleAt_6 : decode cX11_peopleAt 6 = .ok (.getfield 83, 3) := by decide +kernel
theorem dX11_peopleAt_9 : decode cX11_peopleAt 9 = .ok (.if_icmp .ge 61, 3) := by decide +kernel
theorem dX11_peopleAt_12 : decode cX11_peopleAt 12 = .ok (.iload_n 2, 1) := by decide +kernel
theorem dX11_peopleAt_13 : decode cX11_peopleAt 13 = .ok (.aload_n 0, 1) := by decide +kernel
theorem dX11_peopleAt_14 : decode cX11_peopleAt 14 = .ok (.getfield 28, 3) := by decide +kernel
theorem dX11_peopleAt_17 : decode cX11_peopleAt 17 = .ok (.getfield 86, 3) := by decide +kernel
theorem dX11_peopleAt_20 : decode cX11_peopleAt 20 = .ok (.iconst 4, 1) := by decide +kernel
theorem dX11_peopleAt_21 : decode cX11_peopleAt 21 = .ok (.iload_n 3, 1) := by decide +kernel
theorem dX11_peopleAt_22 : decode cX11_peopleAt 22 = .ok (.imul, 1) := by decide +kernel
theorem dX11_peopleAt_23 : decode cX11_peopleAt 23 = .ok (.iaload, 1) := by decide +kernel
theorem dX11_peopleAt_24 : decode cX11_peopleAt 24 = .ok (.iload_n 1, 1) := by decide +kernel
theorem dX11_peopleAt_25 : decode cX11_peopleAt 25 = .ok (.if_icmp .ne 36, 3) := by decide +kernel
theorem dX11_peopleAt_28 : decode cX11_peopleAt 28 = .ok (.aload_n 0, 1) := by decide +kernel
theorem dX11_peopleAt_29 : decode cX11_peopleAt 29 = .ok (.getfield 28, 3) := by decide +kernel
theorem dX11_peopleAt_32 : decode cX11_peopleAt 32 = .ok (.getfield 86, 3) := by decide +kernel
theorem dX11_peopleAt_35 : decode cX11_peopleAt 35 = .ok (.iconst 4, 1) := by decide +kernel
theorem dX11_peopleAt_36 : decode cX11_peopleAt 36 = .ok (.iload_n 3, 1) := by decide +kernel
theorem dX11_peopleAt_37 : decode cX11_peopleAt 37 = .ok (.imul, 1) := by decide +kernel
theorem dX11_peopleAt_38 : decode cX11_peopleAt 38 = .ok (.iconst 2, 1) := by decide +kernel
theorem dX11_peopleAt_39 : decode cX11_peopleAt 39 = .ok (.iadd, 1) := by decide +kernel
theorem dX11_peopleAt_40 : decode cX11_peopleAt 40 = .ok (.iaload, 1) := by decide +kernel
theorem dX11_peopleAt_41 : decode cX11_peopleAt 41 = .ok (.iconst 2, 1) := by decide +kernel
theorem dX11_peopleAt_42 : decode cX11_peopleAt 42 = .ok (.if_icmp .ge 19, 3) := by decide +kernel
theorem dX11_peopleAt_45 : decode cX11_peopleAt 45 = .ok (.aload_n 0, 1) := by decide +kernel
theorem dX11_peopleAt_46 : decode cX11_peopleAt 46 = .ok (.getfield 28, 3) := by decide +kernel
theorem dX11_peopleAt_49 : decode cX11_peopleAt 49 = .ok (.getfield 86, 3) := by decide +kernel
theorem dX11_peopleAt_52 : decode cX11_peopleAt 52 = .ok (.iconst 4, 1) := by decide +kernel
theorem dX11_peopleAt_53 : decode cX11_peopleAt 53 = .ok (.iload_n 3, 1) := by decide +kernel
theorem dX11_peopleAt_54 : decode cX11_peopleAt 54 = .ok (.imul, 1) := by decide +kernel
theorem dX11_peopleAt_55 : decode cX11_peopleAt 55 = .ok (.iconst 1, 1) := by decide +kernel
theorem dX11_peopleAt_56 : decode cX11_peopleAt 56 = .ok (.iadd, 1) := by decide +kernel
theorem dX11_peopleAt_57 : decode cX11_peopleAt 57 = .ok (.iaload, 1) := by decide +kernel
theorem dX11_peopleAt_58 : decode cX11_peopleAt 58 = .ok (.goto 4, 3) := by decide +kernel
theorem dX11_peopleAt_61 : decode cX11_peopleAt 61 = .ok (.iconst 0, 1) := by decide +kernel
theorem dX11_peopleAt_62 : decode cX11_peopleAt 62 = .ok (.iadd, 1) := by decide +kernel
theorem dX11_peopleAt_63 : decode cX11_peopleAt 63 = .ok (.istore_n 2, 1) := by decide +kernel
theorem dX11_peopleAt_64 : decode cX11_peopleAt 64 = .ok (.iinc 3 1, 3) := by decide +kernel
theorem dX11_peopleAt_67 : decode cX11_peopleAt 67 = .ok (.goto (-63), 3) := by decide +kernel
theorem dX11_peopleAt_70 : decode cX11_peopleAt 70 = .ok (.iload_n 2, 1) := by decide +kernel
theorem dX11_peopleAt_71 : decode cX11_peopleAt 71 = .ok (.ireturn, 1) := by decide +kernel
theorem dX11_cellTold_0 : decode cX11_cellTold 0 = .ok (.bipush 6, 2) := by decide +kernel
theorem dX11_cellTold_2 : decode cX11_cellTold 2 = .ok (.newarray .int, 2) := by decide +kernel
theorem dX11_cellTold_4 : decode cX11_cellTold 4 = .ok (.dup, 1) := by decide +kernel
theorem dX11_cellTold_5 : decode cX11_cellTold 5 = .ok (.iconst 0, 1) := by decide +kernel
theorem dX11_cellTold_6 : decode cX11_cellTold 6 = .ok (.aload_n 0, 1) := by decide +kernel
theorem dX11_cellTold_7 : decode cX11_cellTold 7 = .ok (.getfield 28, 3) := by decide +kernel
theorem dX11_cellTold_10 : decode cX11_cellTold 10 = .ok (.getfield 35, 3) := by decide +kernel
theorem dX11_cellTold_13 : decode cX11_cellTold 13 = .ok (.iload_n 1, 1) := by decide +kernel
theorem dX11_cellTold_14 : decode cX11_cellTold 14 = .ok (.iaload, 1) := by decide +kernel
theorem dX11_cellTold_15 : decode cX11_cellTold 15 = .ok (.iastore, 1) := by decide +kernel
theorem dX11_cellTold_16 : decode cX11_cellTold 16 = .ok (.dup, 1) := by decide +kernel
theorem dX11_cellTold_17 : decode cX11_cellTold 17 = .ok (.iconst 1, 1) := by decide +kernel
theorem dX11_cellTold_18 : decode cX11_cellTold 18 = .ok (.aload_n 0, 1) := by decide +kernel
theorem dX11_cellTold_19 : decode cX11_cellTold 19 = .ok (.getfield 28, 3) := by decide +kernel
theorem dX11_cellTold_22 : decode cX11_cellTold 22 = .ok (.getfield 54, 3) := by decide +kernel
theorem dX11_cellTold_25 : decode cX11_cellTold 25 = .ok (.iload_n 1, 1) := by decide +kernel
theorem dX11_cellTold_26 : decode cX11_cellTold 26 = .ok (.iaload, 1) := by decide +kernel
theorem dX11_cellTold_27 : decode cX11_cellTold 27 = .ok (.iastore, 1) := by decide +kernel
theorem dX11_cellTold_28 : decode cX11_cellTold 28 = .ok (.dup, 1) := by decide +kernel
theorem dX11_cellTold_29 : decode cX11_cellTold 29 = .ok (.iconst 2, 1) := by decide +kernel
theorem dX11_cellTold_30 : decode cX11_cellTold 30 = .ok (.aload_n 0, 1) := by decide +kernel
theorem dX11_cellTold_31 : decode cX11_cellTold 31 = .ok (.getfield 28, 3) := by decide +kernel
theorem dX11_cellTold_34 : decode cX11_cellTold 34 = .ok (.getfield 110, 3) := by decide +kernel
theorem dX11_cellTold_37 : decode cX11_cellTold 37 = .ok (.iload_n 1, 1) := by decide +kernel
theorem dX11_cellTold_38 : decode cX11_cellTold 38 = .ok (.iaload, 1) := by decide +kernel
theorem dX11_cellTold_39 : decode cX11_cellTold 39 = .ok (.iastore, 1) := by decide +kernel
theorem dX11_cellTold_40 : decode cX11_cellTold 40 = .ok (.dup, 1) := by decide +kernel
theorem dX11_cellTold_41 : decode cX11_cellTold 41 = .ok (.iconst 3, 1) := by decide +kernel
theorem dX11_cellTold_42 : decode cX11_cellTold 42 = .ok (.aload_n 0, 1) := by decide +kernel
theorem dX11_cellTold_43 : decode cX11_cellTold 43 = .ok (.getfield 28, 3) := by decide +kernel
theorem dX11_cellTold_46 : decode cX11_cellTold 46 = .ok (.iload_n 1, 1) := by decide +kernel
theorem dX11_cellTold_47 : decode cX11_cellTold 47 = .ok (.invokevirtual 117, 3) := by decide +kernel
theorem dX11_cellTold_50 : decode cX11_cellTold 50 = .ok (.iastore, 1) := by decide +kernel
theorem dX11_cellTold_51 : decode cX11_cellTold 51 = .ok (.dup, 1) := by decide +kernel
theorem dX11_cellTold_52 : decode cX11_cellTold 52 = .ok (.iconst 4, 1) := by decide +kernel
theorem dX11_cellTold_53 : decode cX11_cellTold 53 = .ok (.aload_n 0, 1) := by decide +kernel
theorem dX11_cellTold_54 : decode cX11_cellTold 54 = .ok (.iload_n 1, 1) := by decide +kernel
theorem dX11_cellTold_55 : decode cX11_cellTold 55 = .ok (.invokevirtual 177, 3) := by decide +kernel
theorem dX11_cellTold_58 : decode cX11_cellTold 58 = .ok (.iastore, 1) := by decide +kernel
theorem dX11_cellTold_59 : decode cX11_cellTold 59 = .ok (.dup, 1) := by decide +kernel
theorem dX11_cellTold_60 : decode cX11_cellTold 60 = .ok (.iconst 5, 1) := by decide +kernel
theorem dX11_cellTold_61 : decode cX11_cellTold 61 = .ok (.aload_n 0, 1) := by decide +kernel
theorem dX11_cellTold_62 : decode cX11_cellTold 62 = .ok (.getfield 28, 3) := by decide +kernel
theorem dX11_cellTold_65 : decode cX11_cellTold 65 = .ok (.iload_n 1, 1) := by decide +kernel
theorem dX11_cellTold_66 : decode cX11_cellTold 66 = .ok (.invokevirtual 95, 3) := by decide +kernel
theorem dX11_cellTold_69 : decode cX11_cellTold 69 = .ok (.ifCond .eq 7, 3) := by decide +kernel
theorem dX11_cellTold_72 : decode cX11_cellTold 72 = .ok (.iconst 1, 1) := by decide +kernel
theorem dX11_cellTold_73 : decode cX11_cellTold 73 = .ok (.goto 4, 3) := by decide +kernel
theorem dX11_cellTold_76 : decode cX11_cellTold 76 = .ok (.iconst 0, 1) := by decide +kernel
theorem dX11_cellTold_77 : decode cX11_cellTold 77 = .ok (.iastore, 1) := by decide +kernel
theorem dX11_cellTold_78 : decode cX11_cellTold 78 = .ok (.astore_n 3, 1) := by decide +kernel
theorem dX11_cellTold_79 : decode cX11_cellTold 79 = .ok (.aload_n 3, 1) := by decide +kernel
theorem dX11_cellTold_80 : decode cX11_cellTold 80 = .ok (.iload_n 2, 1) := by decide +kernel
theorem dX11_cellTold_81 : decode cX11_cellTold 81 = .ok (.iaload, 1) := by decide +kernel
theorem dX11_cellTold_82 : decode cX11_cellTold 82 = .ok (.ireturn, 1) := by decide +kernel
theorem dX11_cell_0 : decode cX11_cell 0 = .ok (.aload_n 0, 1) := by decide +kernel
theorem dX11_cell_1 : decode cX11_cell 1 = .ok (.iconst 0, 1) := by decide +kernel
theorem dX11_cell_2 : decode cX11_cell 2 = .ok (.putfield 38, 3) := by decide +kernel
theorem dX11_cell_5 : decode cX11_cell 5 = .ok (.iload_n 1, 1) := by decide +kernel
theorem dX11_cell_6 : decode cX11_cell 6 = .ok (.iload_n 2, 1) := by decide +kernel
theorem dX11_cell_7 : decode cX11_cell 7 = .ok (.invokestatic 46, 3) := by decide +kernel
theorem dX11_cell_10 : decode cX11_cell 10 = .ok (.ifCond .eq 26, 3) := by decide +kernel
theorem dX11_cell_13 : decode cX11_cell 13 = .ok (.iload_n 3, 1) := by decide +kernel
theorem dX11_cell_14 : decode cX11_cell 14 = .ok (.iconst 0, 1) := by decide +kernel
theorem dX11_cell_15 : decode cX11_cell 15 = .ok (.iconst 5, 1) := by decide +kernel
theorem dX11_cell_16 : decode cX11_cell 16 = .ok (.invokestatic 42, 3) := by decide +kernel
theorem dX11_cell_19 : decode cX11_cell 19 = .ok (.ifCond .eq 17, 3) := by decide +kernel
theorem dX11_cell_22 : decode cX11_cell 22 = .ok (.aload_n 0, 1) := by decide +kernel
theorem dX11_cell_23 : decode cX11_cell 23 = .ok (.bipush 10, 2) := by decide +kernel
theorem dX11_cell_25 : decode cX11_cell 25 = .ok (.iload_n 2, 1) := by decide +kernel
theorem dX11_cell_26 : decode cX11_cell 26 = .ok (.imul, 1) := by decide +kernel
theorem dX11_cell_27 : decode cX11_cell 27 = .ok (.iload_n 1, 1) := by decide +kernel
theorem dX11_cell_28 : decode cX11_cell 28 = .ok (.iadd, 1) := by decide +kernel
theorem dX11_cell_29 : decode cX11_cell 29 = .ok (.iload_n 3, 1) := by decide +kernel
theorem dX11_cell_30 : decode cX11_cell 30 = .ok (.invokevirtual 180, 3) := by decide +kernel
theorem dX11_cell_33 : decode cX11_cell 33 = .ok (.goto 8, 3) := by decide +kernel
theorem dX11_cell_36 : decode cX11_cell 36 = .ok (.aload_n 0, 1) := by decide +kernel
theorem dX11_cell_37 : decode cX11_cell 37 = .ok (.iconst 1, 1) := by decide +kernel
theorem dX11_cell_38 : decode cX11_cell 38 = .ok (.invokevirtual 50, 3) := by decide +kernel
theorem dX11_cell_41 : decode cX11_cell 41 = .ok (.ireturn, 1) := by decide +kernel
theorem dX11_pumpTold_0 : decode cX11_pumpTold 0 = .ok (.iload_n 2, 1) := by decide +kernel
theorem dX11_pumpTold_1 : decode cX11_pumpTold 1 = .ok (.ifCond .ne 20, 3) := by decide +kernel
theorem dX11_pumpTold_4 : decode cX11_pumpTold 4 = .ok (.aload_n 0, 1) := by decide +kernel
theorem dX11_pumpTold_5 : decode cX11_pumpTold 5 = .ok (.getfield 28, 3) := by decide +kernel
theorem dX11_pumpTold_8 : decode cX11_pumpTold 8 = .ok (.getfield 64, 3) := by decide +kernel
theorem dX11_pumpTold_11 : decode cX11_pumpTold 11 = .ok (.iconst 5, 1) := by decide +kernel
theorem dX11_pumpTold_12 : decode cX11_pumpTold 12 = .ok (.iload_n 1, 1) := by decide +kernel
theorem dX11_pumpTold_13 : decode cX11_pumpTold 13 = .ok (.imul, 1) := by decide +kernel
theorem dX11_pumpTold_14 : decode cX11_pumpTold 14 = .ok (.iaload, 1) := by decide +kernel
theorem dX11_pumpTold_15 : decode cX11_pumpTold 15 = .ok (.bipush 10, 2) := by decide +kernel
theorem dX11_pumpTold_17 : decode cX11_pumpTold 17 = .ok (.irem, 1) := by decide +kernel
theorem dX11_pumpTold_18 : decode cX11_pumpTold 18 = .ok (.goto 40, 3) := by decide +kernel
theorem dX11_pumpTold_21 : decode cX11_pumpTold 21 = .ok (.iload_n 2, 1) := by decide +kernel
theorem dX11_pumpTold_22 : decode cX11_pumpTold 22 = .ok (.iconst 1, 1) := by decide +kernel
theorem dX11_pumpTold_23 : decode cX11_pumpTold 23 = .ok (.if_icmp .ne 20, 3) := by decide +kernel
theorem dX11_pumpTold_26 : decode cX11_pumpTold 26 = .ok (.aload_n 0, 1) := by decide +kernel
theorem dX11_pumpTold_27 : decode cX11_pumpTold 27 = .ok (.getfield 28, 3) := by decide +kernel
theorem dX11_pumpTold_30 : decode cX11_pumpTold 30 = .ok (.getfield 64, 3) := by decide +kernel
theorem dX11_pumpTold_33 : decode cX11_pumpTold 33 = .ok (.iconst 5, 1) := by decide +kernel
theorem dX11_pumpTold_34 : decode cX11_pumpTold 34 = .ok (.iload_n 1, 1) := by decide +kernel
theorem dX11_pumpTold_35 : decode cX11_pumpTold 35 = .ok (.imul, 1) := by decide +kernel
theorem dX11_pumpTold_36 : decode cX11_pumpTold 36 = .ok (.iaload, 1) := by decide +kernel
theorem dX11_pumpTold_37 : decode cX11_pumpTold 37 = .ok (.bipush 10, 2) := by decide +kernel
theorem dX11_pumpTold_39 : decode cX11_pumpTold 39 = .ok (.idiv, 1) := by decide +kernel
theorem dX11_pumpTold_40 : decode cX11_pumpTold 40 = .ok (.goto 18, 3) := by decide +kernel
theorem dX11_pumpTold_43 : decode cX11_pumpTold 43 = .ok (.aload_n 0, 1) := by decide +kernel
theorem dX11_pumpTold_44 : decode cX11_pumpTold 44 = .ok (.getfield 28, 3) := by decide +kernel
theorem dX11_pumpTold_47 : decode cX11_pumpTold 47 = .ok (.getfield 64, 3) := by decide +kernel
theorem dX11_pumpTold_50 : decode cX11_pumpTold 50 = .ok (.iconst 5, 1) := by decide +kernel
theorem dX11_pumpTold_51 : decode cX11_pumpTold 51 = .ok (.iload_n 1, 1) := by decide +kernel
theorem dX11_pumpTold_52 : decode cX11_pumpTold 52 = .ok (.imul, 1) := by decide +kernel
theorem dX11_pumpTold_53 : decode cX11_pumpTold 53 = .ok (.iload_n 2, 1) := by decide +kernel
theorem dX11_pumpTold_54 : decode cX11_pumpTold 54 = .ok (.iadd, 1) := by decide +kernel
theorem dX11_pumpTold_55 : decode cX11_pumpTold 55 = .ok (.iconst 1, 1) := by decide +kernel
theorem dX11_pumpTold_56 : decode cX11_pumpTold 56 = .ok (.isub, 1) := by decide +kernel
theorem dX11_pumpTold_57 : decode cX11_pumpTold 57 = .ok (.iaload, 1) := by decide +kernel
theorem dX11_pumpTold_58 : decode cX11_pumpTold 58 = .ok (.ireturn, 1) := by decide +kernel
theorem dX11_pump_0 : decode cX11_pump 0 = .ok (.aload_n 0, 1) := by decide +kernel
theorem dX11_pump_1 : decode cX11_pump 1 = .ok (.iconst 0, 1) := by decide +kernel
theorem dX11_pump_2 : decode cX11_pump 2 = .ok (.putfield 38, 3) := by decide +kernel
theorem dX11_pump_5 : decode cX11_pump 5 = .ok (.iload_n 1, 1) := by decide +kernel
theorem dX11_pump_6 : decode cX11_pump 6 = .ok (.iconst 0, 1) := by decide +kernel
theorem dX11_pump_7 : decode cX11_pump 7 = .ok (.aload_n 0, 1) := by decide +kernel
theorem dX11_pump_8 : decode cX11_pump 8 = .ok (.getfield 61, 3) := by decide +kernel
theorem dX11_pump_11 : decode cX11_pump 11 = .ok (.iconst 1, 1) := by decide +kernel
theorem dX11_pump_12 : decode cX11_pump 12 = .ok (.isub, 1) := by decide +kernel
theorem dX11_pump_13 : decode cX11_pump 13 = .ok (.invokestatic 42, 3) := by decide +kernel
theorem dX11_pump_16 : decode cX11_pump 16 = .ok (.ifCond .eq 21, 3) := by decide +kernel
theorem dX11_pump_19 : decode cX11_pump 19 = .ok (.iload_n 2, 1) := by decide +kernel
theorem dX11_pump_20 : decode cX11_pump 20 = .ok (.iconst 0, 1) := by decide +kernel
theorem dX11_pump_21 : decode cX11_pump 21 = .ok (.iconst 5, 1) := by decide +kernel
theorem dX11_pump_22 : decode cX11_pump 22 = .ok (.invokestatic 42, 3) := by decide +kernel
theorem dX11_pump_25 : decode cX11_pump 25 = .ok (.ifCond .eq 12, 3) := by decide +kernel
theorem dX11_pump_28 : decode cX11_pump 28 = .ok (.aload_n 0, 1) := by decide +kernel
theorem dX11_pump_29 : decode cX11_pump 29 = .ok (.iload_n 1, 1) := by decide +kernel
theorem dX11_pump_30 : decode cX11_pump 30 = .ok (.iload_n 2, 1) := by decide +kernel
theorem dX11_pump_31 : decode cX11_pump 31 = .ok (.invokevirtual 183, 3) := by decide +kernel
theorem dX11_pump_34 : decode cX11_pump 34 = .ok (.goto 8, 3) := by decide +kernel
theorem dX11_pump_37 : decode cX11_pump 37 = .ok (.aload_n 0, 1) := by decide +kernel
theorem dX11_pump_38 : decode cX11_pump 38 = .ok (.iconst 1, 1) := by decide +kernel
theorem dX11_pump_39 : decode cX11_pump 39 = .ok (.invokevirtual 50, 3) := by decide +kernel
theorem dX11_pump_42 : decode cX11_pump 42 = .ok (.ireturn, 1) := by decide +kernel
theorem dX11_gaugeTold_0 : decode cX11_gaugeTold 0 = .ok (.aload_n 0, 1) := by decide +kernel
theorem dX11_gaugeTold_1 : decode cX11_gaugeTold 1 = .ok (.getfield 28, 3) := by decide +kernel
theorem dX11_gaugeTold_4 : decode cX11_gaugeTold 4 = .ok (.getfield 74, 3) := by decide +kernel
theorem dX11_gaugeTold_7 : decode cX11_gaugeTold 7 = .ok (.iconst 2, 1) := by decide +kernel
theorem dX11_gaugeTold_8 : decode cX11_gaugeTold 8 = .ok (.iload_n 1, 1) := by decide +kernel
theorem dX11_gaugeTold_9 : decode cX11_gaugeTold 9 = .ok (.imul, 1) := by decide +kernel
theorem dX11_gaugeTold_10 : decode cX11_gaugeTold 10 = .ok (.iaload, 1) := by decide +kernel
theorem dX11_gaugeTold_11 : decode cX11_gaugeTold 11 = .ok (.istore_n 3, 1) := by decide +kernel
theorem dX11_gaugeTold_12 : decode cX11_gaugeTold 12 = .ok (.iload_n 2, 1) := by decide +kernel
theorem dX11_gaugeTold_13 : decode cX11_gaugeTold 13 = .ok (.ifCond .ne 10, 3) := by decide +kernel
theorem dX11_gaugeTold_16 : decode cX11_gaugeTold 16 = .ok (.iload_n 3, 1) := by decide +kernel
theorem dX11_gaugeTold_17 : decode cX11_gaugeTold 17 = .ok (.bipush 10, 2) := by decide +kernel
theorem dX11_gaugeTold_19 : decode cX11_gaugeTold 19 = .ok (.irem, 1) := by decide +kernel
theorem dX11_gaugeTold_20 : decode cX11_gaugeTold 20 = .ok (.goto 70, 3) := by decide +kernel
theorem dX11_gaugeTold_23 : decode cX11_gaugeTold 23 = .ok (.iload_n 2, 1) := by decide +kernel
theorem dX11_gaugeTold_24 : decode cX11_gaugeTold 24 = .ok (.iconst 1, 1) := by decide +kernel
theorem dX11_gaugeTold_25 : decode cX11_gaugeTold 25 = .ok (.if_icmp .ne 10, 3) := by decide +kernel
theorem dX11_gaugeTold_28 : decode cX11_gaugeTold 28 = .ok (.iload_n 3, 1) := by decide +kernel
theorem dX11_gaugeTold_29 : decode cX11_gaugeTold 29 = .ok (.bipush 10, 2) := by decide +kernel
theorem dX11_gaugeTold_31 : decode cX11_gaugeTold 31 = .ok (.idiv, 1) := by decide +kernel
theorem dX11_gaugeTold_32 : decode cX11_gaugeTold 32 = .ok (.goto 58, 3) := by decide +kernel
theorem dX11_gaugeTold_35 : decode cX11_gaugeTold 35 = .ok (.iload_n 2, 1) := by decide +kernel
theorem dX11_gaugeTold_36 : decode cX11_gaugeTold 36 = .ok (.iconst 2, 1) := by decide +kernel
theorem dX11_gaugeTold_37 : decode cX11_gaugeTold 37 = .ok (.if_icmp .ne 19, 3) := by decide +kernel
theorem dX11_gaugeTold_40 : decode cX11_gaugeTold 40 = .ok (.aload_n 0, 1) := by decide +kernel
theorem dX11_gaugeTold_41 : decode cX11_gaugeTold 41 = .ok (.getfield 28, 3) := by decide +kernel
theorem dX11_gaugeTold_44 : decode cX11_gaugeTold 44 = .ok (.getfield 74, 3) := by decide +kernel
theorem dX11_gaugeTold_47 : decode cX11_gaugeTold 47 = .ok (.iconst 2, 1) := by decide +kernel
theorem dX11_gaugeTold_48 : decode cX11_gaugeTold 48 = .ok (.iload_n 1, 1) := by decide +kernel
theorem dX11_gaugeTold_49 : decode cX11_gaugeTold 49 = .ok (.imul, 1) := by decide +kernel
theorem dX11_gaugeTold_50 : decode cX11_gaugeTold 50 = .ok (.iconst 1, 1) := by decide +kernel
theorem dX11_gaugeTold_51 : decode cX11_gaugeTold 51 = .ok (.iadd, 1) := by decide +kernel
theorem dX11_gaugeTold_52 : decode cX11_gaugeTold 52 = .ok (.iaload, 1) := by decide +kernel
theorem dX11_gaugeTold_53 : decode cX11_gaugeTold 53 = .ok (.goto 37, 3) := by decide +kernel
theorem dX11_gaugeTold_56 : decode cX11_gaugeTold 56 = .ok (.iload_n 2, 1) := by decide +kernel
theorem dX11_gaugeTold_57 : decode cX11_gaugeTold 57 = .ok (.iconst 3, 1) := by decide +kernel
theorem dX11_gaugeTold_58 : decode cX11_gaugeTold 58 = .ok (.if_icmp .ne 15, 3) := by decide +kernel
theorem dX11_gaugeTold_61 : decode cX11_gaugeTold 61 = .ok (.aload_n 0, 1) := by decide +kernel
theorem dX11_gaugeTold_62 : decode cX11_gaugeTold 62 = .ok (.getfield 28, 3) := by decide +kernel
theorem dX11_gaugeTold_65 : decode cX11_gaugeTold 65 = .ok (.getfield 110, 3) := by decide +kernel
theorem dX11_gaugeTold_68 : decode cX11_gaugeTold 68 = .ok (.iload_n 3, 1) := by decide +kernel
theorem dX11_gaugeTold_69 : decode cX11_gaugeTold 69 = .ok (.iaload, 1) := by decide +kernel
theorem dX11_gaugeTold_70 : decode cX11_gaugeTold 70 = .ok (.goto 20, 3) := by decide +kernel
theorem dX11_gaugeTold_73 : decode cX11_gaugeTold 73 = .ok (.aload_n 0, 1) := by decide +kernel
theorem dX11_gaugeTold_74 : decode cX11_gaugeTold 74 = .ok (.aload_n 0, 1) := by decide +kernel
theorem dX11_gaugeTold_75 : decode cX11_gaugeTold 75 = .ok (.getfield 28, 3) := by decide +kernel
theorem dX11_gaugeTold_78 : decode cX11_gaugeTold 78 = .ok (.iload_n 1, 1) := by decide +kernel
theorem dX11_gaugeTold_79 : decode cX11_gaugeTold 79 = .ok (.invokevirtual 113, 3) := by decide +kernel
theorem dX11_gaugeTold_82 : decode cX11_gaugeTold 82 = .ok (.ifCond .eq 7, 3) := by decide +kernel
theorem dX11_gaugeTold_85 : decode cX11_gaugeTold 85 = .ok (.iconst 1, 1) := by decide +kernel
theorem dX11_gaugeTold_86 : decode cX11_gaugeTold 86 = .ok (.goto 4, 3) := by decide +kernel
theorem dX11_gaugeTold_89 : decode cX11_gaugeTold 89 = .ok (.iconst 0, 1) := by decide +kernel
theorem dX11_gaugeTold_90 : decode cX11_gaugeTold 90 = .ok (.ireturn, 1) := by decide +kernel
theorem dX11_gauge_0 : decode cX11_gauge 0 = .ok (.aload_n 0, 1) := by decide +kernel
theorem dX11_gauge_1 : decode cX11_gauge 1 = .ok (.iconst 0, 1) := by decide +kernel
theorem dX11_gauge_2 : decode cX11_gauge 2 = .ok (.putfield 38, 3) := by decide +kernel
theorem dX11_gauge_5 : decode cX11_gauge 5 = .ok (.iload_n 1, 1) := by decide +kernel
theorem dX11_gauge_6 : decode cX11_gauge 6 = .ok (.iconst 0, 1) := by decide +kernel
theorem dX11_gauge_7 : decode cX11_gauge 7 = .ok (.aload_n 0, 1) := by decide +kernel
theorem dX11_gauge_8 : decode cX11_gauge 8 = .ok (.getfield 71, 3) := by decide +kernel
theorem dX11_gauge_11 : decode cX11_gauge 11 = .ok (.iconst 1, 1) := by decide +kernel
theorem dX11_gauge_12 : decode cX11_gauge 12 = .ok (.isub, 1) := by decide +kernel
theorem dX11_gauge_13 : decode cX11_gauge 13 = .ok (.invokestatic 42, 3) := by decide +kernel
theorem dX11_gauge_16 : decode cX11_gauge 16 = .ok (.ifCond .eq 21, 3) := by decide +kernel
theorem dX11_gauge_19 : decode cX11_gauge 19 = .ok (.iload_n 2, 1) := by decide +kernel
theorem dX11_gauge_20 : decode cX11_gauge 20 = .ok (.iconst 0, 1) := by decide +kernel
theorem dX11_gauge_21 : decode cX11_gauge 21 = .ok (.iconst 4, 1) := by decide +kernel
theorem dX11_gauge_22 : decode cX11_gauge 22 = .ok (.invokestatic 42, 3) := by decide +kernel
theorem dX11_gauge_25 : decode cX11_gauge 25 = .ok (.ifCond .eq 12, 3) := by decide +kernel
theorem dX11_gauge_28 : decode cX11_gauge 28 = .ok (.aload_n 0, 1) := by decide +kernel
theorem dX11_gauge_29 : decode cX11_gauge 29 = .ok (.iload_n 1, 1) := by decide +kernel
theorem dX11_gauge_30 : decode cX11_gauge 30 = .ok (.iload_n 2, 1) := by decide +kernel
theorem dX11_gauge_31 : decode cX11_gauge 31 = .ok (.invokevirtual 186, 3) := by decide +kernel
theorem dX11_gauge_34 : decode cX11_gauge 34 = .ok (.goto 8, 3) := by decide +kernel
theorem dX11_gauge_37 : decode cX11_gauge 37 = .ok (.aload_n 0, 1) := by decide +kernel
theorem dX11_gauge_38 : decode cX11_gauge 38 = .ok (.iconst 1, 1) := by decide +kernel
theorem dX11_gauge_39 : decode cX11_gauge 39 = .ok (.invokevirtual 50, 3) := by decide +kernel
theorem dX11_gauge_42 : decode cX11_gauge 42 = .ok (.ireturn, 1) := by decide +kernel
theorem dX11_refugeTold_0 : decode cX11_refugeTold 0 = .ok (.iconst 0, 1) := by decide +kernel
theorem dX11_refugeTold_1 : decode cX11_refugeTold 1 = .ok (.istore_n 3, 1) := by decide +kernel
theorem dX11_refugeTold_2 : decode cX11_refugeTold 2 = .ok (.iconst 0, 1) := by decide +kernel
theorem dX11_refugeTold_3 : decode cX11_refugeTold 3 = .ok (.istore 4, 2) := by decide +kernel
theorem dX11_refugeTold_5 : decode cX11_refugeTold 5 = .ok (.iload 4, 2) := by decide +kernel
theorem dX11_refugeTold_7 : decode cX11_refugeTold 7 = .ok (.aload_n 0, 1) := by decide +kernel
theorem dX11_refugeTold_8 : decode cX11_refugeTold 8 = .ok (.getfield 83, 3) := by decide +kernel
theorem dX11_refugeTold_11 : decode cX11_refugeTold 11 = .ok (.if_icmp .ge 53, 3) := by decide +kernel
theorem dX11_refugeTold_14 : decode cX11_refugeTold 14 = .ok (.iload_n 3, 1) := by decide +kernel
theorem dX11_refugeTold_15 : decode cX11_refugeTold 15 = .ok (.aload_n 0, 1) := by decide +kernel
theorem dX11_refugeTold_16 : decode cX11_refugeTold 16 = .ok (.getfield 28, 3) := by decide +kernel
theorem dX11_refugeTold_19 : decode cX11_refugeTold 19 = .ok (.getfield 86, 3) := by decide +kernel
theorem dX11_refugeTold_22 : decode cX11_refugeTold 22 = .ok (.iconst 4, 1) := by decide +kernel
theorem dX11_refugeTold_23 : decode cX11_refugeTold 23 = .ok (.iload 4, 2) := by decide +kernel
theorem dX11_refugeTold_25 : decode cX11_refugeTold 25 = .ok (.imul, 1) := by decide +kernel
theorem dX11_refugeTold_26 : decode cX11_refugeTold 26 = .ok (.iconst 2, 1) := by decide +kernel
theorem dX11_refugeTold_27 : decode cX11_refugeTold 27 = .ok (.iadd, 1) := by decide +kernel
theorem dX11_refugeTold_28 : decode cX11_refugeTold 28 = .ok (.iaload, 1) := by decide +kernel
theorem dX11_refugeTold_29 : decode cX11_refugeTold 29 = .ok (.iconst 2, 1) := by decide +kernel
theorem dX11_refugeTold_30 : decode cX11_refugeTold 30 = .ok (.if_icmp .ne 25, 3) := by decide +kernel
theorem dX11_refugeTold_33 : decode cX11_refugeTold 33 = .ok (.aload_n 0, 1) := by decide +kernel
theorem dX11_refugeTold_34 : decode cX11_refugeTold 34 = .ok (.getfield 28, 3) := by decide +kernel
theorem dX11_refugeTold_37 : decode cX11_refugeTold 37 = .ok (.getfield 86, 3) := by decide +kernel
theorem dX11_refugeTold_40 : decode cX11_refugeTold 40 = .ok (.iconst 4, 1) := by decide +kernel
theorem dX11_refugeTold_41 : decode cX11_refugeTold 41 = .ok (.iload 4, 2) := by decide +kernel
theorem dX11_refugeTold_43 : decode cX11_refugeTold 43 = .ok (.imul, 1) := by decide +kernel
theorem dX11_refugeTold_44 : decode cX11_refugeTold 44 = .ok (.iconst 3, 1) := by decide +kernel
theorem dX11_refugeTold_45 : decode cX11_refugeTold 45 = .ok (.iadd, 1) := by decide +kernel
theorem dX11_refugeTold_46 : decode cX11_refugeTold 46 = .ok (.iaload, 1) := by decide +kernel
theorem dX11_refugeTold_47 : decode cX11_refugeTold 47 = .ok (.iload_n 1, 1) := by decide +kernel
theorem dX11_refugeTold_48 : decode cX11_refugeTold 48 = .ok (.if_icmp .ne 7, 3) := by decide +kernel
theorem dX11_refugeTold_51 : decode cX11_refugeTold 51 = .ok (.iconst 1, 1) := by decide +kernel
theorem dX11_refugeTold_52 : decode cX11_refugeTold 52 = .ok (.goto 4, 3) := by decide +kernel
theorem dX11_refugeTold_55 : decode cX11_refugeTold 55 = .ok (.iconst 0, 1) := by decide +kernel
theorem dX11_refugeTold_56 : decode cX11_refugeTold 56 = .ok (.iadd, 1) := by decide +kernel
theorem dX11_refugeTold_57 : decode cX11_refugeTold 57 = .ok (.istore_n 3, 1) := by decide +kernel
theorem dX11_refugeTold_58 : decode cX11_refugeTold 58 = .ok (.iinc 4 1, 3) := by decide +kernel
theorem dX11_refugeTold_61 : decode cX11_refugeTold 61 = .ok (.goto (-56), 3) := by decide +kernel
theorem dX11_refugeTold_64 : decode cX11_refugeTold 64 = .ok (.iload_n 2, 1) := by decide +kernel
theorem dX11_refugeTold_65 : decode cX11_refugeTold 65 = .ok (.ifCond .ne 20, 3) := by decide +kernel
theorem dX11_refugeTold_68 : decode cX11_refugeTold 68 = .ok (.aload_n 0, 1) := by decide +kernel
theorem dX11_refugeTold_69 : decode cX11_refugeTold 69 = .ok (.getfield 28, 3) := by decide +kernel
theorem dX11_refugeTold_72 : decode cX11_refugeTold 72 = .ok (.getfield 80, 3) := by decide +kernel
theorem dX11_refugeTold_75 : decode cX11_refugeTold 75 = .ok (.iconst 2, 1) := by decide +kernel
theorem dX11_refugeTold_76 : decode cX11_refugeTold 76 = .ok (.iload_n 1, 1) := by decide +kernel
theorem dX11_refugeTold_77 : decode cX11_refugeTold 77 = .ok (.imul, 1) := by decide +kernel
theorem dX11_refugeTold_78 : decode cX11_refugeTold 78 = .ok (.iaload, 1) := by decide +kernel
theorem dX11_refugeTold_79 : decode cX11_refugeTold 79 = .ok (.bipush 10, 2) := by decide +kernel
theorem dX11_refugeTold_81 : decode cX11_refugeTold 81 = .ok (.irem, 1) := by decide +kernel
theorem dX11_refugeTold_82 : decode cX11_refugeTold 82 = .ok (.goto 64, 3) := by decide +kernel
theorem dX11_refugeTold_85 : decode cX11_refugeTold 85 = .ok (.iload_n 2, 1) := by decide +kernel
theorem dX11_refugeTold_86 : decode cX11_refugeTold 86 = .ok (.iconst 1, 1) := by decide +kernel
theorem dX11_refugeTold_87 : decode cX11_refugeTold 87 = .ok (.if_icmp .ne 20, 3) := by decide +kernel
theorem dX11_refugeTold_90 : decode cX11_refugeTold 90 = .ok (.aload_n 0, 1) := by decide +kernel
theorem dX11_refugeTold_91 : decode cX11_refugeTold 91 = .ok (.getfield 28, 3) := by decide +kernel
theorem dX11_refugeTold_94 : decode cX11_refugeTold 94 = .ok (.getfield 80, 3) := by decide +kernel
theorem dX11_refugeTold_97 : decode cX11_refugeTold 97 = .ok (.iconst 2, 1) := by decide +kernel
theorem dX11_refugeTold_98 : decode cX11_refugeTold 98 = .ok (.iload_n 1, 1) := by decide +kernel
theorem dX11_refugeTold_99 : decode cX11_refugeTold 99 = .ok (.imul, 1) := by decide +kernel
theorem dX11_refugeTold_100 : decode cX11_refugeTold 100 = .ok (.iaload, 1) := by decide +kernel
theorem dX11_refugeTold_101 : decode cX11_refugeTold 101 = .ok (.bipush 10, 2) := by decide +kernel
theorem dX11_refugeTold_103 : decode cX11_refugeTold 103 = .ok (.idiv, 1) := by decide +kernel
theorem dX11_refugeTold_104 : decode cX11_refugeTold 104 = .ok (.goto 42, 3) := by decide +kernel
theorem dX11_refugeTold_107 : decode cX11_refugeTold 107 = .ok (.iload_n 2, 1) := by decide +kernel
theorem dX11_refugeTold_108 : decode cX11_refugeTold 108 = .ok (.iconst 2, 1) := by decide +kernel
theorem dX11_refugeTold_109 : decode cX11_refugeTold 109 = .ok (.if_icmp .ne 19, 3) := by decide +kernel
theorem dX11_refugeTold_112 : decode cX11_refugeTold 112 = .ok (.aload_n 0, 1) := by decide +kernel
theorem dX11_refugeTold_113 : decode cX11_refugeTold 113 = .ok (.getfield 28, 3) := by decide +kernel
theorem dX11_refugeTold_116 : decode cX11_refugeTold 116 = .ok (.getfield 80, 3) := by decide +kernel
theorem dX11_refugeTold_119 : decode cX11_refugeTold 119 = .ok (.iconst 2, 1) := by decide +kernel
theorem dX11_refugeTold_120 : decode cX11_refugeTold 120 = .ok (.iload_n 1, 1) := by decide +kernel
theorem dX11_refugeTold_121 : decode cX11_refugeTold 121 = .ok (.imul, 1) := by decide +kernel
theorem dX11_refugeTold_122 : decode cX11_refugeTold 122 = .ok (.iconst 1, 1) := by decide +kernel
theorem dX11_refugeTold_123 : decode cX11_refugeTold 123 = .ok (.iadd, 1) := by decide +kernel
theorem dX11_refugeTold_124 : decode cX11_refugeTold 124 = .ok (.iaload, 1) := by decide +kernel
theorem dX11_refugeTold_125 : decode cX11_refugeTold 125 = .ok (.goto 21, 3) := by decide +kernel
theorem dX11_refugeTold_128 : decode cX11_refugeTold 128 = .ok (.iload_n 2, 1) := by decide +kernel
theorem dX11_refugeTold_129 : decode cX11_refugeTold 129 = .ok (.iconst 3, 1) := by decide +kernel
theorem dX11_refugeTold_130 : decode cX11_refugeTold 130 = .ok (.if_icmp .ne 15, 3) := by decide +kernel
theorem dX11_refugeTold_133 : decode cX11_refugeTold 133 = .ok (.aload_n 0, 1) := by decide +kernel
theorem dX11_refugeTold_134 : decode cX11_refugeTold 134 = .ok (.aload_n 0, 1) := by decide +kernel
theorem dX11_refugeTold_135 : decode cX11_refugeTold 135 = .ok (.getfield 28, 3) := by decide +kernel
theorem dX11_refugeTold_138 : decode cX11_refugeTold 138 = .ok (.iload_n 1, 1) := by decide +kernel
theorem dX11_refugeTold_139 : decode cX11_refugeTold 139 = .ok (.invokevirtual 138, 3) := by decide +kernel
theorem dX11_refugeTold_142 : decode cX11_refugeTold 142 = .ok (.goto 4, 3) := by decide +kernel
theorem dX11_refugeTold_145 : decode cX11_refugeTold 145 = .ok (.iload_n 3, 1) := by decide +kernel
theorem dX11_refugeTold_146 : decode cX11_refugeTold 146 = .ok (.ireturn, 1) := by decide +kernel
theorem dX11_refuge_0 : decode cX11_refuge 0 = .ok (.aload_n 0, 1) := by decide +kernel
theorem dX11_refuge_1 : decode cX11_refuge 1 = .ok (.iconst 0, 1) := by decide +kernel
theorem dX11_refuge_2 : decode cX11_refuge 2 = .ok (.putfield 38, 3) := by decide +kernel
theorem dX11_refuge_5 : decode cX11_refuge 5 = .ok (.iload_n 1, 1) := by decide +kernel
theorem dX11_refuge_6 : decode cX11_refuge 6 = .ok (.iconst 0, 1) := by decide +kernel
theorem dX11_refuge_7 : decode cX11_refuge 7 = .ok (.aload_n 0, 1) := by decide +kernel
theorem dX11_refuge_8 : decode cX11_refuge 8 = .ok (.getfield 77, 3) := by decide +kernel
theorem dX11_refuge_11 : decode cX11_refuge 11 = .ok (.iconst 1, 1) := by decide +kernel
theorem dX11_refuge_12 : decode cX11_refuge 12 = .ok (.isub, 1) := by decide +kernel
theorem dX11_refuge_13 : decode cX11_refuge 13 = .ok (.invokestatic 42, 3) := by decide +kernel
theorem dX11_refuge_16 : decode cX11_refuge 16 = .ok (.ifCond .eq 21, 3) := by decide +kernel
theorem dX11_refuge_19 : decode cX11_refuge 19 = .ok (.iload_n 2, 1) := by decide +kernel
theorem dX11_refuge_20 : decode cX11_refuge 20 = .ok (.iconst 0, 1) := by decide +kernel
theorem dX11_refuge_21 : decode cX11_refuge 21 = .ok (.iconst 4, 1) := by decide +kernel
theorem dX11_refuge_22 : decode cX11_refuge 22 = .ok (.invokestatic 42, 3) := by decide +kernel
theorem dX11_refuge_25 : decode cX11_refuge 25 = .ok (.ifCond .eq 12, 3) := by decide +kernel
theorem dX11_refuge_28 : decode cX11_refuge 28 = .ok (.aload_n 0, 1) := by decide +kernel
theorem dX11_refuge_29 : decode cX11_refuge 29 = .ok (.iload_n 1, 1) := by decide +kernel
theorem dX11_refuge_30 : decode cX11_refuge 30 = .ok (.iload_n 2, 1) := by decide +kernel
theorem dX11_refuge_31 : decode cX11_refuge 31 = .ok (.invokevirtual 189, 3) := by decide +kernel
theorem dX11_refuge_34 : decode cX11_refuge 34 = .ok (.goto 8, 3) := by decide +kernel
theorem dX11_refuge_37 : decode cX11_refuge 37 = .ok (.aload_n 0, 1) := by decide +kernel
theorem dX11_refuge_38 : decode cX11_refuge 38 = .ok (.iconst 1, 1) := by decide +kernel
theorem dX11_refuge_39 : decode cX11_refuge 39 = .ok (.invokevirtual 50, 3) := by decide +kernel
theorem dX11_refuge_42 : decode cX11_refuge 42 = .ok (.ireturn, 1) := by decide +kernel
theorem dX11_wayOf_0 : decode cX11_wayOf 0 = .ok (.aload_n 0, 1) := by decide +kernel
theorem dX11_wayOf_1 : decode cX11_wayOf 1 = .ok (.getfield 28, 3) := by decide +kernel
theorem dX11_wayOf_4 : decode cX11_wayOf 4 = .ok (.getfield 86, 3) := by decide +kernel
theorem dX11_wayOf_7 : decode cX11_wayOf 7 = .ok (.iconst 4, 1) := by decide +kernel
theorem dX11_wayOf_8 : decode cX11_wayOf 8 = .ok (.iload_n 1, 1) := by decide +kernel
theorem dX11_wayOf_9 : decode cX11_wayOf 9 = .ok (.imul, 1) := by decide +kernel
theorem dX11_wayOf_10 : decode cX11_wayOf 10 = .ok (.iconst 2, 1) := by decide +kernel
theorem dX11_wayOf_11 : decode cX11_wayOf 11 = .ok (.iadd, 1) := by decide +kernel
theorem dX11_wayOf_12 : decode cX11_wayOf 12 = .ok (.iaload, 1) := by decide +kernel
theorem dX11_wayOf_13 : decode cX11_wayOf 13 = .ok (.iconst 1, 1) := by decide +kernel
theorem dX11_wayOf_14 : decode cX11_wayOf 14 = .ok (.if_icmp .le 26, 3) := by decide +kernel
theorem dX11_wayOf_17 : decode cX11_wayOf 17 = .ok (.aload_n 0, 1) := by decide +kernel
theorem dX11_wayOf_18 : decode cX11_wayOf 18 = .ok (.getfield 28, 3) := by decide +kernel
theorem dX11_wayOf_21 : decode cX11_wayOf 21 = .ok (.getfield 86, 3) := by decide +kernel
theorem dX11_wayOf_24 : decode cX11_wayOf 24 = .ok (.iconst 4, 1) := by decide +kernel
theorem dX11_wayOf_25 : decode cX11_wayOf 25 = .ok (.iload_n 1, 1) := by decide +kernel
theorem dX11_wayOf_26 : decode cX11_wayOf 26 = .ok (.imul, 1) := by decide +kernel
theorem dX11_wayOf_27 : decode cX11_wayOf 27 = .ok (.iconst 2, 1) := by decide +kernel
theorem dX11_wayOf_28 : decode cX11_wayOf 28 = .ok (.iadd, 1) := by decide +kernel
theorem dX11_wayOf_29 : decode cX11_wayOf 29 = .ok (.iaload, 1) := by decide +kernel
theorem dX11_wayOf_30 : decode cX11_wayOf 30 = .ok (.iconst 2, 1) := by decide +kernel
theorem dX11_wayOf_31 : decode cX11_wayOf 31 = .ok (.if_icmp .ne 7, 3) := by decide +kernel
theorem dX11_wayOf_34 : decode cX11_wayOf 34 = .ok (.iconst 0, 1) := by decide +kernel
theorem dX11_wayOf_35 : decode cX11_wayOf 35 = .ok (.goto 4, 3) := by decide +kernel
theorem dX11_wayOf_38 : decode cX11_wayOf 38 = .ok (.iconst (-1), 1) := by decide +kernel
theorem dX11_wayOf_39 : decode cX11_wayOf 39 = .ok (.ireturn, 1) := by decide +kernel
theorem dX11_wayOf_40 : decode cX11_wayOf 40 = .ok (.aload_n 0, 1) := by decide +kernel
theorem dX11_wayOf_41 : decode cX11_wayOf 41 = .ok (.aload_n 0, 1) := by decide +kernel
theorem dX11_wayOf_42 : decode cX11_wayOf 42 = .ok (.getfield 28, 3) := by decide +kernel
theorem dX11_wayOf_45 : decode cX11_wayOf 45 = .ok (.iload_n 1, 1) := by decide +kernel
theorem dX11_wayOf_46 : decode cX11_wayOf 46 = .ok (.invokevirtual 146, 3) := by decide +kernel
theorem dX11_wayOf_49 : decode cX11_wayOf 49 = .ok (.istore_n 2, 1) := by decide +kernel
theorem dX11_wayOf_50 : decode cX11_wayOf 50 = .ok (.iload_n 2, 1) := by decide +kernel
theorem dX11_wayOf_51 : decode cX11_wayOf 51 = .ok (.iconst (-1), 1) := by decide +kernel
theorem dX11_wayOf_52 : decode cX11_wayOf 52 = .ok (.if_icmp .ne 7, 3) := by decide +kernel
theorem dX11_wayOf_55 : decode cX11_wayOf 55 = .ok (.iconst (-1), 1) := by decide +kernel
theorem dX11_wayOf_56 : decode cX11_wayOf 56 = .ok (.goto 33, 3) := by decide +kernel
theorem dX11_wayOf_59 : decode cX11_wayOf 59 = .ok (.aload_n 0, 1) := by decide +kernel
theorem dX11_wayOf_60 : decode cX11_wayOf 60 = .ok (.aload_n 0, 1) := by decide +kernel
theorem dX11_wayOf_61 : decode cX11_wayOf 61 = .ok (.getfield 28, 3) := by decide +kernel
theorem dX11_wayOf_64 : decode cX11_wayOf 64 = .ok (.aload_n 0, 1) := by decide +kernel
theorem dX11_wayOf_65 : decode cX11_wayOf 65 = .ok (.getfield 28, 3) := by decide +kernel
theorem dX11_wayOf_68 : decode cX11_wayOf 68 = .ok (.getfield 86, 3) := by decide +kernel
theorem dX11_wayOf_71 : decode cX11_wayOf 71 = .ok (.iconst 4, 1) := by decide +kernel
theorem dX11_wayOf_72 : decode cX11_wayOf 72 = .ok (.iload_n 1, 1) := by decide +kernel
theorem dX11_wayOf_73 : decode cX11_wayOf 73 = .ok (.imul, 1) := by decide +kernel
theorem dX11_wayOf_74 : decode cX11_wayOf 74 = .ok (.iaload, 1) := by decide +kernel
theorem dX11_wayOf_75 : decode cX11_wayOf 75 = .ok (.aload_n 0, 1) := by decide +kernel
theorem dX11_wayOf_76 : decode cX11_wayOf 76 = .ok (.getfield 28, 3) := by decide +kernel
theorem dX11_wayOf_79 : decode cX11_wayOf 79 = .ok (.getfield 80, 3) := by decide +kernel
theorem dX11_wayOf_82 : decode cX11_wayOf 82 = .ok (.iconst 2, 1) := by decide +kernel
theorem dX11_wayOf_83 : decode cX11_wayOf 83 = .ok (.iload_n 2, 1) := by decide +kernel
theorem dX11_wayOf_84 : decode cX11_wayOf 84 = .ok (.imul, 1) := by decide +kernel
theorem dX11_wayOf_85 : decode cX11_wayOf 85 = .ok (.iaload, 1) := by decide +kernel
theorem dX11_wayOf_86 : decode cX11_wayOf 86 = .ok (.invokevirtual 125, 3) := by decide +kernel
theorem dX11_wayOf_89 : decode cX11_wayOf 89 = .ok (.ireturn, 1) := by decide +kernel
theorem dX11_houseTold_0 : decode cX11_houseTold 0 = .ok (.iload_n 2, 1) := by decide +kernel
theorem dX11_houseTold_1 : decode cX11_houseTold 1 = .ok (.ifCond .ne 20, 3) := by decide +kernel
theorem dX11_houseTold_4 : decode cX11_houseTold 4 = .ok (.aload_n 0, 1) := by decide +kernel
theorem dX11_houseTold_5 : decode cX11_houseTold 5 = .ok (.getfield 28, 3) := by decide +kernel
theorem dX11_houseTold_8 : decode cX11_houseTold 8 = .ok (.getfield 86, 3) := by decide +kernel
theorem dX11_houseTold_11 : decode cX11_houseTold 11 = .ok (.iconst 4, 1) := by decide +kernel
theorem dX11_houseTold_12 : decode cX11_houseTold 12 = .ok (.iload_n 1, 1) := by decide +kernel
theorem dX11_houseTold_13 : decode cX11_houseTold 13 = .ok (.imul, 1) := by decide +kernel
theorem dX11_houseTold_14 : decode cX11_houseTold 14 = .ok (.iaload, 1) := by decide +kernel
theorem dX11_houseTold_15 : decode cX11_houseTold 15 = .ok (.bipush 10, 2) := by decide +kernel
theorem dX11_houseTold_17 : decode cX11_houseTold 17 = .ok (.irem, 1) := by decide +kernel
theorem dX11_houseTold_18 : decode cX11_houseTold 18 = .ok (.goto 53, 3) := by decide +kernel
theorem dX11_houseTold_21 : decode cX11_houseTold 21 = .ok (.iload_n 2, 1) := by decide +kernel
theorem dX11_houseTold_22 : decode cX11_houseTold 22 = .ok (.iconst 1, 1) := by decide +kernel
theorem dX11_houseTold_23 : decode cX11_houseTold 23 = .ok (.if_icmp .ne 20, 3) := by decide +kernel
theorem dX11_houseTold_26 : decode cX11_houseTold 26 = .ok (.aload_n 0, 1) := by decide +kernel
theorem dX11_houseTold_27 : decode cX11_houseTold 27 = .ok (.getfield 28, 3) := by decide +kernel
theorem dX11_houseTold_30 : decode cX11_houseTold 30 = .ok (.getfield 86, 3) := by decide +kernel
theorem dX11_houseTold_33 : decode cX11_houseTold 33 = .ok (.iconst 4, 1) := by decide +kernel
theorem dX11_houseTold_34 : decode cX11_houseTold 34 = .ok (.iload_n 1, 1) := by decide +kernel
theorem dX11_houseTold_35 : decode cX11_houseTold 35 = .ok (.imul, 1) := by decide +kernel
theorem dX11_houseTold_36 : decode cX11_houseTold 36 = .ok (.iaload, 1) := by decide +kernel
theorem dX11_houseTold_37 : decode cX11_houseTold 37 = .ok (.bipush 10, 2) := by decide +kernel
theorem dX11_houseTold_39 : decode cX11_houseTold 39 = .ok (.idiv, 1) := by decide +kernel
theorem dX11_houseTold_40 : decode cX11_houseTold 40 = .ok (.goto 31, 3) := by decide +kernel
theorem dX11_houseTold_43 : decode cX11_houseTold 43 = .ok (.iload_n 2, 1) := by decide +kernel
theorem dX11_houseTold_44 : decode cX11_houseTold 44 = .ok (.iconst 4, 1) := by decide +kernel
theorem dX11_houseTold_45 : decode cX11_houseTold 45 = .ok (.if_icmp .ne 11, 3) := by decide +kernel
theorem dX11_houseTold_48 : decode cX11_houseTold 48 = .ok (.aload_n 0, 1) := by decide +kernel
theorem dX11_houseTold_49 : decode cX11_houseTold 49 = .ok (.iload_n 1, 1) := by decide +kernel
theorem dX11_houseTold_50 : decode cX11_houseTold 50 = .ok (.invokevirtual 192, 3) := by decide +kernel
theorem dX11_houseTold_53 : decode cX11_houseTold 53 = .ok (.goto 18, 3) := by decide +kernel
theorem dX11_houseTold_56 : decode cX11_houseTold 56 = .ok (.aload_n 0, 1) := by decide +kernel
theorem dX11_houseTold_57 : decode cX11_houseTold 57 = .ok (.getfield 28, 3) := by decide +kernel
theorem dX11_houseTold_60 : decode cX11_houseTold 60 = .ok (.getfield 86, 3) := by decide +kernel
theorem dX11_houseTold_63 : decode cX11_houseTold 63 = .ok (.iconst 4, 1) := by decide +kernel
theorem dX11_houseTold_64 : decode cX11_houseTold 64 = .ok (.iload_n 1, 1) := by decide +kernel
theorem dX11_houseTold_65 : decode cX11_houseTold 65 = .ok (.imul, 1) := by decide +kernel
theorem dX11_houseTold_66 : decode cX11_houseTold 66 = .ok (.iload_n 2, 1) := by decide +kernel
theorem dX11_houseTold_67 : decode cX11_houseTold 67 = .ok (.iadd, 1) := by decide +kernel
theorem dX11_houseTold_68 : decode cX11_houseTold 68 = .ok (.iconst 1, 1) := by decide +kernel
theorem dX11_houseTold_69 : decode cX11_houseTold 69 = .ok (.isub, 1) := by decide +kernel
theorem dX11_houseTold_70 : decode cX11_houseTold 70 = .ok (.iaload, 1) := by decide +kernel
theorem dX11_houseTold_71 : decode cX11_houseTold 71 = .ok (.ireturn, 1) := by decide +kernel
theorem dX11_household_0 : decode cX11_household 0 = .ok (.aload_n 0, 1) := by decide +kernel
theorem dX11_household_1 : decode cX11_household 1 = .ok (.iconst 0, 1) := by decide +kernel
theorem dX11_household_2 : decode cX11_household 2 = .ok (.putfield 38, 3) := by decide +kernel
theorem dX11_household_5 : decode cX11_household 5 = .ok (.iload_n 1, 1) := by decide +kernel
theorem dX11_household_6 : decode cX11_household 6 = .ok (.iconst 0, 1) := by decide +kernel
theorem dX11_household_7 : decode cX11_household 7 = .ok (.aload_n 0, 1) := by decide +kernel
theorem dX11_household_8 : decode cX11_household 8 = .ok (.getfield 83, 3) := by decide +kernel
theorem dX11_household_11 : decode cX11_household 11 = .ok (.iconst 1, 1) := by decide +kernel
theorem dX11_household_12 : decode cX11_household 12 = .ok (.isub, 1) := by decide +kernel
theorem dX11_household_13 : decode cX11_household 13 = .ok (.invokestatic 42, 3) := by decide +kernel
theorem dX11_household_16 : decode cX11_household 16 = .ok (.ifCond .eq 21, 3) := by decide +kernel
theorem dX11_household_19 : decode cX11_household 19 = .ok (.iload_n 2, 1) := by decide +kernel
theorem dX11_household_20 : decode cX11_household 20 = .ok (.iconst 0, 1) := by decide +kernel
theorem dX11_household_21 : decode cX11_household 21 = .ok (.iconst 4, 1) := by decide +kernel
theorem dX11_household_22 : decode cX11_household 22 = .ok (.invokestatic 42, 3) := by decide +kernel
theorem dX11_household_25 : decode cX11_household 25 = .ok (.ifCond .eq 12, 3) := by decide +kernel
theorem dX11_household_28 : decode cX11_household 28 = .ok (.aload_n 0, 1) := by decide +kernel
theorem dX11_household_29 : decode cX11_household 29 = .ok (.iload_n 1, 1) := by decide +kernel
theorem dX11_household_30 : decode cX11_household 30 = .ok (.iload_n 2, 1) := by decide +kernel
theorem dX11_household_31 : decode cX11_household 31 = .ok (.invokevirtual 195, 3) := by decide +kernel
theorem dX11_household_34 : decode cX11_household 34 = .ok (.goto 8, 3) := by decide +kernel
theorem dX11_household_37 : decode cX11_household 37 = .ok (.aload_n 0, 1) := by decide +kernel
theorem dX11_household_38 : decode cX11_household 38 = .ok (.iconst 1, 1) := by decide +kernel
theorem dX11_household_39 : decode cX11_household 39 = .ok (.invokevirtual 50, 3) := by decide +kernel
theorem dX11_household_42 : decode cX11_household 42 = .ok (.ireturn, 1) := by decide +kernel
theorem dX11_callerTold_0 : decode cX11_callerTold 0 = .ok (.iload_n 2, 1) := by decide +kernel
theorem dX11_callerTold_1 : decode cX11_callerTold 1 = .ok (.ifCond .ne 20, 3) := by decide +kernel
theorem dX11_callerTold_4 : decode cX11_callerTold 4 = .ok (.aload_n 0, 1) := by decide +kernel
theorem dX11_callerTold_5 : decode cX11_callerTold 5 = .ok (.getfield 28, 3) := by decide +kernel
theorem dX11_callerTold_8 : decode cX11_callerTold 8 = .ok (.getfield 92, 3) := by decide +kernel
theorem dX11_callerTold_11 : decode cX11_callerTold 11 = .ok (.iconst 2, 1) := by decide +kernel
theorem dX11_callerTold_12 : decode cX11_callerTold 12 = .ok (.iload_n 1, 1) := by decide +kernel
theorem dX11_callerTold_13 : decode cX11_callerTold 13 = .ok (.imul, 1) := by decide +kernel
theorem dX11_callerTold_14 : decode cX11_callerTold 14 = .ok (.iaload, 1) := by decide +kernel
theorem dX11_callerTold_15 : decode cX11_callerTold 15 = .ok (.bipush 10, 2) := by decide +kernel
theorem dX11_callerTold_17 : decode cX11_callerTold 17 = .ok (.irem, 1) := by decide +kernel
theorem dX11_callerTold_18 : decode cX11_callerTold 18 = .ok (.goto 38, 3) := by decide +kernel
theorem dX11_callerTold_21 : decode cX11_callerTold 21 = .ok (.iload_n 2, 1) := by decide +kernel
theorem dX11_callerTold_22 : decode cX11_callerTold 22 = .ok (.iconst 1, 1) := by decide +kernel
theorem dX11_callerTold_23 : decode cX11_callerTold 23 = .ok (.if_icmp .ne 20, 3) := by decide +kernel
theorem dX11_callerTold_26 : decode cX11_callerTold 26 = .ok (.aload_n 0, 1) := by decide +kernel
theorem dX11_callerTold_27 : decode cX11_callerTold 27 = .ok (.getfield 28, 3) := by decide +kernel
theorem dX11_callerTold_30 : decode cX11_callerTold 30 = .ok (.getfield 92, 3) := by decide +kernel
theorem dX11_callerTold_33 : decode cX11_callerTold 33 = .ok (.iconst 2, 1) := by decide +kernel
theorem dX11_callerTold_34 : decode cX11_callerTold 34 = .ok (.iload_n 1, 1) := by decide +kernel
theorem dX11_callerTold_35 : decode cX11_callerTold 35 = .ok (.imul, 1) := by decide +kernel
theorem dX11_callerTold_36 : decode cX11_callerTold 36 = .ok (.iaload, 1) := by decide +kernel
theorem dX11_callerTold_37 : decode cX11_callerTold 37 = .ok (.bipush 10, 2) := by decide +kernel
theorem dX11_callerTold_39 : decode cX11_callerTold 39 = .ok (.idiv, 1) := by decide +kernel
theorem dX11_callerTold_40 : decode cX11_callerTold 40 = .ok (.goto 16, 3) := by decide +kernel
theorem dX11_callerTold_43 : decode cX11_callerTold 43 = .ok (.aload_n 0, 1) := by decide +kernel
theorem dX11_callerTold_44 : decode cX11_callerTold 44 = .ok (.getfield 28, 3) := by decide +kernel
theorem dX11_callerTold_47 : decode cX11_callerTold 47 = .ok (.getfield 92, 3) := by decide +kernel
theorem dX11_callerTold_50 : decode cX11_callerTold 50 = .ok (.iconst 2, 1) := by decide +kernel
theorem dX11_callerTold_51 : decode cX11_callerTold 51 = .ok (.iload_n 1, 1) := by decide +kernel
theorem dX11_callerTold_52 : decode cX11_callerTold 52 = .ok (.imul, 1) := by decide +kernel
theorem dX11_callerTold_53 : decode cX11_callerTold 53 = .ok (.iconst 1, 1) := by decide +kernel
theorem dX11_callerTold_54 : decode cX11_callerTold 54 = .ok (.iadd, 1) := by decide +kernel
theorem dX11_callerTold_55 : decode cX11_callerTold 55 = .ok (.iaload, 1) := by decide +kernel
theorem dX11_callerTold_56 : decode cX11_callerTold 56 = .ok (.ireturn, 1) := by decide +kernel
theorem dX11_caller_0 : decode cX11_caller 0 = .ok (.aload_n 0, 1) := by decide +kernel
theorem dX11_caller_1 : decode cX11_caller 1 = .ok (.iconst 0, 1) := by decide +kernel
theorem dX11_caller_2 : decode cX11_caller 2 = .ok (.putfield 38, 3) := by decide +kernel
theorem dX11_caller_5 : decode cX11_caller 5 = .ok (.iload_n 1, 1) := by decide +kernel
theorem dX11_caller_6 : decode cX11_caller 6 = .ok (.iconst 0, 1) := by decide +kernel
theorem dX11_caller_7 : decode cX11_caller 7 = .ok (.aload_n 0, 1) := by decide +kernel
theorem dX11_caller_8 : decode cX11_caller 8 = .ok (.getfield 89, 3) := by decide +kernel
theorem dX11_caller_11 : decode cX11_caller 11 = .ok (.iconst 1, 1) := by decide +kernel
theorem dX11_caller_12 : decode cX11_caller 12 = .ok (.isub, 1) := by decide +kernel
theorem dX11_caller_13 : decode cX11_caller 13 = .ok (.invokestatic 42, 3) := by decide +kernel
theorem dX11_caller_16 : decode cX11_caller 16 = .ok (.ifCond .eq 21, 3) := by decide +kernel
theorem dX11_caller_19 : decode cX11_caller 19 = .ok (.iload_n 2, 1) := by decide +kernel
theorem dX11_caller_20 : decode cX11_caller 20 = .ok (.iconst 0, 1) := by decide +kernel
theorem dX11_caller_21 : decode cX11_caller 21 = .ok (.iconst 2, 1) := by decide +kernel
theorem dX11_caller_22 : decode cX11_caller 22 = .ok (.invokestatic 42, 3) := by decide +kernel
theorem dX11_caller_25 : decode cX11_caller 25 = .ok (.ifCond .eq 12, 3) := by decide +kernel
theorem dX11_caller_28 : decode cX11_caller 28 = .ok (.aload_n 0, 1) := by decide +kernel
theorem dX11_caller_29 : decode cX11_caller 29 = .ok (.iload_n 1, 1) := by decide +kernel
theorem dX11_caller_30 : decode cX11_caller 30 = .ok (.iload_n 2, 1) := by decide +kernel
theorem dX11_caller_31 : decode cX11_caller 31 = .ok (.invokevirtual 198, 3) := by decide +kernel
theorem dX11_caller_34 : decode cX11_caller 34 = .ok (.goto 8, 3) := by decide +kernel
theorem dX11_caller_37 : decode cX11_caller 37 = .ok (.aload_n 0, 1) := by decide +kernel
theorem dX11_caller_38 : decode cX11_caller 38 = .ok (.iconst 1, 1) := by decide +kernel
theorem dX11_caller_39 : decode cX11_caller 39 = .ok (.invokevirtual 50, 3) := by decide +kernel
theorem dX11_caller_42 : decode cX11_caller 42 = .ok (.ireturn, 1) := by decide +kernel
theorem dX11_people_0 : decode cX11_people 0 = .ok (.iconst 0, 1) := by decide +kernel
theorem dX11_people_1 : decode cX11_people 1 = .ok (.istore_n 3, 1) := by decide +kernel
theorem dX11_people_2 : decode cX11_people 2 = .ok (.iconst 0, 1) := by decide +kernel
theorem dX11_people_3 : decode cX11_people 3 = .ok (.istore 4, 2) := by decide +kernel
theorem dX11_people_5 : decode cX11_people 5 = .ok (.iload 4, 2) := by decide +kernel
theorem dX11_people_7 : decode cX11_people 7 = .ok (.aload_n 0, 1) := by decide +kernel
theorem dX11_people_8 : decode cX11_people 8 = .ok (.getfield 83, 3) := by decide +kernel
theorem dX11_people_11 : decode cX11_people 11 = .ok (.if_icmp .ge 42, 3) := by decide +kernel
theorem dX11_people_14 : decode cX11_people 14 = .ok (.iload_n 3, 1) := by decide +kernel
theorem dX11_people_15 : decode cX11_people 15 = .ok (.aload_n 1, 1) := by decide +kernel
theorem dX11_people_16 : decode cX11_people 16 = .ok (.getfield 86, 3) := by decide +kernel
theorem dX11_people_19 : decode cX11_people 19 = .ok (.iconst 4, 1) := by decide +kernel
theorem dX11_people_20 : decode cX11_people 20 = .ok (.iload 4, 2) := by decide +kernel
theorem dX11_people_22 : decode cX11_people 22 = .ok (.imul, 1) := by decide +kernel
theorem dX11_people_23 : decode cX11_people 23 = .ok (.iconst 2, 1) := by decide +kernel
theorem dX11_people_24 : decode cX11_people 24 = .ok (.iadd, 1) := by decide +kernel
theorem dX11_people_25 : decode cX11_people 25 = .ok (.iaload, 1) := by decide +kernel
theorem dX11_people_26 : decode cX11_people 26 = .ok (.iload_n 2, 1) := by decide +kernel
theorem dX11_people_27 : decode cX11_people 27 = .ok (.if_icmp .ne 17, 3) := by decide +kernel
theorem dX11_people_30 : decode cX11_people 30 = .ok (.aload_n 1, 1) := by decide +kernel
theorem dX11_people_31 : decode cX11_people 31 = .ok (.getfield 86, 3) := by decide +kernel
theorem dX11_people_34 : decode cX11_people 34 = .ok (.iconst 4, 1) := by decide +kernel
theorem dX11_people_35 : decode cX11_people 35 = .ok (.iload 4, 2) := by decide +kernel
theorem dX11_people_37 : decode cX11_people 37 = .ok (.imul, 1) := by decide +kernel
theorem dX11_people_38 : decode cX11_people 38 = .ok (.iconst 1, 1) := by decide +kernel
theorem dX11_people_39 : decode cX11_people 39 = .ok (.iadd, 1) := by decide +kernel
theorem dX11_people_40 : decode cX11_people 40 = .ok (.iaload, 1) := by decide +kernel
theorem dX11_people_41 : decode cX11_people 41 = .ok (.goto 4, 3) := by decide +kernel
theorem dX11_people_44 : decode cX11_people 44 = .ok (.iconst 0, 1) := by decide +kernel
theorem dX11_people_45 : decode cX11_people 45 = .ok (.iadd, 1) := by decide +kernel
theorem dX11_people_46 : decode cX11_people 46 = .ok (.istore_n 3, 1) := by decide +kernel
theorem dX11_people_47 : decode cX11_people 47 = .ok (.iinc 4 1, 3) := by decide +kernel
theorem dX11_people_50 : decode cX11_people 50 = .ok (.goto (-45), 3) := by decide +kernel
theorem dX11_people_53 : decode cX11_people 53 = .ok (.iload_n 3, 1) := by decide +kernel
theorem dX11_people_54 : decode cX11_people 54 = .ok (.ireturn, 1) := by decide +kernel
theorem dX11_wet_0 : decode cX11_wet 0 = .ok (.iconst 0, 1) := by decide +kernel
theorem dX11_wet_1 : decode cX11_wet 1 = .ok (.istore_n 2, 1) := by decide +kernel
theorem dX11_wet_2 : decode cX11_wet 2 = .ok (.bipush 10, 2) := by decide +kernel
theorem dX11_wet_4 : decode cX11_wet 4 = .ok (.istore_n 3, 1) := by decide +kernel
theorem dX11_wet_5 : decode cX11_wet 5 = .ok (.iload_n 3, 1) := by decide +kernel
theorem dX11_wet_6 : decode cX11_wet 6 = .ok (.bipush 80, 2) := by decide +kernel
theorem dX11_wet_8 : decode cX11_wet 8 = .ok (.if_icmp .ge 35, 3) := by decide +kernel
theorem dX11_wet_11 : decode cX11_wet 11 = .ok (.iload_n 2, 1) := by decide +kernel
theorem dX11_wet_12 : decode cX11_wet 12 = .ok (.iload_n 1, 1) := by decide +kernel
theorem dX11_wet_13 : decode cX11_wet 13 = .ok (.ifCond .eq 12, 3) := by decide +kernel
theorem dX11_wet_16 : decode cX11_wet 16 = .ok (.aload_n 0, 1) := by decide +kernel
theorem dX11_wet_17 : decode cX11_wet 17 = .ok (.getfield 110, 3) := by decide +kernel
theorem dX11_wet_20 : decode cX11_wet 20 = .ok (.iload_n 3, 1) := by decide +kernel
theorem dX11_wet_21 : decode cX11_wet 21 = .ok (.iaload, 1) := by decide +kernel
theorem dX11_wet_22 : decode cX11_wet 22 = .ok (.goto 13, 3) := by decide +kernel
theorem dX11_wet_25 : decode cX11_wet 25 = .ok (.iconst 1, 1) := by decide +kernel
theorem dX11_wet_26 : decode cX11_wet 26 = .ok (.aload_n 0, 1) := by decide +kernel
theorem dX11_wet_27 : decode cX11_wet 27 = .ok (.getfield 110, 3) := by decide +kernel
theorem dX11_wet_30 : decode cX11_wet 30 = .ok (.iload_n 3, 1) := by decide +kernel
theorem dX11_wet_31 : decode cX11_wet 31 = .ok (.iaload, 1) := by decide +kernel
theorem dX11_wet_32 : decode cX11_wet 32 = .ok (.invokestatic 120, 3) := by decide +kernel
theorem dX11_wet_35 : decode cX11_wet 35 = .ok (.iadd, 1) := by decide +kernel
theorem dX11_wet_36 : decode cX11_wet 36 = .ok (.istore_n 2, 1) := by decide +kernel
theorem dX11_wet_37 : decode cX11_wet 37 = .ok (.iinc 3 1, 3) := by decide +kernel
theorem dX11_wet_40 : decode cX11_wet 40 = .ok (.goto (-35), 3) := by decide +kernel
theorem dX11_wet_43 : decode cX11_wet 43 = .ok (.iload_n 2, 1) := by decide +kernel
theorem dX11_wet_44 : decode cX11_wet 44 = .ok (.ireturn, 1) := by decide +kernel
theorem dX11_counted_0 : decode cX11_counted 0 = .ok (.bipush 10, 2) := by decide +kernel
theorem dX11_counted_2 : decode cX11_counted 2 = .ok (.newarray .int, 2) := by decide +kernel
theorem dX11_counted_4 : decode cX11_counted 4 = .ok (.dup, 1) := by decide +kernel
theorem dX11_counted_5 : decode cX11_counted 5 = .ok (.iconst 0, 1) := by decide +kernel
theorem dX11_counted_6 : decode cX11_counted 6 = .ok (.aload_n 0, 1) := by decide +kernel
theorem dX11_counted_7 : decode cX11_counted 7 = .ok (.getfield 28, 3) := by decide +kernel
theorem dX11_counted_10 : decode cX11_counted 10 = .ok (.getfield 152, 3) := by decide +kernel
theorem dX11_counted_13 : decode cX11_counted 13 = .ok (.iastore, 1) := by decide +kernel
theorem dX11_counted_14 : decode cX11_counted 14 = .ok (.dup, 1) := by decide +kernel
theorem dX11_counted_15 : decode cX11_counted 15 = .ok (.iconst 1, 1) := by decide +kernel
theorem dX11_counted_16 : decode cX11_counted 16 = .ok (.aload_n 0, 1) := by decide +kernel
theorem dX11_counted_17 : decode cX11_counted 17 = .ok (.getfield 83, 3) := by decide +kernel
theorem dX11_counted_20 : decode cX11_counted 20 = .ok (.iastore, 1) := by decide +kernel
theorem dX11_counted_21 : decode cX11_counted 21 = .ok (.dup, 1) := by decide +kernel
theorem dX11_counted_22 : decode cX11_counted 22 = .ok (.iconst 2, 1) := by decide +kernel
theorem dX11_counted_23 : decode cX11_counted 23 = .ok (.aload_n 0, 1) := by decide +kernel
theorem dX11_counted_24 : decode cX11_counted 24 = .ok (.aload_n 0, 1) := by decide +kernel
theorem dX11_counted_25 : decode cX11_counted 25 = .ok (.getfield 28, 3) := by decide +kernel
theorem dX11_counted_28 : decode cX11_counted 28 = .ok (.iconst 0, 1) := by decide +kernel
theorem dX11_counted_29 : decode cX11_counted 29 = .ok (.invokevirtual 201, 3) := by decide +kernel
theorem dX11_counted_32 : decode cX11_counted 32 = .ok (.iastore, 1) := by decide +kernel
theorem dX11_counted_33 : decode cX11_counted 33 = .ok (.dup, 1) := by decide +kernel
theorem dX11_counted_34 : decode cX11_counted 34 = .ok (.iconst 3, 1) := by decide +kernel
theorem dX11_counted_35 : decode cX11_counted 35 = .ok (.aload_n 0, 1) := by decide +kernel
theorem dX11_counted_36 : decode cX11_counted 36 = .ok (.aload_n 0, 1) := by decide +kernel
theorem dX11_counted_37 : decode cX11_counted 37 = .ok (.getfield 28, 3) := by decide +kernel
theorem dX11_counted_40 : decode cX11_counted 40 = .ok (.iconst 1, 1) := by decide +kernel
theorem dX11_counted_41 : decode cX11_counted 41 = .ok (.invokevirtual 201, 3) := by decide +kernel
theorem dX11_counted_44 : decode cX11_counted 44 = .ok (.iastore, 1) := by decide +kernel
theorem dX11_counted_45 : decode cX11_counted 45 = .ok (.dup, 1) := by decide +kernel
theorem dX11_counted_46 : decode cX11_counted 46 = .ok (.iconst 4, 1) := by decide +kernel
theorem dX11_counted_47 : decode cX11_counted 47 = .ok (.aload_n 0, 1) := by decide +kernel
theorem dX11_counted_48 : decode cX11_counted 48 = .ok (.aload_n 0, 1) := by decide +kernel
theorem dX11_counted_49 : decode cX11_counted 49 = .ok (.getfield 28, 3) := by decide +kernel
theorem dX11_counted_52 : decode cX11_counted 52 = .ok (.iconst 2, 1) := by decide +kernel
theorem dX11_counted_53 : decode cX11_counted 53 = .ok (.invokevirtual 201, 3) := by decide +kernel
theorem dX11_counted_56 : decode cX11_counted 56 = .ok (.iastore, 1) := by decide +kernel
theorem dX11_counted_57 : decode cX11_counted 57 = .ok (.dup, 1) := by decide +kernel
theorem dX11_counted_58 : decode cX11_counted 58 = .ok (.iconst 5, 1) := by decide +kernel
theorem dX11_counted_59 : decode cX11_counted 59 = .ok (.aload_n 0, 1) := by decide +kernel
theorem dX11_counted_60 : decode cX11_counted 60 = .ok (.getfield 28, 3) := by decide +kernel
theorem dX11_counted_63 : decode cX11_counted 63 = .ok (.getfield 149, 3) := by decide +kernel
theorem dX11_counted_66 : decode cX11_counted 66 = .ok (.iastore, 1) := by decide +kernel
theorem dX11_counted_67 : decode cX11_counted 67 = .ok (.dup, 1) := by decide +kernel
theorem dX11_counted_68 : decode cX11_counted 68 = .ok (.bipush 6, 2) := by decide +kernel
theorem dX11_counted_70 : decode cX11_counted 70 = .ok (.aload_n 0, 1) := by decide +kernel
theorem dX11_counted_71 : decode cX11_counted 71 = .ok (.getfield 28, 3) := by decide +kernel
theorem dX11_counted_74 : decode cX11_counted 74 = .ok (.iconst 0, 1) := by decide +kernel
theorem dX11_counted_75 : decode cX11_counted 75 = .ok (.invokestatic 204, 3) := by decide +kernel
theorem dX11_counted_78 : decode cX11_counted 78 = .ok (.iastore, 1) := by decide +kernel
theorem dX11_counted_79 : decode cX11_counted 79 = .ok (.dup, 1) := by decide +kernel
theorem dX11_counted_80 : decode cX11_counted 80 = .ok (.bipush 7, 2) := by decide +kernel
theorem dX11_counted_82 : decode cX11_counted 82 = .ok (.aload_n 0, 1) := by decide +kernel
theorem dX11_counted_83 : decode cX11_counted 83 = .ok (.getfield 28, 3) := by decide +kernel
theorem dX11_counted_86 : decode cX11_counted 86 = .ok (.iconst 1, 1) := by decide +kernel
theorem dX11_counted_87 : decode cX11_counted 87 = .ok (.invokestatic 204, 3) := by decide +kernel
theorem dX11_counted_90 : decode cX11_counted 90 = .ok (.iastore, 1) := by decide +kernel
theorem dX11_counted_91 : decode cX11_counted 91 = .ok (.dup, 1) := by decide +kernel
theorem dX11_counted_92 : decode cX11_counted 92 = .ok (.bipush 8, 2) := by decide +kernel
theorem dX11_counted_94 : decode cX11_counted 94 = .ok (.aload_n 0, 1) := by decide +kernel
theorem dX11_counted_95 : decode cX11_counted 95 = .ok (.getfield 28, 3) := by decide +kernel
theorem dX11_counted_98 : decode cX11_counted 98 = .ok (.getfield 54, 3) := by decide +kernel
theorem dX11_counted_101 : decode cX11_counted 101 = .ok (.invokestatic 57, 3) := by decide +kernel
theorem dX11_counted_104 : decode cX11_counted 104 = .ok (.iastore, 1) := by decide +kernel
theorem dX11_counted_105 : decode cX11_counted 105 = .ok (.dup, 1) := by decide +kernel
theorem dX11_counted_106 : decode cX11_counted 106 = .ok (.bipush 9, 2) := by decide +kernel
theorem dX11_counted_108 : decode cX11_counted 108 = .ok (.aload_n 0, 1) := by decide +kernel
theorem dX11_counted_109 : decode cX11_counted 109 = .ok (.aload_n 0, 1) := by decide +kernel
theorem dX11_counted_110 : decode cX11_counted 110 = .ok (.getfield 28, 3) := by decide +kernel
theorem dX11_counted_113 : decode cX11_counted 113 = .ok (.invokevirtual 162, 3) := by decide +kernel
theorem dX11_counted_116 : decode cX11_counted 116 = .ok (.iastore, 1) := by decide +kernel
theorem dX11_counted_117 : decode cX11_counted 117 = .ok (.astore_n 2, 1) := by decide +kernel
theorem dX11_counted_118 : decode cX11_counted 118 = .ok (.aload_n 2, 1) := by decide +kernel
theorem dX11_counted_119 : decode cX11_counted 119 = .ok (.iload_n 1, 1) := by decide +kernel
theorem dX11_counted_120 : decode cX11_counted 120 = .ok (.iaload, 1) := by decide +kernel
theorem dX11_counted_121 : decode cX11_counted 121 = .ok (.ireturn, 1) := by decide +kernel
theorem dX11_count_0 : decode cX11_count 0 = .ok (.aload_n 0, 1) := by decide +kernel
theorem dX11_count_1 : decode cX11_count 1 = .ok (.iconst 0, 1) := by decide +kernel
theorem dX11_count_2 : decode cX11_count 2 = .ok (.putfield 38, 3) := by decide +kernel
theorem dX11_count_5 : decode cX11_count 5 = .ok (.iload_n 1, 1) := by decide +kernel
theorem dX11_count_6 : decode cX11_count 6 = .ok (.iconst 0, 1) := by decide +kernel
theorem dX11_count_7 : decode cX11_count 7 = .ok (.bipush 9, 2) := by decide +kernel
theorem dX11_count_9 : decode cX11_count 9 = .ok (.invokestatic 42, 3) := by decide +kernel
theorem dX11_count_12 : decode cX11_count 12 = .ok (.ifCond .eq 11, 3) := by decide +kernel
theorem dX11_count_15 : decode cX11_count 15 = .ok (.aload_n 0, 1) := by decide +kernel
theorem dX11_count_16 : decode cX11_count 16 = .ok (.iload_n 1, 1) := by decide +kernel
theorem dX11_count_17 : decode cX11_count 17 = .ok (.invokevirtual 208, 3) := by decide +kernel
theorem dX11_count_20 : decode cX11_count 20 = .ok (.goto 8, 3) := by decide +kernel
theorem dX11_count_23 : decode cX11_count 23 = .ok (.aload_n 0, 1) := by decide +kernel
theorem dX11_count_24 : decode cX11_count 24 = .ok (.iconst 1, 1) := by decide +kernel
theorem dX11_count_25 : decode cX11_count 25 = .ok (.invokevirtual 50, 3) := by decide +kernel
theorem dX11_count_28 : decode cX11_count 28 = .ok (.ireturn, 1) := by decide +kernel
theorem dX11_pass_0 : decode cX11_pass 0 = .ok (.aload_n 0, 1) := by decide +kernel
theorem dX11_pass_1 : decode cX11_pass 1 = .ok (.iconst 0, 1) := by decide +kernel
theorem dX11_pass_2 : decode cX11_pass 2 = .ok (.putfield 38, 3) := by decide +kernel
theorem dX11_pass_5 : decode cX11_pass 5 = .ok (.iload_n 1, 1) := by decide +kernel
theorem dX11_pass_6 : decode cX11_pass 6 = .ok (.iconst 1, 1) := by decide +kernel
theorem dX11_pass_7 : decode cX11_pass 7 = .ok (.bipush 36, 2) := by decide +kernel
theorem dX11_pass_9 : decode cX11_pass 9 = .ok (.invokestatic 42, 3) := by decide +kernel
theorem dX11_pass_12 : decode cX11_pass 12 = .ok (.ifCond .ne 9, 3) := by decide +kernel
theorem dX11_pass_15 : decode cX11_pass 15 = .ok (.aload_n 0, 1) := by decide +kernel
theorem dX11_pass_16 : decode cX11_pass 16 = .ok (.iconst 1, 1) := by decide +kernel
theorem dX11_pass_17 : decode cX11_pass 17 = .ok (.invokevirtual 50, 3) := by decide +kernel
theorem dX11_pass_20 : decode cX11_pass 20 = .ok (.ireturn, 1) := by decide +kernel
theorem dX11_pass_21 : decode cX11_pass 21 = .ok (.aload_n 0, 1) := by decide +kernel
theorem dX11_pass_22 : decode cX11_pass 22 = .ok (.getfield 28, 3) := by decide +kernel
theorem dX11_pass_25 : decode cX11_pass 25 = .ok (.getfield 149, 3) := by decide +kernel
theorem dX11_pass_28 : decode cX11_pass 28 = .ok (.istore_n 2, 1) := by decide +kernel
theorem dX11_pass_29 : decode cX11_pass 29 = .ok (.aload_n 0, 1) := by decide +kernel
theorem dX11_pass_30 : decode cX11_pass 30 = .ok (.aload_n 0, 1) := by decide +kernel
theorem dX11_pass_31 : decode cX11_pass 31 = .ok (.getfield 28, 3) := by decide +kernel
theorem dX11_pass_34 : decode cX11_pass 34 = .ok (.iload_n 1, 1) := by decide +kernel
theorem dX11_pass_35 : decode cX11_pass 35 = .ok (.invokevirtual 211, 3) := by decide +kernel
theorem dX11_pass_38 : decode cX11_pass 38 = .ok (.aload_n 0, 1) := by decide +kernel
theorem dX11_pass_39 : decode cX11_pass 39 = .ok (.getfield 28, 3) := by decide +kernel
theorem dX11_pass_42 : decode cX11_pass 42 = .ok (.getfield 149, 3) := by decide +kernel
theorem dX11_pass_45 : decode cX11_pass 45 = .ok (.iload_n 2, 1) := by decide +kernel
theorem dX11_pass_46 : decode cX11_pass 46 = .ok (.isub, 1) := by decide +kernel
theorem dX11_pass_47 : decode cX11_pass 47 = .ok (.ireturn, 1) := by decide +kernel
theorem dX11_fuel_0 : decode cX11_fuel 0 = .ok (.iconst 0, 1) := by decide +kernel
theorem dX11_fuel_1 : decode cX11_fuel 1 = .ok (.istore_n 2, 1) := by decide +kernel
theorem dX11_fuel_2 : decode cX11_fuel 2 = .ok (.iconst 0, 1) := by decide +kernel
theorem dX11_fuel_3 : decode cX11_fuel 3 = .ok (.istore_n 3, 1) := by decide +kernel
theorem dX11_fuel_4 : decode cX11_fuel 4 = .ok (.iload_n 3, 1) := by decide +kernel
theorem dX11_fuel_5 : decode cX11_fuel 5 = .ok (.aload_n 0, 1) := by decide +kernel
theorem dX11_fuel_6 : decode cX11_fuel 6 = .ok (.getfield 61, 3) := by decide +kernel
theorem dX11_fuel_9 : decode cX11_fuel 9 = .ok (.if_icmp .ge 22, 3) := by decide +kernel
theorem dX11_fuel_12 : decode cX11_fuel 12 = .ok (.iload_n 2, 1) := by decide +kernel
theorem dX11_fuel_13 : decode cX11_fuel 13 = .ok (.aload_n 1, 1) := by decide +kernel
theorem dX11_fuel_14 : decode cX11_fuel 14 = .ok (.getfield 64, 3) := by decide +kernel
theorem dX11_fuel_17 : decode cX11_fuel 17 = .ok (.iconst 5, 1) := by decide +kernel
theorem dX11_fuel_18 : decode cX11_fuel 18 = .ok (.iload_n 3, 1) := by decide +kernel
theorem dX11_fuel_19 : decode cX11_fuel 19 = .ok (.imul, 1) := by decide +kernel
theorem dX11_fuel_20 : decode cX11_fuel 20 = .ok (.iconst 2, 1) := by decide +kernel
theorem dX11_fuel_21 : decode cX11_fuel 21 = .ok (.iadd, 1) := by decide +kernel
theorem dX11_fuel_22 : decode cX11_fuel 22 = .ok (.iaload, 1) := by decide +kernel
theorem dX11_fuel_23 : decode cX11_fuel 23 = .ok (.iadd, 1) := by decide +kernel
theorem dX11_fuel_24 : decode cX11_fuel 24 = .ok (.istore_n 2, 1) := by decide +kernel
theorem dX11_fuel_25 : decode cX11_fuel 25 = .ok (.iinc 3 1, 3) := by decide +kernel
theorem dX11_fuel_28 : decode cX11_fuel 28 = .ok (.goto (-24), 3) := by decide +kernel
theorem dX11_fuel_31 : decode cX11_fuel 31 = .ok (.iload_n 2, 1) := by decide +kernel
theorem dX11_fuel_32 : decode cX11_fuel 32 = .ok (.ireturn, 1) := by decide +kernel
theorem dX11_foresee_0 : decode cX11_foresee 0 = .ok (.aload_n 0, 1) := by decide +kernel
theorem dX11_foresee_1 : decode cX11_foresee 1 = .ok (.iconst 0, 1) := by decide +kernel
theorem dX11_foresee_2 : decode cX11_foresee 2 = .ok (.putfield 38, 3) := by decide +kernel
theorem dX11_foresee_5 : decode cX11_foresee 5 = .ok (.iload_n 1, 1) := by decide +kernel
theorem dX11_foresee_6 : decode cX11_foresee 6 = .ok (.iconst 1, 1) := by decide +kernel
theorem dX11_foresee_7 : decode cX11_foresee 7 = .ok (.bipush 36, 2) := by decide +kernel
theorem dX11_foresee_9 : decode cX11_foresee 9 = .ok (.invokestatic 42, 3) := by decide +kernel
theorem dX11_foresee_12 : decode cX11_foresee 12 = .ok (.ifCond .ne 9, 3) := by decide +kernel
theorem dX11_foresee_15 : decode cX11_foresee 15 = .ok (.aload_n 0, 1) := by decide +kernel
theorem dX11_foresee_16 : decode cX11_foresee 16 = .ok (.iconst 1, 1) := by decide +kernel
theorem dX11_foresee_17 : decode cX11_foresee 17 = .ok (.invokevirtual 50, 3) := by decide +kernel
theorem dX11_foresee_20 : decode cX11_foresee 20 = .ok (.ireturn, 1) := by decide +kernel
theorem dX11_foresee_21 : decode cX11_foresee 21 = .ok (.iload_n 2, 1) := by decide +kernel
theorem dX11_foresee_22 : decode cX11_foresee 22 = .ok (.iconst 0, 1) := by decide +kernel
theorem dX11_foresee_23 : decode cX11_foresee 23 = .ok (.iconst 3, 1) := by decide +kernel
theorem dX11_foresee_24 : decode cX11_foresee 24 = .ok (.invokestatic 42, 3) := by decide +kernel
theorem dX11_foresee_27 : decode cX11_foresee 27 = .ok (.ifCond .ne 9, 3) := by decide +kernel
theorem dX11_foresee_30 : decode cX11_foresee 30 = .ok (.aload_n 0, 1) := by decide +kernel
theorem dX11_foresee_31 : decode cX11_foresee 31 = .ok (.iconst 2, 1) := by decide +kernel
theorem dX11_foresee_32 : decode cX11_foresee 32 = .ok (.invokevirtual 50, 3) := by decide +kernel
theorem dX11_foresee_35 : decode cX11_foresee 35 = .ok (.ireturn, 1) := by decide +kernel
theorem dX11_foresee_36 : decode cX11_foresee 36 = .ok (.aload_n 0, 1) := by decide +kernel
theorem dX11_foresee_37 : decode cX11_foresee 37 = .ok (.getfield 32, 3) := by decide +kernel
theorem dX11_foresee_40 : decode cX11_foresee 40 = .ok (.aload_n 0, 1) := by decide +kernel
theorem dX11_foresee_41 : decode cX11_foresee 41 = .ok (.getfield 28, 3) := by decide +kernel
theorem dX11_foresee_44 : decode cX11_foresee 44 = .ok (.invokevirtual 214, 3) := by decide +kernel
theorem dX11_foresee_47 : decode cX11_foresee 47 = .ok (.aload_n 0, 1) := by decide +kernel
theorem dX11_foresee_48 : decode cX11_foresee 48 = .ok (.aload_n 0, 1) := by decide +kernel
theorem dX11_foresee_49 : decode cX11_foresee 49 = .ok (.getfield 32, 3) := by decide +kernel
theorem dX11_foresee_52 : decode cX11_foresee 52 = .ok (.iload_n 1, 1) := by decide +kernel
theorem dX11_foresee_53 : decode cX11_foresee 53 = .ok (.invokevirtual 211, 3) := by decide +kernel
theorem dX11_foresee_56 : decode cX11_foresee 56 = .ok (.iload_n 2, 1) := by decide +kernel
theorem dX11_foresee_57 : decode cX11_foresee 57 = .ok (.ifCond .ne 15, 3) := by decide +kernel
theorem dX11_foresee_60 : decode cX11_foresee 60 = .ok (.aload_n 0, 1) := by decide +kernel
theorem dX11_foresee_61 : decode cX11_foresee 61 = .ok (.aload_n 0, 1) := by decide +kernel
theorem dX11_foresee_62 : decode cX11_foresee 62 = .ok (.getfield 32, 3) := by decide +kernel
theorem dX11_foresee_65 : decode cX11_foresee 65 = .ok (.iconst 2, 1) := by decide +kernel
theorem dX11_foresee_66 : decode cX11_foresee 66 = .ok (.invokevirtual 201, 3) := by decide +kernel
theorem dX11_foresee_69 : decode cX11_foresee 69 = .ok (.goto 50, 3) := by decide +kernel
theorem dX11_foresee_72 : decode cX11_foresee 72 = .ok (.iload_n 2, 1) := by decide +kernel
theorem dX11_foresee_73 : decode cX11_foresee 73 = .ok (.iconst 1, 1) := by decide +kernel
theorem dX11_foresee_74 : decode cX11_foresee 74 = .ok (.if_icmp .ne 21, 3) := by decide +kernel
theorem dX11_foresee_77 : decode cX11_foresee 77 = .ok (.aload_n 0, 1) := by decide +kernel
theorem dX11_foresee_78 : decode cX11_foresee 78 = .ok (.getfield 32, 3) := by decide +kernel
theorem dX11_foresee_81 : decode cX11_foresee 81 = .ok (.getfield 149, 3) := by decide +kernel
theorem dX11_foresee_84 : decode cX11_foresee 84 = .ok (.aload_n 0, 1) := by decide +kernel
theorem dX11_foresee_85 : decode cX11_foresee 85 = .ok (.getfield 28, 3) := by decide +kernel
theorem dX11_foresee_88 : decode cX11_foresee 88 = .ok (.getfield 149, 3) := by decide +kernel
theorem dX11_foresee_91 : decode cX11_foresee 91 = .ok (.isub, 1) := by decide +kernel
theorem dX11_foresee_92 : decode cX11_foresee 92 = .ok (.goto 27, 3) := by decide +kernel
theorem dX11_foresee_95 : decode cX11_foresee 95 = .ok (.iload_n 2, 1) := by decide +kernel
theorem dX11_foresee_96 : decode cX11_foresee 96 = .ok (.iconst 2, 1) := by decide +kernel
theorem dX11_foresee_97 : decode cX11_foresee 97 = .ok (.if_icmp .ne 14, 3) := by decide +kernel
theorem dX11_foresee_100 : decode cX11_foresee 100 = .ok (.aload_n 0, 1) := by decide +kernel
theorem dX11_foresee_101 : decode cX11_foresee 101 = .ok (.getfield 32, 3) := by decide +kernel
theorem dX11_foresee_104 : decode cX11_foresee 104 = .ok (.iconst 0, 1) := by decide +kernel
theorem dX11_foresee_105 : decode cX11_foresee 105 = .ok (.invokestatic 204, 3) := by decide +kernel
theorem dX11_foresee_108 : decode cX11_foresee 108 = .ok (.goto 11, 3) := by decide +kernel
theorem dX11_foresee_111 : decode cX11_foresee 111 = .ok (.aload_n 0, 1) := by decide +kernel
theorem dX11_foresee_112 : decode cX11_foresee 112 = .ok (.aload_n 0, 1) := by decide +kernel
theorem dX11_foresee_113 : decode cX11_foresee 113 = .ok (.getfield 32, 3) := by decide +kernel
theorem dX11_foresee_116 : decode cX11_foresee 116 = .ok (.invokevirtual 217, 3) := by decide +kernel
theorem dX11_foresee_119 : decode cX11_foresee 119 = .ok (.ireturn, 1) := by decide +kernel
theorem dX11_rings__0 : decode cX11_rings_ 0 = .ok (.aload_n 0, 1) := by decide +kernel
theorem dX11_rings__1 : decode cX11_rings_ 1 = .ok (.iconst 0, 1) := by decide +kernel
theorem dX11_rings__2 : decode cX11_rings_ 2 = .ok (.putfield 38, 3) := by decide +kernel
theorem dX11_rings__5 : decode cX11_rings_ 5 = .ok (.iload_n 1, 1) := by decide +kernel
theorem dX11_rings__6 : decode cX11_rings_ 6 = .ok (.iconst 0, 1) := by decide +kernel
theorem dX11_rings__7 : decode cX11_rings_ 7 = .ok (.aload_n 0, 1) := by decide +kernel
theorem dX11_rings__8 : decode cX11_rings_ 8 = .ok (.getfield 71, 3) := by decide +kernel
theorem dX11_rings__11 : decode cX11_rings_ 11 = .ok (.iconst 1, 1) := by decide +kernel
theorem dX11_rings__12 : decode cX11_rings_ 12 = .ok (.isub, 1) := by decide +kernel
theorem dX11_rings__13 : decode cX11_rings_ 13 = .ok (.invokestatic 42, 3) := by decide +kernel
theorem dX11_rings__16 : decode cX11_rings_ 16 = .ok (.ifCond .ne 9, 3) := by decide +kernel
theorem dX11_rings__19 : decode cX11_rings_ 19 = .ok (.aload_n 0, 1) := by decide +kernel
theorem dX11_rings__20 : decode cX11_rings_ 20 = .ok (.iconst 1, 1) := by decide +kernel
theorem dX11_rings__21 : decode cX11_rings_ 21 = .ok (.invokevirtual 50, 3) := by decide +kernel
theorem dX11_rings__24 : decode cX11_rings_ 24 = .ok (.ireturn, 1) := by decide +kernel
theorem dX11_rings__25 : decode cX11_rings_ 25 = .ok (.aload_n 0, 1) := by decide +kernel
theorem dX11_rings__26 : decode cX11_rings_ 26 = .ok (.getfield 32, 3) := by decide +kernel
theorem dX11_rings__29 : decode cX11_rings_ 29 = .ok (.aload_n 0, 1) := by decide +kernel
theorem dX11_rings__30 : decode cX11_rings_ 30 = .ok (.getfield 28, 3) := by decide +kernel
theorem dX11_rings__33 : decode cX11_rings_ 33 = .ok (.invokevirtual 214, 3) := by decide +kernel
theorem dX11_rings__36 : decode cX11_rings_ 36 = .ok (.iconst 0, 1) := by decide +kernel
theorem dX11_rings__37 : decode cX11_rings_ 37 = .ok (.istore_n 2, 1) := by decide +kernel
theorem dX11_rings__38 : decode cX11_rings_ 38 = .ok (.iload_n 2, 1) := by decide +kernel
theorem dX11_rings__39 : decode cX11_rings_ 39 = .ok (.bipush 48, 2) := by decide +kernel
theorem dX11_rings__41 : decode cX11_rings_ 41 = .ok (.if_icmp .gt 31, 3) := by decide +kernel
theorem dX11_rings__44 : decode cX11_rings_ 44 = .ok (.aload_n 0, 1) := by decide +kernel
theorem dX11_rings__45 : decode cX11_rings_ 45 = .ok (.aload_n 0, 1) := by decide +kernel
theorem dX11_rings__46 : decode cX11_rings_ 46 = .ok (.getfield 32, 3) := by decide +kernel
theorem dX11_rings__49 : decode cX11_rings_ 49 = .ok (.iload_n 1, 1) := by decide +kernel
theorem dX11_rings__50 : decode cX11_rings_ 50 = .ok (.invokevirtual 113, 3) := by decide +kernel
theorem dX11_rings__53 : decode cX11_rings_ 53 = .ok (.ifCond .eq 5, 3) := by decide +kernel
theorem dX11_rings__56 : decode cX11_rings_ 56 = .ok (.iload_n 2, 1) := by decide +kernel
theorem dX11_rings__57 : decode cX11_rings_ 57 = .ok (.ireturn, 1) := by decide +kernel
theorem dX11_rings__58 : decode cX11_rings_ 58 = .ok (.aload_n 0, 1) := by decide +kernel
theorem dX11_rings__59 : decode cX11_rings_ 59 = .ok (.aload_n 0, 1) := by decide +kernel
theorem dX11_rings__60 : decode cX11_rings_ 60 = .ok (.getfield 32, 3) := by decide +kernel
theorem dX11_rings__63 : decode cX11_rings_ 63 = .ok (.invokevirtual 175, 3) := by decide +kernel
theorem dX11_rings__66 : decode cX11_rings_ 66 = .ok (.iinc 2 1, 3) := by decide +kernel
theorem dX11_rings__69 : decode cX11_rings_ 69 = .ok (.goto (-31), 3) := by decide +kernel
theorem dX11_rings__72 : decode cX11_rings_ 72 = .ok (.iconst (-1), 1) := by decide +kernel
theorem dX11_rings__73 : decode cX11_rings_ 73 = .ok (.ireturn, 1) := by decide +kernel
theorem dX11_waterWith_0 : decode cX11_waterWith 0 = .ok (.aload_n 0, 1) := by decide +kernel
theorem dX11_waterWith_1 : decode cX11_waterWith 1 = .ok (.getfield 32, 3) := by decide +kernel
theorem dX11_waterWith_4 : decode cX11_waterWith 4 = .ok (.aload_n 0, 1) := by decide +kernel
theorem dX11_waterWith_5 : decode cX11_waterWith 5 = .ok (.getfield 28, 3) := by decide +kernel
theorem dX11_waterWith_8 : decode cX11_waterWith 8 = .ok (.invokevirtual 214, 3) := by decide +kernel
theorem dX11_waterWith_11 : decode cX11_waterWith 11 = .ok (.iload_n 1, 1) := by decide +kernel
theorem dX11_waterWith_12 : decode cX11_waterWith 12 = .ok (.iconst (-1), 1) := by decide +kernel
theorem dX11_waterWith_13 : decode cX11_waterWith 13 = .ok (.if_icmp .eq 16, 3) := by decide +kernel
theorem dX11_waterWith_16 : decode cX11_waterWith 16 = .ok (.aload_n 0, 1) := by decide +kernel
theorem dX11_waterWith_17 : decode cX11_waterWith 17 = .ok (.getfield 32, 3) := by decide +kernel
theorem dX11_waterWith_20 : decode cX11_waterWith 20 = .ok (.getfield 54, 3) := by decide +kernel
theorem dX11_waterWith_23 : decode cX11_waterWith 23 = .ok (.iload_n 1, 1) := by decide +kernel
theorem dX11_waterWith_24 : decode cX11_waterWith 24 = .ok (.dup2, 1) := by decide +kernel
theorem dX11_waterWith_25 : decode cX11_waterWith 25 = .ok (.iaload, 1) := by decide +kernel
end
section
theorem dX11_waterWith_26 : decode cX11_waterWith 26 = .ok (.iconst 1, 1) := by decide +kernel
theorem dX11_waterWith_27 : decode cX11_waterWith 27 = .ok (.iadd, 1) := by decide +kernel
theorem dX11_waterWith_28 : decode cX11_waterWith 28 = .ok (.iastore, 1) := by decide +kernel
theorem dX11_waterWith_29 : decode cX11_waterWith 29 = .ok (.aload_n 0, 1) := by decide +kernel
theorem dX11_waterWith_30 : decode cX11_waterWith 30 = .ok (.aload_n 0, 1) := by decide +kernel
theorem dX11_waterWith_31 : decode cX11_waterWith 31 = .ok (.getfield 32, 3) := by decide +kernel
theorem dX11_waterWith_34 : decode cX11_waterWith 34 = .ok (.iload_n 2, 1) := by decide +kernel
theorem dX11_waterWith_35 : decode cX11_waterWith 35 = .ok (.invokevirtual 211, 3) := by decide +kernel
theorem dX11_waterWith_38 : decode cX11_waterWith 38 = .ok (.aload_n 0, 1) := by decide +kernel
theorem dX11_waterWith_39 : decode cX11_waterWith 39 = .ok (.getfield 32, 3) := by decide +kernel
theorem dX11_waterWith_42 : decode cX11_waterWith 42 = .ok (.iconst 1, 1) := by decide +kernel
theorem dX11_waterWith_43 : decode cX11_waterWith 43 = .ok (.invokestatic 204, 3) := by decide +kernel
theorem dX11_waterWith_46 : decode cX11_waterWith 46 = .ok (.ireturn, 1) := by decide +kernel
theorem dX11_advise_0 : decode cX11_advise 0 = .ok (.aload_n 0, 1) := by decide +kernel
theorem dX11_advise_1 : decode cX11_advise 1 = .ok (.iconst 0, 1) := by decide +kernel
theorem dX11_advise_2 : decode cX11_advise 2 = .ok (.putfield 38, 3) := by decide +kernel
theorem dX11_advise_5 : decode cX11_advise 5 = .ok (.iload_n 1, 1) := by decide +kernel
theorem dX11_advise_6 : decode cX11_advise 6 = .ok (.iconst 1, 1) := by decide +kernel
theorem dX11_advise_7 : decode cX11_advise 7 = .ok (.bipush 6, 2) := by decide +kernel
theorem dX11_advise_9 : decode cX11_advise 9 = .ok (.invokestatic 42, 3) := by decide +kernel
theorem dX11_advise_12 : decode cX11_advise 12 = .ok (.ifCond .ne 9, 3) := by decide +kernel
theorem dX11_advise_15 : decode cX11_advise 15 = .ok (.aload_n 0, 1) := by decide +kernel
theorem dX11_advise_16 : decode cX11_advise 16 = .ok (.iconst 1, 1) := by decide +kernel
theorem dX11_advise_17 : decode cX11_advise 17 = .ok (.invokevirtual 50, 3) := by decide +kernel
theorem dX11_advise_20 : decode cX11_advise 20 = .ok (.ireturn, 1) := by decide +kernel
theorem dX11_advise_21 : decode cX11_advise 21 = .ok (.aload_n 0, 1) := by decide +kernel
theorem dX11_advise_22 : decode cX11_advise 22 = .ok (.iconst (-1), 1) := by decide +kernel
theorem dX11_advise_23 : decode cX11_advise 23 = .ok (.iload_n 1, 1) := by decide +kernel
theorem dX11_advise_24 : decode cX11_advise 24 = .ok (.invokevirtual 220, 3) := by decide +kernel
theorem dX11_advise_27 : decode cX11_advise 27 = .ok (.istore_n 2, 1) := by decide +kernel
theorem dX11_advise_28 : decode cX11_advise 28 = .ok (.iconst (-1), 1) := by decide +kernel
theorem dX11_advise_29 : decode cX11_advise 29 = .ok (.istore_n 3, 1) := by decide +kernel
theorem dX11_advise_30 : decode cX11_advise 30 = .ok (.iconst 0, 1) := by decide +kernel
theorem dX11_advise_31 : decode cX11_advise 31 = .ok (.istore 4, 2) := by decide +kernel
theorem dX11_advise_33 : decode cX11_advise 33 = .ok (.iload 4, 2) := by decide +kernel
theorem dX11_advise_35 : decode cX11_advise 35 = .ok (.bipush 10, 2) := by decide +kernel
theorem dX11_advise_37 : decode cX11_advise 37 = .ok (.if_icmp .ge 56, 3) := by decide +kernel
theorem dX11_advise_40 : decode cX11_advise 40 = .ok (.aload_n 0, 1) := by decide +kernel
theorem dX11_advise_41 : decode cX11_advise 41 = .ok (.getfield 28, 3) := by decide +kernel
theorem dX11_advise_44 : decode cX11_advise 44 = .ok (.getfield 54, 3) := by decide +kernel
theorem dX11_advise_47 : decode cX11_advise 47 = .ok (.bipush 10, 2) := by decide +kernel
theorem dX11_advise_49 : decode cX11_advise 49 = .ok (.iload 4, 2) := by decide +kernel
theorem dX11_advise_51 : decode cX11_advise 51 = .ok (.iadd, 1) := by decide +kernel
theorem dX11_advise_52 : decode cX11_advise 52 = .ok (.iaload, 1) := by decide +kernel
theorem dX11_advise_53 : decode cX11_advise 53 = .ok (.iconst 5, 1) := by decide +kernel
theorem dX11_advise_54 : decode cX11_advise 54 = .ok (.if_icmp .ne 6, 3) := by decide +kernel
theorem dX11_advise_57 : decode cX11_advise 57 = .ok (.goto 30, 3) := by decide +kernel
theorem dX11_advise_60 : decode cX11_advise 60 = .ok (.aload_n 0, 1) := by decide +kernel
theorem dX11_advise_61 : decode cX11_advise 61 = .ok (.bipush 10, 2) := by decide +kernel
theorem dX11_advise_63 : decode cX11_advise 63 = .ok (.iload 4, 2) := by decide +kernel
theorem dX11_advise_65 : decode cX11_advise 65 = .ok (.iadd, 1) := by decide +kernel
theorem dX11_advise_66 : decode cX11_advise 66 = .ok (.iload_n 1, 1) := by decide +kernel
theorem dX11_advise_67 : decode cX11_advise 67 = .ok (.invokevirtual 220, 3) := by decide +kernel
theorem dX11_advise_70 : decode cX11_advise 70 = .ok (.istore 5, 2) := by decide +kernel
theorem dX11_advise_72 : decode cX11_advise 72 = .ok (.iload 5, 2) := by decide +kernel
theorem dX11_advise_74 : decode cX11_advise 74 = .ok (.iload_n 2, 1) := by decide +kernel
theorem dX11_advise_75 : decode cX11_advise 75 = .ok (.if_icmp .lt 6, 3) := by decide +kernel
theorem dX11_advise_78 : decode cX11_advise 78 = .ok (.goto 9, 3) := by decide +kernel
theorem dX11_advise_81 : decode cX11_advise 81 = .ok (.iload 4, 2) := by decide +kernel
theorem dX11_advise_83 : decode cX11_advise 83 = .ok (.istore_n 3, 1) := by decide +kernel
theorem dX11_advise_84 : decode cX11_advise 84 = .ok (.iload 5, 2) := by decide +kernel
theorem dX11_advise_86 : decode cX11_advise 86 = .ok (.istore_n 2, 1) := by decide +kernel
theorem dX11_advise_87 : decode cX11_advise 87 = .ok (.iinc 4 1, 3) := by decide +kernel
theorem dX11_advise_90 : decode cX11_advise 90 = .ok (.goto (-57), 3) := by decide +kernel
theorem dX11_advise_93 : decode cX11_advise 93 = .ok (.iload_n 3, 1) := by decide +kernel
theorem dX11_advise_94 : decode cX11_advise 94 = .ok (.ireturn, 1) := by decide +kernel
theorem dX11_share_0 : decode cX11_share 0 = .ok (.aload_n 0, 1) := by decide +kernel
theorem dX11_share_1 : decode cX11_share 1 = .ok (.iconst 0, 1) := by decide +kernel
theorem dX11_share_2 : decode cX11_share 2 = .ok (.putfield 38, 3) := by decide +kernel
theorem dX11_share_5 : decode cX11_share 5 = .ok (.aload_n 0, 1) := by decide +kernel
theorem dX11_share_6 : decode cX11_share 6 = .ok (.aload_n 0, 1) := by decide +kernel
theorem dX11_share_7 : decode cX11_share 7 = .ok (.getfield 28, 3) := by decide +kernel
theorem dX11_share_10 : decode cX11_share 10 = .ok (.iconst 0, 1) := by decide +kernel
theorem dX11_share_11 : decode cX11_share 11 = .ok (.invokevirtual 201, 3) := by decide +kernel
theorem dX11_share_14 : decode cX11_share 14 = .ok (.aload_n 0, 1) := by decide +kernel
theorem dX11_share_15 : decode cX11_share 15 = .ok (.aload_n 0, 1) := by decide +kernel
theorem dX11_share_16 : decode cX11_share 16 = .ok (.getfield 28, 3) := by decide +kernel
theorem dX11_share_19 : decode cX11_share 19 = .ok (.iconst 1, 1) := by decide +kernel
theorem dX11_share_20 : decode cX11_share 20 = .ok (.invokevirtual 201, 3) := by decide +kernel
theorem dX11_share_23 : decode cX11_share 23 = .ok (.iadd, 1) := by decide +kernel
theorem dX11_share_24 : decode cX11_share 24 = .ok (.aload_n 0, 1) := by decide +kernel
theorem dX11_share_25 : decode cX11_share 25 = .ok (.aload_n 0, 1) := by decide +kernel
theorem dX11_share_26 : decode cX11_share 26 = .ok (.getfield 28, 3) := by decide +kernel
theorem dX11_share_29 : decode cX11_share 29 = .ok (.iconst 2, 1) := by decide +kernel
theorem dX11_share_30 : decode cX11_share 30 = .ok (.invokevirtual 201, 3) := by decide +kernel
theorem dX11_share_33 : decode cX11_share 33 = .ok (.iadd, 1) := by decide +kernel
theorem dX11_share_34 : decode cX11_share 34 = .ok (.istore_n 1, 1) := by decide +kernel
theorem dX11_share_35 : decode cX11_share 35 = .ok (.iload_n 1, 1) := by decide +kernel
theorem dX11_share_36 : decode cX11_share 36 = .ok (.ifCond .ne 7, 3) := by decide +kernel
theorem dX11_share_39 : decode cX11_share 39 = .ok (.dconst 0, 1) := by decide +kernel
theorem dX11_share_40 : decode cX11_share 40 = .ok (.goto 16, 3) := by decide +kernel
theorem dX11_share_43 : decode cX11_share 43 = .ok (.aload_n 0, 1) := by decide +kernel
theorem dX11_share_44 : decode cX11_share 44 = .ok (.aload_n 0, 1) := by decide +kernel
theorem dX11_share_45 : decode cX11_share 45 = .ok (.getfield 28, 3) := by decide +kernel
theorem dX11_share_48 : decode cX11_share 48 = .ok (.iconst 2, 1) := by decide +kernel
theorem dX11_share_49 : decode cX11_share 49 = .ok (.invokevirtual 201, 3) := by decide +kernel
theorem dX11_share_52 : decode cX11_share 52 = .ok (.i2d, 1) := by decide +kernel
theorem dX11_share_53 : decode cX11_share 53 = .ok (.iload_n 1, 1) := by decide +kernel
theorem dX11_share_54 : decode cX11_share 54 = .ok (.i2d, 1) := by decide +kernel
theorem dX11_share_55 : decode cX11_share 55 = .ok (.ddiv, 1) := by decide +kernel
theorem dX11_share_56 : decode cX11_share 56 = .ok (.dreturn, 1) := by decide +kernel
theorem dX11_digest_0 : decode cX11_digest 0 = .ok (.aload_n 0, 1) := by decide +kernel
theorem dX11_digest_1 : decode cX11_digest 1 = .ok (.iconst 0, 1) := by decide +kernel
theorem dX11_digest_2 : decode cX11_digest 2 = .ok (.putfield 38, 3) := by decide +kernel
theorem dX11_digest_5 : decode cX11_digest 5 = .ok (.ldc2_w 223, 3) := by decide +kernel
theorem dX11_digest_8 : decode cX11_digest 8 = .ok (.lstore_n 1, 1) := by decide +kernel
theorem dX11_digest_9 : decode cX11_digest 9 = .ok (.iconst 0, 1) := by decide +kernel
theorem dX11_digest_10 : decode cX11_digest 10 = .ok (.istore_n 3, 1) := by decide +kernel
theorem dX11_digest_11 : decode cX11_digest 11 = .ok (.iload_n 3, 1) := by decide +kernel
theorem dX11_digest_12 : decode cX11_digest 12 = .ok (.bipush 10, 2) := by decide +kernel
theorem dX11_digest_14 : decode cX11_digest 14 = .ok (.if_icmp .ge 22, 3) := by decide +kernel
theorem dX11_digest_17 : decode cX11_digest 17 = .ok (.lload_n 1, 1) := by decide +kernel
theorem dX11_digest_18 : decode cX11_digest 18 = .ok (.ldc2_w 225, 3) := by decide +kernel
theorem dX11_digest_21 : decode cX11_digest 21 = .ok (.lmul, 1) := by decide +kernel
theorem dX11_digest_22 : decode cX11_digest 22 = .ok (.aload_n 0, 1) := by decide +kernel
theorem dX11_digest_23 : decode cX11_digest 23 = .ok (.iload_n 3, 1) := by decide +kernel
theorem dX11_digest_24 : decode cX11_digest 24 = .ok (.invokevirtual 208, 3) := by decide +kernel
theorem dX11_digest_27 : decode cX11_digest 27 = .ok (.i2l, 1) := by decide +kernel
theorem dX11_digest_28 : decode cX11_digest 28 = .ok (.ladd, 1) := by decide +kernel
theorem dX11_digest_29 : decode cX11_digest 29 = .ok (.lstore_n 1, 1) := by decide +kernel
theorem dX11_digest_30 : decode cX11_digest 30 = .ok (.iinc 3 1, 3) := by decide +kernel
theorem dX11_digest_33 : decode cX11_digest 33 = .ok (.goto (-22), 3) := by decide +kernel
theorem dX11_digest_36 : decode cX11_digest 36 = .ok (.iconst 0, 1) := by decide +kernel
theorem dX11_digest_37 : decode cX11_digest 37 = .ok (.istore_n 3, 1) := by decide +kernel
theorem dX11_digest_38 : decode cX11_digest 38 = .ok (.iload_n 3, 1) := by decide +kernel
theorem dX11_digest_39 : decode cX11_digest 39 = .ok (.sipush 480, 3) := by decide +kernel
theorem dX11_digest_42 : decode cX11_digest 42 = .ok (.if_icmp .ge 29, 3) := by decide +kernel
theorem dX11_digest_45 : decode cX11_digest 45 = .ok (.lload_n 1, 1) := by decide +kernel
theorem dX11_digest_46 : decode cX11_digest 46 = .ok (.ldc2_w 225, 3) := by decide +kernel
theorem dX11_digest_49 : decode cX11_digest 49 = .ok (.lmul, 1) := by decide +kernel
theorem dX11_digest_50 : decode cX11_digest 50 = .ok (.aload_n 0, 1) := by decide +kernel
theorem dX11_digest_51 : decode cX11_digest 51 = .ok (.iload_n 3, 1) := by decide +kernel
theorem dX11_digest_52 : decode cX11_digest 52 = .ok (.bipush 6, 2) := by decide +kernel
theorem dX11_digest_54 : decode cX11_digest 54 = .ok (.idiv, 1) := by decide +kernel
theorem dX11_digest_55 : decode cX11_digest 55 = .ok (.iload_n 3, 1) := by decide +kernel
theorem dX11_digest_56 : decode cX11_digest 56 = .ok (.bipush 6, 2) := by decide +kernel
theorem dX11_digest_58 : decode cX11_digest 58 = .ok (.irem, 1) := by decide +kernel
theorem dX11_digest_59 : decode cX11_digest 59 = .ok (.invokevirtual 180, 3) := by decide +kernel
theorem dX11_digest_62 : decode cX11_digest 62 = .ok (.i2l, 1) := by decide +kernel
theorem dX11_digest_63 : decode cX11_digest 63 = .ok (.ladd, 1) := by decide +kernel
theorem dX11_digest_64 : decode cX11_digest 64 = .ok (.lstore_n 1, 1) := by decide +kernel
theorem dX11_digest_65 : decode cX11_digest 65 = .ok (.iinc 3 1, 3) := by decide +kernel
theorem dX11_digest_68 : decode cX11_digest 68 = .ok (.goto (-30), 3) := by decide +kernel
theorem dX11_digest_71 : decode cX11_digest 71 = .ok (.aload_n 0, 1) := by decide +kernel
theorem dX11_digest_72 : decode cX11_digest 72 = .ok (.getfield 9, 3) := by decide +kernel
theorem dX11_digest_75 : decode cX11_digest 75 = .ok (.astore_n 3, 1) := by decide +kernel
theorem dX11_digest_76 : decode cX11_digest 76 = .ok (.aload_n 3, 1) := by decide +kernel
theorem dX11_digest_77 : decode cX11_digest 77 = .ok (.arraylength, 1) := by decide +kernel
theorem dX11_digest_78 : decode cX11_digest 78 = .ok (.istore 4, 2) := by decide +kernel
theorem dX11_digest_80 : decode cX11_digest 80 = .ok (.iconst 0, 1) := by decide +kernel
theorem dX11_digest_81 : decode cX11_digest 81 = .ok (.istore 5, 2) := by decide +kernel
theorem dX11_digest_83 : decode cX11_digest 83 = .ok (.iload 5, 2) := by decide +kernel
theorem dX11_digest_85 : decode cX11_digest 85 = .ok (.iload 4, 2) := by decide +kernel
theorem dX11_digest_87 : decode cX11_digest 87 = .ok (.if_icmp .ge 25, 3) := by decide +kernel
theorem dX11_digest_90 : decode cX11_digest 90 = .ok (.aload_n 3, 1) := by decide +kernel
theorem dX11_digest_91 : decode cX11_digest 91 = .ok (.iload 5, 2) := by decide +kernel
theorem dX11_digest_93 : decode cX11_digest 93 = .ok (.iaload, 1) := by decide +kernel
theorem dX11_digest_94 : decode cX11_digest 94 = .ok (.istore 6, 2) := by decide +kernel
theorem dX11_digest_96 : decode cX11_digest 96 = .ok (.lload_n 1, 1) := by decide +kernel
theorem dX11_digest_97 : decode cX11_digest 97 = .ok (.ldc2_w 225, 3) := by decide +kernel
theorem dX11_digest_100 : decode cX11_digest 100 = .ok (.lmul, 1) := by decide +kernel
theorem dX11_digest_101 : decode cX11_digest 101 = .ok (.iload 6, 2) := by decide +kernel
theorem dX11_digest_103 : decode cX11_digest 103 = .ok (.i2l, 1) := by decide +kernel
theorem dX11_digest_104 : decode cX11_digest 104 = .ok (.ladd, 1) := by decide +kernel
theorem dX11_digest_105 : decode cX11_digest 105 = .ok (.lstore_n 1, 1) := by decide +kernel
theorem dX11_digest_106 : decode cX11_digest 106 = .ok (.iinc 5 1, 3) := by decide +kernel
theorem dX11_digest_109 : decode cX11_digest 109 = .ok (.goto (-26), 3) := by decide +kernel
theorem dX11_digest_112 : decode cX11_digest 112 = .ok (.iconst 0, 1) := by decide +kernel
theorem dX11_digest_113 : decode cX11_digest 113 = .ok (.istore_n 3, 1) := by decide +kernel
theorem dX11_digest_114 : decode cX11_digest 114 = .ok (.iload_n 3, 1) := by decide +kernel
theorem dX11_digest_115 : decode cX11_digest 115 = .ok (.bipush 6, 2) := by decide +kernel
theorem dX11_digest_117 : decode cX11_digest 117 = .ok (.aload_n 0, 1) := by decide +kernel
theorem dX11_digest_118 : decode cX11_digest 118 = .ok (.getfield 61, 3) := by decide +kernel
theorem dX11_digest_121 : decode cX11_digest 121 = .ok (.imul, 1) := by decide +kernel
theorem dX11_digest_122 : decode cX11_digest 122 = .ok (.if_icmp .ge 29, 3) := by decide +kernel
theorem dX11_digest_125 : decode cX11_digest 125 = .ok (.lload_n 1, 1) := by decide +kernel
theorem dX11_digest_126 : decode cX11_digest 126 = .ok (.ldc2_w 225, 3) := by decide +kernel
theorem dX11_digest_129 : decode cX11_digest 129 = .ok (.lmul, 1) := by decide +kernel
theorem dX11_digest_130 : decode cX11_digest 130 = .ok (.aload_n 0, 1) := by decide +kernel
theorem dX11_digest_131 : decode cX11_digest 131 = .ok (.iload_n 3, 1) := by decide +kernel
theorem dX11_digest_132 : decode cX11_digest 132 = .ok (.bipush 6, 2) := by decide +kernel
theorem dX11_digest_134 : decode cX11_digest 134 = .ok (.idiv, 1) := by decide +kernel
theorem dX11_digest_135 : decode cX11_digest 135 = .ok (.iload_n 3, 1) := by decide +kernel
theorem dX11_digest_136 : decode cX11_digest 136 = .ok (.bipush 6, 2) := by decide +kernel
theorem dX11_digest_138 : decode cX11_digest 138 = .ok (.irem, 1) := by decide +kernel
theorem dX11_digest_139 : decode cX11_digest 139 = .ok (.invokevirtual 183, 3) := by decide +kernel
theorem dX11_digest_142 : decode cX11_digest 142 = .ok (.i2l, 1) := by decide +kernel
theorem dX11_digest_143 : decode cX11_digest 143 = .ok (.ladd, 1) := by decide +kernel
theorem dX11_digest_144 : decode cX11_digest 144 = .ok (.lstore_n 1, 1) := by decide +kernel
theorem dX11_digest_145 : decode cX11_digest 145 = .ok (.iinc 3 1, 3) := by decide +kernel
theorem dX11_digest_148 : decode cX11_digest 148 = .ok (.goto (-34), 3) := by decide +kernel
theorem dX11_digest_151 : decode cX11_digest 151 = .ok (.iconst 0, 1) := by decide +kernel
theorem dX11_digest_152 : decode cX11_digest 152 = .ok (.istore_n 3, 1) := by decide +kernel
theorem dX11_digest_153 : decode cX11_digest 153 = .ok (.iload_n 3, 1) := by decide +kernel
theorem dX11_digest_154 : decode cX11_digest 154 = .ok (.iconst 5, 1) := by decide +kernel
theorem dX11_digest_155 : decode cX11_digest 155 = .ok (.aload_n 0, 1) := by decide +kernel
theorem dX11_digest_156 : decode cX11_digest 156 = .ok (.getfield 71, 3) := by decide +kernel
theorem dX11_digest_159 : decode cX11_digest 159 = .ok (.imul, 1) := by decide +kernel
theorem dX11_digest_160 : decode cX11_digest 160 = .ok (.if_icmp .ge 27, 3) := by decide +kernel
theorem dX11_digest_163 : decode cX11_digest 163 = .ok (.lload_n 1, 1) := by decide +kernel
theorem dX11_digest_164 : decode cX11_digest 164 = .ok (.ldc2_w 225, 3) := by decide +kernel
theorem dX11_digest_167 : decode cX11_digest 167 = .ok (.lmul, 1) := by decide +kernel
theorem dX11_digest_168 : decode cX11_digest 168 = .ok (.aload_n 0, 1) := by decide +kernel
theorem dX11_digest_169 : decode cX11_digest 169 = .ok (.iload_n 3, 1) := by decide +kernel
theorem dX11_digest_170 : decode cX11_digest 170 = .ok (.iconst 5, 1) := by decide +kernel
theorem dX11_digest_171 : decode cX11_digest 171 = .ok (.idiv, 1) := by decide +kernel
theorem dX11_digest_172 : decode cX11_digest 172 = .ok (.iload_n 3, 1) := by decide +kernel
theorem dX11_digest_173 : decode cX11_digest 173 = .ok (.iconst 5, 1) := by decide +kernel
theorem dX11_digest_174 : decode cX11_digest 174 = .ok (.irem, 1) := by decide +kernel
theorem dX11_digest_175 : decode cX11_digest 175 = .ok (.invokevirtual 186, 3) := by decide +kernel
theorem dX11_digest_178 : decode cX11_digest 178 = .ok (.i2l, 1) := by decide +kernel
theorem dX11_digest_179 : decode cX11_digest 179 = .ok (.ladd, 1) := by decide +kernel
theorem dX11_digest_180 : decode cX11_digest 180 = .ok (.lstore_n 1, 1) := by decide +kernel
theorem dX11_digest_181 : decode cX11_digest 181 = .ok (.iinc 3 1, 3) := by decide +kernel
theorem dX11_digest_184 : decode cX11_digest 184 = .ok (.goto (-31), 3) := by decide +kernel
theorem dX11_digest_187 : decode cX11_digest 187 = .ok (.iconst 0, 1) := by decide +kernel
theorem dX11_digest_188 : decode cX11_digest 188 = .ok (.istore_n 3, 1) := by decide +kernel
theorem dX11_digest_189 : decode cX11_digest 189 = .ok (.iload_n 3, 1) := by decide +kernel
theorem dX11_digest_190 : decode cX11_digest 190 = .ok (.iconst 5, 1) := by decide +kernel
theorem dX11_digest_191 : decode cX11_digest 191 = .ok (.aload_n 0, 1) := by decide +kernel
theorem dX11_digest_192 : decode cX11_digest 192 = .ok (.getfield 77, 3) := by decide +kernel
theorem dX11_digest_195 : decode cX11_digest 195 = .ok (.imul, 1) := by decide +kernel
theorem dX11_digest_196 : decode cX11_digest 196 = .ok (.if_icmp .ge 27, 3) := by decide +kernel
theorem dX11_digest_199 : decode cX11_digest 199 = .ok (.lload_n 1, 1) := by decide +kernel
theorem dX11_digest_200 : decode cX11_digest 200 = .ok (.ldc2_w 225, 3) := by decide +kernel
theorem dX11_digest_203 : decode cX11_digest 203 = .ok (.lmul, 1) := by decide +kernel
theorem dX11_digest_204 : decode cX11_digest 204 = .ok (.aload_n 0, 1) := by decide +kernel
theorem dX11_digest_205 : decode cX11_digest 205 = .ok (.iload_n 3, 1) := by decide +kernel
theorem dX11_digest_206 : decode cX11_digest 206 = .ok (.iconst 5, 1) := by decide +kernel
theorem dX11_digest_207 : decode cX11_digest 207 = .ok (.idiv, 1) := by decide +kernel
theorem dX11_digest_208 : decode cX11_digest 208 = .ok (.iload_n 3, 1) := by decide +kernel
theorem dX11_digest_209 : decode cX11_digest 209 = .ok (.iconst 5, 1) := by decide +kernel
theorem dX11_digest_210 : decode cX11_digest 210 = .ok (.irem, 1) := by decide +kernel
theorem dX11_digest_211 : decode cX11_digest 211 = .ok (.invokevirtual 189, 3) := by decide +kernel
theorem dX11_digest_214 : decode cX11_digest 214 = .ok (.i2l, 1) := by decide +kernel
theorem dX11_digest_215 : decode cX11_digest 215 = .ok (.ladd, 1) := by decide +kernel
theorem dX11_digest_216 : decode cX11_digest 216 = .ok (.lstore_n 1, 1) := by decide +kernel
theorem dX11_digest_217 : decode cX11_digest 217 = .ok (.iinc 3 1, 3) := by decide +kernel
theorem dX11_digest_220 : decode cX11_digest 220 = .ok (.goto (-31), 3) := by decide +kernel
theorem dX11_digest_223 : decode cX11_digest 223 = .ok (.iconst 0, 1) := by decide +kernel
theorem dX11_digest_224 : decode cX11_digest 224 = .ok (.istore_n 3, 1) := by decide +kernel
theorem dX11_digest_225 : decode cX11_digest 225 = .ok (.iload_n 3, 1) := by decide +kernel
theorem dX11_digest_226 : decode cX11_digest 226 = .ok (.iconst 5, 1) := by decide +kernel
theorem dX11_digest_227 : decode cX11_digest 227 = .ok (.aload_n 0, 1) := by decide +kernel
theorem dX11_digest_228 : decode cX11_digest 228 = .ok (.getfield 83, 3) := by decide +kernel
theorem dX11_digest_231 : decode cX11_digest 231 = .ok (.imul, 1) := by decide +kernel
theorem dX11_digest_232 : decode cX11_digest 232 = .ok (.if_icmp .ge 27, 3) := by decide +kernel
theorem dX11_digest_235 : decode cX11_digest 235 = .ok (.lload_n 1, 1) := by decide +kernel
theorem dX11_digest_236 : decode cX11_digest 236 = .ok (.ldc2_w 225, 3) := by decide +kernel
theorem dX11_digest_239 : decode cX11_digest 239 = .ok (.lmul, 1) := by decide +kernel
theorem dX11_digest_240 : decode cX11_digest 240 = .ok (.aload_n 0, 1) := by decide +kernel
theorem dX11_digest_241 : decode cX11_digest 241 = .ok (.iload_n 3, 1) := by decide +kernel
theorem dX11_digest_242 : decode cX11_digest 242 = .ok (.iconst 5, 1) := by decide +kernel
theorem dX11_digest_243 : decode cX11_digest 243 = .ok (.idiv, 1) := by decide +kernel
theorem dX11_digest_244 : decode cX11_digest 244 = .ok (.iload_n 3, 1) := by decide +kernel
theorem dX11_digest_245 : decode cX11_digest 245 = .ok (.iconst 5, 1) := by decide +kernel
theorem dX11_digest_246 : decode cX11_digest 246 = .ok (.irem, 1) := by decide +kernel
theorem dX11_digest_247 : decode cX11_digest 247 = .ok (.invokevirtual 195, 3) := by decide +kernel
theorem dX11_digest_250 : decode cX11_digest 250 = .ok (.i2l, 1) := by decide +kernel
theorem dX11_digest_251 : decode cX11_digest 251 = .ok (.ladd, 1) := by decide +kernel
theorem dX11_digest_252 : decode cX11_digest 252 = .ok (.lstore_n 1, 1) := by decide +kernel
theorem dX11_digest_253 : decode cX11_digest 253 = .ok (.iinc 3 1, 3) := by decide +kernel
theorem dX11_digest_256 : decode cX11_digest 256 = .ok (.goto (-31), 3) := by decide +kernel
theorem dX11_digest_259 : decode cX11_digest 259 = .ok (.iconst 0, 1) := by decide +kernel
theorem dX11_digest_260 : decode cX11_digest 260 = .ok (.istore_n 3, 1) := by decide +kernel
theorem dX11_digest_261 : decode cX11_digest 261 = .ok (.iload_n 3, 1) := by decide +kernel
theorem dX11_digest_262 : decode cX11_digest 262 = .ok (.iconst 3, 1) := by decide +kernel
theorem dX11_digest_263 : decode cX11_digest 263 = .ok (.aload_n 0, 1) := by decide +kernel
theorem dX11_digest_264 : decode cX11_digest 264 = .ok (.getfield 89, 3) := by decide +kernel
theorem dX11_digest_267 : decode cX11_digest 267 = .ok (.imul, 1) := by decide +kernel
theorem dX11_digest_268 : decode cX11_digest 268 = .ok (.if_icmp .ge 27, 3) := by decide +kernel
theorem dX11_digest_271 : decode cX11_digest 271 = .ok (.lload_n 1, 1) := by decide +kernel
theorem dX11_digest_272 : decode cX11_digest 272 = .ok (.ldc2_w 225, 3) := by decide +kernel
theorem dX11_digest_275 : decode cX11_digest 275 = .ok (.lmul, 1) := by decide +kernel
theorem dX11_digest_276 : decode cX11_digest 276 = .ok (.aload_n 0, 1) := by decide +kernel
theorem dX11_digest_277 : decode cX11_digest 277 = .ok (.iload_n 3, 1) := by decide +kernel
theorem dX11_digest_278 : decode cX11_digest 278 = .ok (.iconst 3, 1) := by decide +kernel
theorem dX11_digest_279 : decode cX11_digest 279 = .ok (.idiv, 1) := by decide +kernel
theorem dX11_digest_280 : decode cX11_digest 280 = .ok (.iload_n 3, 1) := by decide +kernel
theorem dX11_digest_281 : decode cX11_digest 281 = .ok (.iconst 3, 1) := by decide +kernel
theorem dX11_digest_282 : decode cX11_digest 282 = .ok (.irem, 1) := by decide +kernel
theorem dX11_digest_283 : decode cX11_digest 283 = .ok (.invokevirtual 198, 3) := by decide +kernel
theorem dX11_digest_286 : decode cX11_digest 286 = .ok (.i2l, 1) := by decide +kernel
theorem dX11_digest_287 : decode cX11_digest 287 = .ok (.ladd, 1) := by decide +kernel
theorem dX11_digest_288 : decode cX11_digest 288 = .ok (.lstore_n 1, 1) := by decide +kernel
theorem dX11_digest_289 : decode cX11_digest 289 = .ok (.iinc 3 1, 3) := by decide +kernel
theorem dX11_digest_292 : decode cX11_digest 292 = .ok (.goto (-31), 3) := by decide +kernel
theorem dX11_digest_295 : decode cX11_digest 295 = .ok (.lload_n 1, 1) := by decide +kernel
theorem dX11_digest_296 : decode cX11_digest 296 = .ok (.lreturn, 1) := by decide +kernel
theorem dJ9_floorMod_7cf53_0 : decode cJ9_floorMod_7cf53 0 = .ok (.iload_n 0, 1) := by decide +kernel
theorem dJ9_floorMod_7cf53_1 : decode cJ9_floorMod_7cf53 1 = .ok (.iload_n 1, 1) := by decide +kernel
theorem dJ9_floorMod_7cf53_2 : decode cJ9_floorMod_7cf53 2 = .ok (.irem, 1) := by decide +kernel
theorem dJ9_floorMod_7cf53_3 : decode cJ9_floorMod_7cf53 3 = .ok (.istore_n 2, 1) := by decide +kernel
theorem dJ9_floorMod_7cf53_4 : decode cJ9_floorMod_7cf53 4 = .ok (.iload_n 0, 1) := by decide +kernel
theorem dJ9_floorMod_7cf53_5 : decode cJ9_floorMod_7cf53 5 = .ok (.iload_n 1, 1) := by decide +kernel
theorem dJ9_floorMod_7cf53_6 : decode cJ9_floorMod_7cf53 6 = .ok (.ixor, 1) := by decide +kernel
theorem dJ9_floorMod_7cf53_7 : decode cJ9_floorMod_7cf53 7 = .ok (.ifCond .ge 11, 3) := by decide +kernel
theorem dJ9_floorMod_7cf53_10 : decode cJ9_floorMod_7cf53 10 = .ok (.iload_n 2, 1) := by decide +kernel
theorem dJ9_floorMod_7cf53_11 : decode cJ9_floorMod_7cf53 11 = .ok (.ifCond .eq 7, 3) := by decide +kernel
theorem dJ9_floorMod_7cf53_14 : decode cJ9_floorMod_7cf53 14 = .ok (.iload_n 2, 1) := by decide +kernel
theorem dJ9_floorMod_7cf53_15 : decode cJ9_floorMod_7cf53 15 = .ok (.iload_n 1, 1) := by decide +kernel
theorem dJ9_floorMod_7cf53_16 : decode cJ9_floorMod_7cf53 16 = .ok (.iadd, 1) := by decide +kernel
theorem dJ9_floorMod_7cf53_17 : decode cJ9_floorMod_7cf53 17 = .ok (.ireturn, 1) := by decide +kernel
theorem dJ9_floorMod_7cf53_18 : decode cJ9_floorMod_7cf53 18 = .ok (.iload_n 2, 1) := by decide +kernel
theorem dJ9_floorMod_7cf53_19 : decode cJ9_floorMod_7cf53 19 = .ok (.ireturn, 1) := by decide +kernel
theorem dJ9_abs_0f7a4_0 : decode cJ9_abs_0f7a4 0 = .ok (.iload_n 0, 1) := by decide +kernel
theorem dJ9_abs_0f7a4_1 : decode cJ9_abs_0f7a4 1 = .ok (.ifCond .ge 8, 3) := by decide +kernel
theorem dJ9_abs_0f7a4_4 : decode cJ9_abs_0f7a4 4 = .ok (.iload_n 0, 1) := by decide +kernel
theorem dJ9_abs_0f7a4_5 : decode cJ9_abs_0f7a4 5 = .ok (.ineg, 1) := by decide +kernel
theorem dJ9_abs_0f7a4_6 : decode cJ9_abs_0f7a4 6 = .ok (.goto 4, 3) := by decide +kernel
theorem dJ9_abs_0f7a4_9 : decode cJ9_abs_0f7a4 9 = .ok (.iload_n 0, 1) := by decide +kernel
theorem dJ9_abs_0f7a4_10 : decode cJ9_abs_0f7a4 10 = .ok (.ireturn, 1) := by decide +kernel
theorem dJ9_min_7cf53_0 : decode cJ9_min_7cf53 0 = .ok (.iload_n 0, 1) := by decide +kernel
theorem dJ9_min_7cf53_1 : decode cJ9_min_7cf53 1 = .ok (.iload_n 1, 1) := by decide +kernel
theorem dJ9_min_7cf53_2 : decode cJ9_min_7cf53 2 = .ok (.if_icmp .gt 7, 3) := by decide +kernel
theorem dJ9_min_7cf53_5 : decode cJ9_min_7cf53 5 = .ok (.iload_n 0, 1) := by decide +kernel
theorem dJ9_min_7cf53_6 : decode cJ9_min_7cf53 6 = .ok (.goto 4, 3) := by decide +kernel
theorem dJ9_min_7cf53_9 : decode cJ9_min_7cf53 9 = .ok (.iload_n 1, 1) := by decide +kernel
theorem dJ9_min_7cf53_10 : decode cJ9_min_7cf53 10 = .ok (.ireturn, 1) := by decide +kernel
theorem dL_setGround_0 : decode cL_setGround 0 = .ok (.aload 4, 2) := by decide +kernel
theorem dL_setGround_2 : decode cL_setGround 2 = .ok (.iconst 0, 1) := by decide +kernel
theorem dL_setGround_3 : decode cL_setGround 3 = .ok (.aload_n 0, 1) := by decide +kernel
theorem dL_setGround_4 : decode cL_setGround 4 = .ok (.iload_n 1, 1) := by decide +kernel
theorem dL_setGround_5 : decode cL_setGround 5 = .ok (.iload_n 2, 1) := by decide +kernel
theorem dL_setGround_6 : decode cL_setGround 6 = .ok (.iload_n 3, 1) := by decide +kernel
theorem dL_setGround_7 : decode cL_setGround 7 = .ok (.invokevirtual 7, 3) := by decide +kernel
theorem dL_setGround_10 : decode cL_setGround 10 = .ok (.i2l, 1) := by decide +kernel
theorem dL_setGround_11 : decode cL_setGround 11 = .ok (.lastore, 1) := by decide +kernel
theorem dL_setGround_12 : decode cL_setGround 12 = .ok (.goto 11, 3) := by decide +kernel
theorem dL_setGround_15 : decode cL_setGround 15 = .ok (.astore 5, 2) := by decide +kernel
theorem dL_setGround_17 : decode cL_setGround 17 = .ok (.iconst 1, 1) := by decide +kernel
theorem dL_setGround_18 : decode cL_setGround 18 = .ok (.ireturn, 1) := by decide +kernel
theorem dL_setGround_19 : decode cL_setGround 19 = .ok (.astore 5, 2) := by decide +kernel
theorem dL_setGround_21 : decode cL_setGround 21 = .ok (.iconst 2, 1) := by decide +kernel
theorem dL_setGround_22 : decode cL_setGround 22 = .ok (.ireturn, 1) := by decide +kernel
theorem dL_setGround_23 : decode cL_setGround 23 = .ok (.iconst 0, 1) := by decide +kernel
theorem dL_setGround_24 : decode cL_setGround 24 = .ok (.ireturn, 1) := by decide +kernel
theorem dL_lay_0 : decode cL_lay 0 = .ok (.aload 4, 2) := by decide +kernel
theorem dL_lay_2 : decode cL_lay 2 = .ok (.iconst 0, 1) := by decide +kernel
theorem dL_lay_3 : decode cL_lay 3 = .ok (.aload_n 0, 1) := by decide +kernel
theorem dL_lay_4 : decode cL_lay 4 = .ok (.iload_n 1, 1) := by decide +kernel
theorem dL_lay_5 : decode cL_lay 5 = .ok (.iload_n 2, 1) := by decide +kernel
theorem dL_lay_6 : decode cL_lay 6 = .ok (.iload_n 3, 1) := by decide +kernel
theorem dL_lay_7 : decode cL_lay 7 = .ok (.invokevirtual 17, 3) := by decide +kernel
theorem dL_lay_10 : decode cL_lay 10 = .ok (.i2l, 1) := by decide +kernel
theorem dL_lay_11 : decode cL_lay 11 = .ok (.lastore, 1) := by decide +kernel
theorem dL_lay_12 : decode cL_lay 12 = .ok (.goto 15, 3) := by decide +kernel
theorem dL_lay_15 : decode cL_lay 15 = .ok (.astore 5, 2) := by decide +kernel
theorem dL_lay_17 : decode cL_lay 17 = .ok (.iconst 1, 1) := by decide +kernel
theorem dL_lay_18 : decode cL_lay 18 = .ok (.ireturn, 1) := by decide +kernel
theorem dL_lay_19 : decode cL_lay 19 = .ok (.astore 5, 2) := by decide +kernel
theorem dL_lay_21 : decode cL_lay 21 = .ok (.iconst 2, 1) := by decide +kernel
theorem dL_lay_22 : decode cL_lay 22 = .ok (.ireturn, 1) := by decide +kernel
theorem dL_lay_23 : decode cL_lay 23 = .ok (.astore 5, 2) := by decide +kernel
theorem dL_lay_25 : decode cL_lay 25 = .ok (.iconst 3, 1) := by decide +kernel
theorem dL_lay_26 : decode cL_lay 26 = .ok (.ireturn, 1) := by decide +kernel
theorem dL_lay_27 : decode cL_lay 27 = .ok (.iconst 0, 1) := by decide +kernel
theorem dL_lay_28 : decode cL_lay 28 = .ok (.ireturn, 1) := by decide +kernel
theorem dL_setRiver_0 : decode cL_setRiver 0 = .ok (.aload_n 3, 1) := by decide +kernel
theorem dL_setRiver_1 : decode cL_setRiver 1 = .ok (.iconst 0, 1) := by decide +kernel
theorem dL_setRiver_2 : decode cL_setRiver 2 = .ok (.aload_n 0, 1) := by decide +kernel
theorem dL_setRiver_3 : decode cL_setRiver 3 = .ok (.iload_n 1, 1) := by decide +kernel
theorem dL_setRiver_4 : decode cL_setRiver 4 = .ok (.iload_n 2, 1) := by decide +kernel
theorem dL_setRiver_5 : decode cL_setRiver 5 = .ok (.invokevirtual 22, 3) := by decide +kernel
theorem dL_setRiver_8 : decode cL_setRiver 8 = .ok (.i2l, 1) := by decide +kernel
theorem dL_setRiver_9 : decode cL_setRiver 9 = .ok (.lastore, 1) := by decide +kernel
theorem dL_setRiver_10 : decode cL_setRiver 10 = .ok (.goto 11, 3) := by decide +kernel
theorem dL_setRiver_13 : decode cL_setRiver 13 = .ok (.astore 4, 2) := by decide +kernel
theorem dL_setRiver_15 : decode cL_setRiver 15 = .ok (.iconst 1, 1) := by decide +kernel
theorem dL_setRiver_16 : decode cL_setRiver 16 = .ok (.ireturn, 1) := by decide +kernel
theorem dL_setRiver_17 : decode cL_setRiver 17 = .ok (.astore 4, 2) := by decide +kernel
theorem dL_setRiver_19 : decode cL_setRiver 19 = .ok (.iconst 2, 1) := by decide +kernel
theorem dL_setRiver_20 : decode cL_setRiver 20 = .ok (.ireturn, 1) := by decide +kernel
theorem dL_setRiver_21 : decode cL_setRiver 21 = .ok (.iconst 0, 1) := by decide +kernel
theorem dL_setRiver_22 : decode cL_setRiver 22 = .ok (.ireturn, 1) := by decide +kernel
theorem dL_addPump_0 : decode cL_addPump 0 = .ok (.aload 5, 2) := by decide +kernel
theorem dL_addPump_2 : decode cL_addPump 2 = .ok (.iconst 0, 1) := by decide +kernel
theorem dL_addPump_3 : decode cL_addPump 3 = .ok (.aload_n 0, 1) := by decide +kernel
theorem dL_addPump_4 : decode cL_addPump 4 = .ok (.iload_n 1, 1) := by decide +kernel
theorem dL_addPump_5 : decode cL_addPump 5 = .ok (.iload_n 2, 1) := by decide +kernel
theorem dL_addPump_6 : decode cL_addPump 6 = .ok (.iload_n 3, 1) := by decide +kernel
theorem dL_addPump_7 : decode cL_addPump 7 = .ok (.iload 4, 2) := by decide +kernel
theorem dL_addPump_9 : decode cL_addPump 9 = .ok (.invokevirtual 26, 3) := by decide +kernel
theorem dL_addPump_12 : decode cL_addPump 12 = .ok (.i2l, 1) := by decide +kernel
theorem dL_addPump_13 : decode cL_addPump 13 = .ok (.lastore, 1) := by decide +kernel
theorem dL_addPump_14 : decode cL_addPump 14 = .ok (.goto 15, 3) := by decide +kernel
theorem dL_addPump_17 : decode cL_addPump 17 = .ok (.astore 6, 2) := by decide +kernel
theorem dL_addPump_19 : decode cL_addPump 19 = .ok (.iconst 1, 1) := by decide +kernel
theorem dL_addPump_20 : decode cL_addPump 20 = .ok (.ireturn, 1) := by decide +kernel
theorem dL_addPump_21 : decode cL_addPump 21 = .ok (.astore 6, 2) := by decide +kernel
theorem dL_addPump_23 : decode cL_addPump 23 = .ok (.iconst 2, 1) := by decide +kernel
theorem dL_addPump_24 : decode cL_addPump 24 = .ok (.ireturn, 1) := by decide +kernel
theorem dL_addPump_25 : decode cL_addPump 25 = .ok (.astore 6, 2) := by decide +kernel
theorem dL_addPump_27 : decode cL_addPump 27 = .ok (.iconst 3, 1) := by decide +kernel
theorem dL_addPump_28 : decode cL_addPump 28 = .ok (.ireturn, 1) := by decide +kernel
theorem dL_addPump_29 : decode cL_addPump 29 = .ok (.iconst 0, 1) := by decide +kernel
theorem dL_addPump_30 : decode cL_addPump 30 = .ok (.ireturn, 1) := by decide +kernel
theorem dL_run_0 : decode cL_run 0 = .ok (.aload_n 2, 1) := by decide +kernel
theorem dL_run_1 : decode cL_run 1 = .ok (.iconst 0, 1) := by decide +kernel
theorem dL_run_2 : decode cL_run 2 = .ok (.aload_n 0, 1) := by decide +kernel
theorem dL_run_3 : decode cL_run 3 = .ok (.iload_n 1, 1) := by decide +kernel
theorem dL_run_4 : decode cL_run 4 = .ok (.invokevirtual 30, 3) := by decide +kernel
theorem dL_run_7 : decode cL_run 7 = .ok (.ifCond .eq 7, 3) := by decide +kernel
theorem dL_run_10 : decode cL_run 10 = .ok (.lconst 1, 1) := by decide +kernel
theorem dL_run_11 : decode cL_run 11 = .ok (.goto 4, 3) := by decide +kernel
theorem dL_run_14 : decode cL_run 14 = .ok (.lconst 0, 1) := by decide +kernel
theorem dL_run_15 : decode cL_run 15 = .ok (.lastore, 1) := by decide +kernel
theorem dL_run_16 : decode cL_run 16 = .ok (.goto 6, 3) := by decide +kernel
theorem dL_run_19 : decode cL_run 19 = .ok (.astore_n 3, 1) := by decide +kernel
theorem dL_run_20 : decode cL_run 20 = .ok (.iconst 1, 1) := by decide +kernel
theorem dL_run_21 : decode cL_run 21 = .ok (.ireturn, 1) := by decide +kernel
theorem dL_run_22 : decode cL_run 22 = .ok (.iconst 0, 1) := by decide +kernel
theorem dL_run_23 : decode cL_run 23 = .ok (.ireturn, 1) := by decide +kernel
theorem dL_addGauge_0 : decode cL_addGauge 0 = .ok (.aload 4, 2) := by decide +kernel
theorem dL_addGauge_2 : decode cL_addGauge 2 = .ok (.iconst 0, 1) := by decide +kernel
theorem dL_addGauge_3 : decode cL_addGauge 3 = .ok (.aload_n 0, 1) := by decide +kernel
theorem dL_addGauge_4 : decode cL_addGauge 4 = .ok (.iload_n 1, 1) := by decide +kernel
theorem dL_addGauge_5 : decode cL_addGauge 5 = .ok (.iload_n 2, 1) := by decide +kernel
theorem dL_addGauge_6 : decode cL_addGauge 6 = .ok (.iload_n 3, 1) := by decide +kernel
theorem dL_addGauge_7 : decode cL_addGauge 7 = .ok (.invokevirtual 34, 3) := by decide +kernel
theorem dL_addGauge_10 : decode cL_addGauge 10 = .ok (.i2l, 1) := by decide +kernel
theorem dL_addGauge_11 : decode cL_addGauge 11 = .ok (.lastore, 1) := by decide +kernel
theorem dL_addGauge_12 : decode cL_addGauge 12 = .ok (.goto 15, 3) := by decide +kernel
theorem dL_addGauge_15 : decode cL_addGauge 15 = .ok (.astore 5, 2) := by decide +kernel
theorem dL_addGauge_17 : decode cL_addGauge 17 = .ok (.iconst 1, 1) := by decide +kernel
theorem dL_addGauge_18 : decode cL_addGauge 18 = .ok (.ireturn, 1) := by decide +kernel
theorem dL_addGauge_19 : decode cL_addGauge 19 = .ok (.astore 5, 2) := by decide +kernel
theorem dL_addGauge_21 : decode cL_addGauge 21 = .ok (.iconst 2, 1) := by decide +kernel
theorem dL_addGauge_22 : decode cL_addGauge 22 = .ok (.ireturn, 1) := by decide +kernel
theorem dL_addGauge_23 : decode cL_addGauge 23 = .ok (.astore 5, 2) := by decide +kernel
theorem dL_addGauge_25 : decode cL_addGauge 25 = .ok (.iconst 3, 1) := by decide +kernel
theorem dL_addGauge_26 : decode cL_addGauge 26 = .ok (.ireturn, 1) := by decide +kernel
theorem dL_addGauge_27 : decode cL_addGauge 27 = .ok (.iconst 0, 1) := by decide +kernel
theorem dL_addGauge_28 : decode cL_addGauge 28 = .ok (.ireturn, 1) := by decide +kernel
theorem dL_addRefuge_0 : decode cL_addRefuge 0 = .ok (.aload 4, 2) := by decide +kernel
theorem dL_addRefuge_2 : decode cL_addRefuge 2 = .ok (.iconst 0, 1) := by decide +kernel
theorem dL_addRefuge_3 : decode cL_addRefuge 3 = .ok (.aload_n 0, 1) := by decide +kernel
theorem dL_addRefuge_4 : decode cL_addRefuge 4 = .ok (.iload_n 1, 1) := by decide +kernel
theorem dL_addRefuge_5 : decode cL_addRefuge 5 = .ok (.iload_n 2, 1) := by decide +kernel
theorem dL_addRefuge_6 : decode cL_addRefuge 6 = .ok (.iload_n 3, 1) := by decide +kernel
theorem dL_addRefuge_7 : decode cL_addRefuge 7 = .ok (.invokevirtual 37, 3) := by decide +kernel
theorem dL_addRefuge_10 : decode cL_addRefuge 10 = .ok (.i2l, 1) := by decide +kernel
theorem dL_addRefuge_11 : decode cL_addRefuge 11 = .ok (.lastore, 1) := by decide +kernel
theorem dL_addRefuge_12 : decode cL_addRefuge 12 = .ok (.goto 15, 3) := by decide +kernel
theorem dL_addRefuge_15 : decode cL_addRefuge 15 = .ok (.astore 5, 2) := by decide +kernel
theorem dL_addRefuge_17 : decode cL_addRefuge 17 = .ok (.iconst 1, 1) := by decide +kernel
theorem dL_addRefuge_18 : decode cL_addRefuge 18 = .ok (.ireturn, 1) := by decide +kernel
theorem dL_addRefuge_19 : decode cL_addRefuge 19 = .ok (.astore 5, 2) := by decide +kernel
theorem dL_addRefuge_21 : decode cL_addRefuge 21 = .ok (.iconst 2, 1) := by decide +kernel
theorem dL_addRefuge_22 : decode cL_addRefuge 22 = .ok (.ireturn, 1) := by decide +kernel
theorem dL_addRefuge_23 : decode cL_addRefuge 23 = .ok (.astore 5, 2) := by decide +kernel
theorem dL_addRefuge_25 : decode cL_addRefuge 25 = .ok (.iconst 3, 1) := by decide +kernel
theorem dL_addRefuge_26 : decode cL_addRefuge 26 = .ok (.ireturn, 1) := by decide +kernel
theorem dL_addRefuge_27 : decode cL_addRefuge 27 = .ok (.iconst 0, 1) := by decide +kernel
theorem dL_addRefuge_28 : decode cL_addRefuge 28 = .ok (.ireturn, 1) := by decide +kernel
theorem dL_settle_0 : decode cL_settle 0 = .ok (.aload 4, 2) := by decide +kernel
theorem dL_settle_2 : decode cL_settle 2 = .ok (.iconst 0, 1) := by decide +kernel
theorem dL_settle_3 : decode cL_settle 3 = .ok (.aload_n 0, 1) := by decide +kernel
theorem dL_settle_4 : decode cL_settle 4 = .ok (.iload_n 1, 1) := by decide +kernel
theorem dL_settle_5 : decode cL_settle 5 = .ok (.iload_n 2, 1) := by decide +kernel
theorem dL_settle_6 : decode cL_settle 6 = .ok (.iload_n 3, 1) := by decide +kernel
theorem dL_settle_7 : decode cL_settle 7 = .ok (.invokevirtual 40, 3) := by decide +kernel
theorem dL_settle_10 : decode cL_settle 10 = .ok (.i2l, 1) := by decide +kernel
theorem dL_settle_11 : decode cL_settle 11 = .ok (.lastore, 1) := by decide +kernel
theorem dL_settle_12 : decode cL_settle 12 = .ok (.goto 15, 3) := by decide +kernel
theorem dL_settle_15 : decode cL_settle 15 = .ok (.astore 5, 2) := by decide +kernel
theorem dL_settle_17 : decode cL_settle 17 = .ok (.iconst 1, 1) := by decide +kernel
theorem dL_settle_18 : decode cL_settle 18 = .ok (.ireturn, 1) := by decide +kernel
theorem dL_settle_19 : decode cL_settle 19 = .ok (.astore 5, 2) := by decide +kernel
theorem dL_settle_21 : decode cL_settle 21 = .ok (.iconst 2, 1) := by decide +kernel
theorem dL_settle_22 : decode cL_settle 22 = .ok (.ireturn, 1) := by decide +kernel
theorem dL_settle_23 : decode cL_settle 23 = .ok (.astore 5, 2) := by decide +kernel
theorem dL_settle_25 : decode cL_settle 25 = .ok (.iconst 3, 1) := by decide +kernel
theorem dL_settle_26 : decode cL_settle 26 = .ok (.ireturn, 1) := by decide +kernel
theorem dL_settle_27 : decode cL_settle 27 = .ok (.iconst 0, 1) := by decide +kernel
theorem dL_settle_28 : decode cL_settle 28 = .ok (.ireturn, 1) := by decide +kernel
theorem dL_addCaller_0 : decode cL_addCaller 0 = .ok (.aload_n 3, 1) := by decide +kernel
theorem dL_addCaller_1 : decode cL_addCaller 1 = .ok (.iconst 0, 1) := by decide +kernel
theorem dL_addCaller_2 : decode cL_addCaller 2 = .ok (.aload_n 0, 1) := by decide +kernel
theorem dL_addCaller_3 : decode cL_addCaller 3 = .ok (.iload_n 1, 1) := by decide +kernel
theorem dL_addCaller_4 : decode cL_addCaller 4 = .ok (.iload_n 2, 1) := by decide +kernel
theorem dL_addCaller_5 : decode cL_addCaller 5 = .ok (.invokevirtual 43, 3) := by decide +kernel
theorem dL_addCaller_8 : decode cL_addCaller 8 = .ok (.i2l, 1) := by decide +kernel
theorem dL_addCaller_9 : decode cL_addCaller 9 = .ok (.lastore, 1) := by decide +kernel
theorem dL_addCaller_10 : decode cL_addCaller 10 = .ok (.goto 11, 3) := by decide +kernel
theorem dL_addCaller_13 : decode cL_addCaller 13 = .ok (.astore 4, 2) := by decide +kernel
theorem dL_addCaller_15 : decode cL_addCaller 15 = .ok (.iconst 1, 1) := by decide +kernel
theorem dL_addCaller_16 : decode cL_addCaller 16 = .ok (.ireturn, 1) := by decide +kernel
theorem dL_addCaller_17 : decode cL_addCaller 17 = .ok (.astore 4, 2) := by decide +kernel
theorem dL_addCaller_19 : decode cL_addCaller 19 = .ok (.iconst 2, 1) := by decide +kernel
theorem dL_addCaller_20 : decode cL_addCaller 20 = .ok (.ireturn, 1) := by decide +kernel
theorem dL_addCaller_21 : decode cL_addCaller 21 = .ok (.iconst 0, 1) := by decide +kernel
theorem dL_addCaller_22 : decode cL_addCaller 22 = .ok (.ireturn, 1) := by decide +kernel
theorem dL_cell_0 : decode cL_cell 0 = .ok (.aload 4, 2) := by decide +kernel
theorem dL_cell_2 : decode cL_cell 2 = .ok (.iconst 0, 1) := by decide +kernel
theorem dL_cell_3 : decode cL_cell 3 = .ok (.aload_n 0, 1) := by decide +kernel
theorem dL_cell_4 : decode cL_cell 4 = .ok (.iload_n 1, 1) := by decide +kernel
theorem dL_cell_5 : decode cL_cell 5 = .ok (.iload_n 2, 1) := by decide +kernel
theorem dL_cell_6 : decode cL_cell 6 = .ok (.iload_n 3, 1) := by decide +kernel
theorem dL_cell_7 : decode cL_cell 7 = .ok (.invokevirtual 46, 3) := by decide +kernel
theorem dL_cell_10 : decode cL_cell 10 = .ok (.i2l, 1) := by decide +kernel
theorem dL_cell_11 : decode cL_cell 11 = .ok (.lastore, 1) := by decide +kernel
theorem dL_cell_12 : decode cL_cell 12 = .ok (.goto 7, 3) := by decide +kernel
theorem dL_cell_15 : decode cL_cell 15 = .ok (.astore 5, 2) := by decide +kernel
theorem dL_cell_17 : decode cL_cell 17 = .ok (.iconst 1, 1) := by decide +kernel
theorem dL_cell_18 : decode cL_cell 18 = .ok (.ireturn, 1) := by decide +kernel
theorem dL_cell_19 : decode cL_cell 19 = .ok (.iconst 0, 1) := by decide +kernel
theorem dL_cell_20 : decode cL_cell 20 = .ok (.ireturn, 1) := by decide +kernel
theorem dL_pump_0 : decode cL_pump 0 = .ok (.aload_n 3, 1) := by decide +kernel
theorem dL_pump_1 : decode cL_pump 1 = .ok (.iconst 0, 1) := by decide +kernel
theorem dL_pump_2 : decode cL_pump 2 = .ok (.aload_n 0, 1) := by decide +kernel
theorem dL_pump_3 : decode cL_pump 3 = .ok (.iload_n 1, 1) := by decide +kernel
theorem dL_pump_4 : decode cL_pump 4 = .ok (.iload_n 2, 1) := by decide +kernel
theorem dL_pump_5 : decode cL_pump 5 = .ok (.invokevirtual 49, 3) := by decide +kernel
theorem dL_pump_8 : decode cL_pump 8 = .ok (.i2l, 1) := by decide +kernel
theorem dL_pump_9 : decode cL_pump 9 = .ok (.lastore, 1) := by decide +kernel
theorem dL_pump_10 : decode cL_pump 10 = .ok (.goto 7, 3) := by decide +kernel
theorem dL_pump_13 : decode cL_pump 13 = .ok (.astore 4, 2) := by decide +kernel
theorem dL_pump_15 : decode cL_pump 15 = .ok (.iconst 1, 1) := by decide +kernel
theorem dL_pump_16 : decode cL_pump 16 = .ok (.ireturn, 1) := by decide +kernel
theorem dL_pump_17 : decode cL_pump 17 = .ok (.iconst 0, 1) := by decide +kernel
theorem dL_pump_18 : decode cL_pump 18 = .ok (.ireturn, 1) := by decide +kernel
theorem dL_gauge_0 : decode cL_gauge 0 = .ok (.aload_n 3, 1) := by decide +kernel
theorem dL_gauge_1 : decode cL_gauge 1 = .ok (.iconst 0, 1) := by decide +kernel
theorem dL_gauge_2 : decode cL_gauge 2 = .ok (.aload_n 0, 1) := by decide +kernel
theorem dL_gauge_3 : decode cL_gauge 3 = .ok (.iload_n 1, 1) := by decide +kernel
theorem dL_gauge_4 : decode cL_gauge 4 = .ok (.iload_n 2, 1) := by decide +kernel
theorem dL_gauge_5 : decode cL_gauge 5 = .ok (.invokevirtual 52, 3) := by decide +kernel
theorem dL_gauge_8 : decode cL_gauge 8 = .ok (.i2l, 1) := by decide +kernel
theorem dL_gauge_9 : decode cL_gauge 9 = .ok (.lastore, 1) := by decide +kernel
theorem dL_gauge_10 : decode cL_gauge 10 = .ok (.goto 7, 3) := by decide +kernel
theorem dL_gauge_13 : decode cL_gauge 13 = .ok (.astore 4, 2) := by decide +kernel
theorem dL_gauge_15 : decode cL_gauge 15 = .ok (.iconst 1, 1) := by decide +kernel
theorem dL_gauge_16 : decode cL_gauge 16 = .ok (.ireturn, 1) := by decide +kernel
theorem dL_gauge_17 : decode cL_gauge 17 = .ok (.iconst 0, 1) := by decide +kernel
theorem dL_gauge_18 : decode cL_gauge 18 = .ok (.ireturn, 1) := by decide +kernel
theorem dL_refuge_0 : decode cL_refuge 0 = .ok (.aload_n 3, 1) := by decide +kernel
theorem dL_refuge_1 : decode cL_refuge 1 = .ok (.iconst 0, 1) := by decide +kernel
theorem dL_refuge_2 : decode cL_refuge 2 = .ok (.aload_n 0, 1) := by decide +kernel
theorem dL_refuge_3 : decode cL_refuge 3 = .ok (.iload_n 1, 1) := by decide +kernel
theorem dL_refuge_4 : decode cL_refuge 4 = .ok (.iload_n 2, 1) := by decide +kernel
theorem dL_refuge_5 : decode cL_refuge 5 = .ok (.invokevirtual 55, 3) := by decide +kernel
theorem dL_refuge_8 : decode cL_refuge 8 = .ok (.i2l, 1) := by decide +kernel
theorem dL_refuge_9 : decode cL_refuge 9 = .ok (.lastore, 1) := by decide +kernel
theorem dL_refuge_10 : decode cL_refuge 10 = .ok (.goto 7, 3) := by decide +kernel
theorem dL_refuge_13 : decode cL_refuge 13 = .ok (.astore 4, 2) := by decide +kernel
theorem dL_refuge_15 : decode cL_refuge 15 = .ok (.iconst 1, 1) := by decide +kernel
theorem dL_refuge_16 : decode cL_refuge 16 = .ok (.ireturn, 1) := by decide +kernel
theorem dL_refuge_17 : decode cL_refuge 17 = .ok (.iconst 0, 1) := by decide +kernel
theorem dL_refuge_18 : decode cL_refuge 18 = .ok (.ireturn, 1) := by decide +kernel
theorem dL_household_0 : decode cL_household 0 = .ok (.aload_n 3, 1) := by decide +kernel
theorem dL_household_1 : decode cL_household 1 = .ok (.iconst 0, 1) := by decide +kernel
theorem dL_household_2 : decode cL_household 2 = .ok (.aload_n 0, 1) := by decide +kernel
theorem dL_household_3 : decode cL_household 3 = .ok (.iload_n 1, 1) := by decide +kernel
theorem dL_household_4 : decode cL_household 4 = .ok (.iload_n 2, 1) := by decide +kernel
theorem dL_household_5 : decode cL_household 5 = .ok (.invokevirtual 58, 3) := by decide +kernel
theorem dL_household_8 : decode cL_household 8 = .ok (.i2l, 1) := by decide +kernel
theorem dL_household_9 : decode cL_household 9 = .ok (.lastore, 1) := by decide +kernel
theorem dL_household_10 : decode cL_household 10 = .ok (.goto 7, 3) := by decide +kernel
theorem dL_household_13 : decode cL_household 13 = .ok (.astore 4, 2) := by decide +kernel
theorem dL_household_15 : decode cL_household 15 = .ok (.iconst 1, 1) := by decide +kernel
theorem dL_household_16 : decode cL_household 16 = .ok (.ireturn, 1) := by decide +kernel
theorem dL_household_17 : decode cL_household 17 = .ok (.iconst 0, 1) := by decide +kernel
theorem dL_household_18 : decode cL_household 18 = .ok (.ireturn, 1) := by decide +kernel
theorem dL_caller_0 : decode cL_caller 0 = .ok (.aload_n 3, 1) := by decide +kernel
theorem dL_caller_1 : decode cL_caller 1 = .ok (.iconst 0, 1) := by decide +kernel
theorem dL_caller_2 : decode cL_caller 2 = .ok (.aload_n 0, 1) := by decide +kernel
theorem dL_caller_3 : decode cL_caller 3 = .ok (.iload_n 1, 1) := by decide +kernel
theorem dL_caller_4 : decode cL_caller 4 = .ok (.iload_n 2, 1) := by decide +kernel
theorem dL_caller_5 : decode cL_caller 5 = .ok (.invokevirtual 61, 3) := by decide +kernel
theorem dL_caller_8 : decode cL_caller 8 = .ok (.i2l, 1) := by decide +kernel
theorem dL_caller_9 : decode cL_caller 9 = .ok (.lastore, 1) := by decide +kernel
theorem dL_caller_10 : decode cL_caller 10 = .ok (.goto 7, 3) := by decide +kernel
theorem dL_caller_13 : decode cL_caller 13 = .ok (.astore 4, 2) := by decide +kernel
theorem dL_caller_15 : decode cL_caller 15 = .ok (.iconst 1, 1) := by decide +kernel
theorem dL_caller_16 : decode cL_caller 16 = .ok (.ireturn, 1) := by decide +kernel
theorem dL_caller_17 : decode cL_caller 17 = .ok (.iconst 0, 1) := by decide +kernel
theorem dL_caller_18 : decode cL_caller 18 = .ok (.ireturn, 1) := by decide +kernel
theorem dL_count_0 : decode cL_count 0 = .ok (.aload_n 2, 1) := by decide +kernel
theorem dL_count_1 : decode cL_count 1 = .ok (.iconst 0, 1) := by decide +kernel
theorem dL_count_2 : decode cL_count 2 = .ok (.aload_n 0, 1) := by decide +kernel
theorem dL_count_3 : decode cL_count 3 = .ok (.iload_n 1, 1) := by decide +kernel
theorem dL_count_4 : decode cL_count 4 = .ok (.invokevirtual 64, 3) := by decide +kernel
theorem dL_count_7 : decode cL_count 7 = .ok (.i2l, 1) := by decide +kernel
theorem dL_count_8 : decode cL_count 8 = .ok (.lastore, 1) := by decide +kernel
theorem dL_count_9 : decode cL_count 9 = .ok (.goto 6, 3) := by decide +kernel
theorem dL_count_12 : decode cL_count 12 = .ok (.astore_n 3, 1) := by decide +kernel
theorem dL_count_13 : decode cL_count 13 = .ok (.iconst 1, 1) := by decide +kernel
theorem dL_count_14 : decode cL_count 14 = .ok (.ireturn, 1) := by decide +kernel
theorem dL_count_15 : decode cL_count 15 = .ok (.iconst 0, 1) := by decide +kernel
theorem dL_count_16 : decode cL_count 16 = .ok (.ireturn, 1) := by decide +kernel
theorem dL_pass_0 : decode cL_pass 0 = .ok (.aload_n 2, 1) := by decide +kernel
theorem dL_pass_1 : decode cL_pass 1 = .ok (.iconst 0, 1) := by decide +kernel
theorem dL_pass_2 : decode cL_pass 2 = .ok (.aload_n 0, 1) := by decide +kernel
theorem dL_pass_3 : decode cL_pass 3 = .ok (.iload_n 1, 1) := by decide +kernel
theorem dL_pass_4 : decode cL_pass 4 = .ok (.invokevirtual 68, 3) := by decide +kernel
theorem dL_pass_7 : decode cL_pass 7 = .ok (.i2l, 1) := by decide +kernel
theorem dL_pass_8 : decode cL_pass 8 = .ok (.lastore, 1) := by decide +kernel
theorem dL_pass_9 : decode cL_pass 9 = .ok (.goto 6, 3) := by decide +kernel
theorem dL_pass_12 : decode cL_pass 12 = .ok (.astore_n 3, 1) := by decide +kernel
theorem dL_pass_13 : decode cL_pass 13 = .ok (.iconst 1, 1) := by decide +kernel
theorem dL_pass_14 : decode cL_pass 14 = .ok (.ireturn, 1) := by decide +kernel
theorem dL_pass_15 : decode cL_pass 15 = .ok (.iconst 0, 1) := by decide +kernel
theorem dL_pass_16 : decode cL_pass 16 = .ok (.ireturn, 1) := by decide +kernel
theorem dL_foresee_0 : decode cL_foresee 0 = .ok (.aload_n 3, 1) := by decide +kernel
theorem dL_foresee_1 : decode cL_foresee 1 = .ok (.iconst 0, 1) := by decide +kernel
theorem dL_foresee_2 : decode cL_foresee 2 = .ok (.aload_n 0, 1) := by decide +kernel
theorem dL_foresee_3 : decode cL_foresee 3 = .ok (.iload_n 1, 1) := by decide +kernel
theorem dL_foresee_4 : decode cL_foresee 4 = .ok (.iload_n 2, 1) := by decide +kernel
theorem dL_foresee_5 : decode cL_foresee 5 = .ok (.invokevirtual 71, 3) := by decide +kernel
theorem dL_foresee_8 : decode cL_foresee 8 = .ok (.i2l, 1) := by decide +kernel
theorem dL_foresee_9 : decode cL_foresee 9 = .ok (.lastore, 1) := by decide +kernel
theorem dL_foresee_10 : decode cL_foresee 10 = .ok (.goto 11, 3) := by decide +kernel
theorem dL_foresee_13 : decode cL_foresee 13 = .ok (.astore 4, 2) := by decide +kernel
theorem dL_foresee_15 : decode cL_foresee 15 = .ok (.iconst 1, 1) := by decide +kernel
theorem dL_foresee_16 : decode cL_foresee 16 = .ok (.ireturn, 1) := by decide +kernel
theorem dL_foresee_17 : decode cL_foresee 17 = .ok (.astore 4, 2) := by decide +kernel
theorem dL_foresee_19 : decode cL_foresee 19 = .ok (.iconst 2, 1) := by decide +kernel
theorem dL_foresee_20 : decode cL_foresee 20 = .ok (.ireturn, 1) := by decide +kernel
theorem dL_foresee_21 : decode cL_foresee 21 = .ok (.iconst 0, 1) := by decide +kernel
theorem dL_foresee_22 : decode cL_foresee 22 = .ok (.ireturn, 1) := by decide +kernel
theorem dL_rings_0 : decode cL_rings 0 = .ok (.aload_n 2, 1) := by decide +kernel
theorem dL_rings_1 : decode cL_rings 1 = .ok (.iconst 0, 1) := by decide +kernel
theorem dL_rings_2 : decode cL_rings 2 = .ok (.aload_n 0, 1) := by decide +kernel
theorem dL_rings_3 : decode cL_rings 3 = .ok (.iload_n 1, 1) := by decide +kernel
theorem dL_rings_4 : decode cL_rings 4 = .ok (.invokevirtual 74, 3) := by decide +kernel
theorem dL_rings_7 : decode cL_rings 7 = .ok (.i2l, 1) := by decide +kernel
theorem dL_rings_8 : decode cL_rings 8 = .ok (.lastore, 1) := by decide +kernel
theorem dL_rings_9 : decode cL_rings 9 = .ok (.goto 6, 3) := by decide +kernel
theorem dL_rings_12 : decode cL_rings 12 = .ok (.astore_n 3, 1) := by decide +kernel
theorem dL_rings_13 : decode cL_rings 13 = .ok (.iconst 1, 1) := by decide +kernel
theorem dL_rings_14 : decode cL_rings 14 = .ok (.ireturn, 1) := by decide +kernel
theorem dL_rings_15 : decode cL_rings 15 = .ok (.iconst 0, 1) := by decide +kernel
theorem dL_rings_16 : decode cL_rings 16 = .ok (.ireturn, 1) := by decide +kernel
theorem dL_advise_0 : decode cL_advise 0 = .ok (.aload_n 2, 1) := by decide +kernel
theorem dL_advise_1 : decode cL_advise 1 = .ok (.iconst 0, 1) := by decide +kernel
theorem dL_advise_2 : decode cL_advise 2 = .ok (.aload_n 0, 1) := by decide +kernel
theorem dL_advise_3 : decode cL_advise 3 = .ok (.iload_n 1, 1) := by decide +kernel
theorem dL_advise_4 : decode cL_advise 4 = .ok (.invokevirtual 77, 3) := by decide +kernel
theorem dL_advise_7 : decode cL_advise 7 = .ok (.i2l, 1) := by decide +kernel
theorem dL_advise_8 : decode cL_advise 8 = .ok (.lastore, 1) := by decide +kernel
theorem dL_advise_9 : decode cL_advise 9 = .ok (.goto 6, 3) := by decide +kernel
theorem dL_advise_12 : decode cL_advise 12 = .ok (.astore_n 3, 1) := by decide +kernel
theorem dL_advise_13 : decode cL_advise 13 = .ok (.iconst 1, 1) := by decide +kernel
theorem dL_advise_14 : decode cL_advise 14 = .ok (.ireturn, 1) := by decide +kernel
theorem dL_advise_15 : decode cL_advise 15 = .ok (.iconst 0, 1) := by decide +kernel
theorem dL_advise_16 : decode cL_advise 16 = .ok (.ireturn, 1) := by decide +kernel
theorem dL_law_0 : decode cL_law 0 = .ok (.new 8, 3) := by decide +kernel
theorem dL_law_3 : decode cL_law 3 = .ok (.dup, 1) := by decide +kernel
theorem dL_law_4 : decode cL_law 4 = .ok (.invokespecial 80, 3) := by decide +kernel
theorem dL_law_7 : decode cL_law 7 = .ok (.astore_n 1, 1) := by decide +kernel
theorem dL_law_8 : decode cL_law 8 = .ok (.new 81, 3) := by decide +kernel
theorem dL_law_11 : decode cL_law 11 = .ok (.dup, 1) := by decide +kernel
theorem dL_law_12 : decode cL_law 12 = .ok (.invokespecial 83, 3) := by decide +kernel
theorem dL_law_15 : decode cL_law 15 = .ok (.astore_n 2, 1) := by decide +kernel
theorem dL_law_16 : decode cL_law 16 = .ok (.iconst 1, 1) := by decide +kernel
theorem dL_law_17 : decode cL_law 17 = .ok (.newarray .long, 2) := by decide +kernel
theorem dL_law_19 : decode cL_law 19 = .ok (.astore_n 3, 1) := by decide +kernel
theorem dL_law_20 : decode cL_law 20 = .ok (.iconst 0, 1) := by decide +kernel
theorem dL_law_21 : decode cL_law 21 = .ok (.istore 4, 2) := by decide +kernel
theorem dL_law_23 : decode cL_law 23 = .ok (.iload 4, 2) := by decide +kernel
theorem dL_law_25 : decode cL_law 25 = .ok (.aload_n 0, 1) := by decide +kernel
theorem dL_law_26 : decode cL_law 26 = .ok (.arraylength, 1) := by decide +kernel
theorem dL_law_27 : decode cL_law 27 = .ok (.iconst 5, 1) := by decide +kernel
theorem dL_law_28 : decode cL_law 28 = .ok (.isub, 1) := by decide +kernel
theorem dL_law_29 : decode cL_law 29 = .ok (.if_icmp .gt 1575, 3) := by decide +kernel
theorem dL_law_32 : decode cL_law 32 = .ok (.aload_n 0, 1) := by decide +kernel
theorem dL_law_33 : decode cL_law 33 = .ok (.iload 4, 2) := by decide +kernel
theorem dL_law_35 : decode cL_law 35 = .ok (.iaload, 1) := by decide +kernel
theorem dL_law_36 : decode cL_law 36 = .ok (.bipush 31, 2) := by decide +kernel
theorem dL_law_38 : decode cL_law 38 = .ok (.iand, 1) := by decide +kernel
theorem dL_law_39 : decode cL_law 39 = .ok (.tableswitch 1559 0 21 #[101, 181, 261, 329, 421, 484, 564, 644, 724, 792, 872, 940, 1008, 1076, 1144, 1212, 1268, 1324, 1392, 1448, 1504, 1545], 101) := by decide +kernel
theorem dL_law_140 : decode cL_law 140 = .ok (.aload_n 1, 1) := by decide +kernel
theorem dL_law_141 : decode cL_law 141 = .ok (.aload_n 0, 1) := by decide +kernel
theorem dL_law_142 : decode cL_law 142 = .ok (.iload 4, 2) := by decide +kernel
theorem dL_law_144 : decode cL_law 144 = .ok (.iconst 1, 1) := by decide +kernel
theorem dL_law_145 : decode cL_law 145 = .ok (.iadd, 1) := by decide +kernel
theorem dL_law_146 : decode cL_law 146 = .ok (.iaload, 1) := by decide +kernel
theorem dL_law_147 : decode cL_law 147 = .ok (.aload_n 0, 1) := by decide +kernel
theorem dL_law_148 : decode cL_law 148 = .ok (.iload 4, 2) := by decide +kernel
theorem dL_law_150 : decode cL_law 150 = .ok (.iconst 2, 1) := by decide +kernel
theorem dL_law_151 : decode cL_law 151 = .ok (.iadd, 1) := by decide +kernel
theorem dL_law_152 : decode cL_law 152 = .ok (.iaload, 1) := by decide +kernel
theorem dL_law_153 : decode cL_law 153 = .ok (.aload_n 0, 1) := by decide +kernel
theorem dL_law_154 : decode cL_law 154 = .ok (.iload 4, 2) := by decide +kernel
theorem dL_law_156 : decode cL_law 156 = .ok (.iconst 3, 1) := by decide +kernel
theorem dL_law_157 : decode cL_law 157 = .ok (.iadd, 1) := by decide +kernel
theorem dL_law_158 : decode cL_law 158 = .ok (.iaload, 1) := by decide +kernel
theorem dL_law_159 : decode cL_law 159 = .ok (.aload_n 3, 1) := by decide +kernel
theorem dL_law_160 : decode cL_law 160 = .ok (.invokestatic 84, 3) := by decide +kernel
theorem dL_law_163 : decode cL_law 163 = .ok (.istore 5, 2) := by decide +kernel
theorem dL_law_165 : decode cL_law 165 = .ok (.aload_n 2, 1) := by decide +kernel
theorem dL_law_166 : decode cL_law 166 = .ok (.aload_n 0, 1) := by decide +kernel
theorem dL_law_167 : decode cL_law 167 = .ok (.iload 4, 2) := by decide +kernel
theorem dL_law_169 : decode cL_law 169 = .ok (.iconst 1, 1) := by decide +kernel
theorem dL_law_170 : decode cL_law 170 = .ok (.iadd, 1) := by decide +kernel
theorem dL_law_171 : decode cL_law 171 = .ok (.iaload, 1) := by decide +kernel
theorem dL_law_172 : decode cL_law 172 = .ok (.aload_n 0, 1) := by decide +kernel
theorem dL_law_173 : decode cL_law 173 = .ok (.iload 4, 2) := by decide +kernel
theorem dL_law_175 : decode cL_law 175 = .ok (.iconst 2, 1) := by decide +kernel
theorem dL_law_176 : decode cL_law 176 = .ok (.iadd, 1) := by decide +kernel
theorem dL_law_177 : decode cL_law 177 = .ok (.iaload, 1) := by decide +kernel
theorem dL_law_178 : decode cL_law 178 = .ok (.aload_n 0, 1) := by decide +kernel
theorem dL_law_179 : decode cL_law 179 = .ok (.iload 4, 2) := by decide +kernel
theorem dL_law_181 : decode cL_law 181 = .ok (.iconst 3, 1) := by decide +kernel
theorem dL_law_182 : decode cL_law 182 = .ok (.iadd, 1) := by decide +kernel
theorem dL_law_183 : decode cL_law 183 = .ok (.iaload, 1) := by decide +kernel
theorem dL_law_184 : decode cL_law 184 = .ok (.invokevirtual 89, 3) := by decide +kernel
theorem dL_law_187 : decode cL_law 187 = .ok (.istore 6, 2) := by decide +kernel
theorem dL_law_189 : decode cL_law 189 = .ok (.aload_n 2, 1) := by decide +kernel
theorem dL_law_190 : decode cL_law 190 = .ok (.invokevirtual 90, 3) := by decide +kernel
theorem dL_law_193 : decode cL_law 193 = .ok (.iload 5, 2) := by decide +kernel
theorem dL_law_195 : decode cL_law 195 = .ok (.if_icmp .eq 5, 3) := by decide +kernel
theorem dL_law_198 : decode cL_law 198 = .ok (.iconst 0, 1) := by decide +kernel
theorem dL_law_199 : decode cL_law 199 = .ok (.ireturn, 1) := by decide +kernel
theorem dL_law_200 : decode cL_law 200 = .ok (.iload 5, 2) := by decide +kernel
theorem dL_law_202 : decode cL_law 202 = .ok (.ifCond .ne 15, 3) := by decide +kernel
theorem dL_law_205 : decode cL_law 205 = .ok (.aload_n 3, 1) := by decide +kernel
theorem dL_law_206 : decode cL_law 206 = .ok (.iconst 0, 1) := by decide +kernel
theorem dL_law_207 : decode cL_law 207 = .ok (.laload, 1) := by decide +kernel
theorem dL_law_208 : decode cL_law 208 = .ok (.iload 6, 2) := by decide +kernel
theorem dL_law_210 : decode cL_law 210 = .ok (.i2l, 1) := by decide +kernel
theorem dL_law_211 : decode cL_law 211 = .ok (.lcmp, 1) := by decide +kernel
theorem dL_law_212 : decode cL_law 212 = .ok (.ifCond .eq 5, 3) := by decide +kernel
theorem dL_law_215 : decode cL_law 215 = .ok (.iconst 0, 1) := by decide +kernel
theorem dL_law_216 : decode cL_law 216 = .ok (.ireturn, 1) := by decide +kernel
theorem dL_law_217 : decode cL_law 217 = .ok (.goto 1381, 3) := by decide +kernel
theorem dL_law_220 : decode cL_law 220 = .ok (.aload_n 1, 1) := by decide +kernel
theorem dL_law_221 : decode cL_law 221 = .ok (.aload_n 0, 1) := by decide +kernel
theorem dL_law_222 : decode cL_law 222 = .ok (.iload 4, 2) := by decide +kernel
theorem dL_law_224 : decode cL_law 224 = .ok (.iconst 1, 1) := by decide +kernel
theorem dL_law_225 : decode cL_law 225 = .ok (.iadd, 1) := by decide +kernel
theorem dL_law_226 : decode cL_law 226 = .ok (.iaload, 1) := by decide +kernel
theorem dL_law_227 : decode cL_law 227 = .ok (.aload_n 0, 1) := by decide +kernel
theorem dL_law_228 : decode cL_law 228 = .ok (.iload 4, 2) := by decide +kernel
theorem dL_law_230 : decode cL_law 230 = .ok (.iconst 2, 1) := by decide +kernel
theorem dL_law_231 : decode cL_law 231 = .ok (.iadd, 1) := by decide +kernel
theorem dL_law_232 : decode cL_law 232 = .ok (.iaload, 1) := by decide +kernel
theorem dL_law_233 : decode cL_law 233 = .ok (.aload_n 0, 1) := by decide +kernel
theorem dL_law_234 : decode cL_law 234 = .ok (.iload 4, 2) := by decide +kernel
theorem dL_law_236 : decode cL_law 236 = .ok (.iconst 3, 1) := by decide +kernel
theorem dL_law_237 : decode cL_law 237 = .ok (.iadd, 1) := by decide +kernel
theorem dL_law_238 : decode cL_law 238 = .ok (.iaload, 1) := by decide +kernel
theorem dL_law_239 : decode cL_law 239 = .ok (.aload_n 3, 1) := by decide +kernel
theorem dL_law_240 : decode cL_law 240 = .ok (.invokestatic 94, 3) := by decide +kernel
theorem dL_law_243 : decode cL_law 243 = .ok (.istore 5, 2) := by decide +kernel
theorem dL_law_245 : decode cL_law 245 = .ok (.aload_n 2, 1) := by decide +kernel
theorem dL_law_246 : decode cL_law 246 = .ok (.aload_n 0, 1) := by decide +kernel
theorem dL_law_247 : decode cL_law 247 = .ok (.iload 4, 2) := by decide +kernel
theorem dL_law_249 : decode cL_law 249 = .ok (.iconst 1, 1) := by decide +kernel
theorem dL_law_250 : decode cL_law 250 = .ok (.iadd, 1) := by decide +kernel
theorem dL_law_251 : decode cL_law 251 = .ok (.iaload, 1) := by decide +kernel
theorem dL_law_252 : decode cL_law 252 = .ok (.aload_n 0, 1) := by decide +kernel
theorem dL_law_253 : decode cL_law 253 = .ok (.iload 4, 2) := by decide +kernel
theorem dL_law_255 : decode cL_law 255 = .ok (.iconst 2, 1) := by decide +kernel
theorem dL_law_256 : decode cL_law 256 = .ok (.iadd, 1) := by decide +kernel
theorem dL_law_257 : decode cL_law 257 = .ok (.iaload, 1) := by decide +kernel
theorem dL_law_258 : decode cL_law 258 = .ok (.aload_n 0, 1) := by decide +kernel
theorem dL_law_259 : decode cL_law 259 = .ok (.iload 4, 2) := by decide +kernel
theorem dL_law_261 : decode cL_law 261 = .ok (.iconst 3, 1) := by decide +kernel
theorem dL_law_262 : decode cL_law 262 = .ok (.iadd, 1) := by decide +kernel
theorem dL_law_263 : decode cL_law 263 = .ok (.iaload, 1) := by decide +kernel
theorem dL_law_264 : decode cL_law 264 = .ok (.invokevirtual 96, 3) := by decide +kernel
theorem dL_law_267 : decode cL_law 267 = .ok (.istore 6, 2) := by decide +kernel
theorem dL_law_269 : decode cL_law 269 = .ok (.aload_n 2, 1) := by decide +kernel
theorem dL_law_270 : decode cL_law 270 = .ok (.invokevirtual 90, 3) := by decide +kernel
theorem dL_law_273 : decode cL_law 273 = .ok (.iload 5, 2) := by decide +kernel
theorem dL_law_275 : decode cL_law 275 = .ok (.if_icmp .eq 5, 3) := by decide +kernel
theorem dL_law_278 : decode cL_law 278 = .ok (.iconst 0, 1) := by decide +kernel
theorem dL_law_279 : decode cL_law 279 = .ok (.ireturn, 1) := by decide +kernel
theorem dL_law_280 : decode cL_law 280 = .ok (.iload 5, 2) := by decide +kernel
theorem dL_law_282 : decode cL_law 282 = .ok (.ifCond .ne 15, 3) := by decide +kernel
theorem dL_law_285 : decode cL_law 285 = .ok (.aload_n 3, 1) := by decide +kernel
theorem dL_law_286 : decode cL_law 286 = .ok (.iconst 0, 1) := by decide +kernel
theorem dL_law_287 : decode cL_law 287 = .ok (.laload, 1) := by decide +kernel
theorem dL_law_288 : decode cL_law 288 = .ok (.iload 6, 2) := by decide +kernel
theorem dL_law_290 : decode cL_law 290 = .ok (.i2l, 1) := by decide +kernel
theorem dL_law_291 : decode cL_law 291 = .ok (.lcmp, 1) := by decide +kernel
theorem dL_law_292 : decode cL_law 292 = .ok (.ifCond .eq 5, 3) := by decide +kernel
theorem dL_law_295 : decode cL_law 295 = .ok (.iconst 0, 1) := by decide +kernel
theorem dL_law_296 : decode cL_law 296 = .ok (.ireturn, 1) := by decide +kernel
theorem dL_law_297 : decode cL_law 297 = .ok (.goto 1301, 3) := by decide +kernel
theorem dL_law_300 : decode cL_law 300 = .ok (.aload_n 1, 1) := by decide +kernel
theorem dL_law_301 : decode cL_law 301 = .ok (.aload_n 0, 1) := by decide +kernel
theorem dL_law_302 : decode cL_law 302 = .ok (.iload 4, 2) := by decide +kernel
theorem dL_law_304 : decode cL_law 304 = .ok (.iconst 1, 1) := by decide +kernel
theorem dL_law_305 : decode cL_law 305 = .ok (.iadd, 1) := by decide +kernel
theorem dL_law_306 : decode cL_law 306 = .ok (.iaload, 1) := by decide +kernel
theorem dL_law_307 : decode cL_law 307 = .ok (.aload_n 0, 1) := by decide +kernel
theorem dL_law_308 : decode cL_law 308 = .ok (.iload 4, 2) := by decide +kernel
theorem dL_law_310 : decode cL_law 310 = .ok (.iconst 2, 1) := by decide +kernel
theorem dL_law_311 : decode cL_law 311 = .ok (.iadd, 1) := by decide +kernel
theorem dL_law_312 : decode cL_law 312 = .ok (.iaload, 1) := by decide +kernel
theorem dL_law_313 : decode cL_law 313 = .ok (.aload_n 3, 1) := by decide +kernel
theorem dL_law_314 : decode cL_law 314 = .ok (.invokestatic 97, 3) := by decide +kernel
theorem dL_law_317 : decode cL_law 317 = .ok (.istore 5, 2) := by decide +kernel
theorem dL_law_319 : decode cL_law 319 = .ok (.aload_n 2, 1) := by decide +kernel
theorem dL_law_320 : decode cL_law 320 = .ok (.aload_n 0, 1) := by decide +kernel
theorem dL_law_321 : decode cL_law 321 = .ok (.iload 4, 2) := by decide +kernel
theorem dL_law_323 : decode cL_law 323 = .ok (.iconst 1, 1) := by decide +kernel
theorem dL_law_324 : decode cL_law 324 = .ok (.iadd, 1) := by decide +kernel
theorem dL_law_325 : decode cL_law 325 = .ok (.iaload, 1) := by decide +kernel
theorem dL_law_326 : decode cL_law 326 = .ok (.aload_n 0, 1) := by decide +kernel
theorem dL_law_327 : decode cL_law 327 = .ok (.iload 4, 2) := by decide +kernel
theorem dL_law_329 : decode cL_law 329 = .ok (.iconst 2, 1) := by decide +kernel
theorem dL_law_330 : decode cL_law 330 = .ok (.iadd, 1) := by decide +kernel
theorem dL_law_331 : decode cL_law 331 = .ok (.iaload, 1) := by decide +kernel
theorem dL_law_332 : decode cL_law 332 = .ok (.invokevirtual 100, 3) := by decide +kernel
theorem dL_law_335 : decode cL_law 335 = .ok (.istore 6, 2) := by decide +kernel
theorem dL_law_337 : decode cL_law 337 = .ok (.aload_n 2, 1) := by decide +kernel
theorem dL_law_338 : decode cL_law 338 = .ok (.invokevirtual 90, 3) := by decide +kernel
theorem dL_law_341 : decode cL_law 341 = .ok (.iload 5, 2) := by decide +kernel
theorem dL_law_343 : decode cL_law 343 = .ok (.if_icmp .eq 5, 3) := by decide +kernel
theorem dL_law_346 : decode cL_law 346 = .ok (.iconst 0, 1) := by decide +kernel
theorem dL_law_347 : decode cL_law 347 = .ok (.ireturn, 1) := by decide +kernel
theorem dL_law_348 : decode cL_law 348 = .ok (.iload 5, 2) := by decide +kernel
theorem dL_law_350 : decode cL_law 350 = .ok (.ifCond .ne 15, 3) := by decide +kernel
theorem dL_law_353 : decode cL_law 353 = .ok (.aload_n 3, 1) := by decide +kernel
theorem dL_law_354 : decode cL_law 354 = .ok (.iconst 0, 1) := by decide +kernel
theorem dL_law_355 : decode cL_law 355 = .ok (.laload, 1) := by decide +kernel
theorem dL_law_356 : decode cL_law 356 = .ok (.iload 6, 2) := by decide +kernel
theorem dL_law_358 : decode cL_law 358 = .ok (.i2l, 1) := by decide +kernel
theorem dL_law_359 : decode cL_law 359 = .ok (.lcmp, 1) := by decide +kernel
theorem dL_law_360 : decode cL_law 360 = .ok (.ifCond .eq 5, 3) := by decide +kernel
theorem dL_law_363 : decode cL_law 363 = .ok (.iconst 0, 1) := by decide +kernel
theorem dL_law_364 : decode cL_law 364 = .ok (.ireturn, 1) := by decide +kernel
theorem dL_law_365 : decode cL_law 365 = .ok (.goto 1233, 3) := by decide +kernel
theorem dL_law_368 : decode cL_law 368 = .ok (.aload_n 1, 1) := by decide +kernel
theorem dL_law_369 : decode cL_law 369 = .ok (.aload_n 0, 1) := by decide +kernel
theorem dL_law_370 : decode cL_law 370 = .ok (.iload 4, 2) := by decide +kernel
theorem dL_law_372 : decode cL_law 372 = .ok (.iconst 1, 1) := by decide +kernel
theorem dL_law_373 : decode cL_law 373 = .ok (.iadd, 1) := by decide +kernel
theorem dL_law_374 : decode cL_law 374 = .ok (.iaload, 1) := by decide +kernel
theorem dL_law_375 : decode cL_law 375 = .ok (.aload_n 0, 1) := by decide +kernel
theorem dL_law_376 : decode cL_law 376 = .ok (.iload 4, 2) := by decide +kernel
theorem dL_law_378 : decode cL_law 378 = .ok (.iconst 2, 1) := by decide +kernel
theorem dL_law_379 : decode cL_law 379 = .ok (.iadd, 1) := by decide +kernel
theorem dL_law_380 : decode cL_law 380 = .ok (.iaload, 1) := by decide +kernel
theorem dL_law_381 : decode cL_law 381 = .ok (.aload_n 0, 1) := by decide +kernel
theorem dL_law_382 : decode cL_law 382 = .ok (.iload 4, 2) := by decide +kernel
theorem dL_law_384 : decode cL_law 384 = .ok (.iconst 3, 1) := by decide +kernel
theorem dL_law_385 : decode cL_law 385 = .ok (.iadd, 1) := by decide +kernel
theorem dL_law_386 : decode cL_law 386 = .ok (.iaload, 1) := by decide +kernel
theorem dL_law_387 : decode cL_law 387 = .ok (.aload_n 0, 1) := by decide +kernel
theorem dL_law_388 : decode cL_law 388 = .ok (.iload 4, 2) := by decide +kernel
theorem dL_law_390 : decode cL_law 390 = .ok (.iconst 4, 1) := by decide +kernel
theorem dL_law_391 : decode cL_law 391 = .ok (.iadd, 1) := by decide +kernel
theorem dL_law_392 : decode cL_law 392 = .ok (.iaload, 1) := by decide +kernel
theorem dL_law_393 : decode cL_law 393 = .ok (.aload_n 3, 1) := by decide +kernel
theorem dL_law_394 : decode cL_law 394 = .ok (.invokestatic 101, 3) := by decide +kernel
theorem dL_law_397 : decode cL_law 397 = .ok (.istore 5, 2) := by decide +kernel
theorem dL_law_399 : decode cL_law 399 = .ok (.aload_n 2, 1) := by decide +kernel
theorem dL_law_400 : decode cL_law 400 = .ok (.aload_n 0, 1) := by decide +kernel
theorem dL_law_401 : decode cL_law 401 = .ok (.iload 4, 2) := by decide +kernel
theorem dL_law_403 : decode cL_law 403 = .ok (.iconst 1, 1) := by decide +kernel
theorem dL_law_404 : decode cL_law 404 = .ok (.iadd, 1) := by decide +kernel
theorem dL_law_405 : decode cL_law 405 = .ok (.iaload, 1) := by decide +kernel
theorem dL_law_406 : decode cL_law 406 = .ok (.aload_n 0, 1) := by decide +kernel
theorem dL_law_407 : decode cL_law 407 = .ok (.iload 4, 2) := by decide +kernel
theorem dL_law_409 : decode cL_law 409 = .ok (.iconst 2, 1) := by decide +kernel
theorem dL_law_410 : decode cL_law 410 = .ok (.iadd, 1) := by decide +kernel
theorem dL_law_411 : decode cL_law 411 = .ok (.iaload, 1) := by decide +kernel
theorem dL_law_412 : decode cL_law 412 = .ok (.aload_n 0, 1) := by decide +kernel
theorem dL_law_413 : decode cL_law 413 = .ok (.iload 4, 2) := by decide +kernel
theorem dL_law_415 : decode cL_law 415 = .ok (.iconst 3, 1) := by decide +kernel
theorem dL_law_416 : decode cL_law 416 = .ok (.iadd, 1) := by decide +kernel
theorem dL_law_417 : decode cL_law 417 = .ok (.iaload, 1) := by decide +kernel
theorem dL_law_418 : decode cL_law 418 = .ok (.aload_n 0, 1) := by decide +kernel
theorem dL_law_419 : decode cL_law 419 = .ok (.iload 4, 2) := by decide +kernel
theorem dL_law_421 : decode cL_law 421 = .ok (.iconst 4, 1) := by decide +kernel
theorem dL_law_422 : decode cL_law 422 = .ok (.iadd, 1) := by decide +kernel
theorem dL_law_423 : decode cL_law 423 = .ok (.iaload, 1) := by decide +kernel
theorem dL_law_424 : decode cL_law 424 = .ok (.invokevirtual 104, 3) := by decide +kernel
theorem dL_law_427 : decode cL_law 427 = .ok (.istore 6, 2) := by decide +kernel
theorem dL_law_429 : decode cL_law 429 = .ok (.aload_n 2, 1) := by decide +kernel
theorem dL_law_430 : decode cL_law 430 = .ok (.invokevirtual 90, 3) := by decide +kernel
theorem dL_law_433 : decode cL_law 433 = .ok (.iload 5, 2) := by decide +kernel
theorem dL_law_435 : decode cL_law 435 = .ok (.if_icmp .eq 5, 3) := by decide +kernel
theorem dL_law_438 : decode cL_law 438 = .ok (.iconst 0, 1) := by decide +kernel
theorem dL_law_439 : decode cL_law 439 = .ok (.ireturn, 1) := by decide +kernel
theorem dL_law_440 : decode cL_law 440 = .ok (.iload 5, 2) := by decide +kernel
theorem dL_law_442 : decode cL_law 442 = .ok (.ifCond .ne 15, 3) := by decide +kernel
theorem dL_law_445 : decode cL_law 445 = .ok (.aload_n 3, 1) := by decide +kernel
theorem dL_law_446 : decode cL_law 446 = .ok (.iconst 0, 1) := by decide +kernel
theorem dL_law_447 : decode cL_law 447 = .ok (.laload, 1) := by decide +kernel
theorem dL_law_448 : decode cL_law 448 = .ok (.iload 6, 2) := by decide +kernel
theorem dL_law_450 : decode cL_law 450 = .ok (.i2l, 1) := by decide +kernel
theorem dL_law_451 : decode cL_law 451 = .ok (.lcmp, 1) := by decide +kernel
theorem dL_law_452 : decode cL_law 452 = .ok (.ifCond .eq 5, 3) := by decide +kernel
theorem dL_law_455 : decode cL_law 455 = .ok (.iconst 0, 1) := by decide +kernel
theorem dL_law_456 : decode cL_law 456 = .ok (.ireturn, 1) := by decide +kernel
theorem dL_law_457 : decode cL_law 457 = .ok (.goto 1141, 3) := by decide +kernel
theorem dL_law_460 : decode cL_law 460 = .ok (.aload_n 1, 1) := by decide +kernel
theorem dL_law_461 : decode cL_law 461 = .ok (.aload_n 0, 1) := by decide +kernel
theorem dL_law_462 : decode cL_law 462 = .ok (.iload 4, 2) := by decide +kernel
theorem dL_law_464 : decode cL_law 464 = .ok (.iconst 1, 1) := by decide +kernel
theorem dL_law_465 : decode cL_law 465 = .ok (.iadd, 1) := by decide +kernel
theorem dL_law_466 : decode cL_law 466 = .ok (.iaload, 1) := by decide +kernel
theorem dL_law_467 : decode cL_law 467 = .ok (.aload_n 3, 1) := by decide +kernel
theorem dL_law_468 : decode cL_law 468 = .ok (.invokestatic 105, 3) := by decide +kernel
theorem dL_law_471 : decode cL_law 471 = .ok (.istore 5, 2) := by decide +kernel
theorem dL_law_473 : decode cL_law 473 = .ok (.aload_n 2, 1) := by decide +kernel
theorem dL_law_474 : decode cL_law 474 = .ok (.aload_n 0, 1) := by decide +kernel
theorem dL_law_475 : decode cL_law 475 = .ok (.iload 4, 2) := by decide +kernel
theorem dL_law_477 : decode cL_law 477 = .ok (.iconst 1, 1) := by decide +kernel
theorem dL_law_478 : decode cL_law 478 = .ok (.iadd, 1) := by decide +kernel
theorem dL_law_479 : decode cL_law 479 = .ok (.iaload, 1) := by decide +kernel
theorem dL_law_480 : decode cL_law 480 = .ok (.invokevirtual 108, 3) := by decide +kernel
theorem dL_law_483 : decode cL_law 483 = .ok (.istore 6, 2) := by decide +kernel
theorem dL_law_485 : decode cL_law 485 = .ok (.aload_n 2, 1) := by decide +kernel
theorem dL_law_486 : decode cL_law 486 = .ok (.invokevirtual 90, 3) := by decide +kernel
theorem dL_law_489 : decode cL_law 489 = .ok (.iload 5, 2) := by decide +kernel
theorem dL_law_491 : decode cL_law 491 = .ok (.if_icmp .eq 5, 3) := by decide +kernel
theorem dL_law_494 : decode cL_law 494 = .ok (.iconst 0, 1) := by decide +kernel
theorem dL_law_495 : decode cL_law 495 = .ok (.ireturn, 1) := by decide +kernel
theorem dL_law_496 : decode cL_law 496 = .ok (.iload 5, 2) := by decide +kernel
theorem dL_law_498 : decode cL_law 498 = .ok (.ifCond .ne 22, 3) := by decide +kernel
theorem dL_law_501 : decode cL_law 501 = .ok (.aload_n 3, 1) := by decide +kernel
theorem dL_law_502 : decode cL_law 502 = .ok (.iconst 0, 1) := by decide +kernel
theorem dL_law_503 : decode cL_law 503 = .ok (.laload, 1) := by decide +kernel
theorem dL_law_504 : decode cL_law 504 = .ok (.iload 6, 2) := by decide +kernel
theorem dL_law_506 : decode cL_law 506 = .ok (.ifCond .eq 7, 3) := by decide +kernel
theorem dL_law_509 : decode cL_law 509 = .ok (.lconst 1, 1) := by decide +kernel
theorem dL_law_510 : decode cL_law 510 = .ok (.goto 4, 3) := by decide +kernel
theorem dL_law_513 : decode cL_law 513 = .ok (.lconst 0, 1) := by decide +kernel
theorem dL_law_514 : decode cL_law 514 = .ok (.lcmp, 1) := by decide +kernel
theorem dL_law_515 : decode cL_law 515 = .ok (.ifCond .eq 5, 3) := by decide +kernel
theorem dL_law_518 : decode cL_law 518 = .ok (.iconst 0, 1) := by decide +kernel
theorem dL_law_519 : decode cL_law 519 = .ok (.ireturn, 1) := by decide +kernel
theorem dL_law_520 : decode cL_law 520 = .ok (.goto 1078, 3) := by decide +kernel
theorem dL_law_523 : decode cL_law 523 = .ok (.aload_n 1, 1) := by decide +kernel
theorem dL_law_524 : decode cL_law 524 = .ok (.aload_n 0, 1) := by decide +kernel
theorem dL_law_525 : decode cL_law 525 = .ok (.iload 4, 2) := by decide +kernel
theorem dL_law_527 : decode cL_law 527 = .ok (.iconst 1, 1) := by decide +kernel
theorem dL_law_528 : decode cL_law 528 = .ok (.iadd, 1) := by decide +kernel
theorem dL_law_529 : decode cL_law 529 = .ok (.iaload, 1) := by decide +kernel
theorem dL_law_530 : decode cL_law 530 = .ok (.aload_n 0, 1) := by decide +kernel
theorem dL_law_531 : decode cL_law 531 = .ok (.iload 4, 2) := by decide +kernel
theorem dL_law_533 : decode cL_law 533 = .ok (.iconst 2, 1) := by decide +kernel
theorem dL_law_534 : decode cL_law 534 = .ok (.iadd, 1) := by decide +kernel
theorem dL_law_535 : decode cL_law 535 = .ok (.iaload, 1) := by decide +kernel
theorem dL_law_536 : decode cL_law 536 = .ok (.aload_n 0, 1) := by decide +kernel
theorem dL_law_537 : decode cL_law 537 = .ok (.iload 4, 2) := by decide +kernel
theorem dL_law_539 : decode cL_law 539 = .ok (.iconst 3, 1) := by decide +kernel
theorem dL_law_540 : decode cL_law 540 = .ok (.iadd, 1) := by decide +kernel
theorem dL_law_541 : decode cL_law 541 = .ok (.iaload, 1) := by decide +kernel
theorem dL_law_542 : decode cL_law 542 = .ok (.aload_n 3, 1) := by decide +kernel
theorem dL_law_543 : decode cL_law 543 = .ok (.invokestatic 109, 3) := by decide +kernel
theorem dL_law_546 : decode cL_law 546 = .ok (.istore 5, 2) := by decide +kernel
theorem dL_law_548 : decode cL_law 548 = .ok (.aload_n 2, 1) := by decide +kernel
theorem dL_law_549 : decode cL_law 549 = .ok (.aload_n 0, 1) := by decide +kernel
theorem dL_law_550 : decode cL_law 550 = .ok (.iload 4, 2) := by decide +kernel
theorem dL_law_552 : decode cL_law 552 = .ok (.iconst 1, 1) := by decide +kernel
theorem dL_law_553 : decode cL_law 553 = .ok (.iadd, 1) := by decide +kernel
theorem dL_law_554 : decode cL_law 554 = .ok (.iaload, 1) := by decide +kernel
theorem dL_law_555 : decode cL_law 555 = .ok (.aload_n 0, 1) := by decide +kernel
theorem dL_law_556 : decode cL_law 556 = .ok (.iload 4, 2) := by decide +kernel
theorem dL_law_558 : decode cL_law 558 = .ok (.iconst 2, 1) := by decide +kernel
theorem dL_law_559 : decode cL_law 559 = .ok (.iadd, 1) := by decide +kernel
theorem dL_law_560 : decode cL_law 560 = .ok (.iaload, 1) := by decide +kernel
theorem dL_law_561 : decode cL_law 561 = .ok (.aload_n 0, 1) := by decide +kernel
theorem dL_law_562 : decode cL_law 562 = .ok (.iload 4, 2) := by decide +kernel
theorem dL_law_564 : decode cL_law 564 = .ok (.iconst 3, 1) := by decide +kernel
theorem dL_law_565 : decode cL_law 565 = .ok (.iadd, 1) := by decide +kernel
theorem dL_law_566 : decode cL_law 566 = .ok (.iaload, 1) := by decide +kernel
theorem dL_law_567 : decode cL_law 567 = .ok (.invokevirtual 111, 3) := by decide +kernel
theorem dL_law_570 : decode cL_law 570 = .ok (.istore 6, 2) := by decide +kernel
theorem dL_law_572 : decode cL_law 572 = .ok (.aload_n 2, 1) := by decide +kernel
theorem dL_law_573 : decode cL_law 573 = .ok (.invokevirtual 90, 3) := by decide +kernel
theorem dL_law_576 : decode cL_law 576 = .ok (.iload 5, 2) := by decide +kernel
theorem dL_law_578 : decode cL_law 578 = .ok (.if_icmp .eq 5, 3) := by decide +kernel
theorem dL_law_581 : decode cL_law 581 = .ok (.iconst 0, 1) := by decide +kernel
theorem dL_law_582 : decode cL_law 582 = .ok (.ireturn, 1) := by decide +kernel
theorem dL_law_583 : decode cL_law 583 = .ok (.iload 5, 2) := by decide +kernel
theorem dL_law_585 : decode cL_law 585 = .ok (.ifCond .ne 15, 3) := by decide +kernel
theorem dL_law_588 : decode cL_law 588 = .ok (.aload_n 3, 1) := by decide +kernel
theorem dL_law_589 : decode cL_law 589 = .ok (.iconst 0, 1) := by decide +kernel
theorem dL_law_590 : decode cL_law 590 = .ok (.laload, 1) := by decide +kernel
theorem dL_law_591 : decode cL_law 591 = .ok (.iload 6, 2) := by decide +kernel
theorem dL_law_593 : decode cL_law 593 = .ok (.i2l, 1) := by decide +kernel
theorem dL_law_594 : decode cL_law 594 = .ok (.lcmp, 1) := by decide +kernel
theorem dL_law_595 : decode cL_law 595 = .ok (.ifCond .eq 5, 3) := by decide +kernel
theorem dL_law_598 : decode cL_law 598 = .ok (.iconst 0, 1) := by decide +kernel
theorem dL_law_599 : decode cL_law 599 = .ok (.ireturn, 1) := by decide +kernel
theorem dL_law_600 : decode cL_law 600 = .ok (.goto 998, 3) := by decide +kernel
theorem dL_law_603 : decode cL_law 603 = .ok (.aload_n 1, 1) := by decide +kernel
theorem dL_law_604 : decode cL_law 604 = .ok (.aload_n 0, 1) := by decide +kernel
theorem dL_law_605 : decode cL_law 605 = .ok (.iload 4, 2) := by decide +kernel
theorem dL_law_607 : decode cL_law 607 = .ok (.iconst 1, 1) := by decide +kernel
theorem dL_law_608 : decode cL_law 608 = .ok (.iadd, 1) := by decide +kernel
theorem dL_law_609 : decode cL_law 609 = .ok (.iaload, 1) := by decide +kernel
theorem dL_law_610 : decode cL_law 610 = .ok (.aload_n 0, 1) := by decide +kernel
theorem dL_law_611 : decode cL_law 611 = .ok (.iload 4, 2) := by decide +kernel
theorem dL_law_613 : decode cL_law 613 = .ok (.iconst 2, 1) := by decide +kernel
theorem dL_law_614 : decode cL_law 614 = .ok (.iadd, 1) := by decide +kernel
theorem dL_law_615 : decode cL_law 615 = .ok (.iaload, 1) := by decide +kernel
theorem dL_law_616 : decode cL_law 616 = .ok (.aload_n 0, 1) := by decide +kernel
theorem dL_law_617 : decode cL_law 617 = .ok (.iload 4, 2) := by decide +kernel
theorem dL_law_619 : decode cL_law 619 = .ok (.iconst 3, 1) := by decide +kernel
theorem dL_law_620 : decode cL_law 620 = .ok (.iadd, 1) := by decide +kernel
theorem dL_law_621 : decode cL_law 621 = .ok (.iaload, 1) := by decide +kernel
theorem dL_law_622 : decode cL_law 622 = .ok (.aload_n 3, 1) := by decide +kernel
theorem dL_law_623 : decode cL_law 623 = .ok (.invokestatic 112, 3) := by decide +kernel
theorem dL_law_626 : decode cL_law 626 = .ok (.istore 5, 2) := by decide +kernel
theorem dL_law_628 : decode cL_law 628 = .ok (.aload_n 2, 1) := by decide +kernel
theorem dL_law_629 : decode cL_law 629 = .ok (.aload_n 0, 1) := by decide +kernel
theorem dL_law_630 : decode cL_law 630 = .ok (.iload 4, 2) := by decide +kernel
theorem dL_law_632 : decode cL_law 632 = .ok (.iconst 1, 1) := by decide +kernel
theorem dL_law_633 : decode cL_law 633 = .ok (.iadd, 1) := by decide +kernel
theorem dL_law_634 : decode cL_law 634 = .ok (.iaload, 1) := by decide +kernel
theorem dL_law_635 : decode cL_law 635 = .ok (.aload_n 0, 1) := by decide +kernel
theorem dL_law_636 : decode cL_law 636 = .ok (.iload 4, 2) := by decide +kernel
theorem dL_law_638 : decode cL_law 638 = .ok (.iconst 2, 1) := by decide +kernel
theorem dL_law_639 : decode cL_law 639 = .ok (.iadd, 1) := by decide +kernel
theorem dL_law_640 : decode cL_law 640 = .ok (.iaload, 1) := by decide +kernel
theorem dL_law_641 : decode cL_law 641 = .ok (.aload_n 0, 1) := by decide +kernel
theorem dL_law_642 : decode cL_law 642 = .ok (.iload 4, 2) := by decide +kernel
theorem dL_law_644 : decode cL_law 644 = .ok (.iconst 3, 1) := by decide +kernel
theorem dL_law_645 : decode cL_law 645 = .ok (.iadd, 1) := by decide +kernel
theorem dL_law_646 : decode cL_law 646 = .ok (.iaload, 1) := by decide +kernel
theorem dL_law_647 : decode cL_law 647 = .ok (.invokevirtual 114, 3) := by decide +kernel
theorem dL_law_650 : decode cL_law 650 = .ok (.istore 6, 2) := by decide +kernel
theorem dL_law_652 : decode cL_law 652 = .ok (.aload_n 2, 1) := by decide +kernel
theorem dL_law_653 : decode cL_law 653 = .ok (.invokevirtual 90, 3) := by decide +kernel
theorem dL_law_656 : decode cL_law 656 = .ok (.iload 5, 2) := by decide +kernel
theorem dL_law_658 : decode cL_law 658 = .ok (.if_icmp .eq 5, 3) := by decide +kernel
theorem dL_law_661 : decode cL_law 661 = .ok (.iconst 0, 1) := by decide +kernel
theorem dL_law_662 : decode cL_law 662 = .ok (.ireturn, 1) := by decide +kernel
theorem dL_law_663 : decode cL_law 663 = .ok (.iload 5, 2) := by decide +kernel
theorem dL_law_665 : decode cL_law 665 = .ok (.ifCond .ne 15, 3) := by decide +kernel
theorem dL_law_668 : decode cL_law 668 = .ok (.aload_n 3, 1) := by decide +kernel
theorem dL_law_669 : decode cL_law 669 = .ok (.iconst 0, 1) := by decide +kernel
theorem dL_law_670 : decode cL_law 670 = .ok (.laload, 1) := by decide +kernel
theorem dL_law_671 : decode cL_law 671 = .ok (.iload 6, 2) := by decide +kernel
theorem dL_law_673 : decode cL_law 673 = .ok (.i2l, 1) := by decide +kernel
theorem dL_law_674 : decode cL_law 674 = .ok (.lcmp, 1) := by decide +kernel
theorem dL_law_675 : decode cL_law 675 = .ok (.ifCond .eq 5, 3) := by decide +kernel
theorem dL_law_678 : decode cL_law 678 = .ok (.iconst 0, 1) := by decide +kernel
theorem dL_law_679 : decode cL_law 679 = .ok (.ireturn, 1) := by decide +kernel
theorem dL_law_680 : decode cL_law 680 = .ok (.goto 918, 3) := by decide +kernel
theorem dL_law_683 : decode cL_law 683 = .ok (.aload_n 1, 1) := by decide +kernel
theorem dL_law_684 : decode cL_law 684 = .ok (.aload_n 0, 1) := by decide +kernel
theorem dL_law_685 : decode cL_law 685 = .ok (.iload 4, 2) := by decide +kernel
theorem dL_law_687 : decode cL_law 687 = .ok (.iconst 1, 1) := by decide +kernel
theorem dL_law_688 : decode cL_law 688 = .ok (.iadd, 1) := by decide +kernel
theorem dL_law_689 : decode cL_law 689 = .ok (.iaload, 1) := by decide +kernel
theorem dL_law_690 : decode cL_law 690 = .ok (.aload_n 0, 1) := by decide +kernel
theorem dL_law_691 : decode cL_law 691 = .ok (.iload 4, 2) := by decide +kernel
theorem dL_law_693 : decode cL_law 693 = .ok (.iconst 2, 1) := by decide +kernel
theorem dL_law_694 : decode cL_law 694 = .ok (.iadd, 1) := by decide +kernel
theorem dL_law_695 : decode cL_law 695 = .ok (.iaload, 1) := by decide +kernel
theorem dL_law_696 : decode cL_law 696 = .ok (.aload_n 0, 1) := by decide +kernel
theorem dL_law_697 : decode cL_law 697 = .ok (.iload 4, 2) := by decide +kernel
theorem dL_law_699 : decode cL_law 699 = .ok (.iconst 3, 1) := by decide +kernel
theorem dL_law_700 : decode cL_law 700 = .ok (.iadd, 1) := by decide +kernel
theorem dL_law_701 : decode cL_law 701 = .ok (.iaload, 1) := by decide +kernel
theorem dL_law_702 : decode cL_law 702 = .ok (.aload_n 3, 1) := by decide +kernel
theorem dL_law_703 : decode cL_law 703 = .ok (.invokestatic 115, 3) := by decide +kernel
theorem dL_law_706 : decode cL_law 706 = .ok (.istore 5, 2) := by decide +kernel
theorem dL_law_708 : decode cL_law 708 = .ok (.aload_n 2, 1) := by decide +kernel
theorem dL_law_709 : decode cL_law 709 = .ok (.aload_n 0, 1) := by decide +kernel
theorem dL_law_710 : decode cL_law 710 = .ok (.iload 4, 2) := by decide +kernel
theorem dL_law_712 : decode cL_law 712 = .ok (.iconst 1, 1) := by decide +kernel
theorem dL_law_713 : decode cL_law 713 = .ok (.iadd, 1) := by decide +kernel
theorem dL_law_714 : decode cL_law 714 = .ok (.iaload, 1) := by decide +kernel
theorem dL_law_715 : decode cL_law 715 = .ok (.aload_n 0, 1) := by decide +kernel
theorem dL_law_716 : decode cL_law 716 = .ok (.iload 4, 2) := by decide +kernel
theorem dL_law_718 : decode cL_law 718 = .ok (.iconst 2, 1) := by decide +kernel
theorem dL_law_719 : decode cL_law 719 = .ok (.iadd, 1) := by decide +kernel
theorem dL_law_720 : decode cL_law 720 = .ok (.iaload, 1) := by decide +kernel
theorem dL_law_721 : decode cL_law 721 = .ok (.aload_n 0, 1) := by decide +kernel
theorem dL_law_722 : decode cL_law 722 = .ok (.iload 4, 2) := by decide +kernel
theorem dL_law_724 : decode cL_law 724 = .ok (.iconst 3, 1) := by decide +kernel
theorem dL_law_725 : decode cL_law 725 = .ok (.iadd, 1) := by decide +kernel
theorem dL_law_726 : decode cL_law 726 = .ok (.iaload, 1) := by decide +kernel
theorem dL_law_727 : decode cL_law 727 = .ok (.invokevirtual 117, 3) := by decide +kernel
theorem dL_law_730 : decode cL_law 730 = .ok (.istore 6, 2) := by decide +kernel
theorem dL_law_732 : decode cL_law 732 = .ok (.aload_n 2, 1) := by decide +kernel
theorem dL_law_733 : decode cL_law 733 = .ok (.invokevirtual 90, 3) := by decide +kernel
theorem dL_law_736 : decode cL_law 736 = .ok (.iload 5, 2) := by decide +kernel
theorem dL_law_738 : decode cL_law 738 = .ok (.if_icmp .eq 5, 3) := by decide +kernel
theorem dL_law_741 : decode cL_law 741 = .ok (.iconst 0, 1) := by decide +kernel
theorem dL_law_742 : decode cL_law 742 = .ok (.ireturn, 1) := by decide +kernel
theorem dL_law_743 : decode cL_law 743 = .ok (.iload 5, 2) := by decide +kernel
theorem dL_law_745 : decode cL_law 745 = .ok (.ifCond .ne 15, 3) := by decide +kernel
theorem dL_law_748 : decode cL_law 748 = .ok (.aload_n 3, 1) := by decide +kernel
theorem dL_law_749 : decode cL_law 749 = .ok (.iconst 0, 1) := by decide +kernel
theorem dL_law_750 : decode cL_law 750 = .ok (.laload, 1) := by decide +kernel
theorem dL_law_751 : decode cL_law 751 = .ok (.iload 6, 2) := by decide +kernel
theorem dL_law_753 : decode cL_law 753 = .ok (.i2l, 1) := by decide +kernel
theorem dL_law_754 : decode cL_law 754 = .ok (.lcmp, 1) := by decide +kernel
theorem dL_law_755 : decode cL_law 755 = .ok (.ifCond .eq 5, 3) := by decide +kernel
theorem dL_law_758 : decode cL_law 758 = .ok (.iconst 0, 1) := by decide +kernel
theorem dL_law_759 : decode cL_law 759 = .ok (.ireturn, 1) := by decide +kernel
theorem dL_law_760 : decode cL_law 760 = .ok (.goto 838, 3) := by decide +kernel
theorem dL_law_763 : decode cL_law 763 = .ok (.aload_n 1, 1) := by decide +kernel
theorem dL_law_764 : decode cL_law 764 = .ok (.aload_n 0, 1) := by decide +kernel
theorem dL_law_765 : decode cL_law 765 = .ok (.iload 4, 2) := by decide +kernel
theorem dL_law_767 : decode cL_law 767 = .ok (.iconst 1, 1) := by decide +kernel
theorem dL_law_768 : decode cL_law 768 = .ok (.iadd, 1) := by decide +kernel
theorem dL_law_769 : decode cL_law 769 = .ok (.iaload, 1) := by decide +kernel
theorem dL_law_770 : decode cL_law 770 = .ok (.aload_n 0, 1) := by decide +kernel
theorem dL_law_771 : decode cL_law 771 = .ok (.iload 4, 2) := by decide +kernel
theorem dL_law_773 : decode cL_law 773 = .ok (.iconst 2, 1) := by decide +kernel
theorem dL_law_774 : decode cL_law 774 = .ok (.iadd, 1) := by decide +kernel
theorem dL_law_775 : decode cL_law 775 = .ok (.iaload, 1) := by decide +kernel
theorem dL_law_776 : decode cL_law 776 = .ok (.aload_n 3, 1) := by decide +kernel
theorem dL_law_777 : decode cL_law 777 = .ok (.invokestatic 118, 3) := by decide +kernel
theorem dL_law_780 : decode cL_law 780 = .ok (.istore 5, 2) := by decide +kernel
theorem dL_law_782 : decode cL_law 782 = .ok (.aload_n 2, 1) := by decide +kernel
theorem dL_law_783 : decode cL_law 783 = .ok (.aload_n 0, 1) := by decide +kernel
theorem dL_law_784 : decode cL_law 784 = .ok (.iload 4, 2) := by decide +kernel
theorem dL_law_786 : decode cL_law 786 = .ok (.iconst 1, 1) := by decide +kernel
theorem dL_law_787 : decode cL_law 787 = .ok (.iadd, 1) := by decide +kernel
theorem dL_law_788 : decode cL_law 788 = .ok (.iaload, 1) := by decide +kernel
theorem dL_law_789 : decode cL_law 789 = .ok (.aload_n 0, 1) := by decide +kernel
theorem dL_law_790 : decode cL_law 790 = .ok (.iload 4, 2) := by decide +kernel
theorem dL_law_792 : decode cL_law 792 = .ok (.iconst 2, 1) := by decide +kernel
theorem dL_law_793 : decode cL_law 793 = .ok (.iadd, 1) := by decide +kernel
theorem dL_law_794 : decode cL_law 794 = .ok (.iaload, 1) := by decide +kernel
theorem dL_law_795 : decode cL_law 795 = .ok (.invokevirtual 120, 3) := by decide +kernel
theorem dL_law_798 : decode cL_law 798 = .ok (.istore 6, 2) := by decide +kernel
theorem dL_law_800 : decode cL_law 800 = .ok (.aload_n 2, 1) := by decide +kernel
theorem dL_law_801 : decode cL_law 801 = .ok (.invokevirtual 90, 3) := by decide +kernel
theorem dL_law_804 : decode cL_law 804 = .ok (.iload 5, 2) := by decide +kernel
theorem dL_law_806 : decode cL_law 806 = .ok (.if_icmp .eq 5, 3) := by decide +kernel
theorem dL_law_809 : decode cL_law 809 = .ok (.iconst 0, 1) := by decide +kernel
theorem dL_law_810 : decode cL_law 810 = .ok (.ireturn, 1) := by decide +kernel
theorem dL_law_811 : decode cL_law 811 = .ok (.iload 5, 2) := by decide +kernel
theorem dL_law_813 : decode cL_law 813 = .ok (.ifCond .ne 15, 3) := by decide +kernel
theorem dL_law_816 : decode cL_law 816 = .ok (.aload_n 3, 1) := by decide +kernel
theorem dL_law_817 : decode cL_law 817 = .ok (.iconst 0, 1) := by decide +kernel
theorem dL_law_818 : decode cL_law 818 = .ok (.laload, 1) := by decide +kernel
theorem dL_law_819 : decode cL_law 819 = .ok (.iload 6, 2) := by decide +kernel
theorem dL_law_821 : decode cL_law 821 = .ok (.i2l, 1) := by decide +kernel
theorem dL_law_822 : decode cL_law 822 = .ok (.lcmp, 1) := by decide +kernel
theorem dL_law_823 : decode cL_law 823 = .ok (.ifCond .eq 5, 3) := by decide +kernel
theorem dL_law_826 : decode cL_law 826 = .ok (.iconst 0, 1) := by decide +kernel
theorem dL_law_827 : decode cL_law 827 = .ok (.ireturn, 1) := by decide +kernel
theorem dL_law_828 : decode cL_law 828 = .ok (.goto 770, 3) := by decide +kernel
theorem dL_law_831 : decode cL_law 831 = .ok (.aload_n 1, 1) := by decide +kernel
theorem dL_law_832 : decode cL_law 832 = .ok (.aload_n 0, 1) := by decide +kernel
theorem dL_law_833 : decode cL_law 833 = .ok (.iload 4, 2) := by decide +kernel
theorem dL_law_835 : decode cL_law 835 = .ok (.iconst 1, 1) := by decide +kernel
theorem dL_law_836 : decode cL_law 836 = .ok (.iadd, 1) := by decide +kernel
theorem dL_law_837 : decode cL_law 837 = .ok (.iaload, 1) := by decide +kernel
theorem dL_law_838 : decode cL_law 838 = .ok (.aload_n 0, 1) := by decide +kernel
theorem dL_law_839 : decode cL_law 839 = .ok (.iload 4, 2) := by decide +kernel
theorem dL_law_841 : decode cL_law 841 = .ok (.iconst 2, 1) := by decide +kernel
theorem dL_law_842 : decode cL_law 842 = .ok (.iadd, 1) := by decide +kernel
theorem dL_law_843 : decode cL_law 843 = .ok (.iaload, 1) := by decide +kernel
theorem dL_law_844 : decode cL_law 844 = .ok (.aload_n 0, 1) := by decide +kernel
theorem dL_law_845 : decode cL_law 845 = .ok (.iload 4, 2) := by decide +kernel
theorem dL_law_847 : decode cL_law 847 = .ok (.iconst 3, 1) := by decide +kernel
theorem dL_law_848 : decode cL_law 848 = .ok (.iadd, 1) := by decide +kernel
theorem dL_law_849 : decode cL_law 849 = .ok (.iaload, 1) := by decide +kernel
theorem dL_law_850 : decode cL_law 850 = .ok (.aload_n 3, 1) := by decide +kernel
theorem dL_law_851 : decode cL_law 851 = .ok (.invokestatic 121, 3) := by decide +kernel
theorem dL_law_854 : decode cL_law 854 = .ok (.istore 5, 2) := by decide +kernel
theorem dL_law_856 : decode cL_law 856 = .ok (.aload_n 2, 1) := by decide +kernel
theorem dL_law_857 : decode cL_law 857 = .ok (.aload_n 0, 1) := by decide +kernel
theorem dL_law_858 : decode cL_law 858 = .ok (.iload 4, 2) := by decide +kernel
theorem dL_law_860 : decode cL_law 860 = .ok (.iconst 1, 1) := by decide +kernel
theorem dL_law_861 : decode cL_law 861 = .ok (.iadd, 1) := by decide +kernel
theorem dL_law_862 : decode cL_law 862 = .ok (.iaload, 1) := by decide +kernel
theorem dL_law_863 : decode cL_law 863 = .ok (.aload_n 0, 1) := by decide +kernel
theorem dL_law_864 : decode cL_law 864 = .ok (.iload 4, 2) := by decide +kernel
theorem dL_law_866 : decode cL_law 866 = .ok (.iconst 2, 1) := by decide +kernel
theorem dL_law_867 : decode cL_law 867 = .ok (.iadd, 1) := by decide +kernel
theorem dL_law_868 : decode cL_law 868 = .ok (.iaload, 1) := by decide +kernel
theorem dL_law_869 : decode cL_law 869 = .ok (.aload_n 0, 1) := by decide +kernel
theorem dL_law_870 : decode cL_law 870 = .ok (.iload 4, 2) := by decide +kernel
theorem dL_law_872 : decode cL_law 872 = .ok (.iconst 3, 1) := by decide +kernel
theorem dL_law_873 : decode cL_law 873 = .ok (.iadd, 1) := by decide +kernel
theorem dL_law_874 : decode cL_law 874 = .ok (.iaload, 1) := by decide +kernel
theorem dL_law_875 : decode cL_law 875 = .ok (.invokevirtual 123, 3) := by decide +kernel
theorem dL_law_878 : decode cL_law 878 = .ok (.istore 6, 2) := by decide +kernel
theorem dL_law_880 : decode cL_law 880 = .ok (.aload_n 2, 1) := by decide +kernel
theorem dL_law_881 : decode cL_law 881 = .ok (.invokevirtual 90, 3) := by decide +kernel
theorem dL_law_884 : decode cL_law 884 = .ok (.iload 5, 2) := by decide +kernel
theorem dL_law_886 : decode cL_law 886 = .ok (.if_icmp .eq 5, 3) := by decide +kernel
theorem dL_law_889 : decode cL_law 889 = .ok (.iconst 0, 1) := by decide +kernel
theorem dL_law_890 : decode cL_law 890 = .ok (.ireturn, 1) := by decide +kernel
theorem dL_law_891 : decode cL_law 891 = .ok (.iload 5, 2) := by decide +kernel
theorem dL_law_893 : decode cL_law 893 = .ok (.ifCond .ne 15, 3) := by decide +kernel
theorem dL_law_896 : decode cL_law 896 = .ok (.aload_n 3, 1) := by decide +kernel
theorem dL_law_897 : decode cL_law 897 = .ok (.iconst 0, 1) := by decide +kernel
theorem dL_law_898 : decode cL_law 898 = .ok (.laload, 1) := by decide +kernel
theorem dL_law_899 : decode cL_law 899 = .ok (.iload 6, 2) := by decide +kernel
theorem dL_law_901 : decode cL_law 901 = .ok (.i2l, 1) := by decide +kernel
theorem dL_law_902 : decode cL_law 902 = .ok (.lcmp, 1) := by decide +kernel
theorem dL_law_903 : decode cL_law 903 = .ok (.ifCond .eq 5, 3) := by decide +kernel
theorem dL_law_906 : decode cL_law 906 = .ok (.iconst 0, 1) := by decide +kernel
theorem dL_law_907 : decode cL_law 907 = .ok (.ireturn, 1) := by decide +kernel
theorem dL_law_908 : decode cL_law 908 = .ok (.goto 690, 3) := by decide +kernel
theorem dL_law_911 : decode cL_law 911 = .ok (.aload_n 1, 1) := by decide +kernel
theorem dL_law_912 : decode cL_law 912 = .ok (.aload_n 0, 1) := by decide +kernel
theorem dL_law_913 : decode cL_law 913 = .ok (.iload 4, 2) := by decide +kernel
theorem dL_law_915 : decode cL_law 915 = .ok (.iconst 1, 1) := by decide +kernel
theorem dL_law_916 : decode cL_law 916 = .ok (.iadd, 1) := by decide +kernel
theorem dL_law_917 : decode cL_law 917 = .ok (.iaload, 1) := by decide +kernel
theorem dL_law_918 : decode cL_law 918 = .ok (.aload_n 0, 1) := by decide +kernel
theorem dL_law_919 : decode cL_law 919 = .ok (.iload 4, 2) := by decide +kernel
theorem dL_law_921 : decode cL_law 921 = .ok (.iconst 2, 1) := by decide +kernel
theorem dL_law_922 : decode cL_law 922 = .ok (.iadd, 1) := by decide +kernel
theorem dL_law_923 : decode cL_law 923 = .ok (.iaload, 1) := by decide +kernel
theorem dL_law_924 : decode cL_law 924 = .ok (.aload_n 3, 1) := by decide +kernel
theorem dL_law_925 : decode cL_law 925 = .ok (.invokestatic 124, 3) := by decide +kernel
theorem dL_law_928 : decode cL_law 928 = .ok (.istore 5, 2) := by decide +kernel
theorem dL_law_930 : decode cL_law 930 = .ok (.aload_n 2, 1) := by decide +kernel
theorem dL_law_931 : decode cL_law 931 = .ok (.aload_n 0, 1) := by decide +kernel
theorem dL_law_932 : decode cL_law 932 = .ok (.iload 4, 2) := by decide +kernel
theorem dL_law_934 : decode cL_law 934 = .ok (.iconst 1, 1) := by decide +kernel
theorem dL_law_935 : decode cL_law 935 = .ok (.iadd, 1) := by decide +kernel
theorem dL_law_936 : decode cL_law 936 = .ok (.iaload, 1) := by decide +kernel
theorem dL_law_937 : decode cL_law 937 = .ok (.aload_n 0, 1) := by decide +kernel
theorem dL_law_938 : decode cL_law 938 = .ok (.iload 4, 2) := by decide +kernel
theorem dL_law_940 : decode cL_law 940 = .ok (.iconst 2, 1) := by decide +kernel
theorem dL_law_941 : decode cL_law 941 = .ok (.iadd, 1) := by decide +kernel
theorem dL_law_942 : decode cL_law 942 = .ok (.iaload, 1) := by decide +kernel
theorem dL_law_943 : decode cL_law 943 = .ok (.invokevirtual 126, 3) := by decide +kernel
theorem dL_law_946 : decode cL_law 946 = .ok (.istore 6, 2) := by decide +kernel
theorem dL_law_948 : decode cL_law 948 = .ok (.aload_n 2, 1) := by decide +kernel
theorem dL_law_949 : decode cL_law 949 = .ok (.invokevirtual 90, 3) := by decide +kernel
theorem dL_law_952 : decode cL_law 952 = .ok (.iload 5, 2) := by decide +kernel
theorem dL_law_954 : decode cL_law 954 = .ok (.if_icmp .eq 5, 3) := by decide +kernel
theorem dL_law_957 : decode cL_law 957 = .ok (.iconst 0, 1) := by decide +kernel
theorem dL_law_958 : decode cL_law 958 = .ok (.ireturn, 1) := by decide +kernel
theorem dL_law_959 : decode cL_law 959 = .ok (.iload 5, 2) := by decide +kernel
theorem dL_law_961 : decode cL_law 961 = .ok (.ifCond .ne 15, 3) := by decide +kernel
theorem dL_law_964 : decode cL_law 964 = .ok (.aload_n 3, 1) := by decide +kernel
theorem dL_law_965 : decode cL_law 965 = .ok (.iconst 0, 1) := by decide +kernel
theorem dL_law_966 : decode cL_law 966 = .ok (.laload, 1) := by decide +kernel
theorem dL_law_967 : decode cL_law 967 = .ok (.iload 6, 2) := by decide +kernel
theorem dL_law_969 : decode cL_law 969 = .ok (.i2l, 1) := by decide +kernel
theorem dL_law_970 : decode cL_law 970 = .ok (.lcmp, 1) := by decide +kernel
theorem dL_law_971 : decode cL_law 971 = .ok (.ifCond .eq 5, 3) := by decide +kernel
theorem dL_law_974 : decode cL_law 974 = .ok (.iconst 0, 1) := by decide +kernel
theorem dL_law_975 : decode cL_law 975 = .ok (.ireturn, 1) := by decide +kernel
theorem dL_law_976 : decode cL_law 976 = .ok (.goto 622, 3) := by decide +kernel
theorem dL_law_979 : decode cL_law 979 = .ok (.aload_n 1, 1) := by decide +kernel
theorem dL_law_980 : decode cL_law 980 = .ok (.aload_n 0, 1) := by decide +kernel
theorem dL_law_981 : decode cL_law 981 = .ok (.iload 4, 2) := by decide +kernel
theorem dL_law_983 : decode cL_law 983 = .ok (.iconst 1, 1) := by decide +kernel
theorem dL_law_984 : decode cL_law 984 = .ok (.iadd, 1) := by decide +kernel
theorem dL_law_985 : decode cL_law 985 = .ok (.iaload, 1) := by decide +kernel
theorem dL_law_986 : decode cL_law 986 = .ok (.aload_n 0, 1) := by decide +kernel
theorem dL_law_987 : decode cL_law 987 = .ok (.iload 4, 2) := by decide +kernel
theorem dL_law_989 : decode cL_law 989 = .ok (.iconst 2, 1) := by decide +kernel
theorem dL_law_990 : decode cL_law 990 = .ok (.iadd, 1) := by decide +kernel
theorem dL_law_991 : decode cL_law 991 = .ok (.iaload, 1) := by decide +kernel
theorem dL_law_992 : decode cL_law 992 = .ok (.aload_n 3, 1) := by decide +kernel
theorem dL_law_993 : decode cL_law 993 = .ok (.invokestatic 127, 3) := by decide +kernel
theorem dL_law_996 : decode cL_law 996 = .ok (.istore 5, 2) := by decide +kernel
theorem dL_law_998 : decode cL_law 998 = .ok (.aload_n 2, 1) := by decide +kernel
theorem dL_law_999 : decode cL_law 999 = .ok (.aload_n 0, 1) := by decide +kernel
theorem dL_law_1000 : decode cL_law 1000 = .ok (.iload 4, 2) := by decide +kernel
theorem dL_law_1002 : decode cL_law 1002 = .ok (.iconst 1, 1) := by decide +kernel
theorem dL_law_1003 : decode cL_law 1003 = .ok (.iadd, 1) := by decide +kernel
theorem dL_law_1004 : decode cL_law 1004 = .ok (.iaload, 1) := by decide +kernel
theorem dL_law_1005 : decode cL_law 1005 = .ok (.aload_n 0, 1) := by decide +kernel
theorem dL_law_1006 : decode cL_law 1006 = .ok (.iload 4, 2) := by decide +kernel
theorem dL_law_1008 : decode cL_law 1008 = .ok (.iconst 2, 1) := by decide +kernel
theorem dL_law_1009 : decode cL_law 1009 = .ok (.iadd, 1) := by decide +kernel
theorem dL_law_1010 : decode cL_law 1010 = .ok (.iaload, 1) := by decide +kernel
theorem dL_law_1011 : decode cL_law 1011 = .ok (.invokevirtual 129, 3) := by decide +kernel
theorem dL_law_1014 : decode cL_law 1014 = .ok (.istore 6, 2) := by decide +kernel
theorem dL_law_1016 : decode cL_law 1016 = .ok (.aload_n 2, 1) := by decide +kernel
theorem dL_law_1017 : decode cL_law 1017 = .ok (.invokevirtual 90, 3) := by decide +kernel
theorem dL_law_1020 : decode cL_law 1020 = .ok (.iload 5, 2) := by decide +kernel
theorem dL_law_1022 : decode cL_law 1022 = .ok (.if_icmp .eq 5, 3) := by decide +kernel
theorem dL_law_1025 : decode cL_law 1025 = .ok (.iconst 0, 1) := by decide +kernel
theorem dL_law_1026 : decode cL_law 1026 = .ok (.ireturn, 1) := by decide +kernel
theorem dL_law_1027 : decode cL_law 1027 = .ok (.iload 5, 2) := by decide +kernel
theorem dL_law_1029 : decode cL_law 1029 = .ok (.ifCond .ne 15, 3) := by decide +kernel
theorem dL_law_1032 : decode cL_law 1032 = .ok (.aload_n 3, 1) := by decide +kernel
theorem dL_law_1033 : decode cL_law 1033 = .ok (.iconst 0, 1) := by decide +kernel
theorem dL_law_1034 : decode cL_law 1034 = .ok (.laload, 1) := by decide +kernel
theorem dL_law_1035 : decode cL_law 1035 = .ok (.iload 6, 2) := by decide +kernel
theorem dL_law_1037 : decode cL_law 1037 = .ok (.i2l, 1) := by decide +kernel
theorem dL_law_1038 : decode cL_law 1038 = .ok (.lcmp, 1) := by decide +kernel
theorem dL_law_1039 : decode cL_law 1039 = .ok (.ifCond .eq 5, 3) := by decide +kernel
theorem dL_law_1042 : decode cL_law 1042 = .ok (.iconst 0, 1) := by decide +kernel
theorem dL_law_1043 : decode cL_law 1043 = .ok (.ireturn, 1) := by decide +kernel
theorem dL_law_1044 : decode cL_law 1044 = .ok (.goto 554, 3) := by decide +kernel
theorem dL_law_1047 : decode cL_law 1047 = .ok (.aload_n 1, 1) := by decide +kernel
theorem dL_law_1048 : decode cL_law 1048 = .ok (.aload_n 0, 1) := by decide +kernel
theorem dL_law_1049 : decode cL_law 1049 = .ok (.iload 4, 2) := by decide +kernel
theorem dL_law_1051 : decode cL_law 1051 = .ok (.iconst 1, 1) := by decide +kernel
theorem dL_law_1052 : decode cL_law 1052 = .ok (.iadd, 1) := by decide +kernel
theorem dL_law_1053 : decode cL_law 1053 = .ok (.iaload, 1) := by decide +kernel
theorem dL_law_1054 : decode cL_law 1054 = .ok (.aload_n 0, 1) := by decide +kernel
theorem dL_law_1055 : decode cL_law 1055 = .ok (.iload 4, 2) := by decide +kernel
theorem dL_law_1057 : decode cL_law 1057 = .ok (.iconst 2, 1) := by decide +kernel
theorem dL_law_1058 : decode cL_law 1058 = .ok (.iadd, 1) := by decide +kernel
theorem dL_law_1059 : decode cL_law 1059 = .ok (.iaload, 1) := by decide +kernel
theorem dL_law_1060 : decode cL_law 1060 = .ok (.aload_n 3, 1) := by decide +kernel
theorem dL_law_1061 : decode cL_law 1061 = .ok (.invokestatic 130, 3) := by decide +kernel
theorem dL_law_1064 : decode cL_law 1064 = .ok (.istore 5, 2) := by decide +kernel
theorem dL_law_1066 : decode cL_law 1066 = .ok (.aload_n 2, 1) := by decide +kernel
theorem dL_law_1067 : decode cL_law 1067 = .ok (.aload_n 0, 1) := by decide +kernel
theorem dL_law_1068 : decode cL_law 1068 = .ok (.iload 4, 2) := by decide +kernel
theorem dL_law_1070 : decode cL_law 1070 = .ok (.iconst 1, 1) := by decide +kernel
theorem dL_law_1071 : decode cL_law 1071 = .ok (.iadd, 1) := by decide +kernel
theorem dL_law_1072 : decode cL_law 1072 = .ok (.iaload, 1) := by decide +kernel
theorem dL_law_1073 : decode cL_law 1073 = .ok (.aload_n 0, 1) := by decide +kernel
theorem dL_law_1074 : decode cL_law 1074 = .ok (.iload 4, 2) := by decide +kernel
theorem dL_law_1076 : decode cL_law 1076 = .ok (.iconst 2, 1) := by decide +kernel
theorem dL_law_1077 : decode cL_law 1077 = .ok (.iadd, 1) := by decide +kernel
theorem dL_law_1078 : decode cL_law 1078 = .ok (.iaload, 1) := by decide +kernel
theorem dL_law_1079 : decode cL_law 1079 = .ok (.invokevirtual 132, 3) := by decide +kernel
theorem dL_law_1082 : decode cL_law 1082 = .ok (.istore 6, 2) := by decide +kernel
theorem dL_law_1084 : decode cL_law 1084 = .ok (.aload_n 2, 1) := by decide +kernel
theorem dL_law_1085 : decode cL_law 1085 = .ok (.invokevirtual 90, 3) := by decide +kernel
theorem dL_law_1088 : decode cL_law 1088 = .ok (.iload 5, 2) := by decide +kernel
theorem dL_law_1090 : decode cL_law 1090 = .ok (.if_icmp .eq 5, 3) := by decide +kernel
theorem dL_law_1093 : decode cL_law 1093 = .ok (.iconst 0, 1) := by decide +kernel
theorem dL_law_1094 : decode cL_law 1094 = .ok (.ireturn, 1) := by decide +kernel
theorem dL_law_1095 : decode cL_law 1095 = .ok (.iload 5, 2) := by decide +kernel
theorem dL_law_1097 : decode cL_law 1097 = .ok (.ifCond .ne 15, 3) := by decide +kernel
theorem dL_law_1100 : decode cL_law 1100 = .ok (.aload_n 3, 1) := by decide +kernel
theorem dL_law_1101 : decode cL_law 1101 = .ok (.iconst 0, 1) := by decide +kernel
theorem dL_law_1102 : decode cL_law 1102 = .ok (.laload, 1) := by decide +kernel
theorem dL_law_1103 : decode cL_law 1103 = .ok (.iload 6, 2) := by decide +kernel
theorem dL_law_1105 : decode cL_law 1105 = .ok (.i2l, 1) := by decide +kernel
theorem dL_law_1106 : decode cL_law 1106 = .ok (.lcmp, 1) := by decide +kernel
theorem dL_law_1107 : decode cL_law 1107 = .ok (.ifCond .eq 5, 3) := by decide +kernel
theorem dL_law_1110 : decode cL_law 1110 = .ok (.iconst 0, 1) := by decide +kernel
theorem dL_law_1111 : decode cL_law 1111 = .ok (.ireturn, 1) := by decide +kernel
theorem dL_law_1112 : decode cL_law 1112 = .ok (.goto 486, 3) := by decide +kernel
theorem dL_law_1115 : decode cL_law 1115 = .ok (.aload_n 1, 1) := by decide +kernel
theorem dL_law_1116 : decode cL_law 1116 = .ok (.aload_n 0, 1) := by decide +kernel
theorem dL_law_1117 : decode cL_law 1117 = .ok (.iload 4, 2) := by decide +kernel
theorem dL_law_1119 : decode cL_law 1119 = .ok (.iconst 1, 1) := by decide +kernel
theorem dL_law_1120 : decode cL_law 1120 = .ok (.iadd, 1) := by decide +kernel
theorem dL_law_1121 : decode cL_law 1121 = .ok (.iaload, 1) := by decide +kernel
theorem dL_law_1122 : decode cL_law 1122 = .ok (.aload_n 0, 1) := by decide +kernel
theorem dL_law_1123 : decode cL_law 1123 = .ok (.iload 4, 2) := by decide +kernel
theorem dL_law_1125 : decode cL_law 1125 = .ok (.iconst 2, 1) := by decide +kernel
theorem dL_law_1126 : decode cL_law 1126 = .ok (.iadd, 1) := by decide +kernel
theorem dL_law_1127 : decode cL_law 1127 = .ok (.iaload, 1) := by decide +kernel
theorem dL_law_1128 : decode cL_law 1128 = .ok (.aload_n 3, 1) := by decide +kernel
theorem dL_law_1129 : decode cL_law 1129 = .ok (.invokestatic 133, 3) := by decide +kernel
theorem dL_law_1132 : decode cL_law 1132 = .ok (.istore 5, 2) := by decide +kernel
theorem dL_law_1134 : decode cL_law 1134 = .ok (.aload_n 2, 1) := by decide +kernel
theorem dL_law_1135 : decode cL_law 1135 = .ok (.aload_n 0, 1) := by decide +kernel
theorem dL_law_1136 : decode cL_law 1136 = .ok (.iload 4, 2) := by decide +kernel
theorem dL_law_1138 : decode cL_law 1138 = .ok (.iconst 1, 1) := by decide +kernel
theorem dL_law_1139 : decode cL_law 1139 = .ok (.iadd, 1) := by decide +kernel
theorem dL_law_1140 : decode cL_law 1140 = .ok (.iaload, 1) := by decide +kernel
theorem dL_law_1141 : decode cL_law 1141 = .ok (.aload_n 0, 1) := by decide +kernel
theorem dL_law_1142 : decode cL_law 1142 = .ok (.iload 4, 2) := by decide +kernel
theorem dL_law_1144 : decode cL_law 1144 = .ok (.iconst 2, 1) := by decide +kernel
theorem dL_law_1145 : decode cL_law 1145 = .ok (.iadd, 1) := by decide +kernel
theorem dL_law_1146 : decode cL_law 1146 = .ok (.iaload, 1) := by decide +kernel
theorem dL_law_1147 : decode cL_law 1147 = .ok (.invokevirtual 135, 3) := by decide +kernel
theorem dL_law_1150 : decode cL_law 1150 = .ok (.istore 6, 2) := by decide +kernel
theorem dL_law_1152 : decode cL_law 1152 = .ok (.aload_n 2, 1) := by decide +kernel
theorem dL_law_1153 : decode cL_law 1153 = .ok (.invokevirtual 90, 3) := by decide +kernel
theorem dL_law_1156 : decode cL_law 1156 = .ok (.iload 5, 2) := by decide +kernel
theorem dL_law_1158 : decode cL_law 1158 = .ok (.if_icmp .eq 5, 3) := by decide +kernel
theorem dL_law_1161 : decode cL_law 1161 = .ok (.iconst 0, 1) := by decide +kernel
theorem dL_law_1162 : decode cL_law 1162 = .ok (.ireturn, 1) := by decide +kernel
theorem dL_law_1163 : decode cL_law 1163 = .ok (.iload 5, 2) := by decide +kernel
theorem dL_law_1165 : decode cL_law 1165 = .ok (.ifCond .ne 15, 3) := by decide +kernel
theorem dL_law_1168 : decode cL_law 1168 = .ok (.aload_n 3, 1) := by decide +kernel
theorem dL_law_1169 : decode cL_law 1169 = .ok (.iconst 0, 1) := by decide +kernel
theorem dL_law_1170 : decode cL_law 1170 = .ok (.laload, 1) := by decide +kernel
theorem dL_law_1171 : decode cL_law 1171 = .ok (.iload 6, 2) := by decide +kernel
theorem dL_law_1173 : decode cL_law 1173 = .ok (.i2l, 1) := by decide +kernel
theorem dL_law_1174 : decode cL_law 1174 = .ok (.lcmp, 1) := by decide +kernel
theorem dL_law_1175 : decode cL_law 1175 = .ok (.ifCond .eq 5, 3) := by decide +kernel
theorem dL_law_1178 : decode cL_law 1178 = .ok (.iconst 0, 1) := by decide +kernel
theorem dL_law_1179 : decode cL_law 1179 = .ok (.ireturn, 1) := by decide +kernel
theorem dL_law_1180 : decode cL_law 1180 = .ok (.goto 418, 3) := by decide +kernel
theorem dL_law_1183 : decode cL_law 1183 = .ok (.aload_n 1, 1) := by decide +kernel
theorem dL_law_1184 : decode cL_law 1184 = .ok (.aload_n 0, 1) := by decide +kernel
theorem dL_law_1185 : decode cL_law 1185 = .ok (.iload 4, 2) := by decide +kernel
theorem dL_law_1187 : decode cL_law 1187 = .ok (.iconst 1, 1) := by decide +kernel
theorem dL_law_1188 : decode cL_law 1188 = .ok (.iadd, 1) := by decide +kernel
theorem dL_law_1189 : decode cL_law 1189 = .ok (.iaload, 1) := by decide +kernel
theorem dL_law_1190 : decode cL_law 1190 = .ok (.aload_n 0, 1) := by decide +kernel
theorem dL_law_1191 : decode cL_law 1191 = .ok (.iload 4, 2) := by decide +kernel
theorem dL_law_1193 : decode cL_law 1193 = .ok (.iconst 2, 1) := by decide +kernel
theorem dL_law_1194 : decode cL_law 1194 = .ok (.iadd, 1) := by decide +kernel
theorem dL_law_1195 : decode cL_law 1195 = .ok (.iaload, 1) := by decide +kernel
theorem dL_law_1196 : decode cL_law 1196 = .ok (.aload_n 3, 1) := by decide +kernel
theorem dL_law_1197 : decode cL_law 1197 = .ok (.invokestatic 136, 3) := by decide +kernel
theorem dL_law_1200 : decode cL_law 1200 = .ok (.istore 5, 2) := by decide +kernel
theorem dL_law_1202 : decode cL_law 1202 = .ok (.aload_n 2, 1) := by decide +kernel
theorem dL_law_1203 : decode cL_law 1203 = .ok (.aload_n 0, 1) := by decide +kernel
theorem dL_law_1204 : decode cL_law 1204 = .ok (.iload 4, 2) := by decide +kernel
theorem dL_law_1206 : decode cL_law 1206 = .ok (.iconst 1, 1) := by decide +kernel
theorem dL_law_1207 : decode cL_law 1207 = .ok (.iadd, 1) := by decide +kernel
theorem dL_law_1208 : decode cL_law 1208 = .ok (.iaload, 1) := by decide +kernel
theorem dL_law_1209 : decode cL_law 1209 = .ok (.aload_n 0, 1) := by decide +kernel
theorem dL_law_1210 : decode cL_law 1210 = .ok (.iload 4, 2) := by decide +kernel
theorem dL_law_1212 : decode cL_law 1212 = .ok (.iconst 2, 1) := by decide +kernel
theorem dL_law_1213 : decode cL_law 1213 = .ok (.iadd, 1) := by decide +kernel
theorem dL_law_1214 : decode cL_law 1214 = .ok (.iaload, 1) := by decide +kernel
theorem dL_law_1215 : decode cL_law 1215 = .ok (.invokevirtual 138, 3) := by decide +kernel
theorem dL_law_1218 : decode cL_law 1218 = .ok (.istore 6, 2) := by decide +kernel
theorem dL_law_1220 : decode cL_law 1220 = .ok (.aload_n 2, 1) := by decide +kernel
theorem dL_law_1221 : decode cL_law 1221 = .ok (.invokevirtual 90, 3) := by decide +kernel
theorem dL_law_1224 : decode cL_law 1224 = .ok (.iload 5, 2) := by decide +kernel
theorem dL_law_1226 : decode cL_law 1226 = .ok (.if_icmp .eq 5, 3) := by decide +kernel
theorem dL_law_1229 : decode cL_law 1229 = .ok (.iconst 0, 1) := by decide +kernel
theorem dL_law_1230 : decode cL_law 1230 = .ok (.ireturn, 1) := by decide +kernel
theorem dL_law_1231 : decode cL_law 1231 = .ok (.iload 5, 2) := by decide +kernel
theorem dL_law_1233 : decode cL_law 1233 = .ok (.ifCond .ne 15, 3) := by decide +kernel
theorem dL_law_1236 : decode cL_law 1236 = .ok (.aload_n 3, 1) := by decide +kernel
theorem dL_law_1237 : decode cL_law 1237 = .ok (.iconst 0, 1) := by decide +kernel
theorem dL_law_1238 : decode cL_law 1238 = .ok (.laload, 1) := by decide +kernel
theorem dL_law_1239 : decode cL_law 1239 = .ok (.iload 6, 2) := by decide +kernel
theorem dL_law_1241 : decode cL_law 1241 = .ok (.i2l, 1) := by decide +kernel
theorem dL_law_1242 : decode cL_law 1242 = .ok (.lcmp, 1) := by decide +kernel
theorem dL_law_1243 : decode cL_law 1243 = .ok (.ifCond .eq 5, 3) := by decide +kernel
theorem dL_law_1246 : decode cL_law 1246 = .ok (.iconst 0, 1) := by decide +kernel
theorem dL_law_1247 : decode cL_law 1247 = .ok (.ireturn, 1) := by decide +kernel
theorem dL_law_1248 : decode cL_law 1248 = .ok (.goto 350, 3) := by decide +kernel
theorem dL_law_1251 : decode cL_law 1251 = .ok (.aload_n 1, 1) := by decide +kernel
theorem dL_law_1252 : decode cL_law 1252 = .ok (.aload_n 0, 1) := by decide +kernel
theorem dL_law_1253 : decode cL_law 1253 = .ok (.iload 4, 2) := by decide +kernel
theorem dL_law_1255 : decode cL_law 1255 = .ok (.iconst 1, 1) := by decide +kernel
theorem dL_law_1256 : decode cL_law 1256 = .ok (.iadd, 1) := by decide +kernel
theorem dL_law_1257 : decode cL_law 1257 = .ok (.iaload, 1) := by decide +kernel
theorem dL_law_1258 : decode cL_law 1258 = .ok (.aload_n 3, 1) := by decide +kernel
theorem dL_law_1259 : decode cL_law 1259 = .ok (.invokestatic 139, 3) := by decide +kernel
theorem dL_law_1262 : decode cL_law 1262 = .ok (.istore 5, 2) := by decide +kernel
theorem dL_law_1264 : decode cL_law 1264 = .ok (.aload_n 2, 1) := by decide +kernel
theorem dL_law_1265 : decode cL_law 1265 = .ok (.aload_n 0, 1) := by decide +kernel
theorem dL_law_1266 : decode cL_law 1266 = .ok (.iload 4, 2) := by decide +kernel
theorem dL_law_1268 : decode cL_law 1268 = .ok (.iconst 1, 1) := by decide +kernel
theorem dL_law_1269 : decode cL_law 1269 = .ok (.iadd, 1) := by decide +kernel
theorem dL_law_1270 : decode cL_law 1270 = .ok (.iaload, 1) := by decide +kernel
theorem dL_law_1271 : decode cL_law 1271 = .ok (.invokevirtual 141, 3) := by decide +kernel
theorem dL_law_1274 : decode cL_law 1274 = .ok (.istore 6, 2) := by decide +kernel
theorem dL_law_1276 : decode cL_law 1276 = .ok (.aload_n 2, 1) := by decide +kernel
theorem dL_law_1277 : decode cL_law 1277 = .ok (.invokevirtual 90, 3) := by decide +kernel
theorem dL_law_1280 : decode cL_law 1280 = .ok (.iload 5, 2) := by decide +kernel
theorem dL_law_1282 : decode cL_law 1282 = .ok (.if_icmp .eq 5, 3) := by decide +kernel
theorem dL_law_1285 : decode cL_law 1285 = .ok (.iconst 0, 1) := by decide +kernel
theorem dL_law_1286 : decode cL_law 1286 = .ok (.ireturn, 1) := by decide +kernel
theorem dL_law_1287 : decode cL_law 1287 = .ok (.iload 5, 2) := by decide +kernel
theorem dL_law_1289 : decode cL_law 1289 = .ok (.ifCond .ne 15, 3) := by decide +kernel
theorem dL_law_1292 : decode cL_law 1292 = .ok (.aload_n 3, 1) := by decide +kernel
theorem dL_law_1293 : decode cL_law 1293 = .ok (.iconst 0, 1) := by decide +kernel
theorem dL_law_1294 : decode cL_law 1294 = .ok (.laload, 1) := by decide +kernel
theorem dL_law_1295 : decode cL_law 1295 = .ok (.iload 6, 2) := by decide +kernel
theorem dL_law_1297 : decode cL_law 1297 = .ok (.i2l, 1) := by decide +kernel
theorem dL_law_1298 : decode cL_law 1298 = .ok (.lcmp, 1) := by decide +kernel
theorem dL_law_1299 : decode cL_law 1299 = .ok (.ifCond .eq 5, 3) := by decide +kernel
theorem dL_law_1302 : decode cL_law 1302 = .ok (.iconst 0, 1) := by decide +kernel
theorem dL_law_1303 : decode cL_law 1303 = .ok (.ireturn, 1) := by decide +kernel
theorem dL_law_1304 : decode cL_law 1304 = .ok (.goto 294, 3) := by decide +kernel
theorem dL_law_1307 : decode cL_law 1307 = .ok (.aload_n 1, 1) := by decide +kernel
theorem dL_law_1308 : decode cL_law 1308 = .ok (.aload_n 0, 1) := by decide +kernel
theorem dL_law_1309 : decode cL_law 1309 = .ok (.iload 4, 2) := by decide +kernel
theorem dL_law_1311 : decode cL_law 1311 = .ok (.iconst 1, 1) := by decide +kernel
theorem dL_law_1312 : decode cL_law 1312 = .ok (.iadd, 1) := by decide +kernel
theorem dL_law_1313 : decode cL_law 1313 = .ok (.iaload, 1) := by decide +kernel
theorem dL_law_1314 : decode cL_law 1314 = .ok (.aload_n 3, 1) := by decide +kernel
theorem dL_law_1315 : decode cL_law 1315 = .ok (.invokestatic 142, 3) := by decide +kernel
theorem dL_law_1318 : decode cL_law 1318 = .ok (.istore 5, 2) := by decide +kernel
theorem dL_law_1320 : decode cL_law 1320 = .ok (.aload_n 2, 1) := by decide +kernel
theorem dL_law_1321 : decode cL_law 1321 = .ok (.aload_n 0, 1) := by decide +kernel
theorem dL_law_1322 : decode cL_law 1322 = .ok (.iload 4, 2) := by decide +kernel
theorem dL_law_1324 : decode cL_law 1324 = .ok (.iconst 1, 1) := by decide +kernel
theorem dL_law_1325 : decode cL_law 1325 = .ok (.iadd, 1) := by decide +kernel
theorem dL_law_1326 : decode cL_law 1326 = .ok (.iaload, 1) := by decide +kernel
theorem dL_law_1327 : decode cL_law 1327 = .ok (.invokevirtual 144, 3) := by decide +kernel
theorem dL_law_1330 : decode cL_law 1330 = .ok (.istore 6, 2) := by decide +kernel
theorem dL_law_1332 : decode cL_law 1332 = .ok (.aload_n 2, 1) := by decide +kernel
theorem dL_law_1333 : decode cL_law 1333 = .ok (.invokevirtual 90, 3) := by decide +kernel
theorem dL_law_1336 : decode cL_law 1336 = .ok (.iload 5, 2) := by decide +kernel
theorem dL_law_1338 : decode cL_law 1338 = .ok (.if_icmp .eq 5, 3) := by decide +kernel
theorem dL_law_1341 : decode cL_law 1341 = .ok (.iconst 0, 1) := by decide +kernel
theorem dL_law_1342 : decode cL_law 1342 = .ok (.ireturn, 1) := by decide +kernel
theorem dL_law_1343 : decode cL_law 1343 = .ok (.iload 5, 2) := by decide +kernel
theorem dL_law_1345 : decode cL_law 1345 = .ok (.ifCond .ne 15, 3) := by decide +kernel
theorem dL_law_1348 : decode cL_law 1348 = .ok (.aload_n 3, 1) := by decide +kernel
theorem dL_law_1349 : decode cL_law 1349 = .ok (.iconst 0, 1) := by decide +kernel
theorem dL_law_1350 : decode cL_law 1350 = .ok (.laload, 1) := by decide +kernel
theorem dL_law_1351 : decode cL_law 1351 = .ok (.iload 6, 2) := by decide +kernel
theorem dL_law_1353 : decode cL_law 1353 = .ok (.i2l, 1) := by decide +kernel
theorem dL_law_1354 : decode cL_law 1354 = .ok (.lcmp, 1) := by decide +kernel
theorem dL_law_1355 : decode cL_law 1355 = .ok (.ifCond .eq 5, 3) := by decide +kernel
theorem dL_law_1358 : decode cL_law 1358 = .ok (.iconst 0, 1) := by decide +kernel
theorem dL_law_1359 : decode cL_law 1359 = .ok (.ireturn, 1) := by decide +kernel
theorem dL_law_1360 : decode cL_law 1360 = .ok (.goto 238, 3) := by decide +kernel
theorem dL_law_1363 : decode cL_law 1363 = .ok (.aload_n 1, 1) := by decide +kernel
theorem dL_law_1364 : decode cL_law 1364 = .ok (.aload_n 0, 1) := by decide +kernel
theorem dL_law_1365 : decode cL_law 1365 = .ok (.iload 4, 2) := by decide +kernel
theorem dL_law_1367 : decode cL_law 1367 = .ok (.iconst 1, 1) := by decide +kernel
theorem dL_law_1368 : decode cL_law 1368 = .ok (.iadd, 1) := by decide +kernel
theorem dL_law_1369 : decode cL_law 1369 = .ok (.iaload, 1) := by decide +kernel
theorem dL_law_1370 : decode cL_law 1370 = .ok (.aload_n 0, 1) := by decide +kernel
theorem dL_law_1371 : decode cL_law 1371 = .ok (.iload 4, 2) := by decide +kernel
theorem dL_law_1373 : decode cL_law 1373 = .ok (.iconst 2, 1) := by decide +kernel
theorem dL_law_1374 : decode cL_law 1374 = .ok (.iadd, 1) := by decide +kernel
theorem dL_law_1375 : decode cL_law 1375 = .ok (.iaload, 1) := by decide +kernel
theorem dL_law_1376 : decode cL_law 1376 = .ok (.aload_n 3, 1) := by decide +kernel
theorem dL_law_1377 : decode cL_law 1377 = .ok (.invokestatic 145, 3) := by decide +kernel
theorem dL_law_1380 : decode cL_law 1380 = .ok (.istore 5, 2) := by decide +kernel
theorem dL_law_1382 : decode cL_law 1382 = .ok (.aload_n 2, 1) := by decide +kernel
theorem dL_law_1383 : decode cL_law 1383 = .ok (.aload_n 0, 1) := by decide +kernel
theorem dL_law_1384 : decode cL_law 1384 = .ok (.iload 4, 2) := by decide +kernel
theorem dL_law_1386 : decode cL_law 1386 = .ok (.iconst 1, 1) := by decide +kernel
theorem dL_law_1387 : decode cL_law 1387 = .ok (.iadd, 1) := by decide +kernel
theorem dL_law_1388 : decode cL_law 1388 = .ok (.iaload, 1) := by decide +kernel
theorem dL_law_1389 : decode cL_law 1389 = .ok (.aload_n 0, 1) := by decide +kernel
theorem dL_law_1390 : decode cL_law 1390 = .ok (.iload 4, 2) := by decide +kernel
theorem dL_law_1392 : decode cL_law 1392 = .ok (.iconst 2, 1) := by decide +kernel
theorem dL_law_1393 : decode cL_law 1393 = .ok (.iadd, 1) := by decide +kernel
theorem dL_law_1394 : decode cL_law 1394 = .ok (.iaload, 1) := by decide +kernel
theorem dL_law_1395 : decode cL_law 1395 = .ok (.invokevirtual 147, 3) := by decide +kernel
theorem dL_law_1398 : decode cL_law 1398 = .ok (.istore 6, 2) := by decide +kernel
theorem dL_law_1400 : decode cL_law 1400 = .ok (.aload_n 2, 1) := by decide +kernel
theorem dL_law_1401 : decode cL_law 1401 = .ok (.invokevirtual 90, 3) := by decide +kernel
theorem dL_law_1404 : decode cL_law 1404 = .ok (.iload 5, 2) := by decide +kernel
theorem dL_law_1406 : decode cL_law 1406 = .ok (.if_icmp .eq 5, 3) := by decide +kernel
theorem dL_law_1409 : decode cL_law 1409 = .ok (.iconst 0, 1) := by decide +kernel
theorem dL_law_1410 : decode cL_law 1410 = .ok (.ireturn, 1) := by decide +kernel
theorem dL_law_1411 : decode cL_law 1411 = .ok (.iload 5, 2) := by decide +kernel
theorem dL_law_1413 : decode cL_law 1413 = .ok (.ifCond .ne 15, 3) := by decide +kernel
theorem dL_law_1416 : decode cL_law 1416 = .ok (.aload_n 3, 1) := by decide +kernel
theorem dL_law_1417 : decode cL_law 1417 = .ok (.iconst 0, 1) := by decide +kernel
theorem dL_law_1418 : decode cL_law 1418 = .ok (.laload, 1) := by decide +kernel
theorem dL_law_1419 : decode cL_law 1419 = .ok (.iload 6, 2) := by decide +kernel
theorem dL_law_1421 : decode cL_law 1421 = .ok (.i2l, 1) := by decide +kernel
theorem dL_law_1422 : decode cL_law 1422 = .ok (.lcmp, 1) := by decide +kernel
theorem dL_law_1423 : decode cL_law 1423 = .ok (.ifCond .eq 5, 3) := by decide +kernel
theorem dL_law_1426 : decode cL_law 1426 = .ok (.iconst 0, 1) := by decide +kernel
theorem dL_law_1427 : decode cL_law 1427 = .ok (.ireturn, 1) := by decide +kernel
theorem dL_law_1428 : decode cL_law 1428 = .ok (.goto 170, 3) := by decide +kernel
theorem dL_law_1431 : decode cL_law 1431 = .ok (.aload_n 1, 1) := by decide +kernel
theorem dL_law_1432 : decode cL_law 1432 = .ok (.aload_n 0, 1) := by decide +kernel
theorem dL_law_1433 : decode cL_law 1433 = .ok (.iload 4, 2) := by decide +kernel
theorem dL_law_1435 : decode cL_law 1435 = .ok (.iconst 1, 1) := by decide +kernel
theorem dL_law_1436 : decode cL_law 1436 = .ok (.iadd, 1) := by decide +kernel
theorem dL_law_1437 : decode cL_law 1437 = .ok (.iaload, 1) := by decide +kernel
theorem dL_law_1438 : decode cL_law 1438 = .ok (.aload_n 3, 1) := by decide +kernel
theorem dL_law_1439 : decode cL_law 1439 = .ok (.invokestatic 148, 3) := by decide +kernel
theorem dL_law_1442 : decode cL_law 1442 = .ok (.istore 5, 2) := by decide +kernel
theorem dL_law_1444 : decode cL_law 1444 = .ok (.aload_n 2, 1) := by decide +kernel
theorem dL_law_1445 : decode cL_law 1445 = .ok (.aload_n 0, 1) := by decide +kernel
theorem dL_law_1446 : decode cL_law 1446 = .ok (.iload 4, 2) := by decide +kernel
theorem dL_law_1448 : decode cL_law 1448 = .ok (.iconst 1, 1) := by decide +kernel
theorem dL_law_1449 : decode cL_law 1449 = .ok (.iadd, 1) := by decide +kernel
theorem dL_law_1450 : decode cL_law 1450 = .ok (.iaload, 1) := by decide +kernel
theorem dL_law_1451 : decode cL_law 1451 = .ok (.invokevirtual 150, 3) := by decide +kernel
theorem dL_law_1454 : decode cL_law 1454 = .ok (.istore 6, 2) := by decide +kernel
theorem dL_law_1456 : decode cL_law 1456 = .ok (.aload_n 2, 1) := by decide +kernel
theorem dL_law_1457 : decode cL_law 1457 = .ok (.invokevirtual 90, 3) := by decide +kernel
theorem dL_law_1460 : decode cL_law 1460 = .ok (.iload 5, 2) := by decide +kernel
theorem dL_law_1462 : decode cL_law 1462 = .ok (.if_icmp .eq 5, 3) := by decide +kernel
theorem dL_law_1465 : decode cL_law 1465 = .ok (.iconst 0, 1) := by decide +kernel
theorem dL_law_1466 : decode cL_law 1466 = .ok (.ireturn, 1) := by decide +kernel
theorem dL_law_1467 : decode cL_law 1467 = .ok (.iload 5, 2) := by decide +kernel
theorem dL_law_1469 : decode cL_law 1469 = .ok (.ifCond .ne 15, 3) := by decide +kernel
theorem dL_law_1472 : decode cL_law 1472 = .ok (.aload_n 3, 1) := by decide +kernel
theorem dL_law_1473 : decode cL_law 1473 = .ok (.iconst 0, 1) := by decide +kernel
theorem dL_law_1474 : decode cL_law 1474 = .ok (.laload, 1) := by decide +kernel
theorem dL_law_1475 : decode cL_law 1475 = .ok (.iload 6, 2) := by decide +kernel
theorem dL_law_1477 : decode cL_law 1477 = .ok (.i2l, 1) := by decide +kernel
theorem dL_law_1478 : decode cL_law 1478 = .ok (.lcmp, 1) := by decide +kernel
theorem dL_law_1479 : decode cL_law 1479 = .ok (.ifCond .eq 5, 3) := by decide +kernel
theorem dL_law_1482 : decode cL_law 1482 = .ok (.iconst 0, 1) := by decide +kernel
theorem dL_law_1483 : decode cL_law 1483 = .ok (.ireturn, 1) := by decide +kernel
theorem dL_law_1484 : decode cL_law 1484 = .ok (.goto 114, 3) := by decide +kernel
theorem dL_law_1487 : decode cL_law 1487 = .ok (.aload_n 1, 1) := by decide +kernel
theorem dL_law_1488 : decode cL_law 1488 = .ok (.aload_n 0, 1) := by decide +kernel
theorem dL_law_1489 : decode cL_law 1489 = .ok (.iload 4, 2) := by decide +kernel
theorem dL_law_1491 : decode cL_law 1491 = .ok (.iconst 1, 1) := by decide +kernel
theorem dL_law_1492 : decode cL_law 1492 = .ok (.iadd, 1) := by decide +kernel
theorem dL_law_1493 : decode cL_law 1493 = .ok (.iaload, 1) := by decide +kernel
theorem dL_law_1494 : decode cL_law 1494 = .ok (.aload_n 3, 1) := by decide +kernel
theorem dL_law_1495 : decode cL_law 1495 = .ok (.invokestatic 151, 3) := by decide +kernel
theorem dL_law_1498 : decode cL_law 1498 = .ok (.istore 5, 2) := by decide +kernel
theorem dL_law_1500 : decode cL_law 1500 = .ok (.aload_n 2, 1) := by decide +kernel
theorem dL_law_1501 : decode cL_law 1501 = .ok (.aload_n 0, 1) := by decide +kernel
theorem dL_law_1502 : decode cL_law 1502 = .ok (.iload 4, 2) := by decide +kernel
theorem dL_law_1504 : decode cL_law 1504 = .ok (.iconst 1, 1) := by decide +kernel
theorem dL_law_1505 : decode cL_law 1505 = .ok (.iadd, 1) := by decide +kernel
theorem dL_law_1506 : decode cL_law 1506 = .ok (.iaload, 1) := by decide +kernel
theorem dL_law_1507 : decode cL_law 1507 = .ok (.invokevirtual 153, 3) := by decide +kernel
theorem dL_law_1510 : decode cL_law 1510 = .ok (.istore 6, 2) := by decide +kernel
theorem dL_law_1512 : decode cL_law 1512 = .ok (.aload_n 2, 1) := by decide +kernel
theorem dL_law_1513 : decode cL_law 1513 = .ok (.invokevirtual 90, 3) := by decide +kernel
theorem dL_law_1516 : decode cL_law 1516 = .ok (.iload 5, 2) := by decide +kernel
theorem dL_law_1518 : decode cL_law 1518 = .ok (.if_icmp .eq 5, 3) := by decide +kernel
theorem dL_law_1521 : decode cL_law 1521 = .ok (.iconst 0, 1) := by decide +kernel
theorem dL_law_1522 : decode cL_law 1522 = .ok (.ireturn, 1) := by decide +kernel
theorem dL_law_1523 : decode cL_law 1523 = .ok (.iload 5, 2) := by decide +kernel
theorem dL_law_1525 : decode cL_law 1525 = .ok (.ifCond .ne 15, 3) := by decide +kernel
theorem dL_law_1528 : decode cL_law 1528 = .ok (.aload_n 3, 1) := by decide +kernel
theorem dL_law_1529 : decode cL_law 1529 = .ok (.iconst 0, 1) := by decide +kernel
theorem dL_law_1530 : decode cL_law 1530 = .ok (.laload, 1) := by decide +kernel
theorem dL_law_1531 : decode cL_law 1531 = .ok (.iload 6, 2) := by decide +kernel
theorem dL_law_1533 : decode cL_law 1533 = .ok (.i2l, 1) := by decide +kernel
theorem dL_law_1534 : decode cL_law 1534 = .ok (.lcmp, 1) := by decide +kernel
theorem dL_law_1535 : decode cL_law 1535 = .ok (.ifCond .eq 5, 3) := by decide +kernel
theorem dL_law_1538 : decode cL_law 1538 = .ok (.iconst 0, 1) := by decide +kernel
theorem dL_law_1539 : decode cL_law 1539 = .ok (.ireturn, 1) := by decide +kernel
theorem dL_law_1540 : decode cL_law 1540 = .ok (.goto 58, 3) := by decide +kernel
theorem dL_law_1543 : decode cL_law 1543 = .ok (.aload_n 1, 1) := by decide +kernel
theorem dL_law_1544 : decode cL_law 1544 = .ok (.invokevirtual 154, 3) := by decide +kernel
theorem dL_law_1547 : decode cL_law 1547 = .ok (.dstore 5, 2) := by decide +kernel
theorem dL_law_1549 : decode cL_law 1549 = .ok (.aload_n 2, 1) := by decide +kernel
theorem dL_law_1550 : decode cL_law 1550 = .ok (.invokevirtual 158, 3) := by decide +kernel
theorem dL_law_1553 : decode cL_law 1553 = .ok (.dstore 7, 2) := by decide +kernel
theorem dL_law_1555 : decode cL_law 1555 = .ok (.dload 5, 2) := by decide +kernel
theorem dL_law_1557 : decode cL_law 1557 = .ok (.dload 7, 2) := by decide +kernel
theorem dL_law_1559 : decode cL_law 1559 = .ok (.dcmp .l, 1) := by decide +kernel
theorem dL_law_1560 : decode cL_law 1560 = .ok (.ifCond .eq 21, 3) := by decide +kernel
theorem dL_law_1563 : decode cL_law 1563 = .ok (.dload 5, 2) := by decide +kernel
theorem dL_law_1565 : decode cL_law 1565 = .ok (.dload 5, 2) := by decide +kernel
theorem dL_law_1567 : decode cL_law 1567 = .ok (.dcmp .l, 1) := by decide +kernel
theorem dL_law_1568 : decode cL_law 1568 = .ok (.ifCond .eq 11, 3) := by decide +kernel
theorem dL_law_1571 : decode cL_law 1571 = .ok (.dload 7, 2) := by decide +kernel
theorem dL_law_1573 : decode cL_law 1573 = .ok (.dload 7, 2) := by decide +kernel
theorem dL_law_1575 : decode cL_law 1575 = .ok (.dcmp .l, 1) := by decide +kernel
theorem dL_law_1576 : decode cL_law 1576 = .ok (.ifCond .ne 5, 3) := by decide +kernel
theorem dL_law_1579 : decode cL_law 1579 = .ok (.iconst 0, 1) := by decide +kernel
theorem dL_law_1580 : decode cL_law 1580 = .ok (.ireturn, 1) := by decide +kernel
theorem dL_law_1581 : decode cL_law 1581 = .ok (.goto 17, 3) := by decide +kernel
theorem dL_law_1584 : decode cL_law 1584 = .ok (.aload_n 1, 1) := by decide +kernel
theorem dL_law_1585 : decode cL_law 1585 = .ok (.invokevirtual 159, 3) := by decide +kernel
theorem dL_law_1588 : decode cL_law 1588 = .ok (.aload_n 2, 1) := by decide +kernel
theorem dL_law_1589 : decode cL_law 1589 = .ok (.invokevirtual 163, 3) := by decide +kernel
theorem dL_law_1592 : decode cL_law 1592 = .ok (.lcmp, 1) := by decide +kernel
theorem dL_law_1593 : decode cL_law 1593 = .ok (.ifCond .eq 5, 3) := by decide +kernel
theorem dL_law_1596 : decode cL_law 1596 = .ok (.iconst 0, 1) := by decide +kernel
theorem dL_law_1597 : decode cL_law 1597 = .ok (.ireturn, 1) := by decide +kernel
theorem dL_law_1598 : decode cL_law 1598 = .ok (.iinc 4 5, 3) := by decide +kernel
theorem dL_law_1601 : decode cL_law 1601 = .ok (.goto (-1578), 3) := by decide +kernel
theorem dL_law_1604 : decode cL_law 1604 = .ok (.iconst 1, 1) := by decide +kernel
theorem dL_law_1605 : decode cL_law 1605 = .ok (.ireturn, 1) := by decide +kernel
end
section
/-! numbers: an Int32 as the image of an Int -/
def iI (z : Int) : Int32 := Int32.ofInt z
theorem iI_toInt {a : Int} (h : -2147483648 ≤ a ∧ a ≤ 2147483647) : (iI a).toInt = a := by
  unfold iI
  rw [Int32.toInt_ofInt]
  have : a.bmod (2 ^ 32) = a := by
    rw [Int.bmod_eq_of_le] <;> omega
  simpa using this
theorem iI_of (x : Int32) : x = iI x.toInt := by
  unfold iI
  exact (Int32.ofInt_toInt x).symm
theorem iI_rng (x : Int32) : -2147483648 ≤ x.toInt ∧ x.toInt ≤ 2147483647 := by
  have h1 := Int32.le_toInt x
  have h2 := Int32.toInt_lt x
  omega
theorem vp_nar_int' (x : Int32) : vp_nar .int x = x := rfl
theorem iI_add (a b : Int) : iI a + iI b = iI (a + b) := (Int32.ofInt_add a b).symm
theorem iI_sub (a b : Int) : iI a - iI b = iI (a - b) := (Int32.ofInt_sub a b).symm
theorem iI_mul (a b : Int) : iI a * iI b = iI (a * b) := (Int32.ofInt_mul a b).symm
theorem iI_lt {a b : Int} (ha : -2147483648 ≤ a ∧ a ≤ 2147483647) (hb : -2147483648 ≤ b ∧ b ≤ 2147483647) : iI a < iI b ↔ a < b := by
  rw [Int32.lt_iff_toInt_lt, iI_toInt ha, iI_toInt hb]
theorem iI_le {a b : Int} (ha : -2147483648 ≤ a ∧ a ≤ 2147483647) (hb : -2147483648 ≤ b ∧ b ≤ 2147483647) : iI a ≤ iI b ↔ a ≤ b := by
  rw [Int32.le_iff_toInt_le, iI_toInt ha, iI_toInt hb]
theorem iI_eq {a b : Int} (ha : -2147483648 ≤ a ∧ a ≤ 2147483647) (hb : -2147483648 ≤ b ∧ b ≤ 2147483647) : iI a = iI b ↔ a = b := by
  rw [← Int32.toInt_inj, iI_toInt ha, iI_toInt hb]
theorem iI_0 : iI 0 = 0 := rfl
theorem iI_lt0 {a : Int} (ha : -2147483648 ≤ a ∧ a ≤ 2147483647) : iI a < 0 ↔ a < 0 := by
  rw [← iI_0]; exact iI_lt ha (by omega)
theorem iI_le0 {a : Int} (ha : -2147483648 ≤ a ∧ a ≤ 2147483647) : iI a ≤ 0 ↔ a ≤ 0 := by
  rw [← iI_0]; exact iI_le ha (by omega)
theorem iI_eq0 {a : Int} (ha : -2147483648 ≤ a ∧ a ≤ 2147483647) : iI a = 0 ↔ a = 0 := by
  rw [← iI_0]; exact iI_eq ha (by omega)
theorem iI_clamp {a : Int} (h : 0 ≤ a ∧ a ≤ 2147483647) : (iI a).toNatClampNeg = a.toNat := by
  show (iI a).toInt.toNat = a.toNat
  rw [iI_toInt (by omega)]
theorem iI_in {a : Int} {n : Nat} (h : 0 ≤ a ∧ a < (n : Int)) (hn : n ≤ 2147483647) : vp_in (iI a) n := by
  rw [vp_in_iff, iI_toInt (by omega)]
  exact h
theorem iI_div {a b : Int} (ha : 0 ≤ a ∧ a ≤ 2147483647) (hb : 0 < b ∧ b ≤ 2147483647) : iI a / iI b = iI (a / b) := by
  have h := pk_div (a := a.toNat) (d := b.toNat) (by omega) (by omega) (by omega)
  have e1 : nI a.toNat = iI a := by
    show Int32.ofNat a.toNat = Int32.ofInt a
    rw [← Int32.ofInt_eq_ofNat]
    congr 1
    omega
  have e2 : nI b.toNat = iI b := by
    show Int32.ofNat b.toNat = Int32.ofInt b
    rw [← Int32.ofInt_eq_ofNat]
    congr 1
    omega
  rw [e1, e2] at h
  rw [h]
  show Int32.ofNat (a.toNat / b.toNat) = Int32.ofInt (a / b)
  rw [← Int32.ofInt_eq_ofNat]
  congr 1
  rw [Int.natCast_ediv]
  congr 1 <;> omega
theorem iI_rem {a b : Int} (ha : 0 ≤ a ∧ a ≤ 2147483647) (hb : 0 < b ∧ b ≤ 2147483647) : iI a - iI a / iI b * iI b = iI (a % b) := by
  rw [iI_div ha hb, iI_mul, iI_sub]
  congr 1
  have := Int.emod_add_mul_ediv a b
  rw [Int.mul_comm] at this
  omega
/-! functions -/
def fset (f : Int → Int) (a x : Int) : Int → Int := fun j => if j = a then x else f j
theorem fset_same (f : Int → Int) (a x : Int) : fset f a x a = x := by simp [fset]
theorem fset_ne {f : Int → Int} {a x j : Int} (h : j ≠ a) : fset f a x j = f j := by simp [fset, h]
theorem iI_upd {f : Int → Int} {a x : Int} (h : 0 ≤ a ∧ a ≤ 2147483647) : upd (fun j : Nat => iI (f (j : Int))) (iI a).toNatClampNeg (iI x) = fun j : Nat => iI (fset f a x (j : Int)) := by
  rw [iI_clamp h]
  funext j
  by_cases hj : j = a.toNat
  · subst hj
    simp [upd, fset, show ((a.toNat : Nat) : Int) = a by omega]
  · simp only [upd, fset, if_neg hj, if_neg (show ¬ ((j : Nat) : Int) = a by omega)]
/-- what an array copy leaves, over Int -/
def fcpy (f g : Int → Int) (n : Int) : Int → Int := fun j => if 0 ≤ j ∧ j < n then f j else g j
/-! cells -/
abbrev gE : Type := va_G × ClassId × ClassId × ClassId
def ca (E : gE) (n : Nat) (f : Int → Int) : va_E := .inl (E.2.1, n, .inl (fun j => iI (f (j : Int))))
def cz (E : gE) (n : Nat) (f : Int → Int) : va_E := .inl (E.2.2.1, n, .inl (fun j => iI (f (j : Int))))
def cj (E : gE) (n : Nat) (f : Nat → Int64) : va_E := .inl (E.2.2.2, n, .inr (.inl f))
abbrev gT (E : gE) : List (ClassId × FieldType) := [(E.2.1, .int), (E.2.2.1, .boolean), (E.2.2.2, .long)]
/-! the tables' words -/
def lw_g : List Cond := lw_tbl.filter goodWord
theorem lg_t {w : Cond} (i : Nat) (h : (decide (tables_1[i]? = some w) && goodWord w) = true) : w ∈ lw_g := by
  simp only [Bool.and_eq_true, decide_eq_true_eq] at h
  exact List.mem_filter.mpr ⟨List.mem_append_right _ (List.mem_of_getElem? h.1), h.2⟩
theorem lg_s {w : Cond} (i : Nat) (h : (decide ((k2_sels lw_privs)[i]? = some w) && goodWord w) = true) : w ∈ lw_g := by
  simp only [Bool.and_eq_true, decide_eq_true_eq] at h
  exact List.mem_filter.mpr ⟨List.mem_append_left _ (List.mem_of_getElem? h.1), h.2⟩
theorem lg_good {a b : Cond} (hb : b ∈ lw_g) : GoodIn (a :: lw_g) (b :: lw_g) := by
  have key : ∀ w ∈ lw_g, w ∈ a :: lw_g ∧ ((w.onTables && w.keeps) = true ∨ ∃ ty, w = .arrayClass ty) := fun w hw =>
    ⟨List.mem_cons_of_mem _ hw, good_of_word (List.mem_filter.mp hw).2⟩
  intro w hw
  rcases List.mem_cons.mp hw with rfl | hw
  · exact key _ hb
  · exact key _ hw
/-- a method's own words -/
def gM (y : MethodName) (bytes : ByteArray) (maxL : Nat) (ret : Option FieldType) (n : Nat) : Prop :=
  Cond.code y bytes maxL ret ∈ lw_g ∧ Cond.initialized y.cls ∈ lw_g ∧ (y.cls ≠ "java/lang/invoke/MethodHandle" ∧ y.cls ≠ "java/lang/invoke/VarHandle") ∧ (parseMethodDescriptor y.desc).map (fun d => d.parameters.length) = some n ∧ plainName y.cls = true
abbrev gW (y : MethodName) (bytes : ByteArray) (maxL : Nat) (ret : Option FieldType) : List Cond := Cond.code y bytes maxL ret :: lw_g
/-- the nest mates' links -/
def gNF : List (Nat × String × String) := [(110, "water", "[I"), (149, "lost", "I"), (152, "hour", "I"), (35, "ground", "[I"), (54, "bags", "[I"), (64, "pump", "[I"), (74, "gauge", "[I"), (80, "refuge", "[I"), (86, "house", "[I"), (92, "caller", "[I")]
def gNM : List (String × Nat × String × String) := [("FloodWardens", 9, "FloodWardens$Town", "FloodWardens"), ("FloodWardens$Town", 55, "FloodWardens$Ways", "FloodWardens"), ("FloodWardensModel", 27, "FloodWardensModel$State", "FloodWardensModel")]
def gN (U : State) : Prop := (∀ q ∈ gNF, va_Nw (.fieldLinkNest "FloodWardensModel" q.1 "FloodWardensModel$State" q.2.1 q.2.2 "FloodWardensModel") U) ∧ (∀ q ∈ gNM, va_Nw (.methodLinkNest q.1 q.2.1 ⟨q.2.2.1, "<init>", "()V"⟩ q.2.2.2) U)
theorem gN.warm {s U : State} (hW : s.WarmedH U.vm) (h : gN s) : gN U := ⟨fun q hq => va_Nw.warmF hW (h.1 q hq), fun q hq => va_Nw.warmM hW (h.2 q hq)⟩
theorem gN.same {s U : State} (hW : s.vm = U.vm) (h : gN s) : gN U := ⟨fun q hq => va_Nw.same rfl hW (h.1 q hq), fun q hq => va_Nw.same rfl hW (h.2 q hq)⟩
/-! the walk's goal: at a pc, over a world, locals and stack; heap, written cells and the locals' array are hidden -/
def gC (E : gE) (p : Program) (s : State) (m : MethodId) (args : Array Value) (meth : Method) (c : Code) (cc : ByteArray) (nL : Nat) (own : String) (ret : Option FieldType) (A : Nat → Prop) : Prop :=
  p.tables.exec = Jvm.exec ∧ c.code = cc ∧ c.maxLocals = nL ∧ s.vm.findClass own = some m.cls ∧ (∀ w ∈ lw_g, w.before args s = true) ∧ va_K E.1 vwCl (gT E) s ∧ gN s ∧ (∀ q : Nat, s.heap.size ≤ q → A q) ∧ meth.sig.returnType = ret ∧ meth.locks = false
def gG (E : gE) (p : Program) (l : Launch) (e : Env) (R : Room) (s : State) (m : MethodId) (args : Array Value) (below : List Frame) (meth : Method) (c : Code) (A : Nat → Prop) (nL kc ks : Nat) (Q : State → Prop) (ws : va_W) (pc : Nat) (lv : List (Nat × Value)) (st : List Value) : Prop :=
  ∀ (H : Heap) (locs : List Loc) (ls : Array Slot), va_P E.1 vwCl ws H → va_D A ws → va_S A s.heap H locs → lv_has ls nL lv → W p l e R s m args below meth c H locs kc ks Q (F0 m pc ls st)
/-- a method's end: its answer, its world -/
def gQ (E : gE) (pre : va_W) (sz : Nat) (rv : Option Value) (w1 : va_W) : Array Value → State → Outcome → State → Prop := fun _ st oc t =>
  (oc = .returned rv ∧ va_P E.1 vwCl w1 t.heap ∧ va_D (va_A pre sz) w1) ∧ va_F (va_A pre sz) st t
def gP (E : gE) (pre : va_W) (sz : Nat) (av : List Value) : Array Value → State → Prop :=
  va_Pc av (fun U => U.heap.size = sz ∧ va_P E.1 vwCl pre U.heap ∧ va_D (fun _ => True) pre ∧ va_K E.1 vwCl (gT E) U ∧ gN U)
/-- a method's contract: from the world pre with the arguments av to the answer rv and the world w1 -/
def gK (l : Launch) (E : gE) (y : MethodName) (bytes : ByteArray) (maxL : Nat) (ret : Option FieldType) (rm : Room) (av : List Value) (pre : va_W) (rv : Option Value) (w1 : va_W) : Prop :=
  ∀ sz : Nat, Met l y (gW y bytes maxL ret) rm (gP E pre sz av) (gQ E pre sz rv w1) rm.cells rm.slots (va_A pre sz)
theorem gP_blind {E : gE} {pre : va_W} {sz : Nat} {av : List Value} : FrameBlind (gP E pre sz av) := by
  intro a U g mk q
  obtain ⟨h0, h1, h2, h3, h4, h5⟩ := q
  exact ⟨h0, h1, h2, h3, va_K.moved (u := U) (U := U.calling g mk a) (Vm.Alike.refl U.vm) h4, gN.same rfl h5⟩
theorem gK_of {l : Launch} {E : gE} {y : MethodName} {bytes : ByteArray} {maxL n : Nat} {ret : Option FieldType} {rm : Room} {av : List Value} {pre : va_W} {rv : Option Value} {w1 : va_W} (hm : gM y bytes maxL ret n) (lv0 : List (Nat × Value)) (hlen : (lg_sl av).length ≤ maxL) (hl0 : lv_args 0 av = lv0)
    (body : ∀ (p : Program) (e : Env) (s : State) (m : MethodId) (args : Array Value) (below : List Frame) (meth : Method) (c : Code), gC E p s m args meth c bytes maxL y.cls ret (va_A pre s.heap.size) → gG E p l e rm s m args below meth c (va_A pre s.heap.size) maxL 0 0 (MQ below (gQ E pre s.heap.size rv w1) args s rm.cells rm.slots (va_A pre s.heap.size)) pre 0 lv0 []) : gK l E y bytes maxL ret rm av pre rv w1 := by
  intro sz
  refine Met.ofW (cc := bytes) (maxL := maxL) (ret := ret) hm.2.2.2.2 rfl ?_
  intro p e s m args below meth c s₁ B hml hv
  obtain ⟨rfl, hsz, hP, hD, hK, hN⟩ := hv
  subst hsz
  have hl := lv_entry av (n := maxL) hlen
  rw [hl0] at hl
  rw [lg_entry_eq]
  have hts := atoms_spec (ws := gW y bytes maxL ret) B.pre
  exact body p e s m _ below meth c ⟨B.exec, B.bytes, hml, findClass_of_methodNamed B.named, fun w hw => hts w (List.mem_cons_of_mem _ hw), hK, hN, fun q h => Or.inr h, B.returns, B.notSynchronized⟩ s.heap [] _ hP hD.self va_S.rf hl
/-! rows -/
section GR
variable {E : gE} {p : Program} {l : Launch} {e : Env} {R : Room} {s : State} {m : MethodId} {args : Array Value} {below : List Frame} {meth : Method} {c : Code} {A : Nat → Prop} {nL kc ks : Nat} {Q : State → Prop} {ws ws' : va_W} {pc pc' : Nat} {lv lv' : List (Nat × Value)} {st : List Value}
variable {cc : ByteArray} {own : String} {ret : Option FieldType}
theorem g_widen {kc' ks' : Nat} (h1 : kc ≤ kc') (h2 : ks ≤ ks') (kk : gG E p l e R s m args below meth c A nL kc' ks' Q ws pc lv st) : gG E p l e R s m args below meth c A nL kc ks Q ws pc lv st :=
  fun H locs ls hP hD hS hl => W.widen h1 h2 (kk H locs ls hP hD hS hl)
/-- another reading of the same point -/
theorem g_to {ws1 : va_W} {lv1 : List (Nat × Value)} {st1 : List Value} (ks9 : List Nat) (kk : gG E p l e R s m args below meth c A nL kc ks Q ws1 pc lv1 st1) (hw : ws1 = ws) (hl : lv_pick lv ks9 = lv1) (hst : st1 = st) : gG E p l e R s m args below meth c A nL kc ks Q ws pc lv st := by
  subst hw; subst hst
  exact fun H locs ls hP hD hS h => kk H locs ls hP hD hS (lv_sub h ks9 hl)
theorem g_perm {ws1 : va_W} (hp : ws1.Perm ws) (kk : gG E p l e R s m args below meth c A nL kc ks Q ws1 pc lv st) : gG E p l e R s m args below meth c A nL kc ks Q ws pc lv st := by
  intro H locs ls hP hD hS hl
  have q1 : va_P E.1 vwCl ws1 H := by
    intro k q hk
    obtain ⟨i, hi⟩ := List.getElem?_of_mem (hp.mem_iff.mp (List.mem_of_getElem? hk))
    exact hP i q hi
  have nd : ∀ w : va_W, (∀ (i j : Nat) (p q : Nat × va_E), w[i]? = some p → w[j]? = some q → p.1 = q.1 → i = j) ↔ (w.map (fun q => q.1)).Nodup := by
    intro w
    constructor
    · intro h
      refine List.pairwise_iff_getElem.mpr ?_
      intro i j hi hj hij hc
      have hi' : i < w.length := by simpa using hi
      have hj' : j < w.length := by simpa using hj
      rw [List.getElem_map, List.getElem_map] at hc
      have := h i j w[i] w[j] (List.getElem?_eq_getElem hi') (List.getElem?_eq_getElem hj') hc
      omega
    · intro h i j x y hi hj hxy
      have h := List.pairwise_iff_getElem.mp h
      obtain ⟨hi', ei⟩ := List.getElem?_eq_some_iff.mp hi
      obtain ⟨hj', ej⟩ := List.getElem?_eq_some_iff.mp hj
      rcases Nat.lt_trichotomy i j with q | q | q
      · refine absurd ?_ (h i j (by simpa using hi') (by simpa using hj') q)
        rw [List.getElem_map, List.getElem_map, ei, ej, hxy]
      · exact q
      · refine absurd ?_ (h j i (by simpa using hj') (by simpa using hi') q)
        rw [List.getElem_map, List.getElem_map, ei, ej, hxy]
  have q2 : va_D A ws1 := by
    refine ⟨(nd ws1).mpr ?_, fun k q hk => ?_⟩
    · exact ((hp.map (fun q => q.1)).nodup_iff).mpr ((nd ws).mp hD.1)
    · obtain ⟨i, hi⟩ := List.getElem?_of_mem (hp.mem_iff.mp (List.mem_of_getElem? hk))
      exact hD.2 i q hi
  exact kk H locs ls q1 q2 hS hl
theorem g_iconst (C : gC E p s m args meth c cc nL own ret A) {n : Int} (hd : decode cc pc = .ok (.iconst n, 1)) (hp : pc + 1 = pc') (kk : gG E p l e R s m args below meth c A nL kc ks Q ws pc' lv (.int (iI n) :: st)) : gG E p l e R s m args below meth c A nL kc ks Q ws pc lv st := by
  subst hp
  exact fun H locs ls hP hD hS hl => lv_iconst C.1 C.2.1 hd rfl (kk H locs ls hP hD hS hl)
theorem g_bipush (C : gC E p s m args meth c cc nL own ret A) {n : Int} (hd : decode cc pc = .ok (.bipush n, 2)) (hp : pc + 2 = pc') (hv : (Int8.ofInt n).toInt32 = iI n) (kk : gG E p l e R s m args below meth c A nL kc ks Q ws pc' lv (.int (iI n) :: st)) : gG E p l e R s m args below meth c A nL kc ks Q ws pc lv st := by
  subst hp
  exact fun H locs ls hP hD hS hl => lv_bipush C.1 C.2.1 hd hv (kk H locs ls hP hD hS hl)
theorem g_iload_n (C : gC E p s m args meth c cc nL own ret A) {k : Fin 4} {x : Int32} (hd : decode cc pc = .ok (.iload_n k, 1)) (hp : pc + 1 = pc') (j : Nat) (hj : lv[j]? = some ((k : Nat), .int x)) (kk : gG E p l e R s m args below meth c A nL kc ks Q ws pc' lv (.int x :: st)) : gG E p l e R s m args below meth c A nL kc ks Q ws pc lv st := by
  subst hp
  exact fun H locs ls hP hD hS hl => lv_iload_n C.1 C.2.1 hd rfl (lv_at hl j hj) (kk H locs ls hP hD hS hl)
theorem g_iload (C : gC E p s m args meth c cc nL own ret A) {i : Nat} {x : Int32} (hd : decode cc pc = .ok (.iload i, 2)) (hp : pc + 2 = pc') (j : Nat) (hj : lv[j]? = some (i, .int x)) (kk : gG E p l e R s m args below meth c A nL kc ks Q ws pc' lv (.int x :: st)) : gG E p l e R s m args below meth c A nL kc ks Q ws pc lv st := by
  subst hp
  exact fun H locs ls hP hD hS hl => lv_iload C.1 C.2.1 hd (lv_at hl j hj) (kk H locs ls hP hD hS hl)
theorem g_aload_n (C : gC E p s m args meth c cc nL own ret A) {k : Fin 4} {x : Nat} (hd : decode cc pc = .ok (.aload_n k, 1)) (hp : pc + 1 = pc') (j : Nat) (hj : lv[j]? = some ((k : Nat), .ref x)) (kk : gG E p l e R s m args below meth c A nL kc ks Q ws pc' lv (.ref x :: st)) : gG E p l e R s m args below meth c A nL kc ks Q ws pc lv st := by
  subst hp
  exact fun H locs ls hP hD hS hl => lv_aload_n C.1 C.2.1 hd rfl (lv_at hl j hj) (kk H locs ls hP hD hS hl)
theorem g_aload (C : gC E p s m args meth c cc nL own ret A) {i : Nat} {x : Nat} (hd : decode cc pc = .ok (.aload i, 2)) (hp : pc + 2 = pc') (j : Nat) (hj : lv[j]? = some (i, .ref x)) (kk : gG E p l e R s m args below meth c A nL kc ks Q ws pc' lv (.ref x :: st)) : gG E p l e R s m args below meth c A nL kc ks Q ws pc lv st := by
  subst hp
  exact fun H locs ls hP hD hS hl => lv_aload C.1 C.2.1 hd (lv_at hl j hj) (kk H locs ls hP hD hS hl)
theorem g_lload_n (C : gC E p s m args meth c cc nL own ret A) {k : Fin 4} {x : Int64} (hd : decode cc pc = .ok (.lload_n k, 1)) (hp : pc + 1 = pc') (j : Nat) (hj : lv[j]? = some ((k : Nat), .long x)) (kk : gG E p l e R s m args below meth c A nL kc ks Q ws pc' lv (.long x :: st)) : gG E p l e R s m args below meth c A nL kc ks Q ws pc lv st := by
  subst hp
  exact fun H locs ls hP hD hS hl => lv_lload_n C.1 C.2.1 hd rfl (lv_at hl j hj) (kk H locs ls hP hD hS hl)
theorem g_istore_n (C : gC E p s m args meth c cc nL own ret A) {k : Fin 4} {x : Int32} (hd : decode cc pc = .ok (.istore_n k, 1)) (hp : pc + 1 = pc') (hn : (k : Nat) < nL) (hl : ((k : Nat), Value.int x) :: lv.filter (fun q => !(q.1 == (k : Nat)) && !(q.1 + 1 == (k : Nat) && q.2.category == 2)) = lv') (kk : gG E p l e R s m args below meth c A nL kc ks Q ws pc' lv' st) : gG E p l e R s m args below meth c A nL kc ks Q ws pc lv (.int x :: st) := by
  subst hp
  exact fun H locs ls hP hD hS h => lv_istore_n C.1 C.2.1 hd rfl h hn hl (fun ls' h' => kk H locs ls' hP hD hS h')
theorem g_istore (C : gC E p s m args meth c cc nL own ret A) {i : Nat} {x : Int32} (hd : decode cc pc = .ok (.istore i, 2)) (hp : pc + 2 = pc') (hn : i < nL) (hl : (i, Value.int x) :: lv.filter (fun q => !(q.1 == i) && !(q.1 + 1 == i && q.2.category == 2)) = lv') (kk : gG E p l e R s m args below meth c A nL kc ks Q ws pc' lv' st) : gG E p l e R s m args below meth c A nL kc ks Q ws pc lv (.int x :: st) := by
  subst hp
  exact fun H locs ls hP hD hS h => lv_istore C.1 C.2.1 hd h hn hl (fun ls' h' => kk H locs ls' hP hD hS h')
theorem g_astore_n (C : gC E p s m args meth c cc nL own ret A) {k : Fin 4} {x : Nat} (hd : decode cc pc = .ok (.astore_n k, 1)) (hp : pc + 1 = pc') (hn : (k : Nat) < nL) (hl : ((k : Nat), Value.ref x) :: lv.filter (fun q => !(q.1 == (k : Nat)) && !(q.1 + 1 == (k : Nat) && q.2.category == 2)) = lv') (kk : gG E p l e R s m args below meth c A nL kc ks Q ws pc' lv' st) : gG E p l e R s m args below meth c A nL kc ks Q ws pc lv (.ref x :: st) := by
  subst hp
  exact fun H locs ls hP hD hS h => lv_astore_n C.1 C.2.1 hd rfl h hn hl (fun ls' h' => kk H locs ls' hP hD hS h')
theorem g_astore (C : gC E p s m args meth c cc nL own ret A) {i : Nat} {x : Nat} (hd : decode cc pc = .ok (.astore i, 2)) (hp : pc + 2 = pc') (hn : i < nL) (hl : (i, Value.ref x) :: lv.filter (fun q => !(q.1 == i) && !(q.1 + 1 == i && q.2.category == 2)) = lv') (kk : gG E p l e R s m args below meth c A nL kc ks Q ws pc' lv' st) : gG E p l e R s m args below meth c A nL kc ks Q ws pc lv (.ref x :: st) := by
  subst hp
  exact fun H locs ls hP hD hS h => lv_astore C.1 C.2.1 hd h hn hl (fun ls' h' => kk H locs ls' hP hD hS h')
theorem g_lstore_n (C : gC E p s m args meth c cc nL own ret A) {k : Fin 4} {x : Int64} (hd : decode cc pc = .ok (.lstore_n k, 1)) (hp : pc + 1 = pc') (hn : (k : Nat) + 1 < nL) (hl : ((k : Nat), Value.long x) :: lv.filter (fun q => !(q.1 == (k : Nat)) && (!(q.1 == (k : Nat) + 1) && !(q.1 + 1 == (k : Nat) && q.2.category == 2))) = lv') (kk : gG E p l e R s m args below meth c A nL kc ks Q ws pc' lv' st) : gG E p l e R s m args below meth c A nL kc ks Q ws pc lv (.long x :: st) := by
  subst hp
  exact fun H locs ls hP hD hS h => lv_lstore_n C.1 C.2.1 hd rfl h hn hl (fun ls' h' => kk H locs ls' hP hD hS h')
theorem g_iinc (C : gC E p s m args meth c cc nL own ret A) {i : Nat} {n : Int} {x : Int} (hd : decode cc pc = .ok (.iinc i n, 3)) (hp : pc + 3 = pc') (j : Nat) (hj : lv[j]? = some (i, .int (iI x))) (hn : i < nL) (hl : (i, Value.int (iI (x + n))) :: lv.filter (fun q => !(q.1 == i) && !(q.1 + 1 == i && q.2.category == 2)) = lv') (kk : gG E p l e R s m args below meth c A nL kc ks Q ws pc' lv' st) : gG E p l e R s m args below meth c A nL kc ks Q ws pc lv st := by
  subst hp
  exact fun H locs ls hP hD hS h => lv_iinc C.1 C.2.1 hd h hj (iI_add x n) hn hl (fun ls' h' => kk H locs ls' hP hD hS h')
theorem g_iadd (C : gC E p s m args meth c cc nL own ret A) {x y : Int} (hd : decode cc pc = .ok (.iadd, 1)) (hp : pc + 1 = pc') (kk : gG E p l e R s m args below meth c A nL kc ks Q ws pc' lv (.int (iI (x + y)) :: st)) : gG E p l e R s m args below meth c A nL kc ks Q ws pc lv (.int (iI y) :: .int (iI x) :: st) := by
  subst hp
  exact fun H locs ls hP hD hS hl => lv_iadd C.1 C.2.1 hd (by rw [iI_add]; exact kk H locs ls hP hD hS hl)
theorem g_isub (C : gC E p s m args meth c cc nL own ret A) {x y : Int} (hd : decode cc pc = .ok (.isub, 1)) (hp : pc + 1 = pc') (kk : gG E p l e R s m args below meth c A nL kc ks Q ws pc' lv (.int (iI (x - y)) :: st)) : gG E p l e R s m args below meth c A nL kc ks Q ws pc lv (.int (iI y) :: .int (iI x) :: st) := by
  subst hp
  exact fun H locs ls hP hD hS hl => lv_isub C.1 C.2.1 hd (by rw [iI_sub]; exact kk H locs ls hP hD hS hl)
theorem g_imul (C : gC E p s m args meth c cc nL own ret A) {x y : Int} (hd : decode cc pc = .ok (.imul, 1)) (hp : pc + 1 = pc') (kk : gG E p l e R s m args below meth c A nL kc ks Q ws pc' lv (.int (iI (x * y)) :: st)) : gG E p l e R s m args below meth c A nL kc ks Q ws pc lv (.int (iI y) :: .int (iI x) :: st) := by
  subst hp
  exact fun H locs ls hP hD hS hl => lv_imul C.1 C.2.1 hd (by rw [iI_mul]; exact kk H locs ls hP hD hS hl)
theorem iI_ne0 {b : Int} (hb : 0 < b ∧ b ≤ 2147483647) : ¬ iI b = 0 := by
  rw [iI_eq0 (by omega)]; omega
theorem g_idiv (C : gC E p s m args meth c cc nL own ret A) {x y : Int} (hd : decode cc pc = .ok (.idiv, 1)) (hp : pc + 1 = pc') (hx : 0 ≤ x ∧ x ≤ 2147483647) (hy : 0 < y ∧ y ≤ 2147483647) (kk : gG E p l e R s m args below meth c A nL kc ks Q ws pc' lv (.int (iI (x / y)) :: st)) : gG E p l e R s m args below meth c A nL kc ks Q ws pc lv (.int (iI y) :: .int (iI x) :: st) := by
  subst hp
  exact fun H locs ls hP hD hS hl => lv_idiv C.1 C.2.1 hd (iI_ne0 hy) (by rw [iI_div hx hy]; exact kk H locs ls hP hD hS hl)
theorem g_irem (C : gC E p s m args meth c cc nL own ret A) {x y : Int} (hd : decode cc pc = .ok (.irem, 1)) (hp : pc + 1 = pc') (hx : 0 ≤ x ∧ x ≤ 2147483647) (hy : 0 < y ∧ y ≤ 2147483647) (kk : gG E p l e R s m args below meth c A nL kc ks Q ws pc' lv (.int (iI (x % y)) :: st)) : gG E p l e R s m args below meth c A nL kc ks Q ws pc lv (.int (iI y) :: .int (iI x) :: st) := by
  subst hp
  exact fun H locs ls hP hD hS hl => lv_irem C.1 C.2.1 hd (iI_ne0 hy) (by rw [iI_rem hx hy]; exact kk H locs ls hP hD hS hl)
theorem g_dup (C : gC E p s m args meth c cc nL own ret A) {v : Value} (hd : decode cc pc = .ok (.dup, 1)) (hp : pc + 1 = pc') (hv : v.category = 1) (kk : gG E p l e R s m args below meth c A nL kc ks Q ws pc' lv (v :: v :: st)) : gG E p l e R s m args below meth c A nL kc ks Q ws pc lv (v :: st) := by
  subst hp
  exact fun H locs ls hP hD hS hl => lv_dup C.1 C.2.1 hd hv (kk H locs ls hP hD hS hl)
theorem g_dup2 (C : gC E p s m args meth c cc nL own ret A) {v w : Value} (hd : decode cc pc = .ok (.dup2, 1)) (hp : pc + 1 = pc') (hv : v.category = 1) (hw : w.category = 1) (kk : gG E p l e R s m args below meth c A nL kc ks Q ws pc' lv (v :: w :: v :: w :: st)) : gG E p l e R s m args below meth c A nL kc ks Q ws pc lv (v :: w :: st) := by
  subst hp
  exact fun H locs ls hP hD hS hl => lv_dup2_11 C.1 C.2.1 hd hv hw (kk H locs ls hP hD hS hl)
theorem g_goto (C : gC E p s m args meth c cc nL own ret A) {off : Int} (hd : decode cc pc = .ok (.goto off, 3)) (tgt : Nat) (ht : (pc : Int) + off = (tgt : Int)) (kk : gG E p l e R s m args below meth c A nL kc ks Q ws tgt lv st) : gG E p l e R s m args below meth c A nL kc ks Q ws pc lv st :=
  fun H locs ls hP hD hS hl => lv_goto C.1 C.2.1 hd ht (kk H locs ls hP hD hS hl)
/-! branches: target first, then what follows -/
theorem g_if_eq (C : gC E p s m args meth c cc nL own ret A) {off : Int} {x : Int} (hd : decode cc pc = .ok (.ifCond .eq off, 3)) (tgt : Nat) (ht : (pc : Int) + off = (tgt : Int)) (hp : pc + 3 = pc') (hx : -2147483648 ≤ x ∧ x ≤ 2147483647) (kt : x = 0 → gG E p l e R s m args below meth c A nL kc ks Q ws tgt lv st) (kf : ¬ x = 0 → gG E p l e R s m args below meth c A nL kc ks Q ws pc' lv st) : gG E p l e R s m args below meth c A nL kc ks Q ws pc lv (.int (iI x) :: st) := by
  subst hp
  exact fun H locs ls hP hD hS hl => lv_if_eq C.1 C.2.1 hd ht (fun h => kt ((iI_eq0 hx).mp h) H locs ls hP hD hS hl) (fun h => kf (fun z => h ((iI_eq0 hx).mpr z)) H locs ls hP hD hS hl)
theorem g_if_ne (C : gC E p s m args meth c cc nL own ret A) {off : Int} {x : Int} (hd : decode cc pc = .ok (.ifCond .ne off, 3)) (tgt : Nat) (ht : (pc : Int) + off = (tgt : Int)) (hp : pc + 3 = pc') (hx : -2147483648 ≤ x ∧ x ≤ 2147483647) (kt : ¬ x = 0 → gG E p l e R s m args below meth c A nL kc ks Q ws tgt lv st) (kf : x = 0 → gG E p l e R s m args below meth c A nL kc ks Q ws pc' lv st) : gG E p l e R s m args below meth c A nL kc ks Q ws pc lv (.int (iI x) :: st) := by
  subst hp
  exact fun H locs ls hP hD hS hl => lv_if_ne C.1 C.2.1 hd ht (fun h => kt (fun z => h ((iI_eq0 hx).mpr z)) H locs ls hP hD hS hl) (fun h => kf ((iI_eq0 hx).mp h) H locs ls hP hD hS hl)
theorem g_if_lt (C : gC E p s m args meth c cc nL own ret A) {off : Int} {x : Int} (hd : decode cc pc = .ok (.ifCond .lt off, 3)) (tgt : Nat) (ht : (pc : Int) + off = (tgt : Int)) (hp : pc + 3 = pc') (hx : -2147483648 ≤ x ∧ x ≤ 2147483647) (kt : x < 0 → gG E p l e R s m args below meth c A nL kc ks Q ws tgt lv st) (kf : ¬ x < 0 → gG E p l e R s m args below meth c A nL kc ks Q ws pc' lv st) : gG E p l e R s m args below meth c A nL kc ks Q ws pc lv (.int (iI x) :: st) := by
  subst hp
  exact fun H locs ls hP hD hS hl => lv_if_lt C.1 C.2.1 hd ht (fun h => kt ((iI_lt0 hx).mp h) H locs ls hP hD hS hl) (fun h => kf (fun z => h ((iI_lt0 hx).mpr z)) H locs ls hP hD hS hl)
theorem g_if_le (C : gC E p s m args meth c cc nL own ret A) {off : Int} {x : Int} (hd : decode cc pc = .ok (.ifCond .le off, 3)) (tgt : Nat) (ht : (pc : Int) + off = (tgt : Int)) (hp : pc + 3 = pc') (hx : -2147483648 ≤ x ∧ x ≤ 2147483647) (kt : x ≤ 0 → gG E p l e R s m args below meth c A nL kc ks Q ws tgt lv st) (kf : ¬ x ≤ 0 → gG E p l e R s m args below meth c A nL kc ks Q ws pc' lv st) : gG E p l e R s m args below meth c A nL kc ks Q ws pc lv (.int (iI x) :: st) := by
  subst hp
  exact fun H locs ls hP hD hS hl => lv_if_le C.1 C.2.1 hd ht (fun h => kt ((iI_le0 hx).mp h) H locs ls hP hD hS hl) (fun h => kf (fun z => h ((iI_le0 hx).mpr z)) H locs ls hP hD hS hl)
theorem g_icmp_eq (C : gC E p s m args meth c cc nL own ret A) {off : Int} {x y : Int} (hd : decode cc pc = .ok (.if_icmp .eq off, 3)) (tgt : Nat) (ht : (pc : Int) + off = (tgt : Int)) (hp : pc + 3 = pc') (hx : -2147483648 ≤ x ∧ x ≤ 2147483647) (hy : -2147483648 ≤ y ∧ y ≤ 2147483647) (kt : x = y → gG E p l e R s m args below meth c A nL kc ks Q ws tgt lv st) (kf : ¬ x = y → gG E p l e R s m args below meth c A nL kc ks Q ws pc' lv st) : gG E p l e R s m args below meth c A nL kc ks Q ws pc lv (.int (iI y) :: .int (iI x) :: st) := by
  subst hp
  exact fun H locs ls hP hD hS hl => lv_icmp_eq C.1 C.2.1 hd ht (fun h => kt ((iI_eq hx hy).mp h) H locs ls hP hD hS hl) (fun h => kf (fun z => h ((iI_eq hx hy).mpr z)) H locs ls hP hD hS hl)
theorem g_icmp_ne (C : gC E p s m args meth c cc nL own ret A) {off : Int} {x y : Int} (hd : decode cc pc = .ok (.if_icmp .ne off, 3)) (tgt : Nat) (ht : (pc : Int) + off = (tgt : Int)) (hp : pc + 3 = pc') (hx : -2147483648 ≤ x ∧ x ≤ 2147483647) (hy : -2147483648 ≤ y ∧ y ≤ 2147483647) (kt : ¬ x = y → gG E p l e R s m args below meth c A nL kc ks Q ws tgt lv st) (kf : x = y → gG E p l e R s m args below meth c A nL kc ks Q ws pc' lv st) : gG E p l e R s m args below meth c A nL kc ks Q ws pc lv (.int (iI y) :: .int (iI x) :: st) := by
  subst hp
  exact fun H locs ls hP hD hS hl => lv_icmp_ne C.1 C.2.1 hd ht (fun h => kt (fun z => h ((iI_eq hx hy).mpr z)) H locs ls hP hD hS hl) (fun h => kf ((iI_eq hx hy).mp h) H locs ls hP hD hS hl)
theorem g_icmp_lt (C : gC E p s m args meth c cc nL own ret A) {off : Int} {x y : Int} (hd : decode cc pc = .ok (.if_icmp .lt off, 3)) (tgt : Nat) (ht : (pc : Int) + off = (tgt : Int)) (hp : pc + 3 = pc') (hx : -2147483648 ≤ x ∧ x ≤ 2147483647) (hy : -2147483648 ≤ y ∧ y ≤ 2147483647) (kt : x < y → gG E p l e R s m args below meth c A nL kc ks Q ws tgt lv st) (kf : ¬ x < y → gG E p l e R s m args below meth c A nL kc ks Q ws pc' lv st) : gG E p l e R s m args below meth c A nL kc ks Q ws pc lv (.int (iI y) :: .int (iI x) :: st) := by
  subst hp
  exact fun H locs ls hP hD hS hl => lv_icmp_lt C.1 C.2.1 hd ht (fun h => kt ((iI_lt hx hy).mp h) H locs ls hP hD hS hl) (fun h => kf (fun z => h ((iI_lt hx hy).mpr z)) H locs ls hP hD hS hl)
theorem g_icmp_ge (C : gC E p s m args meth c cc nL own ret A) {off : Int} {x y : Int} (hd : decode cc pc = .ok (.if_icmp .ge off, 3)) (tgt : Nat) (ht : (pc : Int) + off = (tgt : Int)) (hp : pc + 3 = pc') (hx : -2147483648 ≤ x ∧ x ≤ 2147483647) (hy : -2147483648 ≤ y ∧ y ≤ 2147483647) (kt : y ≤ x → gG E p l e R s m args below meth c A nL kc ks Q ws tgt lv st) (kf : ¬ y ≤ x → gG E p l e R s m args below meth c A nL kc ks Q ws pc' lv st) : gG E p l e R s m args below meth c A nL kc ks Q ws pc lv (.int (iI y) :: .int (iI x) :: st) := by
  subst hp
  exact fun H locs ls hP hD hS hl => lv_icmp_ge C.1 C.2.1 hd ht (fun h => kt ((iI_le hy hx).mp h) H locs ls hP hD hS hl) (fun h => kf (fun z => h ((iI_le hy hx).mpr z)) H locs ls hP hD hS hl)
theorem g_icmp_gt (C : gC E p s m args meth c cc nL own ret A) {off : Int} {x y : Int} (hd : decode cc pc = .ok (.if_icmp .gt off, 3)) (tgt : Nat) (ht : (pc : Int) + off = (tgt : Int)) (hp : pc + 3 = pc') (hx : -2147483648 ≤ x ∧ x ≤ 2147483647) (hy : -2147483648 ≤ y ∧ y ≤ 2147483647) (kt : y < x → gG E p l e R s m args below meth c A nL kc ks Q ws tgt lv st) (kf : ¬ y < x → gG E p l e R s m args below meth c A nL kc ks Q ws pc' lv st) : gG E p l e R s m args below meth c A nL kc ks Q ws pc lv (.int (iI y) :: .int (iI x) :: st) := by
  subst hp
  exact fun H locs ls hP hD hS hl => lv_icmp_gt C.1 C.2.1 hd ht (fun h => kt ((iI_lt hy hx).mp h) H locs ls hP hD hS hl) (fun h => kf (fun z => h ((iI_lt hy hx).mpr z)) H locs ls hP hD hS hl)
theorem g_icmp_le (C : gC E p s m args meth c cc nL own ret A) {off : Int} {x y : Int} (hd : decode cc pc = .ok (.if_icmp .le off, 3)) (tgt : Nat) (ht : (pc : Int) + off = (tgt : Int)) (hp : pc + 3 = pc') (hx : -2147483648 ≤ x ∧ x ≤ 2147483647) (hy : -2147483648 ≤ y ∧ y ≤ 2147483647) (kt : x ≤ y → gG E p l e R s m args below meth c A nL kc ks Q ws tgt lv st) (kf : ¬ x ≤ y → gG E p l e R s m args below meth c A nL kc ks Q ws pc' lv st) : gG E p l e R s m args below meth c A nL kc ks Q ws pc lv (.int (iI y) :: .int (iI x) :: st) := by
  subst hp
  exact fun H locs ls hP hD hS hl => lv_icmp_le C.1 C.2.1 hd ht (fun h => kt ((iI_le hx hy).mp h) H locs ls hP hD hS hl) (fun h => kf (fun z => h ((iI_le hx hy).mpr z)) H locs ls hP hD hS hl)
theorem g_if_gt (C : gC E p s m args meth c cc nL own ret A) {off : Int} {x : Int} (hd : decode cc pc = .ok (.ifCond .gt off, 3)) (tgt : Nat) (ht : (pc : Int) + off = (tgt : Int)) (hp : pc + 3 = pc') (hx : -2147483648 ≤ x ∧ x ≤ 2147483647) (kt : 0 < x → gG E p l e R s m args below meth c A nL kc ks Q ws tgt lv st) (kf : ¬ 0 < x → gG E p l e R s m args below meth c A nL kc ks Q ws pc' lv st) : gG E p l e R s m args below meth c A nL kc ks Q ws pc lv (.int (iI x) :: st) := by
  subst hp
  exact fun H locs ls hP hD hS hl => lv_if_gt C.1 C.2.1 hd ht (fun h => kt ((iI_lt (a := 0) (by omega) hx).mp h) H locs ls hP hD hS hl) (fun h => kf (fun z => h ((iI_lt (a := 0) (by omega) hx).mpr z)) H locs ls hP hD hS hl)
/-! switches -/
theorem g_tableIn (C : gC E p s m args meth c cc nL own ret A) {dflt lo hi : Int} {offs : Array Int} {len : Nat} {x : Int} {off : Int} (hd : decode cc pc = .ok (.tableswitch dflt lo hi offs, len)) (tgt : Nat) (v : Int) (hv : x = v) (hx : -2147483648 ≤ v ∧ v ≤ 2147483647) (h1 : ¬ v < lo) (h2 : ¬ hi < v) (ho : offs[(v - lo).toNat]? = some off) (ht : (pc : Int) + off = (tgt : Int)) (kk : gG E p l e R s m args below meth c A nL kc ks Q ws tgt lv st) : gG E p l e R s m args below meth c A nL kc ks Q ws pc lv (.int (iI x) :: st) := by
  subst hv
  exact fun H locs ls hP hD hS hl => lv_tableIn C.1 C.2.1 hd (by rw [iI_toInt hx]; exact h1) (by rw [iI_toInt hx]; exact h2) (by rw [iI_toInt hx]; exact ho) ht (kk H locs ls hP hD hS hl)
theorem g_tableOut (C : gC E p s m args meth c cc nL own ret A) {dflt lo hi : Int} {offs : Array Int} {len : Nat} {x : Int} (hd : decode cc pc = .ok (.tableswitch dflt lo hi offs, len)) (tgt : Nat) (hx : -2147483648 ≤ x ∧ x ≤ 2147483647) (h : x < lo ∨ hi < x) (ht : (pc : Int) + dflt = (tgt : Int)) (kk : gG E p l e R s m args below meth c A nL kc ks Q ws tgt lv st) : gG E p l e R s m args below meth c A nL kc ks Q ws pc lv (.int (iI x) :: st) :=
  fun H locs ls hP hD hS hl => lv_tableOut C.1 C.2.1 hd (by rw [iI_toInt hx]; exact h) ht (kk H locs ls hP hD hS hl)
/-! fields and arrays -/
theorem g_get (C : gC E p s m args meth c cc nL own ret A) {ref Cn : String} {T : u_T} {N ci index : Nat} {a : Nat} (hin : ∀ w ∈ u_ws Cn T N, w ∈ lw_g) (q0 : Nat) {fs : List Value} (he : ws[q0]? = some (a, .inr (ci, fs))) (hc : vwCl[ci]? = some (Cn, T, N)) (k : Nat) (hk : k < N) (hlink : Cond.fieldLink own index ref (T k).2.1 (T k).2.2.1 ∈ lw_g) (hsame : (T k).1 = ref ∨ Cond.sameField ref (T k).1 (T k).2.1 (T k).2.2.1 ∈ lw_g) {v : Value} (hv : fs[k]? = some v) (hd : decode cc pc = .ok (.getfield index, 3)) (hp : pc + 3 = pc')
    (kk : gG E p l e R s m args below meth c A nL kc ks Q ws pc' lv (v :: st)) : gG E p l e R s m args below meth c A nL kc ks Q ws pc lv (.ref a :: st) := by
  subst hp
  obtain ⟨hx, hb, -, hown, hts, hK, -⟩ := C
  exact fun H locs ls hP hD hS hl => va_get hx hb hts hin hown hK hP q0 he hc k hk (hts _ hlink) (by
    rcases hsame with h | h
    · rw [← h]; exact fun _ z => z
    · exact fun x z => u_same (hts _ h) x z) hv hd (kk H locs ls hP hD hS hl)
theorem g_getN (C : gC E p s m args meth c cc nL own ret A) {T : u_T} {N ci index : Nat} {a : Nat} {Cn : String} (ho : own = "FloodWardensModel") (hin : ∀ w ∈ u_ws Cn T N, w ∈ lw_g) (q0 : Nat) {fs : List Value} (he : ws[q0]? = some (a, .inr (ci, fs))) (hc : vwCl[ci]? = some (Cn, T, N)) (k : Nat) (hk : k < N) (hlink : (index, (T k).2.1, (T k).2.2.1) ∈ gNF) (hT : (T k).1 = "FloodWardensModel$State") {v : Value} (hv : fs[k]? = some v) (hd : decode cc pc = .ok (.getfield index, 3)) (hp : pc + 3 = pc')
    (kk : gG E p l e R s m args below meth c A nL kc ks Q ws pc' lv (v :: st)) : gG E p l e R s m args below meth c A nL kc ks Q ws pc lv (.ref a :: st) := by
  subst hp; subst ho
  obtain ⟨hx, hb, -, hown, hts, hK, hN, -⟩ := C
  exact fun H locs ls hP hD hS hl => va_getN hx hb hts hin hown hK hP q0 he hc k hk (va_Nw.use rfl (hN.1 _ hlink)) (by rw [hT]; exact fun _ z => z) hv hd (kk H locs ls hP hD hS hl)
theorem g_put (C : gC E p s m args meth c cc nL own ret A) {ref Cn : String} {T : u_T} {N ci index : Nat} {a : Nat} (hin : ∀ w ∈ u_ws Cn T N, w ∈ lw_g) (ty0 : Nat → FieldType) (hty : ∀ k, k < N → parseFieldDescriptor (T k).2.2.1 = some (ty0 k)) (hnm : ∀ a, a < N → ∀ b, b < N → a ≠ b → (T a).2.1 ≠ (T b).2.1) (q0 : Nat) {fs : List Value} (he : ws[q0]? = some (a, .inr (ci, fs))) (hc : vwCl[ci]? = some (Cn, T, N)) (k : Nat) (hk : k < N) (hlink : Cond.fieldLink own index ref (T k).2.1 (T k).2.2.1 ∈ lw_g) (hsame : (T k).1 = ref ∨ Cond.sameField ref (T k).1 (T k).2.1 (T k).2.2.1 ∈ lw_g) (hfin : (T k).2.2.2 = false) {ty : FieldType} {v : Value} (hdn : parseFieldDescriptor (T k).2.2.1 = some ty) (hn : narrow ty v = v) (hfit : fits ty v = true) (hl : k < fs.length) (hw : ws.set q0 (a, .inr (ci, fs.set k v)) = ws') (hd : decode cc pc = .ok (.putfield index, 3)) (hp : pc + 3 = pc')
    (kk : gG E p l e R s m args below meth c A nL kc ks Q ws' pc' lv st) : gG E p l e R s m args below meth c A nL kc ks Q ws pc lv (v :: .ref a :: st) := by
  subst hp; subst hw
  obtain ⟨hx, hb, -, hown, hts, hK, -⟩ := C
  exact fun H locs ls hP hD hS h => va_put hx hb hts hin ty0 hty hnm hown hK hP hD hS q0 he hc k hk (hts _ hlink) (by
    rcases hsame with h | h
    · rw [← h]; exact fun _ z => z
    · exact fun x z => u_same (hts _ h) x z) hfin hdn hn hfit hl hd (fun H1 locs1 hP hD hS => kk H1 locs1 ls hP hD hS h)
theorem g_putN (C : gC E p s m args meth c cc nL own ret A) {T : u_T} {N ci index : Nat} {a : Nat} {Cn : String} (ho : own = "FloodWardensModel") (hin : ∀ w ∈ u_ws Cn T N, w ∈ lw_g) (ty0 : Nat → FieldType) (hty : ∀ k, k < N → parseFieldDescriptor (T k).2.2.1 = some (ty0 k)) (hnm : ∀ a, a < N → ∀ b, b < N → a ≠ b → (T a).2.1 ≠ (T b).2.1) (q0 : Nat) {fs : List Value} (he : ws[q0]? = some (a, .inr (ci, fs))) (hc : vwCl[ci]? = some (Cn, T, N)) (k : Nat) (hk : k < N) (hlink : (index, (T k).2.1, (T k).2.2.1) ∈ gNF) (hT : (T k).1 = "FloodWardensModel$State") (hfin : (T k).2.2.2 = false) {ty : FieldType} {v : Value} (hdn : parseFieldDescriptor (T k).2.2.1 = some ty) (hn : narrow ty v = v) (hfit : fits ty v = true) (hl : k < fs.length) (hw : ws.set q0 (a, .inr (ci, fs.set k v)) = ws') (hd : decode cc pc = .ok (.putfield index, 3)) (hp : pc + 3 = pc')
    (kk : gG E p l e R s m args below meth c A nL kc ks Q ws' pc' lv st) : gG E p l e R s m args below meth c A nL kc ks Q ws pc lv (v :: .ref a :: st) := by
  subst hp; subst hw; subst ho
  obtain ⟨hx, hb, -, hown, hts, hK, hN, -⟩ := C
  exact fun H locs ls hP hD hS h => va_putN hx hb hts hin ty0 hty hnm hown hK hP hD hS q0 he hc k hk (va_Nw.use rfl (hN.1 _ hlink)) (by rw [hT]; exact fun _ z => z) hfin hdn hn hfit hl hd (fun H1 locs1 hP hD hS => kk H1 locs1 ls hP hD hS h)
theorem g_iald (C : gC E p s m args meth c cc nL own ret A) {n : Nat} {f : Int → Int} {i : Int} {a : Nat} (hd : decode cc pc = .ok (.iaload, 1)) (hp : pc + 1 = pc') (q0 : Nat) (he : ws[q0]? = some (a, ca E n f)) (hin : 0 ≤ i ∧ i < (n : Int)) (hn : n ≤ 2147483647)
    (kk : gG E p l e R s m args below meth c A nL kc ks Q ws pc' lv (.int (iI (f i)) :: st)) : gG E p l e R s m args below meth c A nL kc ks Q ws pc lv (.int (iI i) :: .ref a :: st) := by
  subst hp
  obtain ⟨hx, hb, -, hown, hts, hK, -⟩ := C
  intro H locs ls hP hD hS hl
  refine va_iald hx hb hK hP q0 0 he rfl (iI_in hin hn) hd ?_
  rw [iI_clamp (by omega), show ((i.toNat : Nat) : Int) = i by omega]
  exact kk H locs ls hP hD hS hl
theorem g_zald (C : gC E p s m args meth c cc nL own ret A) {n : Nat} {f : Int → Int} {i : Int} {a : Nat} (hd : decode cc pc = .ok (.baload, 1)) (hp : pc + 1 = pc') (q0 : Nat) (he : ws[q0]? = some (a, cz E n f)) (hin : 0 ≤ i ∧ i < (n : Int)) (hn : n ≤ 2147483647)
    (kk : gG E p l e R s m args below meth c A nL kc ks Q ws pc' lv (.int (iI (f i)) :: st)) : gG E p l e R s m args below meth c A nL kc ks Q ws pc lv (.int (iI i) :: .ref a :: st) := by
  subst hp
  obtain ⟨hx, hb, -, hown, hts, hK, -⟩ := C
  intro H locs ls hP hD hS hl
  refine va_zald hx hb hK hP q0 1 he rfl (iI_in hin hn) hd ?_
  rw [iI_clamp (by omega), show ((i.toNat : Nat) : Int) = i by omega]
  exact kk H locs ls hP hD hS hl
theorem g_iast (C : gC E p s m args meth c cc nL own ret A) {n : Nat} {f : Int → Int} {i x : Int} {a : Nat} (hd : decode cc pc = .ok (.iastore, 1)) (hp : pc + 1 = pc') (q0 : Nat) (he : ws[q0]? = some (a, ca E n f)) (hin : 0 ≤ i ∧ i < (n : Int)) (hn : n ≤ 2147483647) (hw : ws.set q0 (a, ca E n (fset f i x)) = ws')
    (kk : gG E p l e R s m args below meth c A nL kc ks Q ws' pc' lv st) : gG E p l e R s m args below meth c A nL kc ks Q ws pc lv (.int (iI x) :: .int (iI i) :: .ref a :: st) := by
  subst hp; subst hw
  obtain ⟨hx, hb, -, hown, hts, hK, -⟩ := C
  intro H locs ls hP hD hS hl
  refine va_iast hx hb hK hP hD hS q0 0 he rfl (iI_in hin hn) hd (fun H1 locs1 hP hD hS => ?_)
  rw [iI_upd (by omega)] at hP hD
  exact kk H1 locs1 ls hP hD hS hl
theorem g_zast (C : gC E p s m args meth c cc nL own ret A) {n : Nat} {f : Int → Int} {i x : Int} {a : Nat} (hd : decode cc pc = .ok (.bastore, 1)) (hp : pc + 1 = pc') (q0 : Nat) (he : ws[q0]? = some (a, cz E n f)) (hin : 0 ≤ i ∧ i < (n : Int)) (hn : n ≤ 2147483647) (hb01 : x = 0 ∨ x = 1) (hw : ws.set q0 (a, cz E n (fset f i x)) = ws')
    (kk : gG E p l e R s m args below meth c A nL kc ks Q ws' pc' lv st) : gG E p l e R s m args below meth c A nL kc ks Q ws pc lv (.int (iI x) :: .int (iI i) :: .ref a :: st) := by
  subst hp; subst hw
  obtain ⟨hx, hb, -, hown, hts, hK, -⟩ := C
  intro H locs ls hP hD hS hl
  refine va_zast hx hb hK hP hD hS q0 1 he rfl (iI_in hin hn) hd (fun H1 locs1 hP hD hS => ?_)
  have e9 : vp_nar .boolean (iI x) = iI x := by rcases hb01 with rfl | rfl <;> rfl
  rw [e9, iI_upd (by omega)] at hP hD
  exact kk H1 locs1 ls hP hD hS hl
end GR
end
section
/-! calls, ends, makings -/
section GA
variable {E : gE} {p : Program} {l : Launch} {e : Env} {R : Room} {s : State} {m : MethodId} {args : Array Value} {below : List Frame} {meth : Method} {c : Code} {A : Nat → Prop} {nL kc ks : Nat} {Q : State → Prop} {ws ws' : va_W} {pc pc' : Nat} {lv lv' : List (Nat × Value)} {st : List Value}
variable {cc : ByteArray} {own : String} {ret : Option FieldType}
/-- behind a call: the callee's world beside the rest -/
theorem g_behind {mc ms : Nat} {rest : List Value} {w0 w1 wr : va_W} {rv : Option Value} {a9 : Array Value} (C : gC E p s m args meth c cc nL own ret A) {H : Heap} {locs : List Loc} {ls : Array Slot} (hP : va_P E.1 vwCl (w0 ++ wr) H) (hD : va_D A (w0 ++ wr)) (hS : va_S A s.heap H locs) (hl : lv_has ls nL lv) {st0 : List Value}
    (hr : va_Run p l e R s m args below meth c H locs kc ks mc ms (F0 m pc ls st0) rest (gQ E w0 H.size rv w1 a9) (va_A w0 H.size))
    (kk : gG E p l e R s m args below meth c A nL (kc + mc) (ks + ms) Q (w1 ++ wr) (pc + 3) lv (rv.toList ++ rest)) : W p l e R s m args below meth c H locs kc ks Q (F0 m pc ls st0) := by
  obtain ⟨hx, hb, hml, hown, hts, hK, hN, hA, hrt, hlk⟩ := C
  have hF : ∀ q, va_A w0 H.size q → A q := by
    intro q h
    rcases h with ⟨k, e, h⟩ | h
    · have hlt := (List.getElem?_eq_some_iff.mp h).1
      exact hD.2 k (q, e) (by rw [List.getElem?_append_left hlt]; exact h)
    · exact hA q (Nat.le_trans hS.1 h)
  intro T hT X
  obtain ⟨v, st₀, t, T', L, h0, X', hL, e1, e2, ⟨⟨hv, hP1, hD1⟩, hz, hk⟩, stp⟩ := hr T hT X
  cases hv
  rw [h0] at hz hk
  rw [← e1] at hz hk hP1
  have apart : ∀ (k : Nat) (q : Nat × va_E), wr[k]? = some q → q.1 < H.size ∧ ¬ va_A w0 H.size q.1 := by
    intro k q hq
    have hq' : (w0 ++ wr)[w0.length + k]? = some q := by rw [List.getElem?_append_right (by omega)]; simpa using hq
    have hlt := (hP _ q hq').lt
    refine ⟨hlt, fun h => ?_⟩
    rcases h with ⟨k2, e9, h⟩ | h
    · have hlt2 := (List.getElem?_eq_some_iff.mp h).1
      have := hD.1 (w0.length + k) k2 q (q.1, e9) hq' (by rw [List.getElem?_append_left hlt2]; exact h) rfl
      omega
    · omega
  have hPr : va_P E.1 vwCl wr T'.heap := by
    intro k q hq
    have hq' : (w0 ++ wr)[w0.length + k]? = some q := by rw [List.getElem?_append_right (by omega)]; simpa using hq
    obtain ⟨g1, g2⟩ := apart k q hq
    exact (hP _ q hq').kept (hk q.1 g1 g2)
  have hDr : va_D A wr := by
    refine ⟨fun i j x y hi hj hxy => ?_, fun k q hq => ?_⟩
    · have := hD.1 (w0.length + i) (w0.length + j) x y (by rw [List.getElem?_append_right (by omega)]; simpa using hi) (by rw [List.getElem?_append_right (by omega)]; simpa using hj) hxy
      omega
    · exact hD.2 (w0.length + k) q (by rw [List.getElem?_append_right (by omega)]; simpa using hq)
  have hP2 : va_P E.1 vwCl (w1 ++ wr) T'.heap := va_P.app hP1 hPr
  have hD2 : va_D A (w1 ++ wr) := va_D.app (hD1.weaken (fun k q _ h => hF q.1 h)) hDr (fun i j x y hi hj hxy => (apart j y hj).2 (by rw [← hxy]; exact hD1.2 i x hi))
  have hS2 : va_S A s.heap T'.heap (locs ++ L) := ⟨Nat.le_trans hS.1 hz, fun q h1 h2 => by rw [hk q (Nat.lt_of_lt_of_le h1 hS.1) (fun z => h2 (hF q z))]; exact hS.2.1 q h1 h2, fun q hq => by
    rcases List.mem_append.mp hq with h | h
    · exact hS.2.2 q h
    · exact hF _ (hL q h)⟩
  obtain ⟨t2, a1, b1⟩ := kk T'.heap (locs ++ L) ls hP2 hD2 hS2 hl T' rfl X'
  exact ⟨t2, stp t2 a1, b1⟩
theorem g_preS {E : gE} {s : State} {H : Heap} {w0 : va_W} {av : List Value} {A : Nat → Prop} (hP : va_P E.1 vwCl w0 H) (hD : va_D A w0) (hK : va_K E.1 vwCl (gT E) s) (hN : gN s) : ∀ U : State, U.heap = H → s.WarmedH U.vm → gP E w0 H.size av av.toArray U :=
  fun U hU hW => ⟨rfl, by rw [hU], by rw [hU]; exact hP, hD.weaken (fun _ _ _ _ => trivial), va_K.moved hW.alike hK, gN.warm hW hN⟩
theorem g_dl {A : Nat → Prop} {w0 wr : va_W} (hD : va_D A (w0 ++ wr)) : va_D A w0 := by
  refine ⟨fun i j x y hi hj hxy => ?_, fun k q hq => ?_⟩
  · have h1 := (List.getElem?_eq_some_iff.mp hi).1
    have h2 := (List.getElem?_eq_some_iff.mp hj).1
    exact hD.1 i j x y (by rw [List.getElem?_append_left h1]; exact hi) (by rw [List.getElem?_append_left h2]; exact hj) hxy
  · have h1 := (List.getElem?_eq_some_iff.mp hq).1
    exact hD.2 k q (by rw [List.getElem?_append_left h1]; exact hq)
theorem g_pl {D : va_G} {cl : List vw_C} {H : Heap} {w0 wr : va_W} (hP : va_P D cl (w0 ++ wr) H) : va_P D cl w0 H := by
  intro k q hq
  have h1 := (List.getElem?_eq_some_iff.mp hq).1
  exact hP k q (by rw [List.getElem?_append_left h1]; exact hq)
/-- what a call asks of the words -/
theorem g_cb {y : MethodName} {bytes : ByteArray} {maxL n index : Nat} {ry : Option FieldType} {rm : Room} (hm : gM y bytes maxL ry n) (hlink : Cond.methodLink own index y ∈ lw_g) (hts : ∀ w ∈ lw_g, w.before args s = true) (hR : rm.frames + 1 ≤ R.frames ∧ 8 + (maxL + 11) + rm.locals ≤ R.locals) :
    CallB R s args own index y bytes maxL ry (gW y bytes maxL ry) rm rm.cells rm.slots n := by
  obtain ⟨h1, h2, h3, h4, h5⟩ := hm
  refine ⟨rfl, rfl, hR.1, hR.2, pay_in (big := Cond.code y bytes maxL ry :: lw_g) (fun w hw => (List.mem_cons.mp hw).elim (fun z => by rw [z]; exact hts _ h1) (hts w)) (lg_good h1), List.mem_cons_self, hts _ h1, hts _ h2, h3, fun sig h => ?_, hts _ hlink⟩
  rw [h] at h4
  exact (Option.some.inj h4).symm
theorem g_callV (C : gC E p s m args meth c cc nL own ret A) {y : MethodName} {bytes : ByteArray} {maxL n index : Nat} {ry : Option FieldType} {rm : Room} {b : Addr} {As rest : List Value} {w0 w1 : va_W} {rv : Option Value} (wr : va_W) (hK9 : gK l E y bytes maxL ry rm (.ref b :: As) w0 rv w1) (hm : gM y bytes maxL ry n) (hi : Cond.instanceMethod y ∈ lw_g ∧ Cond.selects y.cls y y ∈ lw_g) (hlink : Cond.methodLink own index y ∈ lw_g)
    (q0 ci : Nat) {fs : List Value} {q : vw_C} (he : w0[q0]? = some (b, .inr (ci, fs))) (hc : vwCl[ci]? = some q) (hq : q.1 = y.cls) (hn : As.length = n) (hst : st = As.reverse ++ .ref b :: rest) (hW : (rest.map fun v => v.category).sum ≤ 8) (hR : rm.frames + 1 ≤ R.frames ∧ 8 + (maxL + 11) + rm.locals ≤ R.locals) (hf : kc + rm.cells ≤ R.cells ∧ ks + rm.slots ≤ R.slots) (hw : ws = w0 ++ wr) (hd : decode cc pc = .ok (.invokevirtual index, 3)) (hp : pc + 3 = pc')
    (kk : gG E p l e R s m args below meth c A nL (kc + rm.cells) (ks + rm.slots) Q (w1 ++ wr) pc' lv (rv.toList ++ rest)) : gG E p l e R s m args below meth c A nL kc ks Q ws pc lv st := by
  subst hp; subst hw; subst hst
  intro H locs ls hP hD hS hl
  obtain ⟨hx, hb, hml, hown, hts, hK, hN, hA, hrt, hlk⟩ := id C
  refine g_behind C hP hD hS hl (va_runV (Ts := lw_g) (nL := nL) (cc := cc) ⟨hx, hb, hml, hown, hts⟩ (hK9 H.size) ⟨g_cb hm hlink hts hR, hts _ hi.1, hts _ hi.2⟩ ⟨gP_blind, ?_, g_preS (g_pl hP) (g_dl hD) hK hN⟩ rfl hn hl.1 rfl ?_ hd hf) kk
  · rw [← hq]; exact va_recv hK (g_pl hP) hc he
  · show 2 * 0 + _ ≤ 8
    omega
theorem g_callS (C : gC E p s m args meth c cc nL own ret A) {y : MethodName} {bytes : ByteArray} {maxL n index : Nat} {ry : Option FieldType} {rm : Room} {As rest : List Value} {w0 w1 : va_W} {rv : Option Value} (wr : va_W) (hK9 : gK l E y bytes maxL ry rm As w0 rv w1) (hm : gM y bytes maxL ry n) (hi : Cond.static y ∈ lw_g) (hlink : Cond.methodLink own index y ∈ lw_g)
    (hn : As.length = n) (hst : st = As.reverse ++ rest) (hW : (rest.map fun v => v.category).sum ≤ 8) (hR : rm.frames + 1 ≤ R.frames ∧ 8 + (maxL + 11) + rm.locals ≤ R.locals) (hf : kc + rm.cells ≤ R.cells ∧ ks + rm.slots ≤ R.slots) (hw : ws = w0 ++ wr) (hd : decode cc pc = .ok (.invokestatic index, 3)) (hp : pc + 3 = pc')
    (kk : gG E p l e R s m args below meth c A nL (kc + rm.cells) (ks + rm.slots) Q (w1 ++ wr) pc' lv (rv.toList ++ rest)) : gG E p l e R s m args below meth c A nL kc ks Q ws pc lv st := by
  subst hp; subst hw; subst hst
  intro H locs ls hP hD hS hl
  obtain ⟨hx, hb, hml, hown, hts, hK, hN, hA, hrt, hlk⟩ := id C
  refine g_behind C hP hD hS hl (va_runS (Ts := lw_g) (nL := nL) (cc := cc) ⟨hx, hb, hml, hown, hts⟩ (hK9 H.size) ⟨g_cb hm hlink hts hR, hts _ hi⟩ ⟨gP_blind, g_preS (g_pl hP) (g_dl hD) hK hN⟩ rfl hn hl.1 rfl ?_ hd hf) kk
  show 2 * 0 + _ ≤ 8
  omega
theorem g_callI (C : gC E p s m args meth c cc nL own ret A) {y : MethodName} {bytes : ByteArray} {maxL n index : Nat} {rm : Room} {b : Addr} {As rest : List Value} {w0 w1 : va_W} {rv : Option Value} (wr : va_W) (hK9 : gK l E y bytes maxL none rm (.ref b :: As) w0 rv w1) (hm : gM y bytes maxL none n) (hi : Cond.instanceMethod y ∈ lw_g) (hy : y.name = "<init>") (hlink : Cond.methodLink own index y ∈ lw_g)
    (hn : As.length = n) (hst : st = As.reverse ++ .ref b :: rest) (hW : (rest.map fun v => v.category).sum ≤ 8) (hR : rm.frames + 1 ≤ R.frames ∧ 8 + (maxL + 11) + rm.locals ≤ R.locals) (hf : kc + rm.cells ≤ R.cells ∧ ks + rm.slots ≤ R.slots) (hw : ws = w0 ++ wr) (hd : decode cc pc = .ok (.invokespecial index, 3)) (hp : pc + 3 = pc')
    (kk : gG E p l e R s m args below meth c A nL (kc + rm.cells) (ks + rm.slots) Q (w1 ++ wr) pc' lv (rv.toList ++ rest)) : gG E p l e R s m args below meth c A nL kc ks Q ws pc lv st := by
  subst hp; subst hw; subst hst
  intro H locs ls hP hD hS hl
  obtain ⟨hx, hb, hml, hown, hts, hK, hN, hA, hrt, hlk⟩ := id C
  refine g_behind C hP hD hS hl (va_runI (Ts := lw_g) (nL := nL) (cc := cc) ⟨hx, hb, hml, hown, hts⟩ (hK9 H.size) ⟨g_cb hm hlink hts hR, hy, hts _ hi⟩ ⟨gP_blind, g_preS (g_pl hP) (g_dl hD) hK hN⟩ rfl hn hl.1 rfl ?_ hd hf) kk
  show 2 * 0 + _ ≤ 8
  omega
/-- a private constructor of a nest mate -/
theorem g_callIN (C : gC E p s m args meth c cc nL own ret A) {y : MethodName} {bytes : ByteArray} {maxL n index : Nat} {rm : Room} {b : Addr} {As rest : List Value} {w0 w1 : va_W} {rv : Option Value} (host : String) (wr : va_W) (hK9 : gK l E y bytes maxL none rm (.ref b :: As) w0 rv w1) (hm : gM y bytes maxL none n) (hi : Cond.instanceMethod y ∈ lw_g) (hy : y.name = "<init>") (hlink : (own, index, y.cls, host) ∈ gNM ∧ y = ⟨y.cls, "<init>", "()V"⟩)
    (hn : As.length = n) (hst : st = As.reverse ++ .ref b :: rest) (hW : (rest.map fun v => v.category).sum ≤ 8) (hR : rm.frames + 1 ≤ R.frames ∧ 8 + (maxL + 11) + rm.locals ≤ R.locals) (hf : kc + rm.cells ≤ R.cells ∧ ks + rm.slots ≤ R.slots) (hw : ws = w0 ++ wr) (hd : decode cc pc = .ok (.invokespecial index, 3)) (hp : pc + 3 = pc')
    (kk : gG E p l e R s m args below meth c A nL (kc + rm.cells) (ks + rm.slots) Q (w1 ++ wr) pc' lv (rv.toList ++ rest)) : gG E p l e R s m args below meth c A nL kc ks Q ws pc lv st := by
  subst hp; subst hw; subst hst
  intro H locs ls hP hD hS hl
  obtain ⟨hx, hb, hml, hown, hts, hK, hN, hA, hrt, hlk⟩ := id C
  have hnl : (Cond.methodLinkNest own index y host).before args s = true := by
    have h9 := hN.2 _ hlink.1
    rw [hlink.2]
    exact va_Nw.use rfl h9
  obtain ⟨h1, h2, h3, h4, h5⟩ := hm
  refine g_behind C hP hD hS hl (va_runIN (Ts := lw_g) (nL := nL) (cc := cc) (host := host) (n := n) ⟨hx, hb, hml, hown, hts⟩ (hK9 H.size) ⟨⟨⟨rfl, rfl, hR.1, hR.2, pay_in (big := Cond.code y bytes maxL none :: lw_g) (fun w hw => (List.mem_cons.mp hw).elim (fun z => by rw [z]; exact hts _ h1) (hts w)) (lg_good h1), List.mem_cons_self⟩, hts _ h1, hts _ h2, h3, fun sig h => ?_, hnl⟩, hy, hts _ hi⟩ ⟨gP_blind, g_preS (g_pl hP) (g_dl hD) hK hN⟩ rfl hn hl.1 rfl ?_ hd hf) kk
  · rw [h] at h4
    exact (Option.some.inj h4).symm
  · show 2 * 0 + _ ≤ 8
    omega
/-- a method of the class above, on an object of a class below -/
theorem g_callU (C : gC E p s m args meth c cc nL own ret A) {x y : MethodName} {bytes : ByteArray} {maxL n index : Nat} {ry : Option FieldType} {rm : Room} {b : Addr} {As rest : List Value} {w0 w1 : va_W} {rv : Option Value} (owner Cn : String) (wr : va_W) (hK9 : gK l E y bytes maxL ry rm (.ref b :: As) w0 rv w1) (hm : gM y bytes maxL ry n) (hi : Cond.instanceMethod y ∈ lw_g ∧ Cond.selects Cn x y ∈ lw_g ∧ Cond.sameMethod x.cls owner x.name x.desc ∈ lw_g) (hyx : y = ⟨owner, x.name, x.desc⟩) (ho : owner ≠ "java/lang/invoke/MethodHandle" ∧ owner ≠ "java/lang/invoke/VarHandle") (hlink : Cond.methodLink own index x ∈ lw_g)
    (q0 ci : Nat) {fs : List Value} {q : vw_C} (he : w0[q0]? = some (b, .inr (ci, fs))) (hc : vwCl[ci]? = some q) (hq : q.1 = Cn) (hn : As.length = n) (hst : st = As.reverse ++ .ref b :: rest) (hW : (rest.map fun v => v.category).sum ≤ 8) (hR : rm.frames + 1 ≤ R.frames ∧ 8 + (maxL + 11) + rm.locals ≤ R.locals) (hf : kc + rm.cells ≤ R.cells ∧ ks + rm.slots ≤ R.slots) (hw : ws = w0 ++ wr) (hd : decode cc pc = .ok (.invokevirtual index, 3)) (hp : pc + 3 = pc')
    (kk : gG E p l e R s m args below meth c A nL (kc + rm.cells) (ks + rm.slots) Q (w1 ++ wr) pc' lv (rv.toList ++ rest)) : gG E p l e R s m args below meth c A nL kc ks Q ws pc lv st := by
  subst hp; subst hw; subst hst
  intro H locs ls hP hD hS hl
  obtain ⟨hx, hb, hml, hown, hts, hK, hN, hA, hrt, hlk⟩ := id C
  obtain ⟨h1, h2, h3, h4, h5⟩ := hm
  refine g_behind C hP hD hS hl (va_runU (Ts := lw_g) (nL := nL) (cc := cc) (C := Cn) (owner := owner) (n := n) ⟨hx, hb, hml, hown, hts⟩ (hK9 H.size) ⟨⟨rfl, rfl, hR.1, hR.2, pay_in (big := Cond.code y bytes maxL ry :: lw_g) (fun w hw => (List.mem_cons.mp hw).elim (fun z => by rw [z]; exact hts _ h1) (hts w)) (lg_good h1), List.mem_cons_self⟩, hts _ h1, hts _ h2, ho, fun sig h => ?_, hts _ hlink, hts _ hi.2.2, by rw [← hyx]; exact va_Decl.of (hts _ hi.1) (hts _ h1), hts _ hi.2.1, hts _ hi.1⟩ ⟨gP_blind, ?_, g_preS (g_pl hP) (g_dl hD) hK hN⟩ rfl hn hl.1 rfl ?_ hd hf) kk
  · have e9 : y.desc = x.desc := by rw [hyx]
    rw [e9, h] at h4
    exact (Option.some.inj h4).symm
  · rw [← hq]; exact va_recv hK (g_pl hP) hc he
  · show 2 * 0 + _ ≤ 8
    omega
/-! ends -/
theorem g_iret {pre w1 : va_W} {v : Int32} {rv : Option Value} {ty : FieldType} (C : gC E p s m args meth c cc nL own (some ty) (va_A pre s.heap.size)) (hn : narrow ty (.int v) = .int v) (hv : rv = some (.int v)) (hw : ws = w1) (hd : decode cc pc = .ok (.ireturn, 1)) : gG E p l e R s m args below meth c (va_A pre s.heap.size) nL kc ks (MQ below (gQ E pre s.heap.size rv w1) args s kc ks (va_A pre s.heap.size)) ws pc lv [.int v] := by
  subst hv; subst hw
  obtain ⟨hx, hb, hml, hown, hts, hK, hN, hA, hrt, hlk⟩ := C
  intro H locs ls hP hD hS hl
  exact W.zret hx hb hrt hn (fun t ht hW => ⟨⟨rfl, by rw [ht]; exact hP, hD⟩, hS.F ht⟩) hS.2.2 hd hlk
theorem g_vret {pre w1 : va_W} {rv : Option Value} (C : gC E p s m args meth c cc nL own none (va_A pre s.heap.size)) (hv : rv = none) (hw : ws = w1) (hd : decode cc pc = .ok (.return_, 1)) : gG E p l e R s m args below meth c (va_A pre s.heap.size) nL kc ks (MQ below (gQ E pre s.heap.size rv w1) args s kc ks (va_A pre s.heap.size)) ws pc lv [] := by
  subst hv; subst hw
  obtain ⟨hx, hb, hml, hown, hts, hK, hN, hA, hrt, hlk⟩ := C
  intro H locs ls hP hD hS hl
  exact W.vret hx hb hrt (fun t ht hW => ⟨⟨rfl, by rw [ht]; exact hP, hD⟩, hS.F ht⟩) hS.2.2 hd hlk
theorem g_lret {pre w1 : va_W} {v : Int64} {rv : Option Value} (C : gC E p s m args meth c cc nL own (some .long) (va_A pre s.heap.size)) (hv : rv = some (.long v)) (hw : ws = w1) (hd : decode cc pc = .ok (.lreturn, 1)) : gG E p l e R s m args below meth c (va_A pre s.heap.size) nL kc ks (MQ below (gQ E pre s.heap.size rv w1) args s kc ks (va_A pre s.heap.size)) ws pc lv [.long v] := by
  subst hv; subst hw
  obtain ⟨hx, hb, hml, hown, hts, hK, hN, hA, hrt, hlk⟩ := C
  intro H locs ls hP hD hS hl
  exact W.lret hx hb hrt (fun t ht hW => ⟨⟨rfl, by rw [ht]; exact hP, hD⟩, hS.F ht⟩) hS.2.2 hd hlk
theorem g_dret {pre w1 : va_W} {v : UInt64} {rv : Option Value} (C : gC E p s m args meth c cc nL own (some .double) (va_A pre s.heap.size)) (hv : rv = some (.double v)) (hw : ws = w1) (hd : decode cc pc = .ok (.dreturn, 1)) : gG E p l e R s m args below meth c (va_A pre s.heap.size) nL kc ks (MQ below (gQ E pre s.heap.size rv w1) args s kc ks (va_A pre s.heap.size)) ws pc lv [.double v] := by
  subst hv; subst hw
  obtain ⟨hx, hb, hml, hown, hts, hK, hN, hA, hrt, hlk⟩ := C
  intro H locs ls hP hD hS hl
  exact W.dret hx hb hrt (fun t ht hW => ⟨⟨rfl, by rw [ht]; exact hP, hD⟩, hS.F ht⟩) hS.2.2 hd hlk
/-- fewer cells: what was made is left behind -/
theorem g_drop {w1 : va_W} (wr : va_W) (hw : ws = w1 ++ wr) (kk : gG E p l e R s m args below meth c A nL kc ks Q w1 pc lv st) : gG E p l e R s m args below meth c A nL kc ks Q ws pc lv st := by
  subst hw
  exact fun H locs ls hP hD hS hl => kk H locs ls (g_pl hP) (g_dl hD) hS hl
/-! the library's own -/
theorem g_min (C : gC E p s m args meth c cc nL own ret A) {index : Nat} (hlink : Cond.methodLink own index Lib.Math.min.name ∈ lw_g) (hstat : Cond.static Lib.Math.min.name ∈ lw_g ∧ Cond.initialized "java/lang/Math" ∈ lw_g ∧ Cond.code Lib.Math.min.name Lib.Math.min.code 2 (some .int) ∈ lw_g) (hframes : 1 ≤ R.frames) (hlocals : (st.map fun v => v.category).sum + 13 ≤ R.locals) (hf : kc ≤ R.cells ∧ ks ≤ R.slots) {x y : Int} (hx : -2147483648 ≤ x ∧ x ≤ 2147483647) (hy : -2147483648 ≤ y ∧ y ≤ 2147483647) (hd : decode cc pc = .ok (.invokestatic index, 3)) (hp : pc + 3 = pc')
    (kk : gG E p l e R s m args below meth c A nL kc ks Q ws pc' lv (.int (iI (if y < x then y else x)) :: st)) : gG E p l e R s m args below meth c A nL kc ks Q ws pc lv (.int (iI y) :: .int (iI x) :: st) := by
  subst hp
  obtain ⟨hx1, hb, hml, hown, hts, hK, hN, hA, hrt, hlk⟩ := C
  intro H locs ls hP hD hS hl
  refine va_mmin hx1 hb (by rw [hml, hl.1]) hown (hts _ hlink) (hts _ hstat.1) (hts _ hstat.2.1) (hts _ hstat.2.2) hframes hlocals hf.1 hf.2 hd ?_
  have e9 : (if iI y < iI x then iI y else iI x) = iI (if y < x then y else x) := by
    by_cases h : y < x
    · rw [if_pos h, if_pos ((iI_lt hy hx).mpr h)]
    · rw [if_neg h, if_neg (fun z => h ((iI_lt hy hx).mp z))]
  rw [e9]
  exact kk H locs ls hP hD hS hl
theorem g_abs (C : gC E p s m args meth c cc nL own ret A) {index : Nat} (hlink : Cond.methodLink own index Lib.Math.abs.name ∈ lw_g) (hstat : Cond.static Lib.Math.abs.name ∈ lw_g ∧ Cond.initialized "java/lang/Math" ∈ lw_g ∧ Cond.code Lib.Math.abs.name Lib.Math.abs.code 1 (some .int) ∈ lw_g) (hframes : 1 ≤ R.frames) (hlocals : (st.map fun v => v.category).sum + 13 ≤ R.locals) (hf : kc ≤ R.cells ∧ ks ≤ R.slots) {x : Int} (hx : -2147483648 ≤ x ∧ x ≤ 2147483647) (hd : decode cc pc = .ok (.invokestatic index, 3)) (hp : pc + 3 = pc')
    (kk : gG E p l e R s m args below meth c A nL kc ks Q ws pc' lv (.int (iI (if 0 ≤ x then x else 0 - x)) :: st)) : gG E p l e R s m args below meth c A nL kc ks Q ws pc lv (.int (iI x) :: st) := by
  subst hp
  obtain ⟨hx1, hb, hml, hown, hts, hK, hN, hA, hrt, hlk⟩ := C
  intro H locs ls hP hD hS hl
  refine va_mabs hx1 hb (by rw [hml, hl.1]) hown (hts _ hlink) (hts _ hstat.1) (hts _ hstat.2.1) (hts _ hstat.2.2) hframes hlocals hf.1 hf.2 hd ?_
  have e9 : (if 0 ≤ iI x then iI x else 0 - iI x) = iI (if 0 ≤ x then x else 0 - x) := by
    have e0 : (0 ≤ iI x) = (iI 0 ≤ iI x) := rfl
    by_cases h : 0 ≤ x
    · rw [if_pos h, if_pos (by rw [e0]; exact (iI_le (by omega) hx).mpr h)]
    · rw [if_neg h, if_neg (fun z => h ((iI_le (by omega) hx).mp (by rw [← e0]; exact z)))]
      exact iI_sub 0 x
  rw [e9]
  exact kk H locs ls hP hD hS hl
theorem iI_cpy {f g : Int → Int} {n : Int} (h : 0 ≤ n ∧ n ≤ 2147483647) : va_cpy (fun j : Nat => iI (f (j : Int))) (fun j : Nat => iI (g (j : Int))) (iI 0).toNatClampNeg (iI 0).toNatClampNeg (iI n).toNatClampNeg = fun j : Nat => iI (fcpy f g n (j : Int)) := by
  rw [iI_clamp h, iI_clamp (a := 0) (by omega)]
  funext j
  simp only [va_cpy, fcpy, Int.toNat_zero, Nat.zero_add, Nat.zero_le, true_and, Nat.sub_zero]
  by_cases hj : j < n.toNat
  · rw [if_pos hj, if_pos (by omega)]
  · rw [if_neg hj, if_neg (by omega)]
theorem g_copy (C : gC E p s m args meth c cc nL own ret A) {index : Nat} (hlink : Cond.methodLink own index arraycopyName ∈ lw_g) (hstat : Cond.native arraycopyName ∈ lw_g ∧ Cond.static arraycopyName ∈ lw_g ∧ Cond.initialized "java/lang/System" ∈ lw_g) {n0 n1 : Nat} {f g : Int → Int} {a0 a : Nat} {n : Int} (q0 q1 : Nat) (he0 : ws[q0]? = some (a0, ca E n0 f)) (he1 : ws[q1]? = some (a, ca E n1 g)) (hn : 0 ≤ n ∧ n ≤ (n0 : Int) ∧ n ≤ (n1 : Int) ∧ n ≤ 2147483647) (hw : ws.set q1 (a, ca E n1 (fcpy f g n)) = ws')
    (hframes : 1 ≤ R.frames) (hlocals : (st.map fun v => v.category).sum + (nativeFrameWords "java/lang/System" "arraycopy" 5 + 11) ≤ R.locals) (hd : decode cc pc = .ok (.invokestatic index, 3)) (hp : pc + 3 = pc')
    (kk : gG E p l e R s m args below meth c A nL kc ks Q ws' pc' lv st) : gG E p l e R s m args below meth c A nL kc ks Q ws pc lv (.int (iI n) :: .int (iI 0) :: .ref a :: .int (iI 0) :: .ref a0 :: st) := by
  subst hp; subst hw
  obtain ⟨hx1, hb, hml, hown, hts, hK, hN, hA, hrt, hlk⟩ := C
  intro H locs ls hP hD hS hl
  have e0 : (iI 0).toNatClampNeg = 0 := rfl
  have en : (iI n).toNatClampNeg = n.toNat := iI_clamp (by omega)
  refine va_copyi hx1 hb (by rw [hml, hl.1]) hown (hts _ hlink) (hts _ hstat.1) (hts _ hstat.2.1) (hts _ hstat.2.2) hK hP hD hS q0 q1 0 0 he0 he1 rfl rfl rfl (by decide) (by decide) (by rw [iI_lt0 (by omega)]; omega) (by rw [e0, en]; omega) (by rw [e0, en]; omega) (fun _ _ => rfl) hframes hlocals hd (fun H1 locs1 hP hD hS => ?_)
  rw [iI_cpy (by omega)] at hP hD
  exact kk H1 locs1 ls hP hD hS hl
theorem g_objInit (C : gC E p s m args meth c cc nL own ret A) {idx : Nat} {a : Addr} (hlink : Cond.methodLink own idx Lib.objectInit ∈ lw_g) (hi : Cond.instanceMethod Lib.objectInit ∈ lw_g ∧ Cond.code Lib.objectInit ⟨#[0xb1]⟩ 1 none ∈ lw_g) (hframes : 1 ≤ R.frames) (hlocals : (st.map fun v => v.category).sum + 12 ≤ R.locals) (hd : decode cc pc = .ok (.invokespecial idx, 3)) (hp : pc + 3 = pc')
    (kk : gG E p l e R s m args below meth c A nL kc ks Q ws pc' lv st) : gG E p l e R s m args below meth c A nL kc ks Q ws pc lv (.ref a :: st) := by
  subst hp
  obtain ⟨hx1, hb, hml, hown, hts, hK, hN, hA, hrt, hlk⟩ := C
  intro H locs ls hP hD hS hl
  refine W.objInit hx1 hb hown (hts _ hlink) (hts _ hi.1) (hts _ hi.2) rfl (by rw [hml]; exact hl.1) rfl hd hframes (by show 2 * 0 + _ + 12 ≤ _; omega) ?_
  exact kk H locs ls hP hD hS hl
theorem g_alen (C : gC E p s m args meth c cc nL own ret A) {n : Nat} {f : Int → Int} {a : Nat} (q0 : Nat) (he : ws[q0]? = some (a, ca E n f)) (hd : decode cc pc = .ok (.arraylength, 1)) (hp : pc + 1 = pc')
    (kk : gG E p l e R s m args below meth c A nL kc ks Q ws pc' lv (.int (iI (n : Int)) :: st)) : gG E p l e R s m args below meth c A nL kc ks Q ws pc lv (.ref a :: st) := by
  subst hp
  obtain ⟨hx1, hb, hml, hown, hts, hK, hN, hA, hrt, hlk⟩ := C
  intro H locs ls hP hD hS hl
  exact va_alen hx1 hb hK hP q0 0 he rfl (v := iI (n : Int)) (by show Int32.ofNat n = Int32.ofInt n; rw [← Int32.ofInt_eq_ofNat]) hd (kk H locs ls hP hD hS hl)
theorem g_new (C : gC E p s m args meth c cc nL own ret A) {Cn : String} {T : u_T} {N ci index : Nat} (hin : ∀ w ∈ u_ws Cn T N, w ∈ lw_g) (ty : Nat → FieldType) (hty : ∀ k, k < N → parseFieldDescriptor (T k).2.2.1 = some (ty k)) (hcl : Cond.classLink own index Cn ∈ lw_g ∧ Cond.instantiable Cn N ∈ lw_g ∧ Cond.initialized Cn ∈ lw_g) (hc : vwCl[ci]? = some (Cn, T, N)) {fs : List Value} (hfs : ∀ j, j < N → defaultValue (ty j) = vp_V fs j) (hf : kc + 1 ≤ R.cells ∧ ks + N ≤ R.slots) (hd : decode cc pc = .ok (.new index, 3)) (hp : pc + 3 = pc')
    (kk : ∀ q : Nat, gG E p l e R s m args below meth c A nL (kc + 1) (ks + N) Q (ws ++ [(q, .inr (ci, fs))]) pc' lv (.ref q :: st)) : gG E p l e R s m args below meth c A nL kc ks Q ws pc lv st := by
  subst hp
  obtain ⟨hx1, hb, hml, hown, hts, hK, hN, hA, hrt, hlk⟩ := C
  intro H locs ls hP hD hS hl
  exact va_new hx1 hb hts hin ty hty hown (hts _ hcl.1) (hts _ hcl.2.1) (hts _ hcl.2.2) hK hP hD hS hA hc hfs hf.1 hf.2 hd (fun q H1 hP hD hS => kk q H1 locs ls hP hD hS hl)
/-- all arrays of a kind have one class -/
theorem g_newa (C : gC E p s m args meth c cc nL own ret A) {N : Nat} {n : Int} (harr : Cond.arrayClass .int ∈ lw_g) (hn : n = (N : Int)) (hN9 : N ≤ 100000000) (hf : kc + 1 ≤ R.cells ∧ ks + N ≤ R.slots) (hd : decode cc pc = .ok (.newarray .int, 2)) (hp : pc + 2 = pc')
    (kk : ∀ q : Nat, gG E p l e R s m args below meth c A nL (kc + 1) (ks + N) Q (ws ++ [(q, ca E N (fun _ => 0))]) pc' lv (.ref q :: st)) : gG E p l e R s m args below meth c A nL kc ks Q ws pc lv (.int (iI n) :: st) := by
  subst hp; subst hn
  obtain ⟨hx1, hb, hml, hown, hts, hK, hN, hA, hrt, hlk⟩ := C
  intro H locs ls hP hD hS hl
  refine va_newa (atype := .int) (ty := .int) (N' := N) (a0 := (N, .inl (fun _ => iI 0))) hx1 hb (hts _ harr) rfl hK hP hD hS hA (fun cA => rfl) (by rw [iI_lt0 (by omega)]; omega) (by rw [iI_clamp (by omega)]; omega) ?_ hf.1 hf.2 hd (fun q cA H1 hK2 hP hD hS => ?_)
  · show N * 4 ≤ 536870912
    omega
  · have e1 := (hK.2 0 _ rfl).2
    have e2 := (hK2.2 3 _ rfl).2
    have e3 : cA = E.2.1 := Option.some.inj ((show s.vm.findClass _ = some cA from e2).symm.trans (show s.vm.findClass _ = some E.2.1 from e1))
    subst e3
    exact kk q H1 locs ls hP hD hS hl
theorem g_newz (C : gC E p s m args meth c cc nL own ret A) {N : Nat} {n : Int} (harr : Cond.arrayClass .boolean ∈ lw_g) (hn : n = (N : Int)) (hN9 : N ≤ 100000000) (hf : kc + 1 ≤ R.cells ∧ ks + N ≤ R.slots) (hd : decode cc pc = .ok (.newarray .boolean, 2)) (hp : pc + 2 = pc')
    (kk : ∀ q : Nat, gG E p l e R s m args below meth c A nL (kc + 1) (ks + N) Q (ws ++ [(q, cz E N (fun _ => 0))]) pc' lv (.ref q :: st)) : gG E p l e R s m args below meth c A nL kc ks Q ws pc lv (.int (iI n) :: st) := by
  subst hp; subst hn
  obtain ⟨hx1, hb, hml, hown, hts, hK, hN, hA, hrt, hlk⟩ := C
  intro H locs ls hP hD hS hl
  refine va_newa (atype := .boolean) (ty := .boolean) (N' := N) (a0 := (N, .inl (fun _ => iI 0))) hx1 hb (hts _ harr) rfl hK hP hD hS hA (fun cA => rfl) (by rw [iI_lt0 (by omega)]; omega) (by rw [iI_clamp (by omega)]; omega) ?_ hf.1 hf.2 hd (fun q cA H1 hK2 hP hD hS => ?_)
  · show N * 1 ≤ 536870912
    omega
  · have e1 := (hK.2 1 _ rfl).2
    have e2 := (hK2.2 3 _ rfl).2
    have e3 : cA = E.2.2.1 := Option.some.inj ((show s.vm.findClass _ = some cA from e2).symm.trans (show s.vm.findClass _ = some E.2.2.1 from e1))
    subst e3
    exact kk q H1 locs ls hP hD hS hl
/-! loops -/
theorem g_up (N : Nat) (P : Nat → Prop) (hs : ∀ k, (k < N → P (k + 1)) → k ≤ N → P k) : ∀ k, k ≤ N → P k := by
  have key : ∀ d k, k ≤ N → N - k = d → P k := by
    intro d
    induction d with
    | zero => exact fun k hk h => hs k (fun z => absurd z (by omega)) hk
    | succ d ih => exact fun k hk h => hs k (fun z => ih (k + 1) (by omega) (by omega)) hk
  exact fun k hk => key (N - k) k hk rfl
end GA
end
