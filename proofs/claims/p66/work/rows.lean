section
-- ===== PART A: goes FIRST, ahead of the names: the tables' words, and 'selects' of the private methods out of them =====
/-- a private method of a class that the tables say can be made, by its rows of tables_1 -/
def lw_okq (q : MethodName × Nat) : Prop := (q.1.cls ≠ "java/lang/invoke/MethodHandle" ∧ q.1.cls ≠ "java/lang/invoke/VarHandle") ∧ Cond.instantiable q.1.cls q.2 ∈ tables_1 ∧ Cond.privateMethod q.1 ∈ tables_1 ∧ Cond.instanceMethod q.1 ∈ tables_1
theorem lw_p0 : lw_okq (⟨"java/lang/Throwable", "fillInStackTrace", "(I)Ljava/lang/Throwable;"⟩, 6) := ⟨⟨by decide +kernel, by decide +kernel⟩, List.mem_of_getElem? (i := 356) (by decide +kernel), List.mem_of_getElem? (i := 354) (by decide +kernel), List.mem_of_getElem? (i := 355) (by decide +kernel)⟩
theorem lw_p1 : lw_okq (⟨"CaseManager", "needCase", "(I)V"⟩, 12) := ⟨⟨by decide +kernel, by decide +kernel⟩, List.mem_of_getElem? (i := 35) (by decide +kernel), List.mem_of_getElem? (i := 413) (by decide +kernel), List.mem_of_getElem? (i := 414) (by decide +kernel)⟩
theorem lw_p2 : lw_okq (⟨"CaseManager", "needWitness", "(I)V"⟩, 12) := ⟨⟨by decide +kernel, by decide +kernel⟩, List.mem_of_getElem? (i := 35) (by decide +kernel), List.mem_of_getElem? (i := 479) (by decide +kernel), List.mem_of_getElem? (i := 480) (by decide +kernel)⟩
theorem lw_p3 : lw_okq (⟨"CaseManager", "needTestimony", "(II)V"⟩, 12) := ⟨⟨by decide +kernel, by decide +kernel⟩, List.mem_of_getElem? (i := 35) (by decide +kernel), List.mem_of_getElem? (i := 499) (by decide +kernel), List.mem_of_getElem? (i := 500) (by decide +kernel)⟩
theorem lw_p4 : lw_okq (⟨"CaseManager$Court", "rankOf", "(I)I"⟩, 17) := ⟨⟨by decide +kernel, by decide +kernel⟩, List.mem_of_getElem? (i := 43) (by decide +kernel), List.mem_of_getElem? (i := 549) (by decide +kernel), List.mem_of_getElem? (i := 550) (by decide +kernel)⟩
theorem lw_p5 : lw_okq (⟨"CaseManager$Court", "isMoreCredible", "(II)Z"⟩, 17) := ⟨⟨by decide +kernel, by decide +kernel⟩, List.mem_of_getElem? (i := 43) (by decide +kernel), List.mem_of_getElem? (i := 553) (by decide +kernel), List.mem_of_getElem? (i := 554) (by decide +kernel)⟩
theorem lw_p6 : lw_okq (⟨"CaseManager$Groups", "rootOf", "(I)I"⟩, 1) := ⟨⟨by decide +kernel, by decide +kernel⟩, List.mem_of_getElem? (i := 60) (by decide +kernel), List.mem_of_getElem? (i := 576) (by decide +kernel), List.mem_of_getElem? (i := 577) (by decide +kernel)⟩
theorem lw_p7 : lw_okq (⟨"CaseManager$Search", "reach", "(I)V"⟩, 3) := ⟨⟨by decide +kernel, by decide +kernel⟩, List.mem_of_getElem? (i := 177) (by decide +kernel), List.mem_of_getElem? (i := 593) (by decide +kernel), List.mem_of_getElem? (i := 594) (by decide +kernel)⟩
theorem lw_p8 : lw_okq (⟨"CaseManager$Search", "spreadFrom", "(ILCaseManager$Court;)V"⟩, 3) := ⟨⟨by decide +kernel, by decide +kernel⟩, List.mem_of_getElem? (i := 177) (by decide +kernel), List.mem_of_getElem? (i := 602) (by decide +kernel), List.mem_of_getElem? (i := 603) (by decide +kernel)⟩
theorem lw_p9 : lw_okq (⟨"CaseManager$Search", "reachAllOf", "(ILCaseManager$Court;)V"⟩, 3) := ⟨⟨by decide +kernel, by decide +kernel⟩, List.mem_of_getElem? (i := 177) (by decide +kernel), List.mem_of_getElem? (i := 607) (by decide +kernel), List.mem_of_getElem? (i := 608) (by decide +kernel)⟩
theorem lw_p10 : lw_okq (⟨"CaseManager$Docket", "insert", "(ILCaseManager$Court;)V"⟩, 2) := ⟨⟨by decide +kernel, by decide +kernel⟩, List.mem_of_getElem? (i := 160) (by decide +kernel), List.mem_of_getElem? (i := 716) (by decide +kernel), List.mem_of_getElem? (i := 717) (by decide +kernel)⟩
theorem lw_p11 : lw_okq (⟨"CaseManager", "doMarginsAgree", "()Z"⟩, 12) := ⟨⟨by decide +kernel, by decide +kernel⟩, List.mem_of_getElem? (i := 35) (by decide +kernel), List.mem_of_getElem? (i := 801) (by decide +kernel), List.mem_of_getElem? (i := 802) (by decide +kernel)⟩
theorem lw_p12 : lw_okq (⟨"CaseManager", "doSentencesAgree", "()Z"⟩, 12) := ⟨⟨by decide +kernel, by decide +kernel⟩, List.mem_of_getElem? (i := 35) (by decide +kernel), List.mem_of_getElem? (i := 805) (by decide +kernel), List.mem_of_getElem? (i := 806) (by decide +kernel)⟩
theorem lw_p13 : lw_okq (⟨"CaseManager", "doConnectionsAgree", "()Z"⟩, 12) := ⟨⟨by decide +kernel, by decide +kernel⟩, List.mem_of_getElem? (i := 35) (by decide +kernel), List.mem_of_getElem? (i := 809) (by decide +kernel), List.mem_of_getElem? (i := 810) (by decide +kernel)⟩
theorem lw_p14 : lw_okq (⟨"CaseManager", "doesDocketAgree", "()Z"⟩, 12) := ⟨⟨by decide +kernel, by decide +kernel⟩, List.mem_of_getElem? (i := 35) (by decide +kernel), List.mem_of_getElem? (i := 813) (by decide +kernel), List.mem_of_getElem? (i := 814) (by decide +kernel)⟩
theorem lw_p15 : lw_okq (⟨"CaseManager", "writeHead", "(I)V"⟩, 12) := ⟨⟨by decide +kernel, by decide +kernel⟩, List.mem_of_getElem? (i := 35) (by decide +kernel), List.mem_of_getElem? (i := 1100) (by decide +kernel), List.mem_of_getElem? (i := 1101) (by decide +kernel)⟩
def lw_privs_1 : List (MethodName × Nat) := [(⟨"java/lang/Throwable", "fillInStackTrace", "(I)Ljava/lang/Throwable;"⟩, 6), (⟨"CaseManager", "needCase", "(I)V"⟩, 12), (⟨"CaseManager", "needWitness", "(I)V"⟩, 12), (⟨"CaseManager", "needTestimony", "(II)V"⟩, 12), (⟨"CaseManager$Court", "rankOf", "(I)I"⟩, 17), (⟨"CaseManager$Court", "isMoreCredible", "(II)Z"⟩, 17), (⟨"CaseManager$Groups", "rootOf", "(I)I"⟩, 1), (⟨"CaseManager$Search", "reach", "(I)V"⟩, 3), (⟨"CaseManager$Search", "spreadFrom", "(ILCaseManager$Court;)V"⟩, 3), (⟨"CaseManager$Search", "reachAllOf", "(ILCaseManager$Court;)V"⟩, 3), (⟨"CaseManager$Docket", "insert", "(ILCaseManager$Court;)V"⟩, 2), (⟨"CaseManager", "doMarginsAgree", "()Z"⟩, 12), (⟨"CaseManager", "doSentencesAgree", "()Z"⟩, 12), (⟨"CaseManager", "doConnectionsAgree", "()Z"⟩, 12), (⟨"CaseManager", "doesDocketAgree", "()Z"⟩, 12), (⟨"CaseManager", "writeHead", "(I)V"⟩, 12)]
theorem lw_r1 : ∀ q ∈ lw_privs_1, lw_okq q := List.forall_mem_cons.mpr ⟨lw_p0, List.forall_mem_cons.mpr ⟨lw_p1, List.forall_mem_cons.mpr ⟨lw_p2, List.forall_mem_cons.mpr ⟨lw_p3, List.forall_mem_cons.mpr ⟨lw_p4, List.forall_mem_cons.mpr ⟨lw_p5, List.forall_mem_cons.mpr ⟨lw_p6, List.forall_mem_cons.mpr ⟨lw_p7, List.forall_mem_cons.mpr ⟨lw_p8, List.forall_mem_cons.mpr ⟨lw_p9, List.forall_mem_cons.mpr ⟨lw_p10, List.forall_mem_cons.mpr ⟨lw_p11, List.forall_mem_cons.mpr ⟨lw_p12, List.forall_mem_cons.mpr ⟨lw_p13, List.forall_mem_cons.mpr ⟨lw_p14, List.forall_mem_cons.mpr ⟨lw_p15, fun _ h => absurd h List.not_mem_nil⟩⟩⟩⟩⟩⟩⟩⟩⟩⟩⟩⟩⟩⟩⟩⟩
theorem lw_p16 : lw_okq (⟨"CaseManager", "writeTestimony", "(II)V"⟩, 12) := ⟨⟨by decide +kernel, by decide +kernel⟩, List.mem_of_getElem? (i := 35) (by decide +kernel), List.mem_of_getElem? (i := 1128) (by decide +kernel), List.mem_of_getElem? (i := 1129) (by decide +kernel)⟩
theorem lw_p17 : lw_okq (⟨"CaseManager", "change", "(IIIZI)I"⟩, 12) := ⟨⟨by decide +kernel, by decide +kernel⟩, List.mem_of_getElem? (i := 35) (by decide +kernel), List.mem_of_getElem? (i := 1214) (by decide +kernel), List.mem_of_getElem? (i := 1215) (by decide +kernel)⟩
theorem lw_p18 : lw_okq (⟨"CaseManager$Court", "faultOfCharge", "(II)LCaseManager$Fault;"⟩, 17) := ⟨⟨by decide +kernel, by decide +kernel⟩, List.mem_of_getElem? (i := 43) (by decide +kernel), List.mem_of_getElem? (i := 1222) (by decide +kernel), List.mem_of_getElem? (i := 1223) (by decide +kernel)⟩
theorem lw_p19 : lw_okq (⟨"CaseManager$Court", "faultOfWitness", "(I)LCaseManager$Fault;"⟩, 17) := ⟨⟨by decide +kernel, by decide +kernel⟩, List.mem_of_getElem? (i := 43) (by decide +kernel), List.mem_of_getElem? (i := 1235) (by decide +kernel), List.mem_of_getElem? (i := 1236) (by decide +kernel)⟩
theorem lw_p20 : lw_okq (⟨"CaseManager$Court", "faultOfTestimony", "(III)LCaseManager$Fault;"⟩, 17) := ⟨⟨by decide +kernel, by decide +kernel⟩, List.mem_of_getElem? (i := 43) (by decide +kernel), List.mem_of_getElem? (i := 1239) (by decide +kernel), List.mem_of_getElem? (i := 1240) (by decide +kernel)⟩
theorem lw_p21 : lw_okq (⟨"CaseManager$Court", "faultOfQuestion", "(II)LCaseManager$Fault;"⟩, 17) := ⟨⟨by decide +kernel, by decide +kernel⟩, List.mem_of_getElem? (i := 43) (by decide +kernel), List.mem_of_getElem? (i := 1247) (by decide +kernel), List.mem_of_getElem? (i := 1248) (by decide +kernel)⟩
theorem lw_p22 : lw_okq (⟨"CaseManager$Court", "faultOfDecision", "(I)LCaseManager$Fault;"⟩, 17) := ⟨⟨by decide +kernel, by decide +kernel⟩, List.mem_of_getElem? (i := 43) (by decide +kernel), List.mem_of_getElem? (i := 1254) (by decide +kernel), List.mem_of_getElem? (i := 1255) (by decide +kernel)⟩
theorem lw_p23 : lw_okq (⟨"CaseManager$Court", "faultAfterVerdict", "(I)LCaseManager$Fault;"⟩, 17) := ⟨⟨by decide +kernel, by decide +kernel⟩, List.mem_of_getElem? (i := 43) (by decide +kernel), List.mem_of_getElem? (i := 1258) (by decide +kernel), List.mem_of_getElem? (i := 1259) (by decide +kernel)⟩
theorem lw_p24 : lw_okq (⟨"CaseManager$History", "placeAt", "(I)LCaseManager$Court;"⟩, 3) := ⟨⟨by decide +kernel, by decide +kernel⟩, List.mem_of_getElem? (i := 141) (by decide +kernel), List.mem_of_getElem? (i := 1276) (by decide +kernel), List.mem_of_getElem? (i := 1277) (by decide +kernel)⟩
theorem lw_p25 : lw_okq (⟨"CaseManager$Court", "openCase", "(II)I"⟩, 17) := ⟨⟨by decide +kernel, by decide +kernel⟩, List.mem_of_getElem? (i := 43) (by decide +kernel), List.mem_of_getElem? (i := 1295) (by decide +kernel), List.mem_of_getElem? (i := 1296) (by decide +kernel)⟩
theorem lw_p26 : lw_okq (⟨"CaseManager$Court", "register", "(I)I"⟩, 17) := ⟨⟨by decide +kernel, by decide +kernel⟩, List.mem_of_getElem? (i := 43) (by decide +kernel), List.mem_of_getElem? (i := 1300) (by decide +kernel), List.mem_of_getElem? (i := 1301) (by decide +kernel)⟩
theorem lw_p27 : lw_okq (⟨"CaseManager$Court", "hear", "(IIZI)I"⟩, 17) := ⟨⟨by decide +kernel, by decide +kernel⟩, List.mem_of_getElem? (i := 43) (by decide +kernel), List.mem_of_getElem? (i := 1309) (by decide +kernel), List.mem_of_getElem? (i := 1310) (by decide +kernel)⟩
theorem lw_p28 : lw_okq (⟨"CaseManager$Court", "ask", "(IIZ)I"⟩, 17) := ⟨⟨by decide +kernel, by decide +kernel⟩, List.mem_of_getElem? (i := 43) (by decide +kernel), List.mem_of_getElem? (i := 1318) (by decide +kernel), List.mem_of_getElem? (i := 1319) (by decide +kernel)⟩
theorem lw_p29 : lw_okq (⟨"CaseManager$Court", "judge", "(I)I"⟩, 17) := ⟨⟨by decide +kernel, by decide +kernel⟩, List.mem_of_getElem? (i := 43) (by decide +kernel), List.mem_of_getElem? (i := 1330) (by decide +kernel), List.mem_of_getElem? (i := 1331) (by decide +kernel)⟩
theorem lw_p30 : lw_okq (⟨"CaseManager$Court", "reopen", "(I)I"⟩, 17) := ⟨⟨by decide +kernel, by decide +kernel⟩, List.mem_of_getElem? (i := 43) (by decide +kernel), List.mem_of_getElem? (i := 1335) (by decide +kernel), List.mem_of_getElem? (i := 1336) (by decide +kernel)⟩
theorem lw_p31 : lw_okq (⟨"CaseManager$Court", "finish", "(I)I"⟩, 17) := ⟨⟨by decide +kernel, by decide +kernel⟩, List.mem_of_getElem? (i := 43) (by decide +kernel), List.mem_of_getElem? (i := 1339) (by decide +kernel), List.mem_of_getElem? (i := 1340) (by decide +kernel)⟩
def lw_privs_2 : List (MethodName × Nat) := [(⟨"CaseManager", "writeTestimony", "(II)V"⟩, 12), (⟨"CaseManager", "change", "(IIIZI)I"⟩, 12), (⟨"CaseManager$Court", "faultOfCharge", "(II)LCaseManager$Fault;"⟩, 17), (⟨"CaseManager$Court", "faultOfWitness", "(I)LCaseManager$Fault;"⟩, 17), (⟨"CaseManager$Court", "faultOfTestimony", "(III)LCaseManager$Fault;"⟩, 17), (⟨"CaseManager$Court", "faultOfQuestion", "(II)LCaseManager$Fault;"⟩, 17), (⟨"CaseManager$Court", "faultOfDecision", "(I)LCaseManager$Fault;"⟩, 17), (⟨"CaseManager$Court", "faultAfterVerdict", "(I)LCaseManager$Fault;"⟩, 17), (⟨"CaseManager$History", "placeAt", "(I)LCaseManager$Court;"⟩, 3), (⟨"CaseManager$Court", "openCase", "(II)I"⟩, 17), (⟨"CaseManager$Court", "register", "(I)I"⟩, 17), (⟨"CaseManager$Court", "hear", "(IIZI)I"⟩, 17), (⟨"CaseManager$Court", "ask", "(IIZ)I"⟩, 17), (⟨"CaseManager$Court", "judge", "(I)I"⟩, 17), (⟨"CaseManager$Court", "reopen", "(I)I"⟩, 17), (⟨"CaseManager$Court", "finish", "(I)I"⟩, 17)]
theorem lw_r2 : ∀ q ∈ lw_privs_2, lw_okq q := List.forall_mem_cons.mpr ⟨lw_p16, List.forall_mem_cons.mpr ⟨lw_p17, List.forall_mem_cons.mpr ⟨lw_p18, List.forall_mem_cons.mpr ⟨lw_p19, List.forall_mem_cons.mpr ⟨lw_p20, List.forall_mem_cons.mpr ⟨lw_p21, List.forall_mem_cons.mpr ⟨lw_p22, List.forall_mem_cons.mpr ⟨lw_p23, List.forall_mem_cons.mpr ⟨lw_p24, List.forall_mem_cons.mpr ⟨lw_p25, List.forall_mem_cons.mpr ⟨lw_p26, List.forall_mem_cons.mpr ⟨lw_p27, List.forall_mem_cons.mpr ⟨lw_p28, List.forall_mem_cons.mpr ⟨lw_p29, List.forall_mem_cons.mpr ⟨lw_p30, List.forall_mem_cons.mpr ⟨lw_p31, fun _ h => absurd h List.not_mem_nil⟩⟩⟩⟩⟩⟩⟩⟩⟩⟩⟩⟩⟩⟩⟩⟩
def lw_privs : List (MethodName × Nat) := lw_privs_1 ++ (lw_privs_2)
def lw_tbl : List Cond := k2_sels lw_privs ++ tables_1
theorem lw_privs_ok : ∀ q ∈ lw_privs, lw_okq q := by
  show ∀ q ∈ lw_privs_1 ++ (lw_privs_2), lw_okq q
  exact List.forall_mem_append.mpr ⟨lw_r1, lw_r2⟩
/-- the streams that the claim lets the run draw from -/
abbrev lw_cs : List Choice := [Jvm.Choice.named "NaN.bits"]
theorem lw_bits : nanBits ∈ lw_cs := by first | decide | exact List.mem_cons_self | simp [lw_cs, nanBits]
/-- the good words of the tables: every method of ours asks for all of them -/
def WA : List Cond := lw_tbl.filter goodWord
theorem WA_of {i : Nat} {w : Cond} (h : lw_tbl[i]? = some w) (g : goodWord w = true) : w ∈ WA := List.mem_filter.mpr ⟨List.mem_of_getElem? h, g⟩
theorem WA_in {w0 : Cond} : GoodIn (w0 :: WA) WA := fun w h => ⟨List.mem_cons_of_mem _ h, good_of_word (List.mem_filter.mp h).2⟩
theorem WA_self : GoodIn WA WA := fun w h => ⟨h, good_of_word (List.mem_filter.mp h).2⟩
theorem WA_code {w0 w1 : Cond} (h : w1 ∈ WA) : GoodIn (w0 :: WA) (w1 :: WA) := fun w hw => (List.mem_cons.mp hw).elim (fun e => by rw [e]; exact WA_in _ h) (fun h => WA_in w h)
end
section
/-! ===== BEGIN words of one list among another's, by their places ===== -/
theorem goodIn_r {big : List Cond} (ws : List Cond) (ps : List Nat) (hp : ws = ps.filterMap (fun i => big[i]?)) (h : ws.all goodWord = true) : GoodIn big ws := by
  intro w hw
  have h1 := List.all_eq_true.mp h w hw
  rw [hp] at hw
  obtain ⟨i, -, hi⟩ := List.mem_filterMap.mp hw
  have hm : w ∈ big := by first | exact List.mem_of_getElem? hi | exact List.getElem?_mem hi
  exact ⟨hm, good_of_word h1⟩
theorem goodIn_app {big a b : List Cond} (ha : GoodIn big a) (hb : GoodIn big b) : GoodIn big (a ++ b) := fun w h => (List.mem_append.mp h).elim (ha w) (hb w)
theorem goodIn_ca {big a b : List Cond} {c : Cond} (ha : GoodIn big (c :: a)) (hb : GoodIn big b) : GoodIn big (c :: (a ++ b)) := fun w h => (List.mem_cons.mp h).elim (fun e => ha w (List.mem_cons.mpr (Or.inl e))) (fun h => (List.mem_append.mp h).elim (fun h => ha w (List.mem_cons.mpr (Or.inr h))) (hb w))
theorem goodIn_sub {big ws : List Cond} (hm : ∀ w ∈ ws, w ∈ big) (h : ws.all goodWord = true) : GoodIn big ws := fun w hw => ⟨hm w hw, good_of_word (List.all_eq_true.mp h w hw)⟩
/-! ===== END ===== -/

/-! ===== BEGIN exceptions that leave a method, and their catching by the caller (launches without stack traces) ===== -/
section VXA
/-! The laws vx_back, vx_callV, vx_callS, vx_callSW, vx_throw0, vx_throwS follow proofs of the library, with one case more: JvmDerived/Free/Laws.lean (Back.of_free), Shelf42/LK1.lean (callV, callS), Shelf/KitTraced.lean (throwNew0V, throwNewS). -/
/-- where a method has thrown q: the class by its name, the cell, what was written, the world -/
def vx_T (XC : String → State → State → Prop) (st : State) (q : Addr) (t : State) (mc ms : Nat) (free : Addr → Prop) : Prop :=
  ∃ (E : String) (ce : Cell) (L : List Loc), XC E st t ∧ t.heap[q]? = some ce ∧ ce.vm = .none ∧ st.vm.findClass E = some ce.cls ∧ st.WarmedH t.vm ∧ st.sameButNew ({ t with vm := st.vm } : State) L mc ms ∧ ∀ z ∈ L, free z.base
def vx_Q (Qc : Array Value → State → Outcome → State → Prop) (XC : String → State → State → Prop) (mc ms : Nat) (free : Addr → Prop) : Array Value → State → Outcome → State → Prop := fun a st o t =>
  (Qc a st o t ∧ ∃ L, FrameEnd st o t L mc ms ∧ ∀ q ∈ L, free q.base) ∨ ∃ q, o = .threw q ∧ vx_T XC st q t mc ms free
/-- a callee that returns or throws -/
def vx_Met (l : Launch) (y : MethodName) (ws : List Cond) (rm : Room) (Pc : Array Value → State → Prop) (Qc : Array Value → State → Outcome → State → Prop) (XC : String → State → State → Prop) (mc ms : Nat) (free : Addr → Prop) : Prop :=
  MetFree l y (headSpec ws rm) Pc (fun _ _ _ _ _ => True) (vx_Q Qc XC mc ms free)
def vx_Post (XC : String → State → State → Prop) (mc ms : Nat) (free : Addr → Prop) : Pt → Array Value → Addr → Pt → Prop := fun A a q B =>
  ∃ (g : JFrame) (mk : MethodId) (t : State) (L : List Loc) (E : String) (ce : Cell), B.U.heap = t.heap ∧ B.U.vm = t.vm ∧ XC E (A.U.calling g mk a) t ∧ t.heap[q]? = some ce ∧ ce.vm = .none ∧ A.U.vm.findClass E = some ce.cls ∧ B.locs = A.locs ++ L ∧ (∀ z ∈ L, free z.base) ∧ B.cells = A.cells + mc ∧ B.slots = A.slots + ms
def vx_Back (l : Launch) (R : Room) (p : Program) (e : Env) (below : List Frame) (s : State) (sargs : Array Value) (y : MethodName) (len W9 : Nat)
    (Pre : Pt → Array Value → Prop) (Post : Pt → Array Value → Option Value → Pt → Prop) (PostX : Pt → Array Value → Addr → Pt → Prop) : Prop :=
  ∀ (m : MethodId) (meth : Method) (c : Code) (A : Pt) (g : JFrame) (ig : Instr) (mk : MethodId) (a : Array Value),
    Stand p l e R s m sargs below meth c A.U A.locs A.cells A.slots → g.method = m → g.locals.size = c.maxLocals → decode c.code g.pc = .ok (ig, len) →
    2 * g.monitorRoom + (g.stack.map fun v => v.category).sum ≤ W9 → A.U.methodNamed? y = some mk → Pre A a →
    (∃ (v : Option Value) (B : Pt), Stand p l e R s m sargs below meth c B.U B.locs B.cells B.slots ∧ Post A a v B ∧
      Steps p.tables e below (doInvoke e (A.U.setTop g) [] mk a).1 (B.U.setTop { g with pc := g.pc + len, stack := v.toList ++ g.stack })) ∨
    (∃ (q : Addr) (B : Pt), Stand p l e R s m sargs below meth c B.U B.locs B.cells B.slots ∧ PostX A a q B ∧
      Steps p.tables e below (doInvoke e (A.U.setTop g) [] mk a).1 ((B.U.setTop g).pushFrame (.throwing q)))
section Payer
variable {l : Launch} {R : Room} {p : Program} {e : Env} {below : List Frame} {s : State} {sargs : Array Value} {y : MethodName} {len W9 : Nat}
theorem vx_back {ws : List Cond} {rm : Room} {Pc : Array Value → State → Prop} {Qc : Array Value → State → Outcome → State → Prop} {XC : String → State → State → Prop} {mc ms : Nat} {free : Addr → Prop} {bytes : ByteArray} {maxL : Nat} {ret : Option FieldType}
    (hM : vx_Met l y ws rm Pc Qc XC mc ms free) (hblind : FrameBlind Pc) (hrc : rm.cells = mc) (hrs : rm.slots = ms)
    (hframes : rm.frames + 1 ≤ R.frames) (hlocals : W9 + (maxL + 11) + rm.locals ≤ R.locals)
    (hws : ∀ w ∈ ws, ∀ a' U, s.WarmedH U.vm → w.before a' U = true) (hcode : Cond.code y bytes maxL ret ∈ ws) (hinit : ∀ a' U, s.WarmedH U.vm → (Cond.initialized y.cls).before a' U = true) :
    vx_Back l R p e below s sargs y len W9 (PreOf R mc ms Pc) (PostOf Qc mc ms free) (vx_Post XC mc ms free) := by
  intro m meth c A g ig mk a X hg hsize hdg hW hn hp
  have h1 : (headSpec ws rm).pre.before a A.U = true := atoms_intro fun w hw => hws w hw _ _ X.warmed
  have h2 : (Cond.code y bytes maxL ret).before a A.U = true := hws _ hcode _ _ X.warmed
  have h3 : (Cond.initialized y.cls).before a A.U = true := hinit _ _ X.warmed
  have h4 : A.cells + (headSpec ws rm).room.cells ≤ R.cells := by rw [show (headSpec ws rm).room.cells = mc from hrc]; exact hp.1
  have h5 : A.slots + (headSpec ws rm).room.slots ≤ R.slots := by rw [show (headSpec ws rm).room.slots = ms from hrs]; exact hp.2.1
  have hPc : Pc a (A.U.calling g mk a) := hblind _ _ _ _ hp.2.2
  obtain ⟨U, Ls, c0, s0⟩ := A
  dsimp only [Pt.U, Pt.locs, Pt.cells, Pt.slots] at h1 h2 h3 h4 h5 X hn hPc ⊢
  obtain ⟨methY, cY, hmY, hcY, -, hlY, -, -, -, -⟩ := Cond.code_spec hn h2
  obtain ⟨kY, hkY, -⟩ := className_of_methodNamed hn
  have hinitY : kY.init = .initialized := Cond.initialized_spec (findClass_of_methodNamed hn) hkY h3
  have h : At U g.method c below := by rw [hg]; exact X.here
  have hlocals9 : W9 + (maxL + 11) + (headSpec ws rm).room.locals ≤ R.locals := hlocals
  have happ : (headSpec ws rm).appliesLoose y e.platform (U.calling g mk a) = true :=
    Spec.appliesLoose_calling (g := g) h hdg hn hkY hinitY
      (X.room_calling (g := g) (R' := (headSpec ws rm).room) hsize hmY hcY hframes (by rw [hlY]; omega) h4 h5) h1
  obtain ⟨mid, hmid⟩ := h.above
  have hfr : (U.setTop g).frames = (.java g :: mid) ++ below := by rw [State.frames_setTop' g h.top, hmid]; rfl
  obtain ⟨o, s₂, hsteps, -, hend, hq⟩ := Steps.callFree hM p X.admits X.cas X.clock (acts := []) hfr happ hPc trivial
  have hq' : vx_Q Qc XC mc ms free a (U.calling g mk a) o s₂ := hq
  rw [State.frames_setTop' g h.top] at hend
  obtain ⟨g₀, hg0⟩ := Option.isSome_iff_exists.mp h.top
  obtain ⟨r, hr⟩ := State.topJava?_eq_some.mp hg0
  have hr' : (({ U with heap := s₂.heap, slotsUsed := s₂.slotsUsed } : State).setVm s₂.vm).frames = .java g₀ :: r := hr
  rcases hq' with ⟨hqc, L, hfe, hL⟩ | ⟨q, rfl, E, ce, L, hx, hce, hcv, hcl, hW₂, hsm, hL⟩
  · obtain ⟨⟨v, rfl⟩, hW₂, e2, q2, q3, q4, q5, q6⟩ := id hfe
    have e3 : s₂ = ({ (U.calling g mk a).setFrames s₂.frames with heap := s₂.heap, slotsUsed := s₂.slotsUsed } : State).setVm s₂.vm := by
      have : s₂ = ({ s₂ with vm := (U.calling g mk a).vm } : State).setVm s₂.vm := rfl
      rw [e2] at this
      exact this
    obtain ⟨c₂, i₂, len₂, hc₂, hd₂, hf₂⟩ := hend
    have hW' : U.WarmedH s₂.vm := hW₂
    have hcc : c₂ = c := by
      have h1 : s₂.code? g.method = U.code? g.method := by
        rw [State.code?_eq, State.code?_eq, hW'.alike.method?]
      exact Option.some.inj (hc₂.symm.trans (h1.trans h.code))
    subst hcc
    have hlen : len₂ = len := by rw [hdg] at hd₂; cases hd₂; rfl
    subst hlen
    have hs₂ : s₂ = (({ U with heap := s₂.heap, slotsUsed := s₂.slotsUsed } : State).setVm s₂.vm).setTop { g with pc := g.pc + len₂, stack := v.toList ++ g.stack } := by
      refine e3.trans ?_
      rw [hf₂, State.calling_eq h.top, State.setFrames_setFrames, State.setTop_of_frames _ hr', hr]
      rfl
    have hsame : U.sameButNew ({ U with heap := s₂.heap, slotsUsed := s₂.slotsUsed } : State) L mc ms := by
      refine ⟨?_, q2, q3, q4, q5, q6⟩
      obtain ⟨t, ht, -⟩ := State.frames_cons hr
      show ({ U with heap := s₂.heap, slotsUsed := s₂.slotsUsed } : State) = { U.setFrames U.frames with heap := s₂.heap, slotsUsed := s₂.slotsUsed }
      rw [State.setFrames_self ht]
    subst hg
    refine Or.inl ⟨v, ⟨(({ U with heap := s₂.heap, slotsUsed := s₂.slotsUsed } : State).setVm s₂.vm), Ls ++ L, c0 + mc, s0 + ms⟩,
      ⟨X.admits, X.cas, X.clock, X.frames, X.room, X.hears, X.method, X.code, (X.here.setHeapUsed s₂.heap s₂.slotsUsed).setVm hW'.alike, X.tail, State.WarmedH.trans X.warmed hW', X.limits, X.bytes, X.same.trans (hsame.setVm s.vm)⟩,
      ⟨g, mk, s₂, L, rfl, rfl, hqc, rfl, hL, rfl, rfl⟩, ?_⟩
    show Steps p.tables e below _ ((({ U with heap := s₂.heap, slotsUsed := s₂.slotsUsed } : State).setVm s₂.vm).setTop { g with pc := g.pc + len₂, stack := v.toList ++ g.stack })
    rw [← hs₂]
    exact hsteps
  · obtain ⟨e2, q2, q3, q4, q5, q6⟩ := id hsm
    have e3 : s₂ = ({ (U.calling g mk a).setFrames s₂.frames with heap := s₂.heap, slotsUsed := s₂.slotsUsed } : State).setVm s₂.vm := by
      have : s₂ = ({ s₂ with vm := (U.calling g mk a).vm } : State).setVm s₂.vm := rfl
      rw [e2] at this
      exact this
    have hf₂ : s₂.frames = .throwing q :: .java g :: U.frames.tail := hend
    have hW' : U.WarmedH s₂.vm := hW₂
    have hs₂ : s₂ = ((({ U with heap := s₂.heap, slotsUsed := s₂.slotsUsed } : State).setVm s₂.vm).setTop g).pushFrame (.throwing q) := by
      refine e3.trans ?_
      rw [hf₂, State.calling_eq h.top, State.setFrames_setFrames, State.pushFrame, State.frames_setTop _ hr', State.setTop_of_frames _ hr', State.setFrames_setFrames, hr]
      rfl
    have hsame : U.sameButNew ({ U with heap := s₂.heap, slotsUsed := s₂.slotsUsed } : State) L mc ms := by
      refine ⟨?_, q2, q3, q4, q5, q6⟩
      obtain ⟨t, ht, -⟩ := State.frames_cons hr
      show ({ U with heap := s₂.heap, slotsUsed := s₂.slotsUsed } : State) = { U.setFrames U.frames with heap := s₂.heap, slotsUsed := s₂.slotsUsed }
      rw [State.setFrames_self ht]
    subst hg
    refine Or.inr ⟨q, ⟨(({ U with heap := s₂.heap, slotsUsed := s₂.slotsUsed } : State).setVm s₂.vm), Ls ++ L, c0 + mc, s0 + ms⟩,
      ⟨X.admits, X.cas, X.clock, X.frames, X.room, X.hears, X.method, X.code, (X.here.setHeapUsed s₂.heap s₂.slotsUsed).setVm hW'.alike, X.tail, State.WarmedH.trans X.warmed hW', X.limits, X.bytes, X.same.trans (hsame.setVm s.vm)⟩,
      ⟨g, mk, s₂, L, E, ce, rfl, rfl, hx, hce, hcv, hcl, rfl, hL, rfl, rfl⟩, ?_⟩
    show Steps p.tables e below _ (((({ U with heap := s₂.heap, slotsUsed := s₂.slotsUsed } : State).setVm s₂.vm).setTop g).pushFrame (.throwing q))
    rw [← hs₂]
    exact hsteps
end Payer
section Calls
variable {p : Program} {l : Launch} {e : Env} {R : Room} {s : State} {m : MethodId} {args : Array Value} {below : List Frame} {meth : Method} {c : Code} {T : State} {locs : List Loc} {cells slots : Nat}
theorem vx_callV (X : Stand p l e R s m args below meth c T locs cells slots) (hexec : p.tables.exec = Jvm.exec) {own C : String} {index : Nat} {y : MethodName} {bytes : ByteArray} {maxL : Nat} {ret : Option FieldType}
    (hown : s.vm.findClass own = some m.cls) (hlink : (Cond.methodLink own index y).before args s = true) (hinst : (Cond.instanceMethod y).before args s = true) (hsel : (Cond.selects C y y).before args s = true)
    (hcode : (Cond.code y bytes maxL ret).before args s = true) (hy : y.cls ≠ "java/lang/invoke/MethodHandle" ∧ y.cls ≠ "java/lang/invoke/VarHandle")
    {W9 : Nat} {Pre : Pt → Array Value → Prop} {Post : Pt → Array Value → Option Value → Pt → Prop} {PostX : Pt → Array Value → Addr → Pt → Prop} (hK : vx_Back l R p e below s args y 3 W9 Pre Post PostX)
    {b : Addr} {cellB : Cell} (hcell : T.heap[b]? = some cellB) (hobj : cellB.vm.isStatics = false) (hcls : s.vm.findClass C = some cellB.cls)
    {g : JFrame} (hg : g.method = m) (hsize : g.locals.size = c.maxLocals) {argsL rest : List Value} (hlen : ∀ sig, parseMethodDescriptor y.desc = some sig → argsL.length = sig.parameters.length)
    (hstack : g.stack = argsL.reverse ++ .ref b :: rest) (hW : 2 * g.monitorRoom + (rest.map fun v => v.category).sum ≤ W9) (hdg : decode c.code g.pc = .ok (.invokevirtual index, 3))
    (hpre : ∀ vm₁, s.WarmedH vm₁ → Pre ⟨T.setVm vm₁, locs, cells, slots⟩ (Value.ref b :: argsL).toArray) :
    (∃ (v : Option Value) (vm₁ : Vm) (B : Pt), s.WarmedH vm₁ ∧ Stand p l e R s m args below meth c B.U B.locs B.cells B.slots ∧ Post ⟨T.setVm vm₁, locs, cells, slots⟩ (Value.ref b :: argsL).toArray v B ∧
      ∀ target, Steps p.tables e below (B.U.setTop { g with pc := g.pc + 3, stack := v.toList ++ rest }) target → Steps p.tables e below (T.setTop g) target) ∨
    (∃ (q : Addr) (vm₁ : Vm) (B : Pt), s.WarmedH vm₁ ∧ Stand p l e R s m args below meth c B.U B.locs B.cells B.slots ∧ PostX ⟨T.setVm vm₁, locs, cells, slots⟩ (Value.ref b :: argsL).toArray q B ∧
      Steps p.tables e below (T.setTop g) ((B.U.setTop { g with stack := rest }).pushFrame (.throwing q))) := by
  obtain ⟨mk, methM, hnamed, hmethM, hstM, habM⟩ := Cond.instanceMethod_spec hinst
  obtain ⟨methM', cM, hmethM', -, -, -, -, -, -, hsigM⟩ := Cond.code_spec hnamed hcode
  cases hmethM.symm.trans hmethM'
  obtain ⟨c2, r2, m2, q1, q2, q3, q4, kP, hkP, hkPi⟩ := Cond.selects_spec hsel
  cases hcls.symm.trans q1
  cases (State.methodFound?_of_named hnamed hy).symm.trans q2
  cases hnamed.symm.trans q3
  have hselP : selectMethod e.platform s.vm cellB.cls mk = .method mk := by rw [Launch.admits_selectMethod X.admits]; exact q4
  obtain ⟨vm₁, X₁, hstep₁⟩ := X.invokevirtual hexec hown hlink hnamed hmethM hstM hkP hkPi hy (a := b) (cell := cellB) hcell
    (fun z h => by rw [h] at hobj; cases hobj) hselP hmethM habM hkP hkPi (g := g) hg (argsL := argsL) (rest := rest) (hlen _ hsigM) hstack hdg
  rcases hK m meth c ⟨T.setVm vm₁, locs, cells, slots⟩ { g with stack := rest } (.invokevirtual index) mk (Value.ref b :: argsL).toArray X₁ hg hsize hdg hW (X₁.named hnamed) (hpre vm₁ X₁.warmed) with ⟨v, B, X', hpost, hsteps⟩ | ⟨q, B, X', hpost, hsteps⟩
  · exact Or.inl ⟨v, vm₁, B, X₁.warmed, X', hpost, fun target h => hstep₁ _ fun acts => by rw [doInvoke_state]; exact hsteps.trans h⟩
  · exact Or.inr ⟨q, vm₁, B, X₁.warmed, X', hpost, hstep₁ _ fun acts => by rw [doInvoke_state]; exact hsteps⟩
theorem vx_callS (X : Stand p l e R s m args below meth c T locs cells slots) (hexec : p.tables.exec = Jvm.exec) {own : String} {index : Nat} {y : MethodName} {bytes : ByteArray} {maxL : Nat} {ret : Option FieldType}
    (hown : s.vm.findClass own = some m.cls) (hlink : (Cond.methodLink own index y).before args s = true) (hstat : (Cond.static y).before args s = true) (hinit : (Cond.initialized y.cls).before args s = true)
    (hcode : (Cond.code y bytes maxL ret).before args s = true) (hy : y.cls ≠ "java/lang/invoke/MethodHandle" ∧ y.cls ≠ "java/lang/invoke/VarHandle")
    {W9 : Nat} {Pre : Pt → Array Value → Prop} {Post : Pt → Array Value → Option Value → Pt → Prop} {PostX : Pt → Array Value → Addr → Pt → Prop} (hK : vx_Back l R p e below s args y 3 W9 Pre Post PostX)
    {g : JFrame} (hg : g.method = m) (hsize : g.locals.size = c.maxLocals) {argsL rest : List Value} (hlen : ∀ sig, parseMethodDescriptor y.desc = some sig → argsL.length = sig.parameters.length)
    (hstack : g.stack = argsL.reverse ++ rest) (hW : 2 * g.monitorRoom + (rest.map fun v => v.category).sum ≤ W9) (hdg : decode c.code g.pc = .ok (.invokestatic index, 3))
    (hpre : ∀ vm₁, s.WarmedH vm₁ → Pre ⟨T.setVm vm₁, locs, cells, slots⟩ argsL.toArray) :
    (∃ (v : Option Value) (vm₁ : Vm) (B : Pt), s.WarmedH vm₁ ∧ Stand p l e R s m args below meth c B.U B.locs B.cells B.slots ∧ Post ⟨T.setVm vm₁, locs, cells, slots⟩ argsL.toArray v B ∧
      ∀ target, Steps p.tables e below (B.U.setTop { g with pc := g.pc + 3, stack := v.toList ++ rest }) target → Steps p.tables e below (T.setTop g) target) ∨
    (∃ (q : Addr) (vm₁ : Vm) (B : Pt), s.WarmedH vm₁ ∧ Stand p l e R s m args below meth c B.U B.locs B.cells B.slots ∧ PostX ⟨T.setVm vm₁, locs, cells, slots⟩ argsL.toArray q B ∧
      Steps p.tables e below (T.setTop g) ((B.U.setTop { g with stack := rest }).pushFrame (.throwing q))) := by
  obtain ⟨mk, hnamed⟩ := Cond.code_named hcode
  obtain ⟨methM, cM, hmethM, -, -, -, -, -, -, hsigM⟩ := Cond.code_spec hnamed hcode
  have hstatic : methM.isStatic = true := Cond.static_spec hnamed hmethM hstat
  obtain ⟨kP, hkP, -⟩ := className_of_methodNamed hnamed
  have hinitP : kP.init = .initialized := Cond.initialized_spec (findClass_of_methodNamed hnamed) hkP hinit
  obtain ⟨vm₁, X₁, hstep₁⟩ := X.invokestatic hexec hown hlink hnamed hmethM hstatic hkP hinitP hy (g := g) hg (argsL := argsL) (rest := rest) (hlen _ hsigM) hstack hdg
  rcases hK m meth c ⟨T.setVm vm₁, locs, cells, slots⟩ { g with stack := rest } (.invokestatic index) mk argsL.toArray X₁ hg hsize hdg hW (X₁.named hnamed) (hpre vm₁ X₁.warmed) with ⟨v, B, X', hpost, hsteps⟩ | ⟨q, B, X', hpost, hsteps⟩
  · exact Or.inl ⟨v, vm₁, B, X₁.warmed, X', hpost, fun target h => hstep₁ _ fun acts => by rw [doInvoke_state]; exact hsteps.trans h⟩
  · exact Or.inr ⟨q, vm₁, B, X₁.warmed, X', hpost, hstep₁ _ fun acts => by rw [doInvoke_state]; exact hsteps⟩
end Calls
theorem vx_cls {s : State} {T : State} {vm₁ : Vm} {E : String} {k : ClassId} (hW : s.WarmedH vm₁) (h : (T.setVm vm₁).vm.findClass E = some k) : s.vm.findClass E = some k := by
  have h1 : vm₁.findClass E = some k := h
  rw [hW.alike.findClass] at h1
  exact h1
/-- the method's frame g, with q thrown over it -/
def vx_W (p : Program) (l : Launch) (e : Env) (R : Room) (s : State) (m : MethodId) (args : Array Value) (below : List Frame) (meth : Method) (c : Code) (H : Heap) (locs : List Loc) (cells slots : Nat) (Q : State → Prop) (g : JFrame) (q : Addr) : Prop :=
  ∀ T : State, T.heap = H → Stand p l e R s m args below meth c T locs cells slots → ∃ t, Steps p.tables e below ((T.setTop g).pushFrame (.throwing q)) t ∧ Q t
def vx_Run (p : Program) (l : Launch) (e : Env) (R : Room) (s : State) (m : MethodId) (args : Array Value) (below : List Frame) (meth : Method) (c : Code) (H : Heap) (locs : List Loc) (cells slots mc ms : Nat) (g : JFrame) (rest : List Value) (Qa : State → Outcome → State → Prop) (XC : String → State → State → Prop) (free : Addr → Prop) : Prop :=
  ∀ T : State, T.heap = H → Stand p l e R s m args below meth c T locs cells slots →
    (∃ (v : Option Value) (st₀ t T' : State) (L : List Loc), st₀.heap = H ∧ Stand p l e R s m args below meth c T' (locs ++ L) (cells + mc) (slots + ms) ∧ (∀ q ∈ L, free q.base) ∧ T'.heap = t.heap ∧ T'.vm = t.vm ∧ Qa st₀ (.returned v) t ∧
      Goes p e below T g T' { g with pc := g.pc + 3, stack := v.toList ++ rest }) ∨
    (∃ (q : Addr) (st₀ t T' : State) (L : List Loc) (E : String) (ce : Cell), st₀.heap = H ∧ Stand p l e R s m args below meth c T' (locs ++ L) (cells + mc) (slots + ms) ∧ (∀ z ∈ L, free z.base) ∧ T'.heap = t.heap ∧ T'.vm = t.vm ∧ XC E st₀ t ∧ t.heap[q]? = some ce ∧ ce.vm = .none ∧ s.vm.findClass E = some ce.cls ∧
      Steps p.tables e below (T.setTop g) ((T'.setTop { g with stack := rest }).pushFrame (.throwing q)))
def vx_X {S : Type} (px : S → Prop) (B : String → S → State → Prop) (A : Nat → Prop) : String → State → State → Prop := fun E st t => ∃ u : S, px u ∧ B E u t ∧ va_F A st t
section Runs
variable {p : Program} {l : Launch} {e : Env} {R : Room} {s : State} {m : MethodId} {args : Array Value} {below : List Frame} {meth : Method} {c : Code} {H : Heap} {locs : List Loc} {cells slots : Nat}
variable {y : MethodName} {bytes cc : ByteArray} {maxL nL mc ms n index : Nat} {ret : Option FieldType} {ws : List Cond} {rm : Room} {Pc : Array Value → State → Prop} {Qc : Array Value → State → Outcome → State → Prop} {XC : String → State → State → Prop} {free : Addr → Prop} {Ts : List Cond} {own C : String} {b : Addr} {As rest : List Value} {g : JFrame}
theorem vx_callBack (cb : CallB R s args own index y bytes maxL ret ws rm mc ms n) (hM : vx_Met l y ws rm Pc Qc XC mc ms free) (hbl : FrameBlind Pc) : vx_Back l R p e below s args y 3 8 (PreOf R mc ms Pc) (PostOf Qc mc ms free) (vx_Post XC mc ms free) := by
  obtain ⟨hrc, hrs, hfr, hlo, hws, hcw, -, hini, -⟩ := cb
  exact vx_back (bytes := bytes) (maxL := maxL) (ret := ret) hM hbl hrc hrs hfr hlo hws hcw (fun a' U hW => word_at hW (Or.inl (by first | rfl | simp [Cond.onTables, Cond.keeps, Cond.steady])) hini)
theorem vx_runV (S : CallFix p m c cc nL s args Ts own) (hM : vx_Met l y ws rm Pc Qc XC mc ms free) (cw : CallW R s args own C index y bytes maxL ret ws rm mc ms n) (hp : PreV s H C b Pc As)
    (hg : g.method = m) (hn : As.length = n) (hsize : g.locals.size = nL) (hstack : g.stack = As.reverse ++ .ref b :: rest) (hW : 2 * g.monitorRoom + (rest.map fun v => v.category).sum ≤ 8) (hdg : decode cc g.pc = .ok (.invokevirtual index, 3)) (hf : cells + mc ≤ R.cells ∧ slots + ms ≤ R.slots) :
    vx_Run p l e R s m args below meth c H locs cells slots mc ms g rest (Qc (Value.ref b :: As).toArray) XC free := by
  have hK : vx_Back l R p e below s args y 3 8 (PreOf R mc ms Pc) (PostOf Qc mc ms free) (vx_Post XC mc ms free) := vx_callBack cw.1 hM hp.1
  obtain ⟨⟨-, -, -, -, -, -, hcode, -, hy, hlen, hl⟩, hin, hse⟩ := cw
  obtain ⟨hx, hb, hml, ho, -⟩ := S
  obtain ⟨-, ⟨cellB, hcB, hoB, hclB⟩, hPc⟩ := hp
  intro T hT X
  rcases vx_callV X hx (C := C) (bytes := bytes) (maxL := maxL) (ret := ret) ho hl hin hse hcode hy hK (by rw [hT]; exact hcB) hoB hclB hg (hsize.trans hml.symm) (argsL := As) (rest := rest) (fun sig h => hn.trans (hlen sig h)) hstack hW (by rw [hb]; exact hdg)
    (fun vm₁ hW₁ => ⟨hf.1, hf.2, hPc (T.setVm vm₁) hT hW₁⟩) with ⟨v, vm₁, ⟨U', l2, c2, s2⟩, hW₁, X', ⟨g', mk, t, L, e1, e2, hq, h1, hL, h2, h3⟩, st⟩ | ⟨q, vm₁, ⟨U', l2, c2, s2⟩, hW₁, X', ⟨g', mk, t, L, E, ce, e1, e2, hq, hce, hcv, hcl, h1, hL, h2, h3⟩, st⟩
  · dsimp only [Pt.U, Pt.locs, Pt.cells, Pt.slots] at X' e1 e2 h1 h2 h3 st
    subst h1; subst h2; subst h3
    exact Or.inl ⟨v, (T.setVm vm₁).calling g' mk (Value.ref b :: As).toArray, t, U', L, hT, X', hL, e1, e2, hq, st⟩
  · dsimp only [Pt.U, Pt.locs, Pt.cells, Pt.slots] at X' e1 e2 h1 h2 h3 st hcl
    subst h1; subst h2; subst h3
    exact Or.inr ⟨q, (T.setVm vm₁).calling g' mk (Value.ref b :: As).toArray, t, U', L, E, ce, hT, X', hL, e1, e2, hq, hce, hcv, vx_cls hW₁ hcl, st⟩
theorem vx_runS (S : CallFix p m c cc nL s args Ts own) (hM : vx_Met l y ws rm Pc Qc XC mc ms free) (cw : CallB R s args own index y bytes maxL ret ws rm mc ms n ∧ (Cond.static y).before args s = true) (hp : PreS s H Pc As)
    (hg : g.method = m) (hn : As.length = n) (hsize : g.locals.size = nL) (hstack : g.stack = As.reverse ++ rest) (hW : 2 * g.monitorRoom + (rest.map fun v => v.category).sum ≤ 8) (hdg : decode cc g.pc = .ok (.invokestatic index, 3)) (hf : cells + mc ≤ R.cells ∧ slots + ms ≤ R.slots) :
    vx_Run p l e R s m args below meth c H locs cells slots mc ms g rest (Qc As.toArray) XC free := by
  have hK : vx_Back l R p e below s args y 3 8 (PreOf R mc ms Pc) (PostOf Qc mc ms free) (vx_Post XC mc ms free) := vx_callBack cw.1 hM hp.1
  obtain ⟨⟨-, -, -, -, -, -, hcode, hini, hy, hlen, hl⟩, hstt⟩ := cw
  obtain ⟨hx, hb, hml, ho, -⟩ := S
  intro T hT X
  rcases vx_callS X hx (bytes := bytes) (maxL := maxL) (ret := ret) ho hl hstt hini hcode hy hK hg (hsize.trans hml.symm) (argsL := As) (rest := rest) (fun sig h => hn.trans (hlen sig h)) hstack hW (by rw [hb]; exact hdg)
    (fun vm₁ hW₁ => ⟨hf.1, hf.2, hp.2 (T.setVm vm₁) hT hW₁⟩) with ⟨v, vm₁, ⟨U', l2, c2, s2⟩, hW₁, X', ⟨g', mk, t, L, e1, e2, hq, h1, hL, h2, h3⟩, st⟩ | ⟨q, vm₁, ⟨U', l2, c2, s2⟩, hW₁, X', ⟨g', mk, t, L, E, ce, e1, e2, hq, hce, hcv, hcl, h1, hL, h2, h3⟩, st⟩
  · dsimp only [Pt.U, Pt.locs, Pt.cells, Pt.slots] at X' e1 e2 h1 h2 h3 st
    subst h1; subst h2; subst h3
    exact Or.inl ⟨v, (T.setVm vm₁).calling g' mk As.toArray, t, U', L, hT, X', hL, e1, e2, hq, st⟩
  · dsimp only [Pt.U, Pt.locs, Pt.cells, Pt.slots] at X' e1 e2 h1 h2 h3 st hcl
    subst h1; subst h2; subst h3
    exact Or.inr ⟨q, (T.setVm vm₁).calling g' mk As.toArray, t, U', L, E, ce, hT, X', hL, e1, e2, hq, hce, hcv, vx_cls hW₁ hcl, st⟩
end Runs
section Rows
variable {p : Program} {l : Launch} {e : Env} {R : Room} {s : State} {m : MethodId} {args : Array Value} {below : List Frame} {meth : Method} {c : Code} {H : Heap} {locs : List Loc} {cells slots : Nat} {Q : State → Prop}
variable {mc ms : Nat} {free : Addr → Prop} {A0 A1 : Nat → Prop} {H0 : Heap} {a : Array Value} {pc : Nat} {ls : Array Slot} {st0 rest : List Value}
theorem vx_keep {st₀ t T' : State} {L : List Loc} (h0 : st₀.heap = H) (e1 : T'.heap = t.heap) (hS : va_S A0 H0 H locs) (hA : ∀ q, q < H.size → A1 q → A0 q) (hf : ∀ q, free q → A0 q) (hL : ∀ q ∈ L, free q.base) (hF : va_F A1 st₀ t) :
    H.size ≤ T'.heap.size ∧ (∀ q : Nat, q < H.size → ¬ A1 q → T'.heap[q]? = H[q]?) ∧ va_S A0 H0 T'.heap (locs ++ L) := by
  obtain ⟨hz, hk⟩ := hF
  rw [h0] at hz hk
  exact ⟨by rw [e1]; exact hz, fun q h1 h2 => by rw [e1]; exact hk q h1 h2,
    ⟨Nat.le_trans hS.1 (by rw [e1]; exact hz), fun q h1 h2 => by rw [e1, hk q (Nat.lt_of_lt_of_le h1 hS.1) (fun z => h2 (hA q (Nat.lt_of_lt_of_le h1 hS.1) z))]; exact hS.2.1 q h1 h2, fun q hq => by
      rcases List.mem_append.mp hq with h | h
      · exact hS.2.2 q h
      · exact hf _ (hL q h)⟩⟩
theorem vx_calli {S SX : Type} {post : Int32 → S → Prop} {px : SX → Prop} {B : S → State → Prop} {BX : String → SX → State → Prop} {AX : Nat → Prop} (hr : vx_Run p l e R s m args below meth c H locs cells slots mc ms (F0 m pc ls st0) rest (va_Qi post B A1 a) (vx_X px BX AX) free) (hS : va_S A0 H0 H locs) (hA : ∀ q, q < H.size → A1 q → A0 q) (hf : ∀ q, free q → A0 q) (hAX : ∀ q, q < H.size → AX q → A0 q)
    (kx : ∀ (E : String) (ce : Cell) (q9 : Addr) (u : SX) (t : State) (H1 : Heap) (locs1 : List Loc), t.heap = H1 → s.vm.Alike t.vm → px u → BX E u t → H.size ≤ H1.size → (∀ q : Nat, q < H.size → ¬ AX q → H1[q]? = H[q]?) → va_S A0 H0 H1 locs1 → H1[q9]? = some ce → ce.vm = .none → s.vm.findClass E = some ce.cls → vx_W p l e R s m args below meth c H1 locs1 (cells + mc) (slots + ms) Q (F0 m pc ls rest) q9)
    (kk : ∀ (r : Int32) (u : S) (t : State) (H1 : Heap) (locs1 : List Loc), t.heap = H1 → s.vm.Alike t.vm → post r u → B u t → H.size ≤ H1.size → (∀ q : Nat, q < H.size → ¬ A1 q → H1[q]? = H[q]?) → va_S A0 H0 H1 locs1 → W p l e R s m args below meth c H1 locs1 (cells + mc) (slots + ms) Q (F0 m (pc + 3) ls (.int r :: rest))) : W p l e R s m args below meth c H locs cells slots Q (F0 m pc ls st0) := by
  intro T hT X
  rcases hr T hT X with ⟨v, st₀, t, T', L, h0, X', hL, e1, e2, ⟨⟨r, u, hv, hp, hb⟩, hF⟩, st⟩ | ⟨q, st₀, t, T', L, E, ce, h0, X', hL, e1, e2, ⟨u, hp, hb, hF⟩, hce, hcv, hcl, st⟩
  · cases hv
    obtain ⟨k1, k2, k3⟩ := vx_keep h0 e1 hS hA hf hL hF
    obtain ⟨t2, a1, b1⟩ := kk r u t T'.heap (locs ++ L) e1.symm (by rw [← e2]; exact X'.warmed.alike) hp hb k1 k2 k3 T' rfl X'
    exact ⟨t2, st t2 a1, b1⟩
  · obtain ⟨k1, k2, k3⟩ := vx_keep h0 e1 hS hAX hf hL hF
    obtain ⟨t2, a1, b1⟩ := kx E ce q u t T'.heap (locs ++ L) e1.symm (by rw [← e2]; exact X'.warmed.alike) hp hb k1 k2 k3 (by rw [e1]; exact hce) hcv hcl T' rfl X'
    exact ⟨t2, st.trans a1, b1⟩
theorem vx_calll {S SX : Type} {post : Int64 → S → Prop} {px : SX → Prop} {B : S → State → Prop} {BX : String → SX → State → Prop} {AX : Nat → Prop} (hr : vx_Run p l e R s m args below meth c H locs cells slots mc ms (F0 m pc ls st0) rest (va_Ql post B A1 a) (vx_X px BX AX) free) (hS : va_S A0 H0 H locs) (hA : ∀ q, q < H.size → A1 q → A0 q) (hf : ∀ q, free q → A0 q) (hAX : ∀ q, q < H.size → AX q → A0 q)
    (kx : ∀ (E : String) (ce : Cell) (q9 : Addr) (u : SX) (t : State) (H1 : Heap) (locs1 : List Loc), t.heap = H1 → s.vm.Alike t.vm → px u → BX E u t → H.size ≤ H1.size → (∀ q : Nat, q < H.size → ¬ AX q → H1[q]? = H[q]?) → va_S A0 H0 H1 locs1 → H1[q9]? = some ce → ce.vm = .none → s.vm.findClass E = some ce.cls → vx_W p l e R s m args below meth c H1 locs1 (cells + mc) (slots + ms) Q (F0 m pc ls rest) q9)
    (kk : ∀ (r : Int64) (u : S) (t : State) (H1 : Heap) (locs1 : List Loc), t.heap = H1 → s.vm.Alike t.vm → post r u → B u t → H.size ≤ H1.size → (∀ q : Nat, q < H.size → ¬ A1 q → H1[q]? = H[q]?) → va_S A0 H0 H1 locs1 → W p l e R s m args below meth c H1 locs1 (cells + mc) (slots + ms) Q (F0 m (pc + 3) ls (.long r :: rest))) : W p l e R s m args below meth c H locs cells slots Q (F0 m pc ls st0) := by
  intro T hT X
  rcases hr T hT X with ⟨v, st₀, t, T', L, h0, X', hL, e1, e2, ⟨⟨r, u, hv, hp, hb⟩, hF⟩, st⟩ | ⟨q, st₀, t, T', L, E, ce, h0, X', hL, e1, e2, ⟨u, hp, hb, hF⟩, hce, hcv, hcl, st⟩
  · cases hv
    obtain ⟨k1, k2, k3⟩ := vx_keep h0 e1 hS hA hf hL hF
    obtain ⟨t2, a1, b1⟩ := kk r u t T'.heap (locs ++ L) e1.symm (by rw [← e2]; exact X'.warmed.alike) hp hb k1 k2 k3 T' rfl X'
    exact ⟨t2, st t2 a1, b1⟩
  · obtain ⟨k1, k2, k3⟩ := vx_keep h0 e1 hS hAX hf hL hF
    obtain ⟨t2, a1, b1⟩ := kx E ce q u t T'.heap (locs ++ L) e1.symm (by rw [← e2]; exact X'.warmed.alike) hp hb k1 k2 k3 (by rw [e1]; exact hce) hcv hcl T' rfl X'
    exact ⟨t2, st.trans a1, b1⟩
theorem vx_callf {S SX : Type} {post : UInt32 → S → Prop} {px : SX → Prop} {B : S → State → Prop} {BX : String → SX → State → Prop} {AX : Nat → Prop} (hr : vx_Run p l e R s m args below meth c H locs cells slots mc ms (F0 m pc ls st0) rest (va_Qf post B A1 a) (vx_X px BX AX) free) (hS : va_S A0 H0 H locs) (hA : ∀ q, q < H.size → A1 q → A0 q) (hf : ∀ q, free q → A0 q) (hAX : ∀ q, q < H.size → AX q → A0 q)
    (kx : ∀ (E : String) (ce : Cell) (q9 : Addr) (u : SX) (t : State) (H1 : Heap) (locs1 : List Loc), t.heap = H1 → s.vm.Alike t.vm → px u → BX E u t → H.size ≤ H1.size → (∀ q : Nat, q < H.size → ¬ AX q → H1[q]? = H[q]?) → va_S A0 H0 H1 locs1 → H1[q9]? = some ce → ce.vm = .none → s.vm.findClass E = some ce.cls → vx_W p l e R s m args below meth c H1 locs1 (cells + mc) (slots + ms) Q (F0 m pc ls rest) q9)
    (kk : ∀ (r : UInt32) (u : S) (t : State) (H1 : Heap) (locs1 : List Loc), t.heap = H1 → s.vm.Alike t.vm → post r u → B u t → H.size ≤ H1.size → (∀ q : Nat, q < H.size → ¬ A1 q → H1[q]? = H[q]?) → va_S A0 H0 H1 locs1 → W p l e R s m args below meth c H1 locs1 (cells + mc) (slots + ms) Q (F0 m (pc + 3) ls (.float r :: rest))) : W p l e R s m args below meth c H locs cells slots Q (F0 m pc ls st0) := by
  intro T hT X
  rcases hr T hT X with ⟨v, st₀, t, T', L, h0, X', hL, e1, e2, ⟨⟨r, u, hv, hp, hb⟩, hF⟩, st⟩ | ⟨q, st₀, t, T', L, E, ce, h0, X', hL, e1, e2, ⟨u, hp, hb, hF⟩, hce, hcv, hcl, st⟩
  · cases hv
    obtain ⟨k1, k2, k3⟩ := vx_keep h0 e1 hS hA hf hL hF
    obtain ⟨t2, a1, b1⟩ := kk r u t T'.heap (locs ++ L) e1.symm (by rw [← e2]; exact X'.warmed.alike) hp hb k1 k2 k3 T' rfl X'
    exact ⟨t2, st t2 a1, b1⟩
  · obtain ⟨k1, k2, k3⟩ := vx_keep h0 e1 hS hAX hf hL hF
    obtain ⟨t2, a1, b1⟩ := kx E ce q u t T'.heap (locs ++ L) e1.symm (by rw [← e2]; exact X'.warmed.alike) hp hb k1 k2 k3 (by rw [e1]; exact hce) hcv hcl T' rfl X'
    exact ⟨t2, st.trans a1, b1⟩
theorem vx_calld {S SX : Type} {post : UInt64 → S → Prop} {px : SX → Prop} {B : S → State → Prop} {BX : String → SX → State → Prop} {AX : Nat → Prop} (hr : vx_Run p l e R s m args below meth c H locs cells slots mc ms (F0 m pc ls st0) rest (va_Qd post B A1 a) (vx_X px BX AX) free) (hS : va_S A0 H0 H locs) (hA : ∀ q, q < H.size → A1 q → A0 q) (hf : ∀ q, free q → A0 q) (hAX : ∀ q, q < H.size → AX q → A0 q)
    (kx : ∀ (E : String) (ce : Cell) (q9 : Addr) (u : SX) (t : State) (H1 : Heap) (locs1 : List Loc), t.heap = H1 → s.vm.Alike t.vm → px u → BX E u t → H.size ≤ H1.size → (∀ q : Nat, q < H.size → ¬ AX q → H1[q]? = H[q]?) → va_S A0 H0 H1 locs1 → H1[q9]? = some ce → ce.vm = .none → s.vm.findClass E = some ce.cls → vx_W p l e R s m args below meth c H1 locs1 (cells + mc) (slots + ms) Q (F0 m pc ls rest) q9)
    (kk : ∀ (r : UInt64) (u : S) (t : State) (H1 : Heap) (locs1 : List Loc), t.heap = H1 → s.vm.Alike t.vm → post r u → B u t → H.size ≤ H1.size → (∀ q : Nat, q < H.size → ¬ A1 q → H1[q]? = H[q]?) → va_S A0 H0 H1 locs1 → W p l e R s m args below meth c H1 locs1 (cells + mc) (slots + ms) Q (F0 m (pc + 3) ls (.double r :: rest))) : W p l e R s m args below meth c H locs cells slots Q (F0 m pc ls st0) := by
  intro T hT X
  rcases hr T hT X with ⟨v, st₀, t, T', L, h0, X', hL, e1, e2, ⟨⟨r, u, hv, hp, hb⟩, hF⟩, st⟩ | ⟨q, st₀, t, T', L, E, ce, h0, X', hL, e1, e2, ⟨u, hp, hb, hF⟩, hce, hcv, hcl, st⟩
  · cases hv
    obtain ⟨k1, k2, k3⟩ := vx_keep h0 e1 hS hA hf hL hF
    obtain ⟨t2, a1, b1⟩ := kk r u t T'.heap (locs ++ L) e1.symm (by rw [← e2]; exact X'.warmed.alike) hp hb k1 k2 k3 T' rfl X'
    exact ⟨t2, st t2 a1, b1⟩
  · obtain ⟨k1, k2, k3⟩ := vx_keep h0 e1 hS hAX hf hL hF
    obtain ⟨t2, a1, b1⟩ := kx E ce q u t T'.heap (locs ++ L) e1.symm (by rw [← e2]; exact X'.warmed.alike) hp hb k1 k2 k3 (by rw [e1]; exact hce) hcv hcl T' rfl X'
    exact ⟨t2, st.trans a1, b1⟩
theorem vx_callv {S SX : Type} {post : S → Prop} {px : SX → Prop} {B : S → State → Prop} {BX : String → SX → State → Prop} {AX : Nat → Prop} (hr : vx_Run p l e R s m args below meth c H locs cells slots mc ms (F0 m pc ls st0) rest (va_Qv post B A1 a) (vx_X px BX AX) free) (hS : va_S A0 H0 H locs) (hA : ∀ q, q < H.size → A1 q → A0 q) (hf : ∀ q, free q → A0 q) (hAX : ∀ q, q < H.size → AX q → A0 q)
    (kx : ∀ (E : String) (ce : Cell) (q9 : Addr) (u : SX) (t : State) (H1 : Heap) (locs1 : List Loc), t.heap = H1 → s.vm.Alike t.vm → px u → BX E u t → H.size ≤ H1.size → (∀ q : Nat, q < H.size → ¬ AX q → H1[q]? = H[q]?) → va_S A0 H0 H1 locs1 → H1[q9]? = some ce → ce.vm = .none → s.vm.findClass E = some ce.cls → vx_W p l e R s m args below meth c H1 locs1 (cells + mc) (slots + ms) Q (F0 m pc ls rest) q9)
    (kk : ∀ (u : S) (t : State) (H1 : Heap) (locs1 : List Loc), t.heap = H1 → s.vm.Alike t.vm → post u → B u t → H.size ≤ H1.size → (∀ q : Nat, q < H.size → ¬ A1 q → H1[q]? = H[q]?) → va_S A0 H0 H1 locs1 → W p l e R s m args below meth c H1 locs1 (cells + mc) (slots + ms) Q (F0 m (pc + 3) ls (rest))) : W p l e R s m args below meth c H locs cells slots Q (F0 m pc ls st0) := by
  intro T hT X
  rcases hr T hT X with ⟨v, st₀, t, T', L, h0, X', hL, e1, e2, ⟨⟨u, hv, hp, hb⟩, hF⟩, st⟩ | ⟨q, st₀, t, T', L, E, ce, h0, X', hL, e1, e2, ⟨u, hp, hb, hF⟩, hce, hcv, hcl, st⟩
  · cases hv
    obtain ⟨k1, k2, k3⟩ := vx_keep h0 e1 hS hA hf hL hF
    obtain ⟨t2, a1, b1⟩ := kk u t T'.heap (locs ++ L) e1.symm (by rw [← e2]; exact X'.warmed.alike) hp hb k1 k2 k3 T' rfl X'
    exact ⟨t2, st t2 a1, b1⟩
  · obtain ⟨k1, k2, k3⟩ := vx_keep h0 e1 hS hAX hf hL hF
    obtain ⟨t2, a1, b1⟩ := kx E ce q u t T'.heap (locs ++ L) e1.symm (by rw [← e2]; exact X'.warmed.alike) hp hb k1 k2 k3 (by rw [e1]; exact hce) hcv hcl T' rfl X'
    exact ⟨t2, st.trans a1, b1⟩
/-- caught by the row x of this method's table; the rows ahead don't take it -/
theorem vx_catch {own name : String} {E : String} {ce : Cell} {q : Addr} (hown : s.vm.findClass own = some m.cls) (pre : List ExceptionTableEntry) (x : ExceptionTableEntry) (suf : List ExceptionTableEntry) (hsplit : c.exceptionTable.toList = pre ++ x :: suf)
    (hpass : ∀ z ∈ pre, covers z pc = false ∨ (z.catchType ≠ 0 ∧ ∃ nm : String, (Cond.classLink own z.catchType nm).before args s = true ∧ va_Nc E nm s)) (hx : covers x pc = true) (h0 : x.catchType ≠ 0)
    (hlink : (Cond.classLink own x.catchType name).before args s = true) (hcast : (Cond.castable E name).before args s = true) (hcell : H[q]? = some ce) (hv : ce.vm = .none) (hcl : s.vm.findClass E = some ce.cls)
    (kk : W p l e R s m args below meth c H locs cells slots Q (F0 m x.handlerPc ls [.ref q])) : vx_W p l e R s m args below meth c H locs cells slots Q (F0 m pc ls rest) q := by
  intro T hT X
  have hpl : e.platform.magicAccessors = ({} : Platform).magicAccessors := by rw [X.admits.platform]
  obtain ⟨c3, c4, hc3, hc4, hasg⟩ := Cond.castable_spec hcast
  cases Option.some.inj (hc3.symm.trans hcl)
  obtain ⟨c5, hc5, hcl5⟩ := Cond.classLink_spec hown hlink e.platform hpl
  cases Option.some.inj (hc4.symm.trans hc5)
  obtain ⟨vm', X', st⟩ := X.thenCaughtThrough q (g := F0 m pc ls rest) rfl (Steps.refl _) (by rw [hT]; exact hcell) (by rw [hv]; rfl) (by obtain ⟨k9, h9, -⟩ := Vm.findClass_spec hcl; exact ⟨k9, h9⟩) pre x suf hsplit
    (fun z hz => by
      rcases hpass z hz with h | ⟨hz0, nm, hl1, hn1⟩
      · exact Or.inl h
      · obtain ⟨c6, hc6, hcl6⟩ := Cond.classLink_spec hown hl1 e.platform hpl
        obtain ⟨a8, b8, h1, h2, h3⟩ := hn1
        cases Option.some.inj (h1.symm.trans hcl)
        cases Option.some.inj (h2.symm.trans hc6)
        exact Or.inr ⟨hz0, _, hcl6, h3⟩) hx (Or.inr ⟨h0, c4, hcl5, hasg⟩)
  obtain ⟨t, a1, b1⟩ := kk (T.setVm vm') hT X'
  exact ⟨t, st.trans a1, b1⟩
end Rows
section Ends
variable {p : Program} {l : Launch} {e : Env} {R : Room} {s : State} {m : MethodId} {args : Array Value} {below : List Frame} {meth : Method} {c : Code} {H : Heap} {locs : List Loc} {cells slots : Nat} {Q : State → Prop}
variable {mc ms : Nat} {free : Addr → Prop} {A0 A1 : Nat → Prop} {H0 : Heap} {a : Array Value} {ls : Array Slot} {st0 rest : List Value}
variable {Qc : Array Value → State → Outcome → State → Prop} {XC : String → State → State → Prop}
/-- what a body that may throw owes at its end -/
def vx_MQ (below : List Frame) (Qc : Array Value → State → Outcome → State → Prop) (XC : String → State → State → Prop) (a : Array Value) (s : State) (mc ms : Nat) (free : Addr → Prop) : State → Prop := fun t =>
  ∃ o, t.status = .running ∧ Ended t below o ∧ vx_Q Qc XC mc ms free a s o t
theorem vx_ret {g : JFrame} {mc ms : Nat} (k : W p l e R s m args below meth c H locs cells slots (MQ below Qc args s mc ms free) g) : W p l e R s m args below meth c H locs cells slots (vx_MQ below Qc XC args s mc ms free) g := by
  intro T hT X
  obtain ⟨t, a1, o, b1, b2, b3, b4⟩ := k T hT X
  exact ⟨t, a1, o, b1, b2, Or.inl ⟨b3, b4⟩⟩
/-- not caught here: it goes on to the caller -/
theorem vx_widen {g : JFrame} {q : Addr} {k n : Nat} (h1 : cells ≤ k) (h2 : slots ≤ n) (kk : vx_W p l e R s m args below meth c H locs k n Q g q) : vx_W p l e R s m args below meth c H locs cells slots Q g q := fun T hT X => kk T hT (stand_widen X h1 h2)
theorem vx_out {pc : Nat} {E : String} {ce : Cell} {q : Addr} {mc ms : Nat} (hout : ∀ x ∈ c.exceptionTable.toList, covers x pc = false) (hlocks : meth.locks = false) (hcell : H[q]? = some ce) (hv : ce.vm = .none) (hcl : s.vm.findClass E = some ce.cls)
    (hx : ∀ t : State, t.heap = H → s.vm.Alike t.vm → XC E s t) (hf : ∀ z ∈ locs, free z.base) (hc : cells ≤ mc) (hs : slots ≤ ms) :
    vx_W p l e R s m args below meth c H locs cells slots (vx_MQ below Qc XC args s mc ms free) (F0 m pc ls rest) q := by
  intro T hT X
  obtain ⟨st1, hrun, hend, hW, hsm⟩ := X.leaveThrown q (g := F0 m pc ls rest) rfl rfl rfl hout hlocks
  have hcell9 : (T.setFrames (.throwing q :: below)).heap[q]? = some ce := by
    show T.heap[q]? = some ce
    rw [hT]; exact hcell
  exact ⟨_, st1, .threw q, hrun, hend, Or.inr ⟨q, rfl, E, ce, locs, hx _ hT hW.alike, hcell9, hv, hcl, hW, hsm.mono hc hs, hf⟩⟩
theorem vx_frame {U : State} {k n : Nat} (h : s.sameButNew ({ U with vm := s.vm } : State) locs k n) : s.heap.size ≤ U.heap.size ∧ ∀ q : Nat, q < s.heap.size → (∀ z ∈ locs, z.base ≠ q) → U.heap[q]? = s.heap[q]? := by
  obtain ⟨-, h2, -, -, -, h6⟩ := h
  refine ⟨h2, fun q hq hz => ?_⟩
  obtain ⟨c9, e1, e2, e3, e4⟩ := h6 q _ (Array.getElem?_eq_getElem hq)
  have hs : c9.slots = (s.heap[q]).slots := Array.ext_getElem? fun i => e4 i fun hm => hz _ hm rfl
  have h9 : c9 = s.heap[q] := by
    rw [hs] at e2
    exact e2
  have e5 : U.heap[q]? = some c9 := e1
  rw [e5, h9, Array.getElem?_eq_getElem hq]
/-- the words of a throw but the four that speak of the heap -/
def vx_no (w : Cond) : Bool := decide (w ≠ .isRef (.static Bundle.tN "UNASSIGNED_STACK" Bundle.steD)) && decide (w ≠ .isRef (.static Bundle.tN "SUPPRESSED_SENTINEL" Bundle.listD)) && decide (w ≠ .laysStatic Bundle.tN "UNASSIGNED_STACK" Bundle.steD) && decide (w ≠ .laysStatic Bundle.tN "SUPPRESSED_SENTINEL" Bundle.listD)
def vx_at0 (own : String) (ic : Nat) (X : String) (names : List String) : List Cond := (Bundle.ownAtoms0 own ic X names).filter vx_no
def vx_atS (own : String) (ic : Nat) (X : String) (names : List String) : List Cond := (Bundle.ownAtoms own ic X names).filter vx_no
/-- a word that the tables alone decide, or a good one -/
def vx_ot (w : Cond) : Bool := w.onTables || goodWord w
theorem vx_ot_at {args a' : Array Value} {s U : State} {w : Cond} (hW : s.WarmedH U.vm) (hvm : s.vm = U.vm) (hg : vx_ot w = true) (h : w.before args s = true) : w.before a' U = true := by
  simp only [vx_ot, Bool.or_eq_true] at hg
  rcases hg with hg | hg
  · exact va_tabs hg hvm h
  · exact word_at hW (good_of_word hg) h
/-- a list's words: the good ones out of the method's own list, the others by premises of their own -/
theorem vx_hat {args : Array Value} {s : State} {L B : List Cond} (h1 : ∀ w ∈ L.filter goodWord, w.before args s = true) (h2 : ∀ w ∈ L.filter (fun w => !goodWord w), w ∈ B) (h3 : ∀ w ∈ B, w.before args s = true) : ∀ w ∈ L, w.before args s = true := by
  intro w hw
  by_cases g : goodWord w = true
  · exact h1 w (List.mem_filter.mpr ⟨hw, g⟩)
  · refine h3 w (h2 w (List.mem_filter.mpr ⟨hw, ?_⟩))
    show (!goodWord w) = true
    cases hgw : goodWord w
    · rfl
    · exact absurd hgw g
theorem vx_c {args : Array Value} {s : State} {w : Cond} {B : List Cond} (h : w.before args s = true) (t : ∀ w ∈ B, w.before args s = true) : ∀ w' ∈ w :: B, w'.before args s = true := fun w' h' => (List.mem_cons.mp h').elim (fun e => by rw [e]; exact h) (t w')
theorem vx_n {args : Array Value} {s : State} : ∀ w ∈ ([] : List Cond), w.before args s = true := fun _ h => nomatch h
theorem vx_own {args : Array Value} {s : State} {L : List Cond} (h1 : ∀ w ∈ L.filter vx_no, w.before args s = true)
    (hU : (Cond.isRef (.static Bundle.tN "UNASSIGNED_STACK" Bundle.steD)).before args s = true) (hN : (Cond.isRef (.static Bundle.tN "SUPPRESSED_SENTINEL" Bundle.listD)).before args s = true)
    (lU : (Cond.laysStatic Bundle.tN "UNASSIGNED_STACK" Bundle.steD).before args s = true) (lN : (Cond.laysStatic Bundle.tN "SUPPRESSED_SENTINEL" Bundle.listD).before args s = true) : ∀ w ∈ L, w.before args s = true := by
  intro w hw
  by_cases e1 : w = .isRef (.static Bundle.tN "UNASSIGNED_STACK" Bundle.steD)
  · rw [e1]; exact hU
  · by_cases e2 : w = .isRef (.static Bundle.tN "SUPPRESSED_SENTINEL" Bundle.listD)
    · rw [e2]; exact hN
    · by_cases e3 : w = .laysStatic Bundle.tN "UNASSIGNED_STACK" Bundle.steD
      · rw [e3]; exact lU
      · by_cases e4 : w = .laysStatic Bundle.tN "SUPPRESSED_SENTINEL" Bundle.listD
        · rw [e4]; exact lN
        · exact h1 w (List.mem_filter.mpr ⟨hw, by unfold vx_no; rw [decide_eq_true e1, decide_eq_true e2, decide_eq_true e3, decide_eq_true e4]; rfl⟩)
/-- where a static field lies, its class's statics cell in H -/
def vx_L (C n d : String) (A : Nat → Prop) (U : State) (H : Heap) : Prop := ∃ (c : ClassId) (k : Class) (i : Nat) (f : Field) (a : Nat) (cell : Cell), U.vm.findClass C = some c ∧ U.fieldFound? C n d = some (c, k, i, f) ∧ f.isStatic = true ∧ k.statics = some a ∧ H[a]? = some cell ∧ cell.vm.isStatics = true ∧ cell.cls = c ∧ f.slot < cell.slots.size ∧ k.staticTypes[f.slot]? = some f.type ∧ ¬ A a
theorem vx_L.moved {C n d : String} {A : Nat → Prop} {u U : State} {H : Heap} (hvm : u.vm.Alike U.vm) (h : vx_L C n d A u H) : vx_L C n d A U H := by
  obtain ⟨c, k, i, f, a, cell, h1, h2, h3, h4, h5, h6, h7, h8, h9, h10⟩ := h
  obtain ⟨k', hi', he⟩ := State.fieldFound?_setVm hvm h2
  exact ⟨c, k', i, f, a, cell, by rw [hvm.findClass]; exact h1, hi', h3, by rw [he]; exact h4, h5, h6, h7, h8, by rw [he]; exact h9, h10⟩
theorem vx_L.kept {C n d : String} {A : Nat → Prop} {U : State} {H H1 : Heap} (h : vx_L C n d A U H) (hq : ∀ a : Nat, a < H.size → ¬ A a → H1[a]? = H[a]?) : vx_L C n d A U H1 := by
  obtain ⟨c, k, i, f, a, cell, h1, h2, h3, h4, h5, h6, h7, h8, h9, h10⟩ := h
  exact ⟨c, k, i, f, a, cell, h1, h2, h3, h4, by rw [hq a (Array.getElem?_eq_some_iff.mp h5).1 h10]; exact h5, h6, h7, h8, h9, h10⟩
theorem vx_L.narrow {C n d : String} {A B : Nat → Prop} {U : State} {H : Heap} (h : vx_L C n d A U H) (hAB : ∀ q, B q → A q) : vx_L C n d B U H := by
  obtain ⟨c, k, i, f, a, cell, h1, h2, h3, h4, h5, h6, h7, h8, h9, h10⟩ := h
  exact ⟨c, k, i, f, a, cell, h1, h2, h3, h4, h5, h6, h7, h8, h9, fun z => h10 (hAB _ z)⟩
theorem vx_L.word {C n d : String} {A : Nat → Prop} {s : State} {args : Array Value} (h : vx_L C n d A s s.heap) : (Cond.laysStatic C n d).before args s = true := by
  obtain ⟨c, k, i, f, a, cell, h1, h2, h3, h4, h5, h6, h7, h8, h9, -⟩ := h
  show (Cond.laysStatic C n d).holds args s none s [] = true
  exact Cond.laysStatic_of h1 h2 h3 h4 h5 h6 h7 h8 h9
/-- .. and what it holds: null or some reference -/
def vx_Zq (C n d : String) (A : Nat → Prop) (U : State) (H : Heap) : Prop := va_Zq C n d A U H ∧ vx_L C n d A U H
theorem vx_Zq.moved {C n d : String} {A : Nat → Prop} {u U : State} {H : Heap} (hvm : u.vm.Alike U.vm) (h : vx_Zq C n d A u H) : vx_Zq C n d A U H := ⟨va_Zq.moved hvm h.1, vx_L.moved hvm h.2⟩
theorem vx_Zq.kept {C n d : String} {A : Nat → Prop} {U : State} {H H1 : Heap} (h : vx_Zq C n d A U H) (hq : ∀ a : Nat, a < H.size → ¬ A a → H1[a]? = H[a]?) : vx_Zq C n d A U H1 := ⟨va_Zq.kept h.1 hq, vx_L.kept h.2 hq⟩
theorem vx_Zq.narrow {C n d : String} {A B : Nat → Prop} {U : State} {H : Heap} (h : vx_Zq C n d A U H) (hAB : ∀ q, B q → A q) : vx_Zq C n d B U H := ⟨va_Zq.narrow h.1 hAB, vx_L.narrow h.2 hAB⟩
theorem vx_Zqof {args : Array Value} {s : State} {C n d : String} {A : Nat → Prop} (hl : (Cond.laysStatic C n d).before args s = true) (hini : (Cond.initialized C).before args s = true) (h : (Cond.isRef (.static C n d)).before args s = true) (hA : ∀ a : Nat, a < s.heap.size → ¬ A a) : vx_Zq C n d A s s.heap := by
  refine ⟨va_Zqof hl hini h hA, ?_⟩
  obtain ⟨c, k, i, f, a, cell, h1, h2, h3, h4, h5, h6, h7, h8, h9⟩ := Cond.laysStatic_spec hl
  exact ⟨c, k, i, f, a, cell, h1, h2, h3, h4, h5, h6, h7, h8, h9, hA a (Array.getElem?_eq_some_iff.mp h5).1⟩
theorem vx_isRef {C n d : String} {v : Value} {A : Nat → Prop} {s : State} {args : Array Value} (h : va_Z C n d v A s s.heap) (hv : v.isRef = true) : (Cond.isRef (.static C n d)).before args s = true := by
  obtain ⟨cf, kf, fi, f, a, cell, h1, h2, h3, h4, h5, h6, h7, -⟩ := h
  have he : (Term.static C n d).eval args s none [] s = some v := by
    simp [Term.eval, State.fieldNamed?, h1, h2, h4, h5, h6, h7]
  simp only [Cond.before, Cond.holds, Cond.value, he]
  cases v <;> simp_all [Value.isRef]
theorem vx_isRefq {C n d : String} {A : Nat → Prop} {s : State} {args : Array Value} (h : va_Zq C n d A s s.heap) : (Cond.isRef (.static C n d)).before args s = true := by
  rcases h with h | ⟨t, h⟩
  · exact vx_isRef h rfl
  · exact vx_isRef h rfl
/-- the same frame, seen from here: as if the method were called anew in this heap -/
theorem vx_rebase {T : State} (X : Stand p l e R s m args below meth c T locs cells slots) {R' : Room} (hf : R'.frames ≤ R.frames) (hl : R'.locals ≤ R.locals) (hc : cells + R'.cells ≤ R.cells) (hs : slots + R'.slots ≤ R.slots) :
    Stand p l e R' ((T.setVm s.vm).setFrames (.invoking m args :: below)) m args below meth c T [] 0 0 := by
  have htop : (T.setVm s.vm).topJava?.isSome := X.here.top
  have hF : ((T.setVm s.vm).setFrames (.invoking m args :: below)).frames = .invoking m args :: below := State.frames_setFrames _ (State.cur_lt_of_top htop)
  obtain ⟨g₀, hg0⟩ := Option.isSome_iff_exists.mp htop
  obtain ⟨r, hr⟩ := State.topJava?_eq_some.mp hg0
  have hl9 : e.platform.stackLimits (T.setVm s.vm).me = e.platform.stackLimits s.me := X.limits
  have hb9 : (T.setVm s.vm).me.stackBytes = s.me.stackBytes := X.bytes
  refine ⟨X.admits, X.cas, X.clock, hF, ?_, X.hears, X.method, X.code, X.here, X.tail, X.warmed, ?_, ?_, ?_⟩
  · have h := X.room
    have hU : ((T.setVm s.vm).setFrames (.invoking m args :: below)).localsInUse = s.localsInUse := by
      rw [State.localsInUse_invoking hF (meth := meth) (c := c) X.method X.code, State.localsInUse_invoking X.frames X.method X.code]
    simp only [State.hasRoom, Bool.and_eq_true, decide_eq_true_eq] at h ⊢
    obtain ⟨⟨⟨⟨h1, h2, h3, h4, h5, h6⟩, h7⟩, h8⟩, h9⟩ := h
    rw [X.frames, List.length_cons] at h2 h3
    have q1 := X.heapSize
    have q2 := X.used
    simp only [hF, hU, List.length_cons, State.stackLimits_setFrames, State.stackBytes_setFrames, hl9, hb9]
    refine ⟨⟨⟨⟨by omega, by omega, by omega, by omega, by omega, h6⟩, ?_⟩, ?_⟩, X.book⟩
    · show T.heap.size + R'.cells ≤ e.platform.maxCells
      omega
    · show T.slotsUsed + R'.slots ≤ e.platform.maxSlots
      omega
  · rw [State.stackLimits_setFrames]; rfl
  · rw [State.stackBytes_setFrames]; rfl
  · refine ⟨?_, Nat.le_refl _, Nat.le_refl _, ?_, ?_, fun a c9 h9 => ⟨c9, h9, rfl, rfl, fun _ _ => rfl⟩⟩
    · obtain ⟨t, ht, -⟩ := State.frames_cons hr
      show T.setVm s.vm = { ((T.setVm s.vm).setFrames (.invoking m args :: below)).setFrames (T.setVm s.vm).frames with heap := T.heap, slotsUsed := T.slotsUsed }
      rw [State.setFrames_setFrames, State.setFrames_self ht]
      rfl
    · show T.slotsUsed = T.slotsUsed + ((T.heap.toList.drop T.heap.size).map (·.slots.size)).sum
      rw [List.drop_eq_nil_of_le (Nat.le_of_eq Array.length_toList)]
      rfl
    · show ((T.heap.toList.drop T.heap.size).map (·.slots.size)).sum ≤ 0
      rw [List.drop_eq_nil_of_le (Nat.le_of_eq Array.length_toList)]
      exact Nat.le_refl _
/-- 'throw new E()': new; dup; invokespecial; athrow -/
theorem vx_throw0 {cc : ByteArray} {pc : Nat} (hexec : p.tables.exec = Jvm.exec) (hb : c.code = cc) (hl : l.stackTraces = false) {own cls : String} {names : List String} {ik ic mc ms : Nat} {A : Nat → Prop}
    (hown : s.vm.findClass own = some m.cls) (hcls : Bundle.fit cls = true) (hnames : ∀ n ∈ names, Bundle.fit n = true)
    (hk : (Cond.classLink own ik cls).before args s = true) (hini : (Cond.initialized cls).before args s = true) (hat : ∀ w ∈ vx_at0 own ic cls names, w.before args s = true)
    (hgood : ∀ w ∈ Cond.classLink own ik cls :: Cond.initialized cls :: vx_at0 own ic cls names, vx_ot w = true)
    (hU : vx_Zq Bundle.tN "UNASSIGNED_STACK" Bundle.steD A s s.heap) (hN : vx_Zq Bundle.tN "SUPPRESSED_SENTINEL" Bundle.listD A s s.heap) (hS : va_S A s.heap H locs) (hsize : ls.size = c.maxLocals)
    (d0 : decode cc pc = .ok (.new ik, 3)) (d3 : decode cc (pc + 3) = .ok (.dup, 1)) (d4 : decode cc (pc + 4) = .ok (.invokespecial ic, 3)) (d7 : decode cc (pc + 7) = .ok (.athrow, 1))
    (hout : ∀ x ∈ c.exceptionTable.toList, covers x (pc + 7) = false)
    (hRframes : names.length + 3 < R.frames) (hRlocals : (rest.map fun v => v.category).sum + (13 * (names.length + 1) + 42) ≤ R.locals) (hRcells : cells + 1 ≤ R.cells) (hRslots : slots + 6 ≤ R.slots) (hlocks : meth.locks = false)
    (hx : ∀ t : State, s.vm.Alike t.vm → H.size ≤ t.heap.size → (∀ q : Nat, q < H.size → t.heap[q]? = H[q]?) → XC cls s t)
    (hf : ∀ z ∈ locs, free z.base) (hc : cells + 1 ≤ mc) (hs : slots + 6 ≤ ms) :
    W p l e R s m args below meth c H locs cells slots (vx_MQ below Qc XC args s mc ms free) (F0 m pc ls rest) := by
  intro T hT X
  have htr : e.platform.stackTraces = false := (show e.platform.stackTraces = l.stackTraces by rw [X.admits.platform]).trans hl
  have Y := vx_rebase X (R' := { frames := R.frames, locals := R.locals, cells := 1, slots := 6 }) (Nat.le_refl _) (Nat.le_refl _) hRcells hRslots
  obtain ⟨s', hA⟩ : ∃ z, z = (T.setVm s.vm).setFrames (.invoking m args :: below) := ⟨_, rfl⟩
  rw [← hA] at Y
  have hvm : s'.vm = s.vm := by rw [hA]; rfl
  have hhp : s'.heap = H := by rw [hA]; exact hT
  have hW0 : s.WarmedH s'.vm := by rw [hvm]; exact State.WarmedH.refl s
  have hat' : ∀ w ∈ vx_at0 own ic cls names, w.before args s' = true := fun w hw => vx_ot_at hW0 hvm.symm (hgood w (List.mem_cons_of_mem _ (List.mem_cons_of_mem _ hw))) (hat w hw)
  have hk' : (Cond.classLink own ik cls).before args s' = true := vx_ot_at hW0 hvm.symm (hgood _ List.mem_cons_self) hk
  have hini' : (Cond.initialized cls).before args s' = true := vx_ot_at hW0 hvm.symm (hgood _ (List.mem_cons_of_mem _ List.mem_cons_self)) hini
  have hU' : vx_Zq Bundle.tN "UNASSIGNED_STACK" Bundle.steD A s' s'.heap := by rw [hhp]; exact vx_Zq.moved hW0.alike (hU.kept hS.2.1)
  have hN' : vx_Zq Bundle.tN "SUPPRESSED_SENTINEL" Bundle.listD A s' s'.heap := by rw [hhp]; exact vx_Zq.moved hW0.alike (hN.kept hS.2.1)
  have h : ∀ w ∈ Bundle.ownAtoms0 own ic cls names, w.before args s' = true := vx_own hat' (vx_isRefq hU'.1) (vx_isRefq hN'.1) hU'.2.word hN'.2.word
  have hown' : s'.vm.findClass own = some m.cls := by rw [hvm]; exact hown
  have hins : (Cond.instantiable cls 6).before args s' = true := h _ (by simp [Bundle.ownAtoms0])
  obtain ⟨vm₁, cX, kX, hfX, hkX, -, -, X₁, st1⟩ := Y.newCold hexec (own := own) (C := cls) (index := ik) (n := 6) hown' hk' hins hini'
    (g := F0 m pc ls rest) rfl (by rw [hb]; exact d0) (Nat.le_refl _) (Nat.le_refl _)
  generalize hT1 : (T.setVm vm₁).pushCell { cls := cX, slots := kX.instanceTypes.map defaultValue, vm := .none } = T1 at X₁ st1
  have hcat : (Value.ref T.heap.size).category = 1 := rfl
  have hcellA : T1.heap[T.heap.size]? = some (freshCell cX kX) := by rw [← hT1]; exact State.heap_pushCell_size _ _
  have d3' : decode c.code (pc + 3) = .ok (.dup, 1) := by rw [hb]; exact d3
  obtain ⟨U, hsteps, hrun, hend, hW, hsame, ce, hce, hO⟩ := X₁.ctorThrow0 hexec htr (own := own) (cls := cls) (names := names) (ic := ic) hown' hcls hnames h (fun x hx => nomatch hx) hfX hkX hcellA (by rw [hhp, hT]; exact Nat.le_refl _)
    (g := { method := m, pc := pc + 4, locals := ls, stack := .ref T.heap.size :: .ref T.heap.size :: rest, locked := none }) rfl hsize rfl rfl (rest := rest) rfl
    (by rw [hb]; exact d4) (by rw [hb]; exact d7) hout hRframes (by simp only [List.map_cons, List.sum_cons, hcat]; omega) hlocks
  obtain ⟨f1, f2⟩ := vx_frame hsame
  rw [hhp] at f1 f2
  have hWs : s.WarmedH U.vm := State.WarmedH.trans hW0 hW
  have hcl : s.vm.findClass cls = some ce.cls := by
    have h9 := hO.cls
    rw [hvm] at h9
    exact h9
  have hall : s.sameButNew ({ U with vm := s.vm } : State) locs mc ms := by
    subst hA
    obtain ⟨e1, e2⟩ := hsame
    rw [State.setFrames_setFrames] at e1
    have h2 : (T.setVm s.vm).sameButNew ({ U with vm := s.vm } : State) [] (0 + 1) (0 + 6) := ⟨e1, e2⟩
    have h3 := X.same.trans h2
    rw [List.append_nil] at h3
    exact h3.mono hc hs
  refine ⟨U, ?_, .threw T.heap.size, hrun, hend, Or.inr ⟨T.heap.size, rfl, cls, ce, locs, hx U hWs.alike f1 (fun q hq => f2 q hq (fun z hz => nomatch hz)), hce, hO.vm, hcl, hWs, hall, hf⟩⟩
  refine st1 _ ?_
  show Steps p.tables e below (T1.setTop { method := m, pc := pc + 3, locals := ls, stack := .ref T.heap.size :: rest, locked := none }) _
  jvm_step X₁.here [X₁.here.top, hexec, d3', Value.category]
  exact hsteps
/-- 'throw new E("text")': new; dup; ldc; invokespecial; athrow -/
theorem vx_throwS {cc : ByteArray} {pc : Nat} (hexec : p.tables.exec = Jvm.exec) (hb : c.code = cc) (hl : l.stackTraces = false) {own cls text : String} {names : List String} {ik is ic mc ms sa : Nat} {A : Nat → Prop}
    (hown : s.vm.findClass own = some m.cls) (hcls : Bundle.fit cls = true) (hnames : ∀ n ∈ names, Bundle.fit n = true)
    (hk : (Cond.classLink own ik cls).before args s = true) (hini : (Cond.initialized cls).before args s = true) (hstr : vk_R own is text sa s) (hat : ∀ w ∈ vx_atS own ic cls names, w.before args s = true)
    (hgood : ∀ w ∈ Cond.classLink own ik cls :: Cond.initialized cls :: vx_atS own ic cls names, vx_ot w = true)
    (hU : vx_Zq Bundle.tN "UNASSIGNED_STACK" Bundle.steD A s s.heap) (hN : vx_Zq Bundle.tN "SUPPRESSED_SENTINEL" Bundle.listD A s s.heap) (hS : va_S A s.heap H locs) (hsize : ls.size = c.maxLocals)
    (d0 : decode cc pc = .ok (.new ik, 3)) (d3 : decode cc (pc + 3) = .ok (.dup, 1)) (d4 : decode cc (pc + 4) = .ok (.ldc is, 2)) (d6 : decode cc (pc + 6) = .ok (.invokespecial ic, 3)) (d9 : decode cc (pc + 9) = .ok (.athrow, 1))
    (hout : ∀ x ∈ c.exceptionTable.toList, covers x (pc + 9) = false)
    (hRframes : names.length + 3 < R.frames) (hRlocals : (rest.map fun v => v.category).sum + (13 * (names.length + 1) + 43) ≤ R.locals) (hRcells : cells + 1 ≤ R.cells) (hRslots : slots + 6 ≤ R.slots) (hlocks : meth.locks = false)
    (hx : ∀ t : State, s.vm.Alike t.vm → H.size ≤ t.heap.size → (∀ q : Nat, q < H.size → t.heap[q]? = H[q]?) → XC cls s t)
    (hf : ∀ z ∈ locs, free z.base) (hc : cells + 1 ≤ mc) (hs : slots + 6 ≤ ms) :
    W p l e R s m args below meth c H locs cells slots (vx_MQ below Qc XC args s mc ms free) (F0 m pc ls rest) := by
  intro T hT X
  have htr : e.platform.stackTraces = false := (show e.platform.stackTraces = l.stackTraces by rw [X.admits.platform]).trans hl
  have Y := vx_rebase X (R' := { frames := R.frames, locals := R.locals, cells := 1, slots := 6 }) (Nat.le_refl _) (Nat.le_refl _) hRcells hRslots
  obtain ⟨s', hA⟩ : ∃ z, z = (T.setVm s.vm).setFrames (.invoking m args :: below) := ⟨_, rfl⟩
  rw [← hA] at Y
  have hvm : s'.vm = s.vm := by rw [hA]; rfl
  have hhp : s'.heap = H := by rw [hA]; exact hT
  have hW0 : s.WarmedH s'.vm := by rw [hvm]; exact State.WarmedH.refl s
  have hat' : ∀ w ∈ vx_atS own ic cls names, w.before args s' = true := fun w hw => vx_ot_at hW0 hvm.symm (hgood w (List.mem_cons_of_mem _ (List.mem_cons_of_mem _ hw))) (hat w hw)
  have hk' : (Cond.classLink own ik cls).before args s' = true := vx_ot_at hW0 hvm.symm (hgood _ List.mem_cons_self) hk
  have hini' : (Cond.initialized cls).before args s' = true := vx_ot_at hW0 hvm.symm (hgood _ (List.mem_cons_of_mem _ List.mem_cons_self)) hini
  have hU' : vx_Zq Bundle.tN "UNASSIGNED_STACK" Bundle.steD A s' s'.heap := by rw [hhp]; exact vx_Zq.moved hW0.alike (hU.kept hS.2.1)
  have hN' : vx_Zq Bundle.tN "SUPPRESSED_SENTINEL" Bundle.listD A s' s'.heap := by rw [hhp]; exact vx_Zq.moved hW0.alike (hN.kept hS.2.1)
  have h : ∀ w ∈ Bundle.ownAtoms own ic cls names, w.before args s' = true := vx_own hat' (vx_isRefq hU'.1) (vx_isRefq hN'.1) hU'.2.word hN'.2.word
  have hown' : s'.vm.findClass own = some m.cls := by rw [hvm]; exact hown
  have hins : (Cond.instantiable cls 6).before args s' = true := h _ (by simp [Bundle.ownAtoms])
  obtain ⟨vm₁, cX, kX, hfX, hkX, -, -, X₁, st1⟩ := Y.newCold hexec (own := own) (C := cls) (index := ik) (n := 6) hown' hk' hins hini'
    (g := F0 m pc ls rest) rfl (by rw [hb]; exact d0) (Nat.le_refl _) (Nat.le_refl _)
  generalize hT1 : (T.setVm vm₁).pushCell { cls := cX, slots := kX.instanceTypes.map defaultValue, vm := .none } = T1 at X₁ st1
  have hcat : (Value.ref T.heap.size).category = 1 := rfl
  have hcellA : T1.heap[T.heap.size]? = some (freshCell cX kX) := by rw [← hT1]; exact State.heap_pushCell_size _ _
  have d3' : decode c.code (pc + 3) = .ok (.dup, 1) := by rw [hb]; exact d3
  have d4' : decode c.code (pc + 4) = .ok (.ldc is, 2) := by rw [hb]; exact d4
  have hstr' : vk_R own is text sa s' := vk_R.warm hW0 hstr
  obtain ⟨U, hsteps, hrun, hend, hW, hsame, ce, hce, hO⟩ := X₁.ctorThrowS hexec htr (own := own) (cls := cls) (names := names) (ic := ic) hown' hcls hnames h (fun x hx => nomatch hx) hfX hkX hcellA (by rw [hhp, hT]; exact Nat.le_refl _) (msg := .ref sa) rfl
    (g := { method := m, pc := pc + 6, locals := ls, stack := .ref sa :: .ref T.heap.size :: .ref T.heap.size :: rest, locked := none }) rfl hsize rfl rfl (rest := rest) rfl
    (by rw [hb]; exact d6) (by rw [hb]; exact d9) hout hRframes (by simp only [List.map_cons, List.sum_cons, hcat]; omega) hlocks
  obtain ⟨f1, f2⟩ := vx_frame hsame
  rw [hhp] at f1 f2
  have hWs : s.WarmedH U.vm := State.WarmedH.trans hW0 hW
  have hcl : s.vm.findClass cls = some ce.cls := by
    have h9 := hO.cls
    rw [hvm] at h9
    exact h9
  have hall : s.sameButNew ({ U with vm := s.vm } : State) locs mc ms := by
    subst hA
    obtain ⟨e1, e2⟩ := hsame
    rw [State.setFrames_setFrames] at e1
    have h2 : (T.setVm s.vm).sameButNew ({ U with vm := s.vm } : State) [] (0 + 1) (0 + 6) := ⟨e1, e2⟩
    have h3 := X.same.trans h2
    rw [List.append_nil] at h3
    exact h3.mono hc hs
  refine ⟨U, ?_, .threw T.heap.size, hrun, hend, Or.inr ⟨T.heap.size, rfl, cls, ce, locs, hx U hWs.alike f1 (fun q hq => f2 q hq (fun z hz => nomatch hz)), hce, hO.vm, hcl, hWs, hall, hf⟩⟩
  refine st1 _ ?_
  show Steps p.tables e below (T1.setTop { method := m, pc := pc + 3, locals := ls, stack := .ref T.heap.size :: rest, locked := none }) _
  jvm_step X₁.here [X₁.here.top, hexec, d3', Value.category]
  exact X₁.ldcString hexec (own := own) (text := text) (index := is) (a := sa) hown' hstr'.1 hstr'.2
    (g := { method := m, pc := pc + 4, locals := ls, stack := .ref T.heap.size :: .ref T.heap.size :: rest, locked := none }) rfl d4' _ hsteps
/-- 'throw new E("text")', the text by a wide index -/
theorem vx_throwSW {cc : ByteArray} {pc : Nat} (hexec : p.tables.exec = Jvm.exec) (hb : c.code = cc) (hl : l.stackTraces = false) {own cls text : String} {names : List String} {ik is ic mc ms sa : Nat} {A : Nat → Prop}
    (hown : s.vm.findClass own = some m.cls) (hcls : Bundle.fit cls = true) (hnames : ∀ n ∈ names, Bundle.fit n = true)
    (hk : (Cond.classLink own ik cls).before args s = true) (hini : (Cond.initialized cls).before args s = true) (hstr : vk_R own is text sa s) (hat : ∀ w ∈ vx_atS own ic cls names, w.before args s = true)
    (hgood : ∀ w ∈ Cond.classLink own ik cls :: Cond.initialized cls :: vx_atS own ic cls names, vx_ot w = true)
    (hU : vx_Zq Bundle.tN "UNASSIGNED_STACK" Bundle.steD A s s.heap) (hN : vx_Zq Bundle.tN "SUPPRESSED_SENTINEL" Bundle.listD A s s.heap) (hS : va_S A s.heap H locs) (hsize : ls.size = c.maxLocals)
    (d0 : decode cc pc = .ok (.new ik, 3)) (d3 : decode cc (pc + 3) = .ok (.dup, 1)) (d4 : decode cc (pc + 4) = .ok (.ldc_w is, 3)) (d7 : decode cc (pc + 7) = .ok (.invokespecial ic, 3)) (d10 : decode cc (pc + 10) = .ok (.athrow, 1))
    (hout : ∀ x ∈ c.exceptionTable.toList, covers x (pc + 10) = false)
    (hRframes : names.length + 3 < R.frames) (hRlocals : (rest.map fun v => v.category).sum + (13 * (names.length + 1) + 43) ≤ R.locals) (hRcells : cells + 1 ≤ R.cells) (hRslots : slots + 6 ≤ R.slots) (hlocks : meth.locks = false)
    (hx : ∀ t : State, s.vm.Alike t.vm → H.size ≤ t.heap.size → (∀ q : Nat, q < H.size → t.heap[q]? = H[q]?) → XC cls s t)
    (hf : ∀ z ∈ locs, free z.base) (hc : cells + 1 ≤ mc) (hs : slots + 6 ≤ ms) :
    W p l e R s m args below meth c H locs cells slots (vx_MQ below Qc XC args s mc ms free) (F0 m pc ls rest) := by
  intro T hT X
  have htr : e.platform.stackTraces = false := (show e.platform.stackTraces = l.stackTraces by rw [X.admits.platform]).trans hl
  have Y := vx_rebase X (R' := { frames := R.frames, locals := R.locals, cells := 1, slots := 6 }) (Nat.le_refl _) (Nat.le_refl _) hRcells hRslots
  obtain ⟨s', hA⟩ : ∃ z, z = (T.setVm s.vm).setFrames (.invoking m args :: below) := ⟨_, rfl⟩
  rw [← hA] at Y
  have hvm : s'.vm = s.vm := by rw [hA]; rfl
  have hhp : s'.heap = H := by rw [hA]; exact hT
  have hW0 : s.WarmedH s'.vm := by rw [hvm]; exact State.WarmedH.refl s
  have hat' : ∀ w ∈ vx_atS own ic cls names, w.before args s' = true := fun w hw => vx_ot_at hW0 hvm.symm (hgood w (List.mem_cons_of_mem _ (List.mem_cons_of_mem _ hw))) (hat w hw)
  have hk' : (Cond.classLink own ik cls).before args s' = true := vx_ot_at hW0 hvm.symm (hgood _ List.mem_cons_self) hk
  have hini' : (Cond.initialized cls).before args s' = true := vx_ot_at hW0 hvm.symm (hgood _ (List.mem_cons_of_mem _ List.mem_cons_self)) hini
  have hU' : vx_Zq Bundle.tN "UNASSIGNED_STACK" Bundle.steD A s' s'.heap := by rw [hhp]; exact vx_Zq.moved hW0.alike (hU.kept hS.2.1)
  have hN' : vx_Zq Bundle.tN "SUPPRESSED_SENTINEL" Bundle.listD A s' s'.heap := by rw [hhp]; exact vx_Zq.moved hW0.alike (hN.kept hS.2.1)
  have h : ∀ w ∈ Bundle.ownAtoms own ic cls names, w.before args s' = true := vx_own hat' (vx_isRefq hU'.1) (vx_isRefq hN'.1) hU'.2.word hN'.2.word
  have hown' : s'.vm.findClass own = some m.cls := by rw [hvm]; exact hown
  have hins : (Cond.instantiable cls 6).before args s' = true := h _ (by simp [Bundle.ownAtoms])
  obtain ⟨vm₁, cX, kX, hfX, hkX, -, -, X₁, st1⟩ := Y.newCold hexec (own := own) (C := cls) (index := ik) (n := 6) hown' hk' hins hini'
    (g := F0 m pc ls rest) rfl (by rw [hb]; exact d0) (Nat.le_refl _) (Nat.le_refl _)
  generalize hT1 : (T.setVm vm₁).pushCell { cls := cX, slots := kX.instanceTypes.map defaultValue, vm := .none } = T1 at X₁ st1
  have hcat : (Value.ref T.heap.size).category = 1 := rfl
  have hcellA : T1.heap[T.heap.size]? = some (freshCell cX kX) := by rw [← hT1]; exact State.heap_pushCell_size _ _
  have d3' : decode c.code (pc + 3) = .ok (.dup, 1) := by rw [hb]; exact d3
  have d4' : decode c.code (pc + 4) = .ok (.ldc_w is, 3) := by rw [hb]; exact d4
  have hstr' : vk_R own is text sa s' := vk_R.warm hW0 hstr
  obtain ⟨U, hsteps, hrun, hend, hW, hsame, ce, hce, hO⟩ := X₁.ctorThrowS hexec htr (own := own) (cls := cls) (names := names) (ic := ic) hown' hcls hnames h (fun x hx => nomatch hx) hfX hkX hcellA (by rw [hhp, hT]; exact Nat.le_refl _) (msg := .ref sa) rfl
    (g := { method := m, pc := pc + 7, locals := ls, stack := .ref sa :: .ref T.heap.size :: .ref T.heap.size :: rest, locked := none }) rfl hsize rfl rfl (rest := rest) rfl
    (by rw [hb]; exact d7) (by rw [hb]; exact d10) hout hRframes (by simp only [List.map_cons, List.sum_cons, hcat]; omega) hlocks
  obtain ⟨f1, f2⟩ := vx_frame hsame
  rw [hhp] at f1 f2
  have hWs : s.WarmedH U.vm := State.WarmedH.trans hW0 hW
  have hcl : s.vm.findClass cls = some ce.cls := by
    have h9 := hO.cls
    rw [hvm] at h9
    exact h9
  have hall : s.sameButNew ({ U with vm := s.vm } : State) locs mc ms := by
    subst hA
    obtain ⟨e1, e2⟩ := hsame
    rw [State.setFrames_setFrames] at e1
    have h2 : (T.setVm s.vm).sameButNew ({ U with vm := s.vm } : State) [] (0 + 1) (0 + 6) := ⟨e1, e2⟩
    have h3 := X.same.trans h2
    rw [List.append_nil] at h3
    exact h3.mono hc hs
  refine ⟨U, ?_, .threw T.heap.size, hrun, hend, Or.inr ⟨T.heap.size, rfl, cls, ce, locs, hx U hWs.alike f1 (fun q hq => f2 q hq (fun z hz => nomatch hz)), hce, hO.vm, hcl, hWs, hall, hf⟩⟩
  refine st1 _ ?_
  show Steps p.tables e below (T1.setTop { method := m, pc := pc + 3, locals := ls, stack := .ref T.heap.size :: rest, locked := none }) _
  jvm_step X₁.here [X₁.here.top, hexec, d3', Value.category]
  exact X₁.ldcStringW hexec (own := own) (text := text) (index := is) (a := sa) hown' hstr'.1 hstr'.2
    (g := { method := m, pc := pc + 4, locals := ls, stack := .ref T.heap.size :: .ref T.heap.size :: rest, locked := none }) rfl d4' _ hsteps
end Ends
section Bodies
variable {l : Launch}
theorem vx_ofW {y : MethodName} {ws ws' : List Cond} {rm : Room} {Pc : Array Value → State → Prop} {Qc : Array Value → State → Outcome → State → Prop} {XC : String → State → State → Prop} {mc ms : Nat} {free : Addr → Prop} {cc : ByteArray} {maxL : Nat} {ret : Option FieldType}
    (hy : plainName y.cls = true) (hw : ws = Cond.code y cc maxL ret :: ws')
    (body : ∀ p e s m args below meth c s₁, BodyLoose p l y (headSpec ws rm) cc maxL ret e s m args below meth c s₁ → c.maxLocals = maxL → (∀ x ∈ c.exceptionTable.toList, False) → Pc args s →
      W p l e (headSpec ws rm).room s m args below meth c s.heap [] 0 0 (vx_MQ below Qc XC args s mc ms free) (entryFrame m args maxL)) : vx_Met l y ws rm Pc Qc XC mc ms free := by
  refine MetFree.of_bodyS (code := cc) (maxLocals := maxL) (ret := ret) hy ?_ ?_
  · intro args s m h hn
    obtain ⟨meth, c, h1, h2, h3, h4, h5, h6, -, -⟩ := Cond.code_spec hn (atoms_spec (ws := ws) h _ (by rw [hw]; exact List.mem_cons_self))
    exact ⟨meth, c, h1, h2, h3, h4, h5, h6⟩
  · intro p e s m args below meth c s₁ B hml hP _
    have hh0 : s₁.heap = s.heap := by rw [B.state]; rfl
    have ht : ∀ x ∈ c.exceptionTable.toList, False := by
      obtain ⟨meth9, c9, h1, h2, -, -, -, -, h7, -⟩ := Cond.code_spec B.named (atoms_spec (ws := ws) B.pre _ (by rw [hw]; exact List.mem_cons_self))
      cases Option.some.inj (h1.symm.trans B.method)
      cases Option.some.inj (h2.symm.trans (Stand.of_body B).code)
      intro x hx
      rw [Array.isEmpty_iff.mp h7] at hx
      cases hx
    obtain ⟨t, a1, o, b1, b2, b3⟩ := body p e s m args below meth c s₁ B hml ht hP s₁ hh0 (Stand.of_body B)
    exact ⟨t, o, a1, b1, b2, b3⟩
/-- the table of a body with handlers -/
theorem vx_table {p : Program} {x y : MethodName} {S : Spec} {cc bytes : ByteArray} {maxL maxL' : Nat} {ret ret' : Option FieldType} {e : Env} {s s₁ : State} {m : MethodId} {args : Array Value} {below : List Frame} {meth : Method} {c : Code} {hh : List (Nat × Nat × Nat × Nat)}
    (B : BodyLoose p l y S cc maxL ret e s m args below meth c s₁) (h : (Cond.codeWith y bytes maxL' ret' hh).before args s = true) : c.exceptionTable.toList = tableOf hh := by
  obtain ⟨m9, meth9, c9, hn9, h1, h2, -, -, h6, -⟩ := Cond.codeWith_spec h
  cases Option.some.inj (hn9.symm.trans B.named)
  cases Option.some.inj (h1.symm.trans B.method)
  cases Option.some.inj (h2.symm.trans (Stand.of_body B).code)
  rw [← h6, table_eq]
end Bodies
end VXA
/-! ===== END ===== -/
/-! ===== BEGIN a static call of a method with an exception table ===== -/
section VXS
variable {p : Program} {l : Launch} {e : Env} {R : Room} {s : State} {m : MethodId} {args : Array Value} {below : List Frame} {meth : Method} {c : Code} {T : State} {H : Heap} {locs : List Loc} {cells slots : Nat}
abbrev vx_CSW (R : Room) (s : State) (args : Array Value) (own : String) (index : Nat) (y : MethodName) (bytes : ByteArray) (maxL : Nat) (ret : Option FieldType) (hh : List (Nat × Nat × Nat × Nat)) (ws : List Cond) (rm : Room) (mc ms n : Nat) : Prop :=
  (rm.cells = mc ∧ rm.slots = ms ∧ rm.frames + 1 ≤ R.frames ∧ 8 + (maxL + 11) + rm.locals ≤ R.locals ∧ (∀ w ∈ ws, ∀ (a' : Array Value) (U : State), s.WarmedH U.vm → w.before a' U = true) ∧ Cond.codeWith y bytes maxL ret hh ∈ ws) ∧
  (Cond.codeWith y bytes maxL ret hh).before args s = true ∧ (Cond.initialized y.cls).before args s = true ∧ (y.cls ≠ "java/lang/invoke/MethodHandle" ∧ y.cls ≠ "java/lang/invoke/VarHandle") ∧
  (∀ sig, parseMethodDescriptor y.desc = some sig → n = sig.parameters.length) ∧ (Cond.methodLink own index y).before args s = true ∧ (Cond.static y).before args s = true
theorem vx_cwSW {own : String} {index maxL mc ms : Nat} {y : MethodName} {bytes : ByteArray} {ret : Option FieldType} {hh : List (Nat × Nat × Nat × Nat)} {Ts ws ws' : List Cond} {rm : Room} (n : Nat) (ht : ∀ w ∈ Ts, w.before args s = true) (hT : GoodIn Ts (va_wsS own index y ws)) (hw : ws = Cond.codeWith y bytes maxL ret hh :: ws') (hrc : rm.cells = mc) (hrs : rm.slots = ms)
    (hd : y.cls ≠ "java/lang/invoke/MethodHandle" ∧ y.cls ≠ "java/lang/invoke/VarHandle" ∧ (parseMethodDescriptor y.desc).map (fun d => d.parameters.length) = some n) (hR : rm.frames + 1 ≤ R.frames ∧ 8 + (maxL + 11) + rm.locals ≤ R.locals) :
    vx_CSW R s args own index y bytes maxL ret hh ws rm mc ms n := by
  have ok : ∀ w ∈ va_wsS own index y ws, w.before args s = true := fun w h => ht w (hT w h).1
  have hG : GoodIn Ts ws := fun w h => hT w (by unfold va_wsS; exact List.mem_append_right _ h)
  have hc : Cond.codeWith y bytes maxL ret hh ∈ ws := by rw [hw]; exact List.mem_cons_self
  refine ⟨⟨hrc, hrs, hR.1, hR.2, pay_in ht hG, hc⟩, ht _ (hG _ hc).1, ok _ (by simp [va_wsS]), ⟨hd.1, hd.2.1⟩, fun sig h => ?_, ok _ (by simp [va_wsS]), ok _ (by simp [va_wsS])⟩
  have h2 := hd.2.2
  rw [h] at h2
  exact (Option.some.inj h2).symm
theorem vx_callSW (X : Stand p l e R s m args below meth c T locs cells slots) (hexec : p.tables.exec = Jvm.exec) {own : String} {index : Nat} {y : MethodName} {bytes : ByteArray} {maxL : Nat} {ret : Option FieldType} {hh : List (Nat × Nat × Nat × Nat)}
    (hown : s.vm.findClass own = some m.cls) (hlink : (Cond.methodLink own index y).before args s = true) (hstat : (Cond.static y).before args s = true) (hinit : (Cond.initialized y.cls).before args s = true)
    (hcode : (Cond.codeWith y bytes maxL ret hh).before args s = true) (hy : y.cls ≠ "java/lang/invoke/MethodHandle" ∧ y.cls ≠ "java/lang/invoke/VarHandle")
    {W9 : Nat} {Pre : Pt → Array Value → Prop} {Post : Pt → Array Value → Option Value → Pt → Prop} (hK : Back l R p e below s args y 3 W9 Pre Post)
    {g : JFrame} (hg : g.method = m) (hsize : g.locals.size = c.maxLocals) {argsL rest : List Value} (hlen : ∀ sig, parseMethodDescriptor y.desc = some sig → argsL.length = sig.parameters.length)
    (hstack : g.stack = argsL.reverse ++ rest) (hW : 2 * g.monitorRoom + (rest.map fun v => v.category).sum ≤ W9) (hdg : decode c.code g.pc = .ok (.invokestatic index, 3))
    (hpre : ∀ vm₁, s.WarmedH vm₁ → Pre ⟨T.setVm vm₁, locs, cells, slots⟩ argsL.toArray) :
    ∃ (v : Option Value) (vm₁ : Vm) (B : Pt), s.WarmedH vm₁ ∧ Stand p l e R s m args below meth c B.U B.locs B.cells B.slots ∧ Post ⟨T.setVm vm₁, locs, cells, slots⟩ argsL.toArray v B ∧
      ∀ target, Steps p.tables e below (B.U.setTop { g with pc := g.pc + 3, stack := v.toList ++ rest }) target → Steps p.tables e below (T.setTop g) target := by
  obtain ⟨mk, methM, cM, hnamed, hmethM, -, -, -, -, -, -, hsigM⟩ := Cond.codeWith_spec hcode
  have hstatic : methM.isStatic = true := Cond.static_spec hnamed hmethM hstat
  obtain ⟨kP, hkP, -⟩ := className_of_methodNamed hnamed
  have hinitP : kP.init = .initialized := Cond.initialized_spec (findClass_of_methodNamed hnamed) hkP hinit
  obtain ⟨vm₁, X₁, hstep₁⟩ := X.invokestatic hexec hown hlink hnamed hmethM hstatic hkP hinitP hy (g := g) hg (argsL := argsL) (rest := rest) (hlen _ hsigM) hstack hdg
  obtain ⟨v, B, X', hpost, hsteps⟩ := hK m meth c ⟨T.setVm vm₁, locs, cells, slots⟩ { g with stack := rest } (.invokestatic index) mk argsL.toArray X₁ hg hsize hdg hW (X₁.named hnamed) (hpre vm₁ X₁.warmed)
  exact ⟨v, vm₁, B, X₁.warmed, X', hpost, fun target h => hstep₁ _ fun acts => by rw [doInvoke_state]; exact hsteps.trans h⟩
theorem vx_runSW {y : MethodName} {bytes cc : ByteArray} {maxL nL mc ms n index : Nat} {ret : Option FieldType} {hh : List (Nat × Nat × Nat × Nat)} {ws : List Cond} {rm : Room} {Pc : Array Value → State → Prop} {Qc : Array Value → State → Outcome → State → Prop} {free : Addr → Prop} {Ts : List Cond} {own : String} {As rest : List Value} {g : JFrame}
    (S : CallFix p m c cc nL s args Ts own) (hM : Met l y ws rm Pc Qc mc ms free) (cw : vx_CSW R s args own index y bytes maxL ret hh ws rm mc ms n) (hp : PreS s H Pc As)
    (hg : g.method = m) (hn : As.length = n) (hsize : g.locals.size = nL) (hstack : g.stack = As.reverse ++ rest) (hW : 2 * g.monitorRoom + (rest.map fun v => v.category).sum ≤ 8) (hdg : decode cc g.pc = .ok (.invokestatic index, 3)) (hf : cells + mc ≤ R.cells ∧ slots + ms ≤ R.slots) :
    va_Run p l e R s m args below meth c H locs cells slots mc ms g rest (Qc As.toArray) (free) := by
  obtain ⟨⟨hrc, hrs, hfr, hlo, hws, hcw⟩, hcode, hini, hy, hlen, hl, hstt⟩ := cw
  have hK : Back l R p e below s args y 3 8 (PreOf R mc ms Pc) (PostOf Qc mc ms free) := va_backW (hh := hh) (bytes := bytes) (maxL := maxL) (ret := ret) hM hp.1 hrc hrs hfr hlo hws hcw (fun a' U hW => word_at hW (Or.inl (by first | rfl | simp [Cond.onTables, Cond.keeps, Cond.steady])) hini)
  obtain ⟨hx, hb, hml, ho, -⟩ := S
  intro T hT X
  obtain ⟨v, vm₁, ⟨U', l2, c2, s2⟩, hW₁, X', ⟨g', mk, t, L, e1, e2, hq, h1, hL, h2, h3⟩, st⟩ := vx_callSW X hx (hh := hh) (bytes := bytes) (maxL := maxL) (ret := ret) ho hl hstt hini hcode hy hK hg (hsize.trans hml.symm) (argsL := As) (rest := rest) (fun sig h => hn.trans (hlen sig h)) hstack hW (by rw [hb]; exact hdg)
    (fun vm₁ hW₁ => ⟨hf.1, hf.2, hp.2 (T.setVm vm₁) hT hW₁⟩)
  dsimp only [Pt.U, Pt.locs, Pt.cells, Pt.slots] at X' e1 e2 h1 h2 h3 st
  subst h1; subst h2; subst h3
  exact ⟨v, (T.setVm vm₁).calling g' mk As.toArray, t, U', L, hT, X', hL, e1, e2, hq, st⟩
/-- not caught here, past rows that name other classes: it goes on to the caller -/
theorem vx_outP {p : Program} {l : Launch} {e : Env} {R : Room} {s : State} {m : MethodId} {args : Array Value} {below : List Frame} {meth : Method} {c : Code} {H : Heap} {locs : List Loc} {cells slots : Nat} {free : Addr → Prop} {ls : Array Slot} {rest : List Value} {Qc : Array Value → State → Outcome → State → Prop} {XC : String → State → State → Prop}
    {pc : Nat} {own E : String} {ce : Cell} {q : Addr} {mc ms : Nat} (hown : s.vm.findClass own = some m.cls) (hlocks : meth.locks = false)
    (hpass : ∀ z ∈ c.exceptionTable.toList, covers z pc = false ∨ (z.catchType ≠ 0 ∧ ∃ nm : String, (Cond.classLink own z.catchType nm).before args s = true ∧ va_Nc E nm s)) (hcell : H[q]? = some ce) (hv : ce.vm = .none) (hcl : s.vm.findClass E = some ce.cls)
    (hx : ∀ t : State, t.heap = H → s.vm.Alike t.vm → XC E s t) (hf : ∀ z ∈ locs, free z.base) (hc : cells ≤ mc) (hs : slots ≤ ms) :
    vx_W p l e R s m args below meth c H locs cells slots (vx_MQ below Qc XC args s mc ms free) (F0 m pc ls rest) q := by
  intro T hT X
  have hpl : e.platform.magicAccessors = ({} : Platform).magicAccessors := by rw [X.admits.platform]
  obtain ⟨vm', hW', X', st⟩ := X.outThrough hlocks q (g := F0 m pc ls rest) rfl rfl rfl (cell := ce) (by rw [hT]; exact hcell) (by rw [hv]; rfl)
    (by obtain ⟨k9, h9, -⟩ := Vm.findClass_spec hcl; exact ⟨k9, h9⟩) (fun z hz => by
      rcases hpass z hz with h | ⟨hz0, nm, hl1, hn1⟩
      · exact Or.inl h
      · obtain ⟨c6, hc6, hcl6⟩ := Cond.classLink_spec hown hl1 e.platform hpl
        obtain ⟨a8, b8, h1, h2, h3⟩ := hn1
        cases Option.some.inj (h1.symm.trans hcl)
        cases Option.some.inj (h2.symm.trans hc6)
        exact Or.inr ⟨hz0, _, hcl6, h3⟩)
  obtain ⟨g₀, hfr⟩ := X'.frames_eq
  have hcell9 : ((T.setVm vm').setFrames (.throwing q :: below)).heap[q]? = some ce := by
    show T.heap[q]? = some ce
    rw [hT]; exact hcell
  have hend : Ended ((T.setVm vm').setFrames (.throwing q :: below)) below (.threw q) := State.frames_setFrames _ (State.cur_lt_of_frames hfr)
  refine ⟨(T.setVm vm').setFrames (.throwing q :: below), ?_, .threw q, X'.here.running, hend, Or.inr ⟨q, rfl, E, ce, locs, hx _ hT (X'.ends _).1.alike, hcell9, hv, hcl, (X'.ends _).1, (X'.ends _).2.mono hc hs, hf⟩⟩
  rw [X.pushThrowing_eq]
  exact st
/-- a thing of a world lies in the heap -/
theorem vx_lt {D : va_G} {cl : List vw_C} {ws : va_W} {H1 : Heap} (h : va_P D cl ws H1) {k : Nat} {q : Nat × va_E} (hk : ws[k]? = some q) : q.1 < H1.size := (h k q hk).lt
end VXS
/-! ===== END ===== -/
/-! ===== BEGIN methods with a table of their own: called by a name, returning or throwing ===== -/
section VXH
/-! vx_backW, vx_callVX, vx_callSX, vx_callVW, vx_runVW, vx_runVX, vx_runSX, vx_ofWH follow the same proofs as their sisters above (Free/Laws.lean, Shelf42/LK1.lean); vx_outP calls Shelf42/NT130.lean (outThrough). -/
section
variable {l : Launch} {R : Room} {p : Program} {e : Env} {below : List Frame} {s : State} {sargs : Array Value} {y : MethodName} {len W9 : Nat}
theorem vx_backW {ws : List Cond} {rm : Room} {Pc : Array Value → State → Prop} {Qc : Array Value → State → Outcome → State → Prop} {XC : String → State → State → Prop} {mc ms : Nat} {free : Addr → Prop} {bytes : ByteArray} {maxL : Nat} {ret : Option FieldType} {hh : List (Nat × Nat × Nat × Nat)}
    (hM : vx_Met l y ws rm Pc Qc XC mc ms free) (hblind : FrameBlind Pc) (hrc : rm.cells = mc) (hrs : rm.slots = ms)
    (hframes : rm.frames + 1 ≤ R.frames) (hlocals : W9 + (maxL + 11) + rm.locals ≤ R.locals)
    (hws : ∀ w ∈ ws, ∀ a' U, s.WarmedH U.vm → w.before a' U = true) (hcode : Cond.codeWith y bytes maxL ret hh ∈ ws) (hinit : ∀ a' U, s.WarmedH U.vm → (Cond.initialized y.cls).before a' U = true) :
    vx_Back l R p e below s sargs y len W9 (PreOf R mc ms Pc) (PostOf Qc mc ms free) (vx_Post XC mc ms free) := by
  intro m meth c A g ig mk a X hg hsize hdg hW hn hp
  have h1 : (headSpec ws rm).pre.before a A.U = true := atoms_intro fun w hw => hws w hw _ _ X.warmed
  have h2 : (Cond.codeWith y bytes maxL ret hh).before a A.U = true := hws _ hcode _ _ X.warmed
  have h3 : (Cond.initialized y.cls).before a A.U = true := hinit _ _ X.warmed
  have h4 : A.cells + (headSpec ws rm).room.cells ≤ R.cells := by rw [show (headSpec ws rm).room.cells = mc from hrc]; exact hp.1
  have h5 : A.slots + (headSpec ws rm).room.slots ≤ R.slots := by rw [show (headSpec ws rm).room.slots = ms from hrs]; exact hp.2.1
  have hPc : Pc a (A.U.calling g mk a) := hblind _ _ _ _ hp.2.2
  obtain ⟨U, Ls, c0, s0⟩ := A
  dsimp only [Pt.U, Pt.locs, Pt.cells, Pt.slots] at h1 h2 h3 h4 h5 X hn hPc ⊢
  obtain ⟨m9, methY, cY, hn9, hmY, hcY, -, hlY, -⟩ := Cond.codeWith_spec h2
  cases Option.some.inj (hn9.symm.trans hn)
  obtain ⟨kY, hkY, -⟩ := className_of_methodNamed hn
  have hinitY : kY.init = .initialized := Cond.initialized_spec (findClass_of_methodNamed hn) hkY h3
  have h : At U g.method c below := by rw [hg]; exact X.here
  have hlocals9 : W9 + (maxL + 11) + (headSpec ws rm).room.locals ≤ R.locals := hlocals
  have happ : (headSpec ws rm).appliesLoose y e.platform (U.calling g mk a) = true :=
    Spec.appliesLoose_calling (g := g) h hdg hn hkY hinitY
      (X.room_calling (g := g) (R' := (headSpec ws rm).room) hsize hmY hcY hframes (by rw [hlY]; omega) h4 h5) h1
  obtain ⟨mid, hmid⟩ := h.above
  have hfr : (U.setTop g).frames = (.java g :: mid) ++ below := by rw [State.frames_setTop' g h.top, hmid]; rfl
  obtain ⟨o, s₂, hsteps, -, hend, hq⟩ := Steps.callFree hM p X.admits X.cas X.clock (acts := []) hfr happ hPc trivial
  have hq' : vx_Q Qc XC mc ms free a (U.calling g mk a) o s₂ := hq
  rw [State.frames_setTop' g h.top] at hend
  obtain ⟨g₀, hg0⟩ := Option.isSome_iff_exists.mp h.top
  obtain ⟨r, hr⟩ := State.topJava?_eq_some.mp hg0
  have hr' : (({ U with heap := s₂.heap, slotsUsed := s₂.slotsUsed } : State).setVm s₂.vm).frames = .java g₀ :: r := hr
  rcases hq' with ⟨hqc, L, hfe, hL⟩ | ⟨q, rfl, E, ce, L, hx, hce, hcv, hcl, hW₂, hsm, hL⟩
  · obtain ⟨⟨v, rfl⟩, hW₂, e2, q2, q3, q4, q5, q6⟩ := id hfe
    have e3 : s₂ = ({ (U.calling g mk a).setFrames s₂.frames with heap := s₂.heap, slotsUsed := s₂.slotsUsed } : State).setVm s₂.vm := by
      have : s₂ = ({ s₂ with vm := (U.calling g mk a).vm } : State).setVm s₂.vm := rfl
      rw [e2] at this
      exact this
    obtain ⟨c₂, i₂, len₂, hc₂, hd₂, hf₂⟩ := hend
    have hW' : U.WarmedH s₂.vm := hW₂
    have hcc : c₂ = c := by
      have h1 : s₂.code? g.method = U.code? g.method := by
        rw [State.code?_eq, State.code?_eq, hW'.alike.method?]
      exact Option.some.inj (hc₂.symm.trans (h1.trans h.code))
    subst hcc
    have hlen : len₂ = len := by rw [hdg] at hd₂; cases hd₂; rfl
    subst hlen
    have hs₂ : s₂ = (({ U with heap := s₂.heap, slotsUsed := s₂.slotsUsed } : State).setVm s₂.vm).setTop { g with pc := g.pc + len₂, stack := v.toList ++ g.stack } := by
      refine e3.trans ?_
      rw [hf₂, State.calling_eq h.top, State.setFrames_setFrames, State.setTop_of_frames _ hr', hr]
      rfl
    have hsame : U.sameButNew ({ U with heap := s₂.heap, slotsUsed := s₂.slotsUsed } : State) L mc ms := by
      refine ⟨?_, q2, q3, q4, q5, q6⟩
      obtain ⟨t, ht, -⟩ := State.frames_cons hr
      show ({ U with heap := s₂.heap, slotsUsed := s₂.slotsUsed } : State) = { U.setFrames U.frames with heap := s₂.heap, slotsUsed := s₂.slotsUsed }
      rw [State.setFrames_self ht]
    subst hg
    refine Or.inl ⟨v, ⟨(({ U with heap := s₂.heap, slotsUsed := s₂.slotsUsed } : State).setVm s₂.vm), Ls ++ L, c0 + mc, s0 + ms⟩,
      ⟨X.admits, X.cas, X.clock, X.frames, X.room, X.hears, X.method, X.code, (X.here.setHeapUsed s₂.heap s₂.slotsUsed).setVm hW'.alike, X.tail, State.WarmedH.trans X.warmed hW', X.limits, X.bytes, X.same.trans (hsame.setVm s.vm)⟩,
      ⟨g, mk, s₂, L, rfl, rfl, hqc, rfl, hL, rfl, rfl⟩, ?_⟩
    show Steps p.tables e below _ ((({ U with heap := s₂.heap, slotsUsed := s₂.slotsUsed } : State).setVm s₂.vm).setTop { g with pc := g.pc + len₂, stack := v.toList ++ g.stack })
    rw [← hs₂]
    exact hsteps
  · obtain ⟨e2, q2, q3, q4, q5, q6⟩ := id hsm
    have e3 : s₂ = ({ (U.calling g mk a).setFrames s₂.frames with heap := s₂.heap, slotsUsed := s₂.slotsUsed } : State).setVm s₂.vm := by
      have : s₂ = ({ s₂ with vm := (U.calling g mk a).vm } : State).setVm s₂.vm := rfl
      rw [e2] at this
      exact this
    have hf₂ : s₂.frames = .throwing q :: .java g :: U.frames.tail := hend
    have hW' : U.WarmedH s₂.vm := hW₂
    have hs₂ : s₂ = ((({ U with heap := s₂.heap, slotsUsed := s₂.slotsUsed } : State).setVm s₂.vm).setTop g).pushFrame (.throwing q) := by
      refine e3.trans ?_
      rw [hf₂, State.calling_eq h.top, State.setFrames_setFrames, State.pushFrame, State.frames_setTop _ hr', State.setTop_of_frames _ hr', State.setFrames_setFrames, hr]
      rfl
    have hsame : U.sameButNew ({ U with heap := s₂.heap, slotsUsed := s₂.slotsUsed } : State) L mc ms := by
      refine ⟨?_, q2, q3, q4, q5, q6⟩
      obtain ⟨t, ht, -⟩ := State.frames_cons hr
      show ({ U with heap := s₂.heap, slotsUsed := s₂.slotsUsed } : State) = { U.setFrames U.frames with heap := s₂.heap, slotsUsed := s₂.slotsUsed }
      rw [State.setFrames_self ht]
    subst hg
    refine Or.inr ⟨q, ⟨(({ U with heap := s₂.heap, slotsUsed := s₂.slotsUsed } : State).setVm s₂.vm), Ls ++ L, c0 + mc, s0 + ms⟩,
      ⟨X.admits, X.cas, X.clock, X.frames, X.room, X.hears, X.method, X.code, (X.here.setHeapUsed s₂.heap s₂.slotsUsed).setVm hW'.alike, X.tail, State.WarmedH.trans X.warmed hW', X.limits, X.bytes, X.same.trans (hsame.setVm s.vm)⟩,
      ⟨g, mk, s₂, L, E, ce, rfl, rfl, hx, hce, hcv, hcl, rfl, hL, rfl, rfl⟩, ?_⟩
    show Steps p.tables e below _ (((({ U with heap := s₂.heap, slotsUsed := s₂.slotsUsed } : State).setVm s₂.vm).setTop g).pushFrame (.throwing q))
    rw [← hs₂]
    exact hsteps
end
variable {p : Program} {l : Launch} {e : Env} {R : Room} {s : State} {m : MethodId} {args : Array Value} {below : List Frame} {meth : Method} {c : Code} {T : State} {H : Heap} {locs : List Loc} {cells slots : Nat}
theorem vx_callVX (X : Stand p l e R s m args below meth c T locs cells slots) (hexec : p.tables.exec = Jvm.exec) {own C : String} {index : Nat} {y : MethodName} {bytes : ByteArray} {maxL : Nat} {ret : Option FieldType} {hh : List (Nat × Nat × Nat × Nat)}
    (hown : s.vm.findClass own = some m.cls) (hlink : (Cond.methodLink own index y).before args s = true) (hinst : (Cond.instanceMethod y).before args s = true) (hsel : (Cond.selects C y y).before args s = true)
    (hcode : (Cond.codeWith y bytes maxL ret hh).before args s = true) (hy : y.cls ≠ "java/lang/invoke/MethodHandle" ∧ y.cls ≠ "java/lang/invoke/VarHandle")
    {W9 : Nat} {Pre : Pt → Array Value → Prop} {Post : Pt → Array Value → Option Value → Pt → Prop} {PostX : Pt → Array Value → Addr → Pt → Prop} (hK : vx_Back l R p e below s args y 3 W9 Pre Post PostX)
    {b : Addr} {cellB : Cell} (hcell : T.heap[b]? = some cellB) (hobj : cellB.vm.isStatics = false) (hcls : s.vm.findClass C = some cellB.cls)
    {g : JFrame} (hg : g.method = m) (hsize : g.locals.size = c.maxLocals) {argsL rest : List Value} (hlen : ∀ sig, parseMethodDescriptor y.desc = some sig → argsL.length = sig.parameters.length)
    (hstack : g.stack = argsL.reverse ++ .ref b :: rest) (hW : 2 * g.monitorRoom + (rest.map fun v => v.category).sum ≤ W9) (hdg : decode c.code g.pc = .ok (.invokevirtual index, 3))
    (hpre : ∀ vm₁, s.WarmedH vm₁ → Pre ⟨T.setVm vm₁, locs, cells, slots⟩ (Value.ref b :: argsL).toArray) :
    (∃ (v : Option Value) (vm₁ : Vm) (B : Pt), s.WarmedH vm₁ ∧ Stand p l e R s m args below meth c B.U B.locs B.cells B.slots ∧ Post ⟨T.setVm vm₁, locs, cells, slots⟩ (Value.ref b :: argsL).toArray v B ∧
      ∀ target, Steps p.tables e below (B.U.setTop { g with pc := g.pc + 3, stack := v.toList ++ rest }) target → Steps p.tables e below (T.setTop g) target) ∨
    (∃ (q : Addr) (vm₁ : Vm) (B : Pt), s.WarmedH vm₁ ∧ Stand p l e R s m args below meth c B.U B.locs B.cells B.slots ∧ PostX ⟨T.setVm vm₁, locs, cells, slots⟩ (Value.ref b :: argsL).toArray q B ∧
      Steps p.tables e below (T.setTop g) ((B.U.setTop { g with stack := rest }).pushFrame (.throwing q))) := by
  obtain ⟨mk, methM, hnamed, hmethM, hstM, habM⟩ := Cond.instanceMethod_spec hinst
  obtain ⟨m8, methM', cM, hn8, hmethM', -, -, -, -, -, -, hsigM⟩ := Cond.codeWith_spec hcode
  cases Option.some.inj (hn8.symm.trans hnamed)
  cases hmethM.symm.trans hmethM'
  obtain ⟨c2, r2, m2, q1, q2, q3, q4, kP, hkP, hkPi⟩ := Cond.selects_spec hsel
  cases hcls.symm.trans q1
  cases (State.methodFound?_of_named hnamed hy).symm.trans q2
  cases hnamed.symm.trans q3
  have hselP : selectMethod e.platform s.vm cellB.cls mk = .method mk := by rw [Launch.admits_selectMethod X.admits]; exact q4
  obtain ⟨vm₁, X₁, hstep₁⟩ := X.invokevirtual hexec hown hlink hnamed hmethM hstM hkP hkPi hy (a := b) (cell := cellB) hcell
    (fun z h => by rw [h] at hobj; cases hobj) hselP hmethM habM hkP hkPi (g := g) hg (argsL := argsL) (rest := rest) (hlen _ hsigM) hstack hdg
  rcases hK m meth c ⟨T.setVm vm₁, locs, cells, slots⟩ { g with stack := rest } (.invokevirtual index) mk (Value.ref b :: argsL).toArray X₁ hg hsize hdg hW (X₁.named hnamed) (hpre vm₁ X₁.warmed) with ⟨v, B, X', hpost, hsteps⟩ | ⟨q, B, X', hpost, hsteps⟩
  · exact Or.inl ⟨v, vm₁, B, X₁.warmed, X', hpost, fun target h => hstep₁ _ fun acts => by rw [doInvoke_state]; exact hsteps.trans h⟩
  · exact Or.inr ⟨q, vm₁, B, X₁.warmed, X', hpost, hstep₁ _ fun acts => by rw [doInvoke_state]; exact hsteps⟩
theorem vx_callSX (X : Stand p l e R s m args below meth c T locs cells slots) (hexec : p.tables.exec = Jvm.exec) {own : String} {index : Nat} {y : MethodName} {bytes : ByteArray} {maxL : Nat} {ret : Option FieldType} {hh : List (Nat × Nat × Nat × Nat)}
    (hown : s.vm.findClass own = some m.cls) (hlink : (Cond.methodLink own index y).before args s = true) (hstat : (Cond.static y).before args s = true) (hinit : (Cond.initialized y.cls).before args s = true)
    (hcode : (Cond.codeWith y bytes maxL ret hh).before args s = true) (hy : y.cls ≠ "java/lang/invoke/MethodHandle" ∧ y.cls ≠ "java/lang/invoke/VarHandle")
    {W9 : Nat} {Pre : Pt → Array Value → Prop} {Post : Pt → Array Value → Option Value → Pt → Prop} {PostX : Pt → Array Value → Addr → Pt → Prop} (hK : vx_Back l R p e below s args y 3 W9 Pre Post PostX)
    {g : JFrame} (hg : g.method = m) (hsize : g.locals.size = c.maxLocals) {argsL rest : List Value} (hlen : ∀ sig, parseMethodDescriptor y.desc = some sig → argsL.length = sig.parameters.length)
    (hstack : g.stack = argsL.reverse ++ rest) (hW : 2 * g.monitorRoom + (rest.map fun v => v.category).sum ≤ W9) (hdg : decode c.code g.pc = .ok (.invokestatic index, 3))
    (hpre : ∀ vm₁, s.WarmedH vm₁ → Pre ⟨T.setVm vm₁, locs, cells, slots⟩ argsL.toArray) :
    (∃ (v : Option Value) (vm₁ : Vm) (B : Pt), s.WarmedH vm₁ ∧ Stand p l e R s m args below meth c B.U B.locs B.cells B.slots ∧ Post ⟨T.setVm vm₁, locs, cells, slots⟩ argsL.toArray v B ∧
      ∀ target, Steps p.tables e below (B.U.setTop { g with pc := g.pc + 3, stack := v.toList ++ rest }) target → Steps p.tables e below (T.setTop g) target) ∨
    (∃ (q : Addr) (vm₁ : Vm) (B : Pt), s.WarmedH vm₁ ∧ Stand p l e R s m args below meth c B.U B.locs B.cells B.slots ∧ PostX ⟨T.setVm vm₁, locs, cells, slots⟩ argsL.toArray q B ∧
      Steps p.tables e below (T.setTop g) ((B.U.setTop { g with stack := rest }).pushFrame (.throwing q))) := by
  obtain ⟨mk, methM, cM, hnamed, hmethM, -, -, -, -, -, -, hsigM⟩ := Cond.codeWith_spec hcode
  have hstatic : methM.isStatic = true := Cond.static_spec hnamed hmethM hstat
  obtain ⟨kP, hkP, -⟩ := className_of_methodNamed hnamed
  have hinitP : kP.init = .initialized := Cond.initialized_spec (findClass_of_methodNamed hnamed) hkP hinit
  obtain ⟨vm₁, X₁, hstep₁⟩ := X.invokestatic hexec hown hlink hnamed hmethM hstatic hkP hinitP hy (g := g) hg (argsL := argsL) (rest := rest) (hlen _ hsigM) hstack hdg
  rcases hK m meth c ⟨T.setVm vm₁, locs, cells, slots⟩ { g with stack := rest } (.invokestatic index) mk argsL.toArray X₁ hg hsize hdg hW (X₁.named hnamed) (hpre vm₁ X₁.warmed) with ⟨v, B, X', hpost, hsteps⟩ | ⟨q, B, X', hpost, hsteps⟩
  · exact Or.inl ⟨v, vm₁, B, X₁.warmed, X', hpost, fun target h => hstep₁ _ fun acts => by rw [doInvoke_state]; exact hsteps.trans h⟩
  · exact Or.inr ⟨q, vm₁, B, X₁.warmed, X', hpost, hstep₁ _ fun acts => by rw [doInvoke_state]; exact hsteps⟩
theorem vx_callVW (X : Stand p l e R s m args below meth c T locs cells slots) (hexec : p.tables.exec = Jvm.exec) {own C : String} {index : Nat} {y : MethodName} {bytes : ByteArray} {maxL : Nat} {ret : Option FieldType} {hh : List (Nat × Nat × Nat × Nat)}
    (hown : s.vm.findClass own = some m.cls) (hlink : (Cond.methodLink own index y).before args s = true) (hinst : (Cond.instanceMethod y).before args s = true) (hsel : (Cond.selects C y y).before args s = true)
    (hcode : (Cond.codeWith y bytes maxL ret hh).before args s = true) (hy : y.cls ≠ "java/lang/invoke/MethodHandle" ∧ y.cls ≠ "java/lang/invoke/VarHandle")
    {W9 : Nat} {Pre : Pt → Array Value → Prop} {Post : Pt → Array Value → Option Value → Pt → Prop} (hK : Back l R p e below s args y 3 W9 Pre Post)
    {b : Addr} {cellB : Cell} (hcell : T.heap[b]? = some cellB) (hobj : cellB.vm.isStatics = false) (hcls : s.vm.findClass C = some cellB.cls)
    {g : JFrame} (hg : g.method = m) (hsize : g.locals.size = c.maxLocals) {argsL rest : List Value} (hlen : ∀ sig, parseMethodDescriptor y.desc = some sig → argsL.length = sig.parameters.length)
    (hstack : g.stack = argsL.reverse ++ .ref b :: rest) (hW : 2 * g.monitorRoom + (rest.map fun v => v.category).sum ≤ W9) (hdg : decode c.code g.pc = .ok (.invokevirtual index, 3))
    (hpre : ∀ vm₁, s.WarmedH vm₁ → Pre ⟨T.setVm vm₁, locs, cells, slots⟩ (Value.ref b :: argsL).toArray) :
    ∃ (v : Option Value) (vm₁ : Vm) (B : Pt), s.WarmedH vm₁ ∧ Stand p l e R s m args below meth c B.U B.locs B.cells B.slots ∧ Post ⟨T.setVm vm₁, locs, cells, slots⟩ (Value.ref b :: argsL).toArray v B ∧
      ∀ target, Steps p.tables e below (B.U.setTop { g with pc := g.pc + 3, stack := v.toList ++ rest }) target → Steps p.tables e below (T.setTop g) target := by
  obtain ⟨mk, methM, hnamed, hmethM, hstM, habM⟩ := Cond.instanceMethod_spec hinst
  obtain ⟨m8, methM', cM, hn8, hmethM', -, -, -, -, -, -, hsigM⟩ := Cond.codeWith_spec hcode
  cases Option.some.inj (hn8.symm.trans hnamed)
  cases hmethM.symm.trans hmethM'
  obtain ⟨c2, r2, m2, q1, q2, q3, q4, kP, hkP, hkPi⟩ := Cond.selects_spec hsel
  cases hcls.symm.trans q1
  cases (State.methodFound?_of_named hnamed hy).symm.trans q2
  cases hnamed.symm.trans q3
  have hselP : selectMethod e.platform s.vm cellB.cls mk = .method mk := by rw [Launch.admits_selectMethod X.admits]; exact q4
  obtain ⟨vm₁, X₁, hstep₁⟩ := X.invokevirtual hexec hown hlink hnamed hmethM hstM hkP hkPi hy (a := b) (cell := cellB) hcell
    (fun z h => by rw [h] at hobj; cases hobj) hselP hmethM habM hkP hkPi (g := g) hg (argsL := argsL) (rest := rest) (hlen _ hsigM) hstack hdg
  obtain ⟨v, B, X', hpost, hsteps⟩ := hK m meth c ⟨T.setVm vm₁, locs, cells, slots⟩ { g with stack := rest } (.invokevirtual index) mk (Value.ref b :: argsL).toArray X₁ hg hsize hdg hW (X₁.named hnamed) (hpre vm₁ X₁.warmed)
  exact ⟨v, vm₁, B, X₁.warmed, X', hpost, fun target h => hstep₁ _ fun acts => by rw [doInvoke_state]; exact hsteps.trans h⟩
abbrev vx_CVW (R : Room) (s : State) (args : Array Value) (own C : String) (index : Nat) (y : MethodName) (bytes : ByteArray) (maxL : Nat) (ret : Option FieldType) (hh : List (Nat × Nat × Nat × Nat)) (ws : List Cond) (rm : Room) (mc ms n : Nat) : Prop :=
  (rm.cells = mc ∧ rm.slots = ms ∧ rm.frames + 1 ≤ R.frames ∧ 8 + (maxL + 11) + rm.locals ≤ R.locals ∧ (∀ w ∈ ws, ∀ (a' : Array Value) (U : State), s.WarmedH U.vm → w.before a' U = true) ∧ Cond.codeWith y bytes maxL ret hh ∈ ws) ∧
  (Cond.codeWith y bytes maxL ret hh).before args s = true ∧ (Cond.initialized y.cls).before args s = true ∧ (y.cls ≠ "java/lang/invoke/MethodHandle" ∧ y.cls ≠ "java/lang/invoke/VarHandle") ∧
  (∀ sig, parseMethodDescriptor y.desc = some sig → n = sig.parameters.length) ∧ (Cond.methodLink own index y).before args s = true ∧ (Cond.instanceMethod y).before args s = true ∧ (Cond.selects C y y).before args s = true
theorem vx_cwVW {own C : String} {index maxL mc ms : Nat} {y : MethodName} {bytes : ByteArray} {ret : Option FieldType} {hh : List (Nat × Nat × Nat × Nat)} {Ts ws ws' : List Cond} {rm : Room} (n : Nat) (ht : ∀ w ∈ Ts, w.before args s = true) (hT : GoodIn Ts (wsV own index C y ws)) (hw : ws = Cond.codeWith y bytes maxL ret hh :: ws') (hrc : rm.cells = mc) (hrs : rm.slots = ms)
    (hd : y.cls = C ∧ y.cls ≠ "java/lang/invoke/MethodHandle" ∧ y.cls ≠ "java/lang/invoke/VarHandle" ∧ (parseMethodDescriptor y.desc).map (fun d => d.parameters.length) = some n) (hR : rm.frames + 1 ≤ R.frames ∧ 8 + (maxL + 11) + rm.locals ≤ R.locals) :
    vx_CVW R s args own C index y bytes maxL ret hh ws rm mc ms n := by
  obtain ⟨hC, hd⟩ := hd
  subst hC
  have ok : ∀ w ∈ wsV own index y.cls y ws, w.before args s = true := fun w h => ht w (hT w h).1
  have hG : GoodIn Ts ws := fun w h => hT w (by unfold wsV; exact List.mem_append_right _ h)
  have hc : Cond.codeWith y bytes maxL ret hh ∈ ws := by rw [hw]; exact List.mem_cons_self
  refine ⟨⟨hrc, hrs, hR.1, hR.2, pay_in ht hG, hc⟩, ht _ (hG _ hc).1, ok _ (by simp [wsV]), ⟨hd.1, hd.2.1⟩, fun sig h => ?_, ok _ (by simp [wsV]), ok _ (by simp [wsV]), ok _ (by simp [wsV])⟩
  have h2 := hd.2.2
  rw [h] at h2
  exact (Option.some.inj h2).symm
theorem vx_runVW {y : MethodName} {bytes cc : ByteArray} {maxL nL mc ms n index : Nat} {ret : Option FieldType} {hh : List (Nat × Nat × Nat × Nat)} {ws : List Cond} {rm : Room} {Pc : Array Value → State → Prop} {Qc : Array Value → State → Outcome → State → Prop} {free : Addr → Prop} {Ts : List Cond} {own C : String} {b : Addr} {As rest : List Value} {g : JFrame}
    (S : CallFix p m c cc nL s args Ts own) (hM : Met l y ws rm Pc Qc mc ms free) (cw : vx_CVW R s args own C index y bytes maxL ret hh ws rm mc ms n) (hp : PreV s H C b Pc As)
    (hg : g.method = m) (hn : As.length = n) (hsize : g.locals.size = nL) (hstack : g.stack = As.reverse ++ .ref b :: rest) (hW : 2 * g.monitorRoom + (rest.map fun v => v.category).sum ≤ 8) (hdg : decode cc g.pc = .ok (.invokevirtual index, 3)) (hf : cells + mc ≤ R.cells ∧ slots + ms ≤ R.slots) :
    va_Run p l e R s m args below meth c H locs cells slots mc ms g rest (Qc (Value.ref b :: As).toArray) free := by
  obtain ⟨⟨hrc, hrs, hfr, hlo, hws, hcw⟩, hcode, hini, hy, hlen, hl, hin, hse⟩ := cw
  have hK : Back l R p e below s args y 3 8 (PreOf R mc ms Pc) (PostOf Qc mc ms free) := va_backW (hh := hh) (bytes := bytes) (maxL := maxL) (ret := ret) hM hp.1 hrc hrs hfr hlo hws hcw (fun a' U hW => word_at hW (Or.inl (by first | rfl | simp [Cond.onTables, Cond.keeps, Cond.steady])) hini)
  obtain ⟨hx, hb, hml, ho, -⟩ := S
  obtain ⟨-, ⟨cellB, hcB, hoB, hclB⟩, hPc⟩ := hp
  intro T hT X
  obtain ⟨v, vm₁, ⟨U', l2, c2, s2⟩, hW₁, X', ⟨g', mk, t, L, e1, e2, hq, h1, hL, h2, h3⟩, st⟩ := vx_callVW X hx (C := C) (hh := hh) (bytes := bytes) (maxL := maxL) (ret := ret) ho hl hin hse hcode hy hK (by rw [hT]; exact hcB) hoB hclB hg (hsize.trans hml.symm) (argsL := As) (rest := rest) (fun sig h => hn.trans (hlen sig h)) hstack hW (by rw [hb]; exact hdg)
    (fun vm₁ hW₁ => ⟨hf.1, hf.2, hPc (T.setVm vm₁) hT hW₁⟩)
  dsimp only [Pt.U, Pt.locs, Pt.cells, Pt.slots] at X' e1 e2 h1 h2 h3 st
  subst h1; subst h2; subst h3
  exact ⟨v, (T.setVm vm₁).calling g' mk (Value.ref b :: As).toArray, t, U', L, hT, X', hL, e1, e2, hq, st⟩
section
variable {y : MethodName} {bytes cc : ByteArray} {maxL nL mc ms n index : Nat} {ret : Option FieldType} {ws : List Cond} {rm : Room} {Pc : Array Value → State → Prop} {Qc : Array Value → State → Outcome → State → Prop} {XC : String → State → State → Prop} {free : Addr → Prop} {Ts : List Cond} {own C : String} {b : Addr} {As rest : List Value} {g : JFrame}
theorem vx_runVX {hh : List (Nat × Nat × Nat × Nat)} (S : CallFix p m c cc nL s args Ts own) (hM : vx_Met l y ws rm Pc Qc XC mc ms free) (cw : vx_CVW R s args own C index y bytes maxL ret hh ws rm mc ms n) (hp : PreV s H C b Pc As)
    (hg : g.method = m) (hn : As.length = n) (hsize : g.locals.size = nL) (hstack : g.stack = As.reverse ++ .ref b :: rest) (hW : 2 * g.monitorRoom + (rest.map fun v => v.category).sum ≤ 8) (hdg : decode cc g.pc = .ok (.invokevirtual index, 3)) (hf : cells + mc ≤ R.cells ∧ slots + ms ≤ R.slots) :
    vx_Run p l e R s m args below meth c H locs cells slots mc ms g rest (Qc (Value.ref b :: As).toArray) XC free := by
  obtain ⟨⟨hrc, hrs, hfr, hlo, hws, hcw⟩, hcode, hini, hy, hlen, hl, hin, hse⟩ := cw
  have hK : vx_Back l R p e below s args y 3 8 (PreOf R mc ms Pc) (PostOf Qc mc ms free) (vx_Post XC mc ms free) := vx_backW (hh := hh) (bytes := bytes) (maxL := maxL) (ret := ret) hM hp.1 hrc hrs hfr hlo hws hcw (fun a' U hW => word_at hW (Or.inl (by first | rfl | simp [Cond.onTables, Cond.keeps, Cond.steady])) hini)
  obtain ⟨hx, hb, hml, ho, -⟩ := S
  obtain ⟨-, ⟨cellB, hcB, hoB, hclB⟩, hPc⟩ := hp
  intro T hT X
  rcases vx_callVX X hx (C := C) (hh := hh) (bytes := bytes) (maxL := maxL) (ret := ret) ho hl hin hse hcode hy hK (by rw [hT]; exact hcB) hoB hclB hg (hsize.trans hml.symm) (argsL := As) (rest := rest) (fun sig h => hn.trans (hlen sig h)) hstack hW (by rw [hb]; exact hdg)
    (fun vm₁ hW₁ => ⟨hf.1, hf.2, hPc (T.setVm vm₁) hT hW₁⟩) with ⟨v, vm₁, ⟨U', l2, c2, s2⟩, hW₁, X', ⟨g', mk, t, L, e1, e2, hq, h1, hL, h2, h3⟩, st⟩ | ⟨q, vm₁, ⟨U', l2, c2, s2⟩, hW₁, X', ⟨g', mk, t, L, E, ce, e1, e2, hq, hce, hcv, hcl, h1, hL, h2, h3⟩, st⟩
  · dsimp only [Pt.U, Pt.locs, Pt.cells, Pt.slots] at X' e1 e2 h1 h2 h3 st
    subst h1; subst h2; subst h3
    exact Or.inl ⟨v, (T.setVm vm₁).calling g' mk (Value.ref b :: As).toArray, t, U', L, hT, X', hL, e1, e2, hq, st⟩
  · dsimp only [Pt.U, Pt.locs, Pt.cells, Pt.slots] at X' e1 e2 h1 h2 h3 st hcl
    subst h1; subst h2; subst h3
    exact Or.inr ⟨q, (T.setVm vm₁).calling g' mk (Value.ref b :: As).toArray, t, U', L, E, ce, hT, X', hL, e1, e2, hq, hce, hcv, vx_cls hW₁ hcl, st⟩
theorem vx_runSX {hh : List (Nat × Nat × Nat × Nat)} (S : CallFix p m c cc nL s args Ts own) (hM : vx_Met l y ws rm Pc Qc XC mc ms free) (cw : vx_CSW R s args own index y bytes maxL ret hh ws rm mc ms n) (hp : PreS s H Pc As)
    (hg : g.method = m) (hn : As.length = n) (hsize : g.locals.size = nL) (hstack : g.stack = As.reverse ++ rest) (hW : 2 * g.monitorRoom + (rest.map fun v => v.category).sum ≤ 8) (hdg : decode cc g.pc = .ok (.invokestatic index, 3)) (hf : cells + mc ≤ R.cells ∧ slots + ms ≤ R.slots) :
    vx_Run p l e R s m args below meth c H locs cells slots mc ms g rest (Qc As.toArray) XC free := by
  obtain ⟨⟨hrc, hrs, hfr, hlo, hws, hcw⟩, hcode, hini, hy, hlen, hl, hstt⟩ := cw
  have hK : vx_Back l R p e below s args y 3 8 (PreOf R mc ms Pc) (PostOf Qc mc ms free) (vx_Post XC mc ms free) := vx_backW (hh := hh) (bytes := bytes) (maxL := maxL) (ret := ret) hM hp.1 hrc hrs hfr hlo hws hcw (fun a' U hW => word_at hW (Or.inl (by first | rfl | simp [Cond.onTables, Cond.keeps, Cond.steady])) hini)
  obtain ⟨hx, hb, hml, ho, -⟩ := S
  intro T hT X
  rcases vx_callSX X hx (hh := hh) (bytes := bytes) (maxL := maxL) (ret := ret) ho hl hstt hini hcode hy hK hg (hsize.trans hml.symm) (argsL := As) (rest := rest) (fun sig h => hn.trans (hlen sig h)) hstack hW (by rw [hb]; exact hdg)
    (fun vm₁ hW₁ => ⟨hf.1, hf.2, hp.2 (T.setVm vm₁) hT hW₁⟩) with ⟨v, vm₁, ⟨U', l2, c2, s2⟩, hW₁, X', ⟨g', mk, t, L, e1, e2, hq, h1, hL, h2, h3⟩, st⟩ | ⟨q, vm₁, ⟨U', l2, c2, s2⟩, hW₁, X', ⟨g', mk, t, L, E, ce, e1, e2, hq, hce, hcv, hcl, h1, hL, h2, h3⟩, st⟩
  · dsimp only [Pt.U, Pt.locs, Pt.cells, Pt.slots] at X' e1 e2 h1 h2 h3 st
    subst h1; subst h2; subst h3
    exact Or.inl ⟨v, (T.setVm vm₁).calling g' mk As.toArray, t, U', L, hT, X', hL, e1, e2, hq, st⟩
  · dsimp only [Pt.U, Pt.locs, Pt.cells, Pt.slots] at X' e1 e2 h1 h2 h3 st hcl
    subst h1; subst h2; subst h3
    exact Or.inr ⟨q, (T.setVm vm₁).calling g' mk As.toArray, t, U', L, E, ce, hT, X', hL, e1, e2, hq, hce, hcv, vx_cls hW₁ hcl, st⟩
end
end VXH
theorem vx_ofWH {l : Launch} {y : MethodName} {ws ws' : List Cond} {rm : Room} {Pc : Array Value → State → Prop} {Qc : Array Value → State → Outcome → State → Prop} {XC : String → State → State → Prop} {mc ms : Nat} {free : Addr → Prop} {cc : ByteArray} {maxL : Nat} {ret : Option FieldType} {hh : List (Nat × Nat × Nat × Nat)}
    (hy : plainName y.cls = true) (hw : ws = Cond.codeWith y cc maxL ret hh :: ws')
    (body : ∀ p e s m args below meth c s₁, BodyLoose p l y (headSpec ws rm) cc maxL ret e s m args below meth c s₁ → c.maxLocals = maxL → Pc args s →
      W p l e (headSpec ws rm).room s m args below meth c s.heap [] 0 0 (vx_MQ below Qc XC args s mc ms free) (entryFrame m args maxL)) : vx_Met l y ws rm Pc Qc XC mc ms free := by
  refine MetFree.of_bodyS (code := cc) (maxLocals := maxL) (ret := ret) hy ?_ ?_
  · intro args s m h hn
    obtain ⟨m9, meth, c, hn9, h1, h2, h3, h4, -, h5, h6, -⟩ := Cond.codeWith_spec (atoms_spec (ws := ws) h _ (by rw [hw]; exact List.mem_cons_self))
    cases hn.symm.trans hn9
    exact ⟨meth, c, h1, h2, h3, h4, h5, h6⟩
  · intro p e s m args below meth c s₁ B hml hP _
    have hh0 : s₁.heap = s.heap := by rw [B.state]; rfl
    obtain ⟨t, a1, o, b1, b2, b3⟩ := body p e s m args below meth c s₁ B hml hP s₁ hh0 (Stand.of_body B)
    exact ⟨t, o, a1, b1, b2, b3⟩
/-! ===== END ===== -/
end
section
def RX0 : String := "CaseManager$Court"
def TX0 : u_T := fun k => match k with
  | 0 => ("CaseManager$Court", "cases", "I", false)
  | 1 => ("CaseManager$Court", "witnesses", "I", false)
  | 2 => ("CaseManager$Court", "decisions", "I", false)
  | 3 => ("CaseManager$Court", "questionsAsked", "I", false)
  | 4 => ("CaseManager$Court", "defendants", "LCaseManager$Row;", true)
  | 5 => ("CaseManager$Court", "offences", "LCaseManager$Row;", true)
  | 6 => ("CaseManager$Court", "phases", "LCaseManager$Row;", true)
  | 7 => ("CaseManager$Court", "guilts", "LCaseManager$Row;", true)
  | 8 => ("CaseManager$Court", "appeals", "LCaseManager$Row;", true)
  | 9 => ("CaseManager$Court", "testimonies", "LCaseManager$Row;", true)
  | 10 => ("CaseManager$Court", "hearingOrder", "LCaseManager$Row;", true)
  | 11 => ("CaseManager$Court", "sides", "LCaseManager$Row;", true)
  | 12 => ("CaseManager$Court", "strengths", "LCaseManager$Row;", true)
  | 13 => ("CaseManager$Court", "questions", "LCaseManager$Row;", true)
  | 14 => ("CaseManager$Court", "credibilities", "LCaseManager$Row;", true)
  | 15 => ("CaseManager$Court", "sentences", "LCaseManager$Row;", true)
  | _ => ("CaseManager$Court", "groups", "LCaseManager$Groups;", true)
def tyX0 : Nat → FieldType := fun k => match k with
  | 0 => .int
  | 1 => .int
  | 2 => .int
  | 3 => .int
  | 4 => .object "CaseManager$Row"
  | 5 => .object "CaseManager$Row"
  | 6 => .object "CaseManager$Row"
  | 7 => .object "CaseManager$Row"
  | 8 => .object "CaseManager$Row"
  | 9 => .object "CaseManager$Row"
  | 10 => .object "CaseManager$Row"
  | 11 => .object "CaseManager$Row"
  | 12 => .object "CaseManager$Row"
  | 13 => .object "CaseManager$Row"
  | 14 => .object "CaseManager$Row"
  | 15 => .object "CaseManager$Row"
  | _ => .object "CaseManager$Groups"
abbrev wsX00 : List Cond := u_ws RX0 TX0 17
theorem nmX0 : ∀ a, a < 17 → ∀ b, b < 17 → a ≠ b → (TX0 a).2.1 ≠ (TX0 b).2.1 := by decide +kernel
theorem tyX0_ok : ∀ k, k < 17 → parseFieldDescriptor (TX0 k).2.2.1 = some (tyX0 k) := by decide +kernel
abbrev cX0_init : ByteArray := prog_2_method_1_code
def yX0_init : MethodName := ⟨RX0, "<init>", "()V"⟩
abbrev cX0_copyFrom : ByteArray := prog_2_method_2_code
def yX0_copyFrom : MethodName := ⟨RX0, "copyFrom", "(LCaseManager$Court;)V"⟩
abbrev cX0_faultOf : ByteArray := prog_2_method_3_code
def yX0_faultOf : MethodName := ⟨RX0, "faultOf", "(IIII)LCaseManager$Fault;"⟩
abbrev cX0_perform : ByteArray := prog_2_method_4_code
def yX0_perform : MethodName := ⟨RX0, "perform", "(IIIZI)I"⟩
abbrev cX0_faultOfCharge : ByteArray := prog_2_method_5_code
def yX0_faultOfCharge : MethodName := ⟨RX0, "faultOfCharge", "(II)LCaseManager$Fault;"⟩
abbrev cX0_faultOfWitness : ByteArray := prog_2_method_6_code
def yX0_faultOfWitness : MethodName := ⟨RX0, "faultOfWitness", "(I)LCaseManager$Fault;"⟩
abbrev cX0_faultOfTestimony : ByteArray := prog_2_method_7_code
def yX0_faultOfTestimony : MethodName := ⟨RX0, "faultOfTestimony", "(III)LCaseManager$Fault;"⟩
abbrev cX0_faultOfQuestion : ByteArray := prog_2_method_8_code
def yX0_faultOfQuestion : MethodName := ⟨RX0, "faultOfQuestion", "(II)LCaseManager$Fault;"⟩
abbrev cX0_faultOfDecision : ByteArray := prog_2_method_9_code
def yX0_faultOfDecision : MethodName := ⟨RX0, "faultOfDecision", "(I)LCaseManager$Fault;"⟩
abbrev cX0_faultAfterVerdict : ByteArray := prog_2_method_10_code
def yX0_faultAfterVerdict : MethodName := ⟨RX0, "faultAfterVerdict", "(I)LCaseManager$Fault;"⟩
abbrev cX0_openCase : ByteArray := prog_2_method_11_code
def yX0_openCase : MethodName := ⟨RX0, "openCase", "(II)I"⟩
abbrev cX0_register : ByteArray := prog_2_method_12_code
def yX0_register : MethodName := ⟨RX0, "register", "(I)I"⟩
abbrev cX0_hear : ByteArray := prog_2_method_13_code
def yX0_hear : MethodName := ⟨RX0, "hear", "(IIZI)I"⟩
abbrev cX0_ask : ByteArray := prog_2_method_14_code
def yX0_ask : MethodName := ⟨RX0, "ask", "(IIZ)I"⟩
abbrev cX0_judge : ByteArray := prog_2_method_15_code
def yX0_judge : MethodName := ⟨RX0, "judge", "(I)I"⟩
abbrev cX0_reopen : ByteArray := prog_2_method_16_code
def yX0_reopen : MethodName := ⟨RX0, "reopen", "(I)I"⟩
abbrev cX0_finish : ByteArray := prog_2_method_17_code
def yX0_finish : MethodName := ⟨RX0, "finish", "(I)I"⟩
abbrev cX0_hasCase : ByteArray := prog_2_method_18_code
def yX0_hasCase : MethodName := ⟨RX0, "hasCase", "(I)Z"⟩
abbrev cX0_hasWitness : ByteArray := prog_2_method_19_code
def yX0_hasWitness : MethodName := ⟨RX0, "hasWitness", "(I)Z"⟩
abbrev cX0_isIn : ByteArray := prog_2_method_20_code
def yX0_isIn : MethodName := ⟨RX0, "isIn", "(II)Z"⟩
abbrev cX0_isFoundGuilty : ByteArray := prog_2_method_21_code
def yX0_isFoundGuilty : MethodName := ⟨RX0, "isFoundGuilty", "(I)Z"⟩
abbrev cX0_severityIn : ByteArray := prog_2_method_22_code
def yX0_severityIn : MethodName := ⟨RX0, "severityIn", "(I)I"⟩
abbrev cX0_caseAgainst : ByteArray := prog_2_method_23_code
def yX0_caseAgainst : MethodName := ⟨RX0, "caseAgainst", "(II)I"⟩
abbrev cX0_cellOf : ByteArray := prog_2_method_24_code
def yX0_cellOf : MethodName := ⟨RX0, "cellOf", "(II)I"⟩
abbrev cX0_hasHeard : ByteArray := prog_2_method_25_code
def yX0_hasHeard : MethodName := ⟨RX0, "hasHeard", "(II)Z"⟩
abbrev cX0_witnessHeardAt : ByteArray := prog_2_method_26_code
def yX0_witnessHeardAt : MethodName := ⟨RX0, "witnessHeardAt", "(II)I"⟩
abbrev cX0_sideOf : ByteArray := prog_2_method_27_code
def yX0_sideOf : MethodName := ⟨RX0, "sideOf", "(II)I"⟩
abbrev cX0_strengthOf : ByteArray := prog_2_method_28_code
def yX0_strengthOf : MethodName := ⟨RX0, "strengthOf", "(II)I"⟩
abbrev cX0_weightOf : ByteArray := prog_2_method_29_code
def yX0_weightOf : MethodName := ⟨RX0, "weightOf", "(II)I"⟩
abbrev cX0_questionsTo : ByteArray := prog_2_method_30_code
def yX0_questionsTo : MethodName := ⟨RX0, "questionsTo", "(II)I"⟩
abbrev cX0_casesHearing : ByteArray := prog_2_method_31_code
def yX0_casesHearing : MethodName := ⟨RX0, "casesHearing", "(I)I"⟩
abbrev cX0_agreementOf : ByteArray := prog_2_method_32_code
def yX0_agreementOf : MethodName := ⟨RX0, "agreementOf", "(II)I"⟩
abbrev cX0_witnessOfRank : ByteArray := prog_2_method_33_code
def yX0_witnessOfRank : MethodName := ⟨RX0, "witnessOfRank", "(I)I"⟩
abbrev cX0_rankOf : ByteArray := prog_2_method_34_code
def yX0_rankOf : MethodName := ⟨RX0, "rankOf", "(I)I"⟩
abbrev cX0_isMoreCredible : ByteArray := prog_2_method_35_code
def yX0_isMoreCredible : MethodName := ⟨RX0, "isMoreCredible", "(II)Z"⟩
abbrev cX0_credibilitySum : ByteArray := prog_2_method_36_code
def yX0_credibilitySum : MethodName := ⟨RX0, "credibilitySum", "()I"⟩
abbrev cX0_addedSentence : ByteArray := prog_2_method_37_code
def yX0_addedSentence : MethodName := ⟨RX0, "addedSentence", "(I)I"⟩
abbrev cX0_countIn : ByteArray := prog_2_method_38_code
def yX0_countIn : MethodName := ⟨RX0, "countIn", "(I)I"⟩
abbrev cX0_countGuilty : ByteArray := prog_2_method_39_code
def yX0_countGuilty : MethodName := ⟨RX0, "countGuilty", "()I"⟩
abbrev cX0_openCasesBefore : ByteArray := prog_2_method_40_code
def yX0_openCasesBefore : MethodName := ⟨RX0, "openCasesBefore", "(I)I"⟩
abbrev cX0_comesBefore : ByteArray := prog_2_method_41_code
def yX0_comesBefore : MethodName := ⟨RX0, "comesBefore", "(II)Z"⟩
def RX1 : String := "CaseManager$Docket"
def TX1 : u_T := fun k => match k with
  | 0 => ("CaseManager$Docket", "order", "LCaseManager$Row;", true)
  | _ => ("CaseManager$Docket", "length", "I", false)
def tyX1 : Nat → FieldType := fun k => match k with
  | 0 => .object "CaseManager$Row"
  | _ => .int
abbrev wsX10 : List Cond := u_ws RX1 TX1 2
theorem nmX1 : ∀ a, a < 2 → ∀ b, b < 2 → a ≠ b → (TX1 a).2.1 ≠ (TX1 b).2.1 := by decide +kernel
theorem tyX1_ok : ∀ k, k < 2 → parseFieldDescriptor (TX1 k).2.2.1 = some (tyX1 k) := by decide +kernel
abbrev cX1_init : ByteArray := prog_3_method_1_code
def yX1_init : MethodName := ⟨RX1, "<init>", "()V"⟩
abbrev cX1_fill : ByteArray := prog_3_method_2_code
def yX1_fill : MethodName := ⟨RX1, "fill", "(LCaseManager$Court;)V"⟩
abbrev cX1_insert : ByteArray := prog_3_method_3_code
def yX1_insert : MethodName := ⟨RX1, "insert", "(ILCaseManager$Court;)V"⟩
abbrev cX1_holdsAt : ByteArray := prog_3_method_4_code
def yX1_holdsAt : MethodName := ⟨RX1, "holdsAt", "(II)Z"⟩
abbrev cX1_firstHeard : ByteArray := prog_3_method_5_code
def yX1_firstHeard : MethodName := ⟨RX1, "firstHeard", "(LCaseManager$Court;)I"⟩
def RX2 : String := "CaseManager$Fault"
def TX2 : u_T := fun k => match k with
  | _ => ("", "", "", false)
def tyX2 : Nat → FieldType := fun k => match k with
  | _ => .int
abbrev wsX20 : List Cond := u_ws RX2 TX2 0
theorem nmX2 : ∀ a, a < 0 → ∀ b, b < 0 → a ≠ b → (TX2 a).2.1 ≠ (TX2 b).2.1 := by decide +kernel
theorem tyX2_ok : ∀ k, k < 0 → parseFieldDescriptor (TX2 k).2.2.1 = some (tyX2 k) := by decide +kernel
def RX3 : String := "CaseManager$Groups"
def TX3 : u_T := fun k => match k with
  | _ => ("CaseManager$Groups", "parents", "LCaseManager$Row;", true)
def tyX3 : Nat → FieldType := fun k => match k with
  | _ => .object "CaseManager$Row"
abbrev wsX30 : List Cond := u_ws RX3 TX3 1
theorem nmX3 : ∀ a, a < 1 → ∀ b, b < 1 → a ≠ b → (TX3 a).2.1 ≠ (TX3 b).2.1 := by decide +kernel
theorem tyX3_ok : ∀ k, k < 1 → parseFieldDescriptor (TX3 k).2.2.1 = some (tyX3 k) := by decide +kernel
abbrev cX3_init : ByteArray := prog_5_method_1_code
def yX3_init : MethodName := ⟨RX3, "<init>", "()V"⟩
abbrev cX3_found : ByteArray := prog_5_method_2_code
def yX3_found : MethodName := ⟨RX3, "found", "(I)V"⟩
abbrev cX3_unite : ByteArray := prog_5_method_3_code
def yX3_unite : MethodName := ⟨RX3, "unite", "(II)V"⟩
abbrev cX3_areUnited : ByteArray := prog_5_method_4_code
def yX3_areUnited : MethodName := ⟨RX3, "areUnited", "(II)Z"⟩
abbrev cX3_sizeAround : ByteArray := prog_5_method_5_code
def yX3_sizeAround : MethodName := ⟨RX3, "sizeAround", "(II)I"⟩
abbrev cX3_countAmong : ByteArray := prog_5_method_6_code
def yX3_countAmong : MethodName := ⟨RX3, "countAmong", "(I)I"⟩
abbrev cX3_rootOf : ByteArray := prog_5_method_7_code
def yX3_rootOf : MethodName := ⟨RX3, "rootOf", "(I)I"⟩
def RX4 : String := "CaseManager$History"
def TX4 : u_T := fun k => match k with
  | 0 => ("CaseManager$History", "places", "[LCaseManager$Court;", true)
  | 1 => ("CaseManager$History", "next", "I", false)
  | _ => ("CaseManager$History", "size", "I", false)
def tyX4 : Nat → FieldType := fun k => match k with
  | 0 => .array (.object "CaseManager$Court")
  | 1 => .int
  | _ => .int
abbrev wsX40 : List Cond := u_ws RX4 TX4 3
theorem nmX4 : ∀ a, a < 3 → ∀ b, b < 3 → a ≠ b → (TX4 a).2.1 ≠ (TX4 b).2.1 := by decide +kernel
theorem tyX4_ok : ∀ k, k < 3 → parseFieldDescriptor (TX4 k).2.2.1 = some (tyX4 k) := by decide +kernel
abbrev cX4_init : ByteArray := prog_6_method_1_code
def yX4_init : MethodName := ⟨RX4, "<init>", "()V"⟩
abbrev cX4_keep : ByteArray := prog_6_method_2_code
def yX4_keep : MethodName := ⟨RX4, "keep", "(LCaseManager$Court;)V"⟩
abbrev cX4_placeAt : ByteArray := prog_6_method_5_code
def yX4_placeAt : MethodName := ⟨RX4, "placeAt", "(I)LCaseManager$Court;"⟩
def RX5 : String := "CaseManager$Program"
def TX5 : u_T := fun k => match k with
  | 0 => ("CaseManager$Program", "input", "Ljava/lang/StringBuilder;", true)
  | 1 => ("CaseManager$Program", "position", "I", false)
  | 2 => ("CaseManager$Program", "size", "I", false)
  | 3 => ("CaseManager$Program", "kinds", "LCaseManager$Row;", true)
  | 4 => ("CaseManager$Program", "firsts", "LCaseManager$Row;", true)
  | 5 => ("CaseManager$Program", "seconds", "LCaseManager$Row;", true)
  | 6 => ("CaseManager$Program", "flags", "LCaseManager$Row;", true)
  | _ => ("CaseManager$Program", "strengths", "LCaseManager$Row;", true)
def tyX5 : Nat → FieldType := fun k => match k with
  | 0 => .object "java/lang/StringBuilder"
  | 1 => .int
  | 2 => .int
  | 3 => .object "CaseManager$Row"
  | 4 => .object "CaseManager$Row"
  | 5 => .object "CaseManager$Row"
  | 6 => .object "CaseManager$Row"
  | _ => .object "CaseManager$Row"
abbrev wsX50 : List Cond := u_ws RX5 TX5 8
theorem nmX5 : ∀ a, a < 8 → ∀ b, b < 8 → a ≠ b → (TX5 a).2.1 ≠ (TX5 b).2.1 := by decide +kernel
theorem tyX5_ok : ∀ k, k < 8 → parseFieldDescriptor (TX5 k).2.2.1 = some (tyX5 k) := by decide +kernel
abbrev cX5_init : ByteArray := prog_7_method_1_code
def yX5_init : MethodName := ⟨RX5, "<init>", "()V"⟩
def RX6 : String := "CaseManager$Row"
def TX6 : u_T := fun k => match k with
  | _ => ("CaseManager$Row", "cells", "[I", true)
def tyX6 : Nat → FieldType := fun k => match k with
  | _ => .array .int
abbrev wsX60 : List Cond := u_ws RX6 TX6 1
theorem nmX6 : ∀ a, a < 1 → ∀ b, b < 1 → a ≠ b → (TX6 a).2.1 ≠ (TX6 b).2.1 := by decide +kernel
theorem tyX6_ok : ∀ k, k < 1 → parseFieldDescriptor (TX6 k).2.2.1 = some (tyX6 k) := by decide +kernel
abbrev cX6_init : ByteArray := prog_8_method_1_code
def yX6_init : MethodName := ⟨RX6, "<init>", "(I)V"⟩
abbrev cX6_get : ByteArray := prog_8_method_2_code
def yX6_get : MethodName := ⟨RX6, "get", "(I)I"⟩
abbrev cX6_put : ByteArray := prog_8_method_3_code
def yX6_put : MethodName := ⟨RX6, "put", "(II)V"⟩
abbrev cX6_add : ByteArray := prog_8_method_4_code
def yX6_add : MethodName := ⟨RX6, "add", "(II)V"⟩
abbrev cX6_clear : ByteArray := prog_8_method_5_code
def yX6_clear : MethodName := ⟨RX6, "clear", "()V"⟩
abbrev cX6_copyFrom : ByteArray := prog_8_method_6_code
def yX6_copyFrom : MethodName := ⟨RX6, "copyFrom", "(LCaseManager$Row;)V"⟩
def RX7 : String := "CaseManager$Search"
def TX7 : u_T := fun k => match k with
  | 0 => ("CaseManager$Search", "queue", "LCaseManager$Row;", true)
  | 1 => ("CaseManager$Search", "reached", "LCaseManager$Row;", true)
  | _ => ("CaseManager$Search", "queued", "I", false)
def tyX7 : Nat → FieldType := fun k => match k with
  | 0 => .object "CaseManager$Row"
  | 1 => .object "CaseManager$Row"
  | _ => .int
abbrev wsX70 : List Cond := u_ws RX7 TX7 3
theorem nmX7 : ∀ a, a < 3 → ∀ b, b < 3 → a ≠ b → (TX7 a).2.1 ≠ (TX7 b).2.1 := by decide +kernel
theorem tyX7_ok : ∀ k, k < 3 → parseFieldDescriptor (TX7 k).2.2.1 = some (tyX7 k) := by decide +kernel
abbrev cX7_init : ByteArray := prog_9_method_1_code
def yX7_init : MethodName := ⟨RX7, "<init>", "()V"⟩
abbrev cX7_startAt : ByteArray := prog_9_method_2_code
def yX7_startAt : MethodName := ⟨RX7, "startAt", "(ILCaseManager$Court;)V"⟩
abbrev cX7_hasReached : ByteArray := prog_9_method_3_code
def yX7_hasReached : MethodName := ⟨RX7, "hasReached", "(I)Z"⟩
abbrev cX7_spreadFrom : ByteArray := prog_9_method_4_code
def yX7_spreadFrom : MethodName := ⟨RX7, "spreadFrom", "(ILCaseManager$Court;)V"⟩
abbrev cX7_reachAllOf : ByteArray := prog_9_method_5_code
def yX7_reachAllOf : MethodName := ⟨RX7, "reachAllOf", "(ILCaseManager$Court;)V"⟩
abbrev cX7_reach : ByteArray := prog_9_method_6_code
def yX7_reach : MethodName := ⟨RX7, "reach", "(I)V"⟩
def RX8 : String := "CaseManager$Weights"
def TX8 : u_T := fun k => match k with
  | _ => ("", "", "", false)
def tyX8 : Nat → FieldType := fun k => match k with
  | _ => .int
abbrev wsX80 : List Cond := u_ws RX8 TX8 0
theorem nmX8 : ∀ a, a < 0 → ∀ b, b < 0 → a ≠ b → (TX8 a).2.1 ≠ (TX8 b).2.1 := by decide +kernel
theorem tyX8_ok : ∀ k, k < 0 → parseFieldDescriptor (TX8 k).2.2.1 = some (tyX8 k) := by decide +kernel
abbrev cX8_ofSide : ByteArray := prog_10_method_2_code
def yX8_ofSide : MethodName := ⟨RX8, "ofSide", "(LCaseManager$Court;II)I"⟩
abbrev cX8_marginByTestimony : ByteArray := prog_10_method_3_code
def yX8_marginByTestimony : MethodName := ⟨RX8, "marginByTestimony", "(LCaseManager$Court;I)I"⟩
abbrev cX8_marginByLevel : ByteArray := prog_10_method_4_code
def yX8_marginByLevel : MethodName := ⟨RX8, "marginByLevel", "(LCaseManager$Court;I)I"⟩
abbrev cX8_signedStrengthsAt : ByteArray := prog_10_method_5_code
def yX8_signedStrengthsAt : MethodName := ⟨RX8, "signedStrengthsAt", "(ILCaseManager$Court;I)I"⟩
abbrev cX8_heaviestIn : ByteArray := prog_10_method_6_code
def yX8_heaviestIn : MethodName := ⟨RX8, "heaviestIn", "(LCaseManager$Court;I)I"⟩
abbrev cX8_firmAnswersNeeded : ByteArray := prog_10_method_7_code
def yX8_firmAnswersNeeded : MethodName := ⟨RX8, "firmAnswersNeeded", "(LCaseManager$Court;II)I"⟩
def RX9 : String := "CaseManager"
def TX9 : u_T := fun k => match k with
  | 0 => ("CaseManager", "court", "LCaseManager$Court;", true)
  | 1 => ("CaseManager", "beforeRun", "LCaseManager$Court;", true)
  | 2 => ("CaseManager", "saved", "LCaseManager$Court;", true)
  | 3 => ("CaseManager", "history", "LCaseManager$History;", true)
  | 4 => ("CaseManager", "docket", "LCaseManager$Docket;", true)
  | 5 => ("CaseManager", "search", "LCaseManager$Search;", true)
  | 6 => ("CaseManager", "program", "LCaseManager$Program;", true)
  | 7 => ("CaseManager", "line", "Ljava/lang/StringBuilder;", true)
  | 8 => ("CaseManager", "hasSaved", "Z", false)
  | 9 => ("CaseManager", "storedError", "I", false)
  | 10 => ("CaseManager", "storedFailure", "I", false)
  | _ => ("CaseManager", "isStoredFailureOfState", "Z", false)
def tyX9 : Nat → FieldType := fun k => match k with
  | 0 => .object "CaseManager$Court"
  | 1 => .object "CaseManager$Court"
  | 2 => .object "CaseManager$Court"
  | 3 => .object "CaseManager$History"
  | 4 => .object "CaseManager$Docket"
  | 5 => .object "CaseManager$Search"
  | 6 => .object "CaseManager$Program"
  | 7 => .object "java/lang/StringBuilder"
  | 8 => .boolean
  | 9 => .int
  | 10 => .int
  | _ => .boolean
abbrev wsX90 : List Cond := u_ws RX9 TX9 12
theorem nmX9 : ∀ a, a < 12 → ∀ b, b < 12 → a ≠ b → (TX9 a).2.1 ≠ (TX9 b).2.1 := by decide +kernel
theorem tyX9_ok : ∀ k, k < 12 → parseFieldDescriptor (TX9 k).2.2.1 = some (tyX9 k) := by decide +kernel
abbrev cX9_init : ByteArray := prog_1_method_1_code
def yX9_init : MethodName := ⟨RX9, "<init>", "()V"⟩
abbrev cX9_charge : ByteArray := prog_1_method_2_code
def yX9_charge : MethodName := ⟨RX9, "charge", "(II)I"⟩
abbrev cX9_addWitness : ByteArray := prog_1_method_3_code
def yX9_addWitness : MethodName := ⟨RX9, "addWitness", "(I)I"⟩
abbrev cX9_testify : ByteArray := prog_1_method_4_code
def yX9_testify : MethodName := ⟨RX9, "testify", "(IIZI)I"⟩
abbrev cX9_question : ByteArray := prog_1_method_5_code
def yX9_question : MethodName := ⟨RX9, "question", "(IIZ)I"⟩
abbrev cX9_decide : ByteArray := prog_1_method_6_code
def yX9_decide : MethodName := ⟨RX9, "decide", "(I)Z"⟩
abbrev cX9_appeal : ByteArray := prog_1_method_7_code
def yX9_appeal : MethodName := ⟨RX9, "appeal", "(I)I"⟩
abbrev cX9_close : ByteArray := prog_1_method_8_code
def yX9_close : MethodName := ⟨RX9, "close", "(I)I"⟩
abbrev cX9_caseCount : ByteArray := prog_1_method_9_code
def yX9_caseCount : MethodName := ⟨RX9, "caseCount", "()I"⟩
abbrev cX9_caseOf : ByteArray := prog_1_method_10_code
def yX9_caseOf : MethodName := ⟨RX9, "caseOf", "(II)I"⟩
abbrev cX9_defendantOf : ByteArray := prog_1_method_11_code
def yX9_defendantOf : MethodName := ⟨RX9, "defendantOf", "(I)I"⟩
abbrev cX9_offenceOf : ByteArray := prog_1_method_12_code
def yX9_offenceOf : MethodName := ⟨RX9, "offenceOf", "(I)I"⟩
abbrev cX9_isOpen : ByteArray := prog_1_method_13_code
def yX9_isOpen : MethodName := ⟨RX9, "isOpen", "(I)Z"⟩
abbrev cX9_isDecided : ByteArray := prog_1_method_14_code
def yX9_isDecided : MethodName := ⟨RX9, "isDecided", "(I)Z"⟩
abbrev cX9_isClosed : ByteArray := prog_1_method_15_code
def yX9_isClosed : MethodName := ⟨RX9, "isClosed", "(I)Z"⟩
abbrev cX9_isGuilty : ByteArray := prog_1_method_16_code
def yX9_isGuilty : MethodName := ⟨RX9, "isGuilty", "(I)Z"⟩
abbrev cX9_appealCount : ByteArray := prog_1_method_17_code
def yX9_appealCount : MethodName := ⟨RX9, "appealCount", "(I)I"⟩
abbrev cX9_testimonyCount : ByteArray := prog_1_method_18_code
def yX9_testimonyCount : MethodName := ⟨RX9, "testimonyCount", "(I)I"⟩
abbrev cX9_witnessAt : ByteArray := prog_1_method_19_code
def yX9_witnessAt : MethodName := ⟨RX9, "witnessAt", "(II)I"⟩
abbrev cX9_hasTestified : ByteArray := prog_1_method_20_code
def yX9_hasTestified : MethodName := ⟨RX9, "hasTestified", "(II)Z"⟩
abbrev cX9_isForProsecution : ByteArray := prog_1_method_21_code
def yX9_isForProsecution : MethodName := ⟨RX9, "isForProsecution", "(II)Z"⟩
abbrev cX9_strength : ByteArray := prog_1_method_22_code
def yX9_strength : MethodName := ⟨RX9, "strength", "(II)I"⟩
abbrev cX9_questionCount : ByteArray := prog_1_method_23_code
def yX9_questionCount : MethodName := ⟨RX9, "questionCount", "(II)I"⟩
abbrev cX9_witnessCount : ByteArray := prog_1_method_24_code
def yX9_witnessCount : MethodName := ⟨RX9, "witnessCount", "()I"⟩
abbrev cX9_credibility : ByteArray := prog_1_method_25_code
def yX9_credibility : MethodName := ⟨RX9, "credibility", "(I)I"⟩
abbrev cX9_casesOfWitness : ByteArray := prog_1_method_26_code
def yX9_casesOfWitness : MethodName := ⟨RX9, "casesOfWitness", "(I)I"⟩
abbrev cX9_mostCredible : ByteArray := prog_1_method_27_code
def yX9_mostCredible : MethodName := ⟨RX9, "mostCredible", "(I)I"⟩
abbrev cX9_agreement : ByteArray := prog_1_method_28_code
def yX9_agreement : MethodName := ⟨RX9, "agreement", "(II)I"⟩
abbrev cX9_areConnected : ByteArray := prog_1_method_29_code
def yX9_areConnected : MethodName := ⟨RX9, "areConnected", "(II)Z"⟩
abbrev cX9_areConnectedBySearch : ByteArray := prog_1_method_30_code
def yX9_areConnectedBySearch : MethodName := ⟨RX9, "areConnectedBySearch", "(II)Z"⟩
abbrev cX9_groupSize : ByteArray := prog_1_method_31_code
def yX9_groupSize : MethodName := ⟨RX9, "groupSize", "(I)I"⟩
abbrev cX9_groupCount : ByteArray := prog_1_method_32_code
def yX9_groupCount : MethodName := ⟨RX9, "groupCount", "()I"⟩
abbrev cX9_heaviestWitness : ByteArray := prog_1_method_33_code
def yX9_heaviestWitness : MethodName := ⟨RX9, "heaviestWitness", "(I)I"⟩
abbrev cX9_nextToDecide : ByteArray := prog_1_method_34_code
def yX9_nextToDecide : MethodName := ⟨RX9, "nextToDecide", "()I"⟩
abbrev cX9_prosecutionWeight : ByteArray := prog_1_method_35_code
def yX9_prosecutionWeight : MethodName := ⟨RX9, "prosecutionWeight", "(I)I"⟩
abbrev cX9_defenceWeight : ByteArray := prog_1_method_36_code
def yX9_defenceWeight : MethodName := ⟨RX9, "defenceWeight", "(I)I"⟩
abbrev cX9_margin : ByteArray := prog_1_method_37_code
def yX9_margin : MethodName := ⟨RX9, "margin", "(I)I"⟩
abbrev cX9_marginByCredibility : ByteArray := prog_1_method_38_code
def yX9_marginByCredibility : MethodName := ⟨RX9, "marginByCredibility", "(I)I"⟩
abbrev cX9_firmAnswersToGuilty : ByteArray := prog_1_method_39_code
def yX9_firmAnswersToGuilty : MethodName := ⟨RX9, "firmAnswersToGuilty", "(II)I"⟩
abbrev cX9_sentence : ByteArray := prog_1_method_40_code
def yX9_sentence : MethodName := ⟨RX9, "sentence", "(I)I"⟩
abbrev cX9_sentenceByCases : ByteArray := prog_1_method_41_code
def yX9_sentenceByCases : MethodName := ⟨RX9, "sentenceByCases", "(I)I"⟩
abbrev cX9_mostSentenced : ByteArray := prog_1_method_42_code
def yX9_mostSentenced : MethodName := ⟨RX9, "mostSentenced", "()I"⟩
abbrev cX9_docketLength : ByteArray := prog_1_method_43_code
def yX9_docketLength : MethodName := ⟨RX9, "docketLength", "()I"⟩
abbrev cX9_docketAt : ByteArray := prog_1_method_44_code
def yX9_docketAt : MethodName := ⟨RX9, "docketAt", "(I)I"⟩
abbrev cX9_docketPosition : ByteArray := prog_1_method_45_code
def yX9_docketPosition : MethodName := ⟨RX9, "docketPosition", "(I)I"⟩
abbrev cX9_closedCount : ByteArray := prog_1_method_46_code
def yX9_closedCount : MethodName := ⟨RX9, "closedCount", "()I"⟩
abbrev cX9_guiltyCount : ByteArray := prog_1_method_47_code
def yX9_guiltyCount : MethodName := ⟨RX9, "guiltyCount", "()I"⟩
abbrev cX9_decisionCount : ByteArray := prog_1_method_48_code
def yX9_decisionCount : MethodName := ⟨RX9, "decisionCount", "()I"⟩
abbrev cX9_meanCredibility : ByteArray := prog_1_method_50_code
def yX9_meanCredibility : MethodName := ⟨RX9, "meanCredibility", "()D"⟩
abbrev cX9_guiltyShare : ByteArray := prog_1_method_51_code
def yX9_guiltyShare : MethodName := ⟨RX9, "guiltyShare", "()F"⟩
abbrev cX9_isConsistent : ByteArray := prog_1_method_52_code
def yX9_isConsistent : MethodName := ⟨RX9, "isConsistent", "()Z"⟩
abbrev cX9_formatCase : ByteArray := prog_1_method_53_code
def yX9_formatCase : MethodName := ⟨RX9, "formatCase", "(I)I"⟩
abbrev cX9_formatWitness : ByteArray := prog_1_method_54_code
def yX9_formatWitness : MethodName := ⟨RX9, "formatWitness", "(I)I"⟩
abbrev cX9_lineChar : ByteArray := prog_1_method_55_code
def yX9_lineChar : MethodName := ⟨RX9, "lineChar", "(I)C"⟩
abbrev cX9_change : ByteArray := prog_1_method_65_code
def yX9_change : MethodName := ⟨RX9, "change", "(IIIZI)I"⟩
abbrev cX9_refuse : ByteArray := prog_1_method_66_code
def yX9_refuse : MethodName := ⟨RX9, "refuse", "(LCaseManager$Fault;)V"⟩
abbrev cX9_needCase : ByteArray := prog_1_method_68_code
def yX9_needCase : MethodName := ⟨RX9, "needCase", "(I)V"⟩
abbrev cX9_needWitness : ByteArray := prog_1_method_69_code
def yX9_needWitness : MethodName := ⟨RX9, "needWitness", "(I)V"⟩
abbrev cX9_needTestimony : ByteArray := prog_1_method_70_code
def yX9_needTestimony : MethodName := ⟨RX9, "needTestimony", "(II)V"⟩
abbrev cX9_needDefendant : ByteArray := prog_1_method_72_code
def yX9_needDefendant : MethodName := ⟨RX9, "needDefendant", "(I)V"⟩
abbrev cX9_isDefendant : ByteArray := prog_1_method_73_code
def yX9_isDefendant : MethodName := ⟨RX9, "isDefendant", "(I)Z"⟩
abbrev cX9_isOffence : ByteArray := prog_1_method_74_code
def yX9_isOffence : MethodName := ⟨RX9, "isOffence", "(I)Z"⟩
abbrev cX9_writeHead : ByteArray := prog_1_method_75_code
def yX9_writeHead : MethodName := ⟨RX9, "writeHead", "(I)V"⟩
abbrev cX9_writeTestimony : ByteArray := prog_1_method_76_code
def yX9_writeTestimony : MethodName := ⟨RX9, "writeTestimony", "(II)V"⟩
abbrev cX9_doMarginsAgree : ByteArray := prog_1_method_77_code
def yX9_doMarginsAgree : MethodName := ⟨RX9, "doMarginsAgree", "()Z"⟩
abbrev cX9_doSentencesAgree : ByteArray := prog_1_method_78_code
def yX9_doSentencesAgree : MethodName := ⟨RX9, "doSentencesAgree", "()Z"⟩
abbrev cX9_doConnectionsAgree : ByteArray := prog_1_method_79_code
def yX9_doConnectionsAgree : MethodName := ⟨RX9, "doConnectionsAgree", "()Z"⟩
abbrev cX9_doesDocketAgree : ByteArray := prog_1_method_80_code
def yX9_doesDocketAgree : MethodName := ⟨RX9, "doesDocketAgree", "()Z"⟩
def RX10 : String := "CaseManagerModel"
def TX10 : u_T := fun k => match k with
  | _ => ("", "", "", false)
def tyX10 : Nat → FieldType := fun k => match k with
  | _ => .int
abbrev wsX100 : List Cond := u_ws RX10 TX10 0
theorem nmX10 : ∀ a, a < 0 → ∀ b, b < 0 → a ≠ b → (TX10 a).2.1 ≠ (TX10 b).2.1 := by decide +kernel
theorem tyX10_ok : ∀ k, k < 0 → parseFieldDescriptor (TX10 k).2.2.1 = some (tyX10 k) := by decide +kernel
def RJx145de : String := "java/io/Serializable"
def TJx145de : u_T := fun k => match k with
  | _ => ("", "", "", false)
def tyJx145de : Nat → FieldType := fun k => match k with
  | _ => .int
abbrev wsJx145de0 : List Cond := u_ws RJx145de TJx145de 0
theorem nmJx145de : ∀ a, a < 0 → ∀ b, b < 0 → a ≠ b → (TJx145de a).2.1 ≠ (TJx145de b).2.1 := by decide +kernel
theorem tyJx145de_ok : ∀ k, k < 0 → parseFieldDescriptor (TJx145de k).2.2.1 = some (tyJx145de k) := by decide +kernel
def RJ5 : String := "java/lang/AbstractStringBuilder"
def TJ5 : u_T := fun k => match k with
  | _ => ("", "", "", false)
def tyJ5 : Nat → FieldType := fun k => match k with
  | _ => .int
abbrev wsJ50 : List Cond := u_ws RJ5 TJ5 0
theorem nmJ5 : ∀ a, a < 0 → ∀ b, b < 0 → a ≠ b → (TJ5 a).2.1 ≠ (TJ5 b).2.1 := by decide +kernel
theorem tyJ5_ok : ∀ k, k < 0 → parseFieldDescriptor (TJ5 k).2.2.1 = some (tyJ5 k) := by decide +kernel
abbrev cJ5_init_d00df : ByteArray := prog_14_method_2_code
def yJ5_init_d00df : MethodName := ⟨RJ5, "<init>", "(I)V"⟩
abbrev cJ5_length_8abf5 : ByteArray := prog_14_method_6_code
def yJ5_length_8abf5 : MethodName := ⟨RJ5, "length", "()I"⟩
abbrev cJ5_ensureCapacityInternal_d00df : ByteArray := prog_14_method_9_code
def yJ5_ensureCapacityInternal_d00df : MethodName := ⟨RJ5, "ensureCapacityInternal", "(I)V"⟩
abbrev cJ5_newCapacity_0f7a4 : ByteArray := prog_14_method_10_code
def yJ5_newCapacity_0f7a4 : MethodName := ⟨RJ5, "newCapacity", "(I)I"⟩
abbrev cJ5_inflate_da8c8 : ByteArray := prog_14_method_11_code
def yJ5_inflate_da8c8 : MethodName := ⟨RJ5, "inflate", "()V"⟩
abbrev cJ5_setLength_d00df : ByteArray := prog_14_method_13_code
def yJ5_setLength_d00df : MethodName := ⟨RJ5, "setLength", "(I)V"⟩
abbrev cJ5_charAt_5068e : ByteArray := prog_14_method_14_code
def yJ5_charAt_5068e : MethodName := ⟨RJ5, "charAt", "(I)C"⟩
abbrev cJ5_append_cf1ce : ByteArray := prog_14_method_22_code
def yJ5_append_cf1ce : MethodName := ⟨RJ5, "append", "(Ljava/lang/String;)Ljava/lang/AbstractStringBuilder;"⟩
abbrev cJ5_appendNull_278bc : ByteArray := prog_14_method_26_code
def yJ5_appendNull_278bc : MethodName := ⟨RJ5, "appendNull", "()Ljava/lang/AbstractStringBuilder;"⟩
abbrev cJ5_append_3fe6f : ByteArray := prog_14_method_31_code
def yJ5_append_3fe6f : MethodName := ⟨RJ5, "append", "(C)Ljava/lang/AbstractStringBuilder;"⟩
abbrev cJ5_append_c97b9 : ByteArray := prog_14_method_32_code
def yJ5_append_c97b9 : MethodName := ⟨RJ5, "append", "(I)Ljava/lang/AbstractStringBuilder;"⟩
abbrev cJ5_getValue_6d5f1 : ByteArray := prog_14_method_64_code
def yJ5_getValue_6d5f1 : MethodName := ⟨RJ5, "getValue", "()[B"⟩
abbrev cJ5_isLatin1_aae02 : ByteArray := prog_14_method_68_code
def yJ5_isLatin1_aae02 : MethodName := ⟨RJ5, "isLatin1", "()Z"⟩
abbrev cJ5_inflateIfNeededFor_a7421 : ByteArray := prog_14_method_71_code
def yJ5_inflateIfNeededFor_a7421 : MethodName := ⟨RJ5, "inflateIfNeededFor", "(Ljava/lang/String;)V"⟩
abbrev cJ5_putStringAt_47b60 : ByteArray := prog_14_method_73_code
def yJ5_putStringAt_47b60 : MethodName := ⟨RJ5, "putStringAt", "(ILjava/lang/String;)V"⟩
def RJx2cfe8 : String := "java/lang/Appendable"
def TJx2cfe8 : u_T := fun k => match k with
  | _ => ("", "", "", false)
def tyJx2cfe8 : Nat → FieldType := fun k => match k with
  | _ => .int
abbrev wsJx2cfe80 : List Cond := u_ws RJx2cfe8 TJx2cfe8 0
theorem nmJx2cfe8 : ∀ a, a < 0 → ∀ b, b < 0 → a ≠ b → (TJx2cfe8 a).2.1 ≠ (TJx2cfe8 b).2.1 := by decide +kernel
theorem tyJx2cfe8_ok : ∀ k, k < 0 → parseFieldDescriptor (TJx2cfe8 k).2.2.1 = some (tyJx2cfe8 k) := by decide +kernel
def RJx00060 : String := "java/lang/ArrayIndexOutOfBoundsException"
def TJx00060 : u_T := fun k => match k with
  | 0 => ("java/lang/Throwable", "cause", "Ljava/lang/Throwable;", false)
  | 1 => ("java/lang/Throwable", "stackTrace", "[Ljava/lang/StackTraceElement;", false)
  | 2 => ("java/lang/Throwable", "suppressedExceptions", "Ljava/util/List;", false)
  | 3 => ("java/lang/Throwable", "detailMessage", "Ljava/lang/String;", false)
  | 4 => ("java/lang/Throwable", "backtrace", "Ljava/lang/Object;", false)
  | _ => ("java/lang/Throwable", "depth", "I", false)
def tyJx00060 : Nat → FieldType := fun k => match k with
  | 0 => .object "java/lang/Throwable"
  | 1 => .array (.object "java/lang/StackTraceElement")
  | 2 => .object "java/util/List"
  | 3 => .object "java/lang/String"
  | 4 => .object "java/lang/Object"
  | _ => .int
abbrev wsJx000600 : List Cond := u_ws RJx00060 TJx00060 6
theorem nmJx00060 : ∀ a, a < 6 → ∀ b, b < 6 → a ≠ b → (TJx00060 a).2.1 ≠ (TJx00060 b).2.1 := by decide +kernel
theorem tyJx00060_ok : ∀ k, k < 6 → parseFieldDescriptor (TJx00060 k).2.2.1 = some (tyJx00060 k) := by decide +kernel
abbrev cJx00060_init_a7421 : ByteArray := prog_17_method_2_code
def yJx00060_init_a7421 : MethodName := ⟨RJx00060, "<init>", "(Ljava/lang/String;)V"⟩
abbrev cJx00060_init_d00df : ByteArray := prog_17_method_3_code
def yJx00060_init_d00df : MethodName := ⟨RJx00060, "<init>", "(I)V"⟩
def RJx9f9b0 : String := "java/lang/CharSequence"
def TJx9f9b0 : u_T := fun k => match k with
  | _ => ("", "", "", false)
def tyJx9f9b0 : Nat → FieldType := fun k => match k with
  | _ => .int
abbrev wsJx9f9b00 : List Cond := u_ws RJx9f9b0 TJx9f9b0 0
theorem nmJx9f9b0 : ∀ a, a < 0 → ∀ b, b < 0 → a ≠ b → (TJx9f9b0 a).2.1 ≠ (TJx9f9b0 b).2.1 := by decide +kernel
theorem tyJx9f9b0_ok : ∀ k, k < 0 → parseFieldDescriptor (TJx9f9b0 k).2.2.1 = some (tyJx9f9b0 k) := by decide +kernel
def RJx8e188 : String := "java/lang/Cloneable"
def TJx8e188 : u_T := fun k => match k with
  | _ => ("", "", "", false)
def tyJx8e188 : Nat → FieldType := fun k => match k with
  | _ => .int
abbrev wsJx8e1880 : List Cond := u_ws RJx8e188 TJx8e188 0
theorem nmJx8e188 : ∀ a, a < 0 → ∀ b, b < 0 → a ≠ b → (TJx8e188 a).2.1 ≠ (TJx8e188 b).2.1 := by decide +kernel
theorem tyJx8e188_ok : ∀ k, k < 0 → parseFieldDescriptor (TJx8e188 k).2.2.1 = some (tyJx8e188 k) := by decide +kernel
def RJxb160c : String := "java/lang/Comparable"
def TJxb160c : u_T := fun k => match k with
  | _ => ("", "", "", false)
def tyJxb160c : Nat → FieldType := fun k => match k with
  | _ => .int
abbrev wsJxb160c0 : List Cond := u_ws RJxb160c TJxb160c 0
theorem nmJxb160c : ∀ a, a < 0 → ∀ b, b < 0 → a ≠ b → (TJxb160c a).2.1 ≠ (TJxb160c b).2.1 := by decide +kernel
theorem tyJxb160c_ok : ∀ k, k < 0 → parseFieldDescriptor (TJxb160c k).2.2.1 = some (tyJxb160c k) := by decide +kernel
def RJx29ce0 : String := "java/lang/Enum"
def TJx29ce0 : u_T := fun k => match k with
  | _ => ("", "", "", false)
def tyJx29ce0 : Nat → FieldType := fun k => match k with
  | _ => .int
abbrev wsJx29ce00 : List Cond := u_ws RJx29ce0 TJx29ce0 0
theorem nmJx29ce0 : ∀ a, a < 0 → ∀ b, b < 0 → a ≠ b → (TJx29ce0 a).2.1 ≠ (TJx29ce0 b).2.1 := by decide +kernel
theorem tyJx29ce0_ok : ∀ k, k < 0 → parseFieldDescriptor (TJx29ce0 k).2.2.1 = some (tyJx29ce0 k) := by decide +kernel
def RJ6 : String := "java/lang/Integer"
def TJ6 : u_T := fun k => match k with
  | _ => ("", "", "", false)
def tyJ6 : Nat → FieldType := fun k => match k with
  | _ => .int
abbrev wsJ60 : List Cond := u_ws RJ6 TJ6 0
theorem nmJ6 : ∀ a, a < 0 → ∀ b, b < 0 → a ≠ b → (TJ6 a).2.1 ≠ (TJ6 b).2.1 := by decide +kernel
theorem tyJ6_ok : ∀ k, k < 0 → parseFieldDescriptor (TJ6 k).2.2.1 = some (tyJ6 k) := by decide +kernel
abbrev cJ6_getChars_ba4f3 : ByteArray := prog_26_method_12_code
def yJ6_getChars_ba4f3 : MethodName := ⟨RJ6, "getChars", "(II[B)I"⟩
abbrev cJ6_stringSize_0f7a4 : ByteArray := prog_26_method_13_code
def yJ6_stringSize_0f7a4 : MethodName := ⟨RJ6, "stringSize", "(I)I"⟩
abbrev cJ6_numberOfTrailingZeros_0f7a4 : ByteArray := prog_26_method_48_code
def yJ6_numberOfTrailingZeros_0f7a4 : MethodName := ⟨RJ6, "numberOfTrailingZeros", "(I)I"⟩
abbrev cJ6_bitCount_0f7a4 : ByteArray := prog_26_method_49_code
def yJ6_bitCount_0f7a4 : MethodName := ⟨RJ6, "bitCount", "(I)I"⟩
def RJ9 : String := "java/lang/Math"
def TJ9 : u_T := fun k => match k with
  | _ => ("", "", "", false)
def tyJ9 : Nat → FieldType := fun k => match k with
  | _ => .int
abbrev wsJ90 : List Cond := u_ws RJ9 TJ9 0
theorem nmJ9 : ∀ a, a < 0 → ∀ b, b < 0 → a ≠ b → (TJ9 a).2.1 ≠ (TJ9 b).2.1 := by decide +kernel
theorem tyJ9_ok : ∀ k, k < 0 → parseFieldDescriptor (TJ9 k).2.2.1 = some (tyJ9 k) := by decide +kernel
abbrev cJ9_max_7cf53 : ByteArray := prog_27_method_65_code
def yJ9_max_7cf53 : MethodName := ⟨RJ9, "max", "(II)I"⟩
abbrev cJ9_min_7cf53 : ByteArray := prog_27_method_69_code
def yJ9_min_7cf53 : MethodName := ⟨RJ9, "min", "(II)I"⟩
def RJxd2413 : String := "java/lang/Number"
def TJxd2413 : u_T := fun k => match k with
  | _ => ("", "", "", false)
def tyJxd2413 : Nat → FieldType := fun k => match k with
  | _ => .int
abbrev wsJxd24130 : List Cond := u_ws RJxd2413 TJxd2413 0
theorem nmJxd2413 : ∀ a, a < 0 → ∀ b, b < 0 → a ≠ b → (TJxd2413 a).2.1 ≠ (TJxd2413 b).2.1 := by decide +kernel
theorem tyJxd2413_ok : ∀ k, k < 0 → parseFieldDescriptor (TJxd2413 k).2.2.1 = some (tyJxd2413 k) := by decide +kernel
def RJ0 : String := "java/lang/String"
def TJ0 : u_T := fun k => match k with
  | 0 => ("java/lang/String", "value", "[B", true)
  | 1 => ("java/lang/String", "coder", "B", true)
  | 2 => ("java/lang/String", "hash", "I", false)
  | _ => ("java/lang/String", "hashIsZero", "Z", false)
def tyJ0 : Nat → FieldType := fun k => match k with
  | 0 => .array .byte
  | 1 => .byte
  | 2 => .int
  | _ => .boolean
abbrev wsJ00 : List Cond := u_ws RJ0 TJ0 4
theorem nmJ0 : ∀ a, a < 4 → ∀ b, b < 4 → a ≠ b → (TJ0 a).2.1 ≠ (TJ0 b).2.1 := by decide +kernel
theorem tyJ0_ok : ∀ k, k < 4 → parseFieldDescriptor (TJ0 k).2.2.1 = some (tyJ0 k) := by decide +kernel
abbrev cJ0_init_81219 : ByteArray := prog_30_method_53_code
def yJ0_init_81219 : MethodName := ⟨RJ0, "<init>", "(Ljava/lang/StringBuilder;)V"⟩
abbrev cJ0_length_8abf5 : ByteArray := prog_30_method_54_code
def yJ0_length_8abf5 : MethodName := ⟨RJ0, "length", "()I"⟩
abbrev cJ0_charAt_5068e : ByteArray := prog_30_method_56_code
def yJ0_charAt_5068e : MethodName := ⟨RJ0, "charAt", "(I)C"⟩
abbrev cJ0_getBytes_840e7 : ByteArray := prog_30_method_147_code
def yJ0_getBytes_840e7 : MethodName := ⟨RJ0, "getBytes", "([BIB)V"⟩
abbrev cJ0_init_db425 : ByteArray := prog_30_method_150_code
def yJ0_init_db425 : MethodName := ⟨RJ0, "<init>", "(Ljava/lang/AbstractStringBuilder;Ljava/lang/Void;)V"⟩
abbrev cJ0_coder_7d493 : ByteArray := prog_30_method_152_code
def yJ0_coder_7d493 : MethodName := ⟨RJ0, "coder", "()B"⟩
abbrev cJ0_isLatin1_aae02 : ByteArray := prog_30_method_154_code
def yJ0_isLatin1_aae02 : MethodName := ⟨RJ0, "isLatin1", "()Z"⟩
abbrev cJ0_checkIndex_df160 : ByteArray := prog_30_method_155_code
def yJ0_checkIndex_df160 : MethodName := ⟨RJ0, "checkIndex", "(II)V"⟩
abbrev cJ0_checkBoundsOffCount_cabcc : ByteArray := prog_30_method_157_code
def yJ0_checkBoundsOffCount_cabcc : MethodName := ⟨RJ0, "checkBoundsOffCount", "(III)I"⟩
abbrev cJ0_checkBoundsBeginEnd_23922 : ByteArray := prog_30_method_158_code
def yJ0_checkBoundsBeginEnd_23922 : MethodName := ⟨RJ0, "checkBoundsBeginEnd", "(III)V"⟩
def RJ4 : String := "java/lang/StringBuilder"
def TJ4 : u_T := fun k => match k with
  | 0 => ("java/lang/AbstractStringBuilder", "value", "[B", false)
  | 1 => ("java/lang/AbstractStringBuilder", "coder", "B", false)
  | 2 => ("java/lang/AbstractStringBuilder", "maybeLatin1", "Z", false)
  | _ => ("java/lang/AbstractStringBuilder", "count", "I", false)
def tyJ4 : Nat → FieldType := fun k => match k with
  | 0 => .array .byte
  | 1 => .byte
  | 2 => .boolean
  | _ => .int
abbrev wsJ40 : List Cond := u_ws RJ4 TJ4 4
theorem nmJ4 : ∀ a, a < 4 → ∀ b, b < 4 → a ≠ b → (TJ4 a).2.1 ≠ (TJ4 b).2.1 := by decide +kernel
theorem tyJ4_ok : ∀ k, k < 4 → parseFieldDescriptor (TJ4 k).2.2.1 = some (tyJ4 k) := by decide +kernel
abbrev cJ4_init_da8c8 : ByteArray := prog_31_method_1_code
def yJ4_init_da8c8 : MethodName := ⟨RJ4, "<init>", "()V"⟩
abbrev cJ4_append_15ec4 : ByteArray := prog_31_method_7_code
def yJ4_append_15ec4 : MethodName := ⟨RJ4, "append", "(Ljava/lang/String;)Ljava/lang/StringBuilder;"⟩
abbrev cJ4_append_cf468 : ByteArray := prog_31_method_14_code
def yJ4_append_cf468 : MethodName := ⟨RJ4, "append", "(C)Ljava/lang/StringBuilder;"⟩
abbrev cJ4_append_bf812 : ByteArray := prog_31_method_15_code
def yJ4_append_bf812 : MethodName := ⟨RJ4, "append", "(I)Ljava/lang/StringBuilder;"⟩
abbrev cJ4_toString_0e30d : ByteArray := prog_31_method_42_code
def yJ4_toString_0e30d : MethodName := ⟨RJ4, "toString", "()Ljava/lang/String;"⟩
abbrev cJ4_charAt_5068e : ByteArray := prog_31_method_88_code
def yJ4_charAt_5068e : MethodName := ⟨RJ4, "charAt", "(I)C"⟩
abbrev cJ4_setLength_d00df : ByteArray := prog_31_method_89_code
def yJ4_setLength_d00df : MethodName := ⟨RJ4, "setLength", "(I)V"⟩
abbrev cJ4_length_8abf5 : ByteArray := prog_31_method_93_code
def yJ4_length_8abf5 : MethodName := ⟨RJ4, "length", "()I"⟩
def RJx7c733 : String := "java/lang/StringIndexOutOfBoundsException"
def TJx7c733 : u_T := fun k => match k with
  | 0 => ("java/lang/Throwable", "backtrace", "Ljava/lang/Object;", false)
  | 1 => ("java/lang/Throwable", "detailMessage", "Ljava/lang/String;", false)
  | 2 => ("java/lang/Throwable", "cause", "Ljava/lang/Throwable;", false)
  | 3 => ("java/lang/Throwable", "stackTrace", "[Ljava/lang/StackTraceElement;", false)
  | 4 => ("java/lang/Throwable", "depth", "I", false)
  | _ => ("java/lang/Throwable", "suppressedExceptions", "Ljava/util/List;", false)
def tyJx7c733 : Nat → FieldType := fun k => match k with
  | 0 => .object "java/lang/Object"
  | 1 => .object "java/lang/String"
  | 2 => .object "java/lang/Throwable"
  | 3 => .array (.object "java/lang/StackTraceElement")
  | 4 => .int
  | _ => .object "java/util/List"
abbrev wsJx7c7330 : List Cond := u_ws RJx7c733 TJx7c733 6
theorem nmJx7c733 : ∀ a, a < 6 → ∀ b, b < 6 → a ≠ b → (TJx7c733 a).2.1 ≠ (TJx7c733 b).2.1 := by decide +kernel
theorem tyJx7c733_ok : ∀ k, k < 6 → parseFieldDescriptor (TJx7c733 k).2.2.1 = some (tyJx7c733 k) := by decide +kernel
abbrev cJx7c733_init_d00df : ByteArray := prog_32_method_3_code
def yJx7c733_init_d00df : MethodName := ⟨RJx7c733, "<init>", "(I)V"⟩
def RJ1 : String := "java/lang/StringLatin1"
def TJ1 : u_T := fun k => match k with
  | _ => ("", "", "", false)
def tyJ1 : Nat → FieldType := fun k => match k with
  | _ => .int
abbrev wsJ10 : List Cond := u_ws RJ1 TJ1 0
theorem nmJ1 : ∀ a, a < 0 → ∀ b, b < 0 → a ≠ b → (TJ1 a).2.1 ≠ (TJ1 b).2.1 := by decide +kernel
theorem tyJ1_ok : ∀ k, k < 0 → parseFieldDescriptor (TJ1 k).2.2.1 = some (tyJ1 k) := by decide +kernel
abbrev cJ1_charAt_3b067 : ByteArray := prog_33_method_2_code
def yJ1_charAt_3b067 : MethodName := ⟨RJ1, "charAt", "([BI)C"⟩
abbrev cJ1_canEncode_fc78d : ByteArray := prog_33_method_3_code
def yJ1_canEncode_fc78d : MethodName := ⟨RJ1, "canEncode", "(C)Z"⟩
abbrev cJ1_fillNull_b72d1 : ByteArray := prog_33_method_48_code
def yJ1_fillNull_b72d1 : MethodName := ⟨RJ1, "fillNull", "([BII)V"⟩
abbrev cJ1_inflate_0e8fd : ByteArray := prog_33_method_50_code
def yJ1_inflate_0e8fd : MethodName := ⟨RJ1, "inflate", "([BI[BII)V"⟩
def RJ2 : String := "java/lang/StringUTF16"
def TJ2 : u_T := fun k => match k with
  | _ => ("", "", "", false)
def tyJ2 : Nat → FieldType := fun k => match k with
  | _ => .int
abbrev wsJ20 : List Cond := u_ws RJ2 TJ2 0
theorem nmJ2 : ∀ a, a < 0 → ∀ b, b < 0 → a ≠ b → (TJ2 a).2.1 ≠ (TJ2 b).2.1 := by decide +kernel
theorem tyJ2_ok : ∀ k, k < 0 → parseFieldDescriptor (TJ2 k).2.2.1 = some (tyJ2 k) := by decide +kernel
abbrev cJ2_newBytesFor_77867 : ByteArray := prog_34_method_2_code
def yJ2_newBytesFor_77867 : MethodName := ⟨RJ2, "newBytesFor", "(I)[B"⟩
abbrev cJ2_newBytesLength_0f7a4 : ByteArray := prog_34_method_3_code
def yJ2_newBytesLength_0f7a4 : MethodName := ⟨RJ2, "newBytesLength", "(I)I"⟩
abbrev cJ2_putChar_b72d1 : ByteArray := prog_34_method_4_code
def yJ2_putChar_b72d1 : MethodName := ⟨RJ2, "putChar", "([BII)V"⟩
abbrev cJ2_getChar_3b067 : ByteArray := prog_34_method_5_code
def yJ2_getChar_3b067 : MethodName := ⟨RJ2, "getChar", "([BI)C"⟩
abbrev cJ2_length_9d52b : ByteArray := prog_34_method_6_code
def yJ2_length_9d52b : MethodName := ⟨RJ2, "length", "([B)I"⟩
abbrev cJ2_coderFromArrayLen_85cad : ByteArray := prog_34_method_15_code
def yJ2_coderFromArrayLen_85cad : MethodName := ⟨RJ2, "coderFromArrayLen", "([BI)B"⟩
abbrev cJ2_compress_39247 : ByteArray := prog_34_method_17_code
def yJ2_compress_39247 : MethodName := ⟨RJ2, "compress", "([BII)[B"⟩
abbrev cJ2_compress_5af95 : ByteArray := prog_34_method_22_code
def yJ2_compress_5af95 : MethodName := ⟨RJ2, "compress", "([BI[BII)I"⟩
abbrev cJ2_fillNull_b72d1 : ByteArray := prog_34_method_70_code
def yJ2_fillNull_b72d1 : MethodName := ⟨RJ2, "fillNull", "([BII)V"⟩
abbrev cJ2_putCharSB_b72d1 : ByteArray := prog_34_method_71_code
def yJ2_putCharSB_b72d1 : MethodName := ⟨RJ2, "putCharSB", "([BII)V"⟩
abbrev cJ2_getChars_46870 : ByteArray := prog_34_method_77_code
def yJ2_getChars_46870 : MethodName := ⟨RJ2, "getChars", "(III[B)I"⟩
abbrev cJ2_putCharsAt_cd4e5 : ByteArray := prog_34_method_81_code
def yJ2_putCharsAt_cd4e5 : MethodName := ⟨RJ2, "putCharsAt", "([BICCCC)I"⟩
abbrev cJ2_charAt_3b067 : ByteArray := prog_34_method_83_code
def yJ2_charAt_3b067 : MethodName := ⟨RJ2, "charAt", "([BI)C"⟩
abbrev cJ2_inflate_0e8fd : ByteArray := prog_34_method_86_code
def yJ2_inflate_0e8fd : MethodName := ⟨RJ2, "inflate", "([BI[BII)V"⟩
abbrev cJ2_getChars_ba4f3 : ByteArray := prog_34_method_89_code
def yJ2_getChars_ba4f3 : MethodName := ⟨RJ2, "getChars", "(II[B)I"⟩
abbrev cJ2_checkIndex_2214a : ByteArray := prog_34_method_91_code
def yJ2_checkIndex_2214a : MethodName := ⟨RJ2, "checkIndex", "(I[B)V"⟩
abbrev cJ2_checkBoundsBeginEnd_d044e : ByteArray := prog_34_method_93_code
def yJ2_checkBoundsBeginEnd_d044e : MethodName := ⟨RJ2, "checkBoundsBeginEnd", "(II[B)V"⟩
abbrev cJ2_checkBoundsOffCount_d044e : ByteArray := prog_34_method_94_code
def yJ2_checkBoundsOffCount_d044e : MethodName := ⟨RJ2, "checkBoundsOffCount", "(II[B)V"⟩
def RJ10 : String := "java/lang/System"
def TJ10 : u_T := fun k => match k with
  | _ => ("", "", "", false)
def tyJ10 : Nat → FieldType := fun k => match k with
  | _ => .int
abbrev wsJ100 : List Cond := u_ws RJ10 TJ10 0
theorem nmJ10 : ∀ a, a < 0 → ∀ b, b < 0 → a ≠ b → (TJ10 a).2.1 ≠ (TJ10 b).2.1 := by decide +kernel
theorem tyJ10_ok : ∀ k, k < 0 → parseFieldDescriptor (TJ10 k).2.2.1 = some (tyJ10 k) := by decide +kernel
def RJxfd54e : String := "java/lang/constant/Constable"
def TJxfd54e : u_T := fun k => match k with
  | _ => ("", "", "", false)
def tyJxfd54e : Nat → FieldType := fun k => match k with
  | _ => .int
abbrev wsJxfd54e0 : List Cond := u_ws RJxfd54e TJxfd54e 0
theorem nmJxfd54e : ∀ a, a < 0 → ∀ b, b < 0 → a ≠ b → (TJxfd54e a).2.1 ≠ (TJxfd54e b).2.1 := by decide +kernel
theorem tyJxfd54e_ok : ∀ k, k < 0 → parseFieldDescriptor (TJxfd54e k).2.2.1 = some (tyJxfd54e k) := by decide +kernel
def RJx3cf43 : String := "java/lang/constant/ConstantDesc"
def TJx3cf43 : u_T := fun k => match k with
  | _ => ("", "", "", false)
def tyJx3cf43 : Nat → FieldType := fun k => match k with
  | _ => .int
abbrev wsJx3cf430 : List Cond := u_ws RJx3cf43 TJx3cf43 0
theorem nmJx3cf43 : ∀ a, a < 0 → ∀ b, b < 0 → a ≠ b → (TJx3cf43 a).2.1 ≠ (TJx3cf43 b).2.1 := by decide +kernel
theorem tyJx3cf43_ok : ∀ k, k < 0 → parseFieldDescriptor (TJx3cf43 k).2.2.1 = some (tyJx3cf43 k) := by decide +kernel
def RJ7 : String := "java/util/Arrays"
def TJ7 : u_T := fun k => match k with
  | _ => ("", "", "", false)
def tyJ7 : Nat → FieldType := fun k => match k with
  | _ => .int
abbrev wsJ70 : List Cond := u_ws RJ7 TJ7 0
theorem nmJ7 : ∀ a, a < 0 → ∀ b, b < 0 → a ≠ b → (TJ7 a).2.1 ≠ (TJ7 b).2.1 := by decide +kernel
theorem tyJ7_ok : ∀ k, k < 0 → parseFieldDescriptor (TJ7 k).2.2.1 = some (tyJ7 k) := by decide +kernel
abbrev cJ7_rangeCheck_23922 : ByteArray := prog_39_method_30_code
def yJ7_rangeCheck_23922 : MethodName := ⟨RJ7, "rangeCheck", "(III)V"⟩
abbrev cJ7_fill_eb02e : ByteArray := prog_39_method_110_code
def yJ7_fill_eb02e : MethodName := ⟨RJ7, "fill", "([BIIB)V"⟩
abbrev cJ7_copyOf_9075b : ByteArray := prog_39_method_121_code
def yJ7_copyOf_9075b : MethodName := ⟨RJ7, "copyOf", "([BI)[B"⟩
abbrev cJ7_checkLength_df160 : ByteArray := prog_39_method_131_code
def yJ7_checkLength_df160 : MethodName := ⟨RJ7, "checkLength", "(II)V"⟩
abbrev cJ7_copyOfRange_39247 : ByteArray := prog_39_method_132_code
def yJ7_copyOfRange_39247 : MethodName := ⟨RJ7, "copyOfRange", "([BII)[B"⟩
abbrev cJ7_copyOfRangeByte_39247 : ByteArray := prog_39_method_133_code
def yJ7_copyOfRangeByte_39247 : MethodName := ⟨RJ7, "copyOfRangeByte", "([BII)[B"⟩
def RJ8 : String := "jdk/internal/util/ArraysSupport"
def TJ8 : u_T := fun k => match k with
  | _ => ("", "", "", false)
def tyJ8 : Nat → FieldType := fun k => match k with
  | _ => .int
abbrev wsJ80 : List Cond := u_ws RJ8 TJ8 0
theorem nmJ8 : ∀ a, a < 0 → ∀ b, b < 0 → a ≠ b → (TJ8 a).2.1 ≠ (TJ8 b).2.1 := by decide +kernel
theorem tyJ8_ok : ∀ k, k < 0 → parseFieldDescriptor (TJ8 k).2.2.1 = some (tyJ8 k) := by decide +kernel
abbrev cJ8_newLength_cabcc : ByteArray := prog_41_method_27_code
def yJ8_newLength_cabcc : MethodName := ⟨RJ8, "newLength", "(III)I"⟩
abbrev cJ8_hugeLength_7cf53 : ByteArray := prog_41_method_28_code
def yJ8_hugeLength_7cf53 : MethodName := ⟨RJ8, "hugeLength", "(II)I"⟩
def RJ3 : String := "jdk/internal/util/Preconditions"
def TJ3 : u_T := fun k => match k with
  | _ => ("", "", "", false)
def tyJ3 : Nat → FieldType := fun k => match k with
  | _ => .int
abbrev wsJ30 : List Cond := u_ws RJ3 TJ3 0
theorem nmJ3 : ∀ a, a < 0 → ∀ b, b < 0 → a ≠ b → (TJ3 a).2.1 ≠ (TJ3 b).2.1 := by decide +kernel
theorem tyJ3_ok : ∀ k, k < 0 → parseFieldDescriptor (TJ3 k).2.2.1 = some (tyJ3 k) := by decide +kernel
abbrev cJ3_checkIndex_8e157 : ByteArray := prog_42_method_11_code
def yJ3_checkIndex_8e157 : MethodName := ⟨RJ3, "checkIndex", "(IILjava/util/function/BiFunction;)I"⟩
abbrev cJ3_checkFromToIndex_8c36e : ByteArray := prog_42_method_12_code
def yJ3_checkFromToIndex_8c36e : MethodName := ⟨RJ3, "checkFromToIndex", "(IIILjava/util/function/BiFunction;)I"⟩
abbrev cJ3_checkFromIndexSize_8c36e : ByteArray := prog_42_method_13_code
def yJ3_checkFromIndexSize_8c36e : MethodName := ⟨RJ3, "checkFromIndexSize", "(IIILjava/util/function/BiFunction;)I"⟩
def RL : String := "CaseManagerLaw"
abbrev cL_cell : ByteArray := method_2_code
def yL_cell : MethodName := ⟨RL, "cell", "([II)I"⟩
abbrev cL_some : ByteArray := method_3_code
def yL_some : MethodName := ⟨RL, "some", "([III)I"⟩
abbrev cL_charge : ByteArray := method_4_code
def yL_charge : MethodName := ⟨RL, "charge", "(LCaseManager;II)I"⟩
abbrev cL_addWitness : ByteArray := method_5_code
def yL_addWitness : MethodName := ⟨RL, "addWitness", "(LCaseManager;I)I"⟩
abbrev cL_testify : ByteArray := method_6_code
def yL_testify : MethodName := ⟨RL, "testify", "(LCaseManager;IIZI)I"⟩
abbrev cL_question : ByteArray := method_7_code
def yL_question : MethodName := ⟨RL, "question", "(LCaseManager;IIZ)I"⟩
abbrev cL_appeal : ByteArray := method_8_code
def yL_appeal : MethodName := ⟨RL, "appeal", "(LCaseManager;I)I"⟩
abbrev cL_close : ByteArray := method_9_code
def yL_close : MethodName := ⟨RL, "close", "(LCaseManager;I)I"⟩
abbrev cL_witnessAt : ByteArray := method_10_code
def yL_witnessAt : MethodName := ⟨RL, "witnessAt", "(LCaseManager;II)I"⟩
abbrev cL_mostCredible : ByteArray := method_11_code
def yL_mostCredible : MethodName := ⟨RL, "mostCredible", "(LCaseManager;I)I"⟩
abbrev cL_heaviestWitness : ByteArray := method_12_code
def yL_heaviestWitness : MethodName := ⟨RL, "heaviestWitness", "(LCaseManager;I)I"⟩
abbrev cL_nextToDecide : ByteArray := method_13_code
def yL_nextToDecide : MethodName := ⟨RL, "nextToDecide", "(LCaseManager;)I"⟩
abbrev cL_firmAnswersToGuilty : ByteArray := method_14_code
def yL_firmAnswersToGuilty : MethodName := ⟨RL, "firmAnswersToGuilty", "(LCaseManager;II)I"⟩
abbrev cL_docketAt : ByteArray := method_15_code
def yL_docketAt : MethodName := ⟨RL, "docketAt", "(LCaseManager;I)I"⟩
abbrev cL_docketPosition : ByteArray := method_16_code
def yL_docketPosition : MethodName := ⟨RL, "docketPosition", "(LCaseManager;I)I"⟩
abbrev cL_decide : ByteArray := method_17_code
def yL_decide : MethodName := ⟨RL, "decide", "(LCaseManager;I)I"⟩
abbrev cL_verdict : ByteArray := method_18_code
def yL_verdict : MethodName := ⟨RL, "verdict", "(LCaseManager;I)I"⟩
abbrev cL_build : ByteArray := method_19_code
def yL_build : MethodName := ⟨RL, "build", "(LCaseManager;[I)V"⟩
abbrev cL_acts : ByteArray := method_20_code
def yL_acts : MethodName := ⟨RL, "acts", "(LCaseManager;[II)V"⟩
abbrev cL_weight : ByteArray := method_21_code
def yL_weight : MethodName := ⟨RL, "weight", "(LCaseManager;IZ)I"⟩
abbrev cL_isLine : ByteArray := method_22_code
def yL_isLine : MethodName := ⟨RL, "isLine", "(LCaseManager;ILjava/lang/String;)Z"⟩
abbrev cL_law : ByteArray := code
def yL_law : MethodName := ⟨RL, "law", "([I)Z"⟩
abbrev vwCl : List vw_C := [(RJ0, TJ0, 4), (RJ4, TJ4, 4), (RJx00060, TJx00060, 6), (RJx7c733, TJx7c733, 6), (RX0, TX0, 17), (RX1, TX1, 2), (RX3, TX3, 1), (RX4, TX4, 3), (RX5, TX5, 8), (RX6, TX6, 1), (RX7, TX7, 3), (RX9, TX9, 12)]
end
section
theorem dX0_init_0 : decode cX0_init 0 = .ok (.aload_n 0, 1) := by decide +kernel
theorem dX0_init_1 : decode cX0_init 1 = .ok (.invokespecial 3, 3) := by decide +kernel
theorem dX0_init_4 : decode cX0_init 4 = .ok (.aload_n 0, 1) := by decide +kernel
theorem dX0_init_5 : decode cX0_init 5 = .ok (.iconst 0, 1) := by decide +kernel
theorem dX0_init_6 : decode cX0_init 6 = .ok (.putfield 9, 3) := by decide +kernel
theorem dX0_init_9 : decode cX0_init 9 = .ok (.aload_n 0, 1) := by decide +kernel
theorem dX0_init_10 : decode cX0_init 10 = .ok (.iconst 0, 1) := by decide +kernel
theorem dX0_init_11 : decode cX0_init 11 = .ok (.putfield 15, 3) := by decide +kernel
theorem dX0_init_14 : decode cX0_init 14 = .ok (.aload_n 0, 1) := by decide +kernel
theorem dX0_init_15 : decode cX0_init 15 = .ok (.iconst 0, 1) := by decide +kernel
theorem dX0_init_16 : decode cX0_init 16 = .ok (.putfield 18, 3) := by decide +kernel
theorem dX0_init_19 : decode cX0_init 19 = .ok (.aload_n 0, 1) := by decide +kernel
theorem dX0_init_20 : decode cX0_init 20 = .ok (.iconst 0, 1) := by decide +kernel
theorem dX0_init_21 : decode cX0_init 21 = .ok (.putfield 21, 3) := by decide +kernel
theorem dX0_init_24 : decode cX0_init 24 = .ok (.aload_n 0, 1) := by decide +kernel
theorem dX0_init_25 : decode cX0_init 25 = .ok (.new 24, 3) := by decide +kernel
theorem dX0_init_28 : decode cX0_init 28 = .ok (.dup, 1) := by decide +kernel
theorem dX0_init_29 : decode cX0_init 29 = .ok (.bipush 16, 2) := by decide +kernel
theorem dX0_init_31 : decode cX0_init 31 = .ok (.invokespecial 26, 3) := by decide +kernel
theorem dX0_init_34 : decode cX0_init 34 = .ok (.putfield 29, 3) := by decide +kernel
theorem dX0_init_37 : decode cX0_init 37 = .ok (.aload_n 0, 1) := by decide +kernel
theorem dX0_init_38 : decode cX0_init 38 = .ok (.new 24, 3) := by decide +kernel
theorem dX0_init_41 : decode cX0_init 41 = .ok (.dup, 1) := by decide +kernel
theorem dX0_init_42 : decode cX0_init 42 = .ok (.bipush 16, 2) := by decide +kernel
theorem dX0_init_44 : decode cX0_init 44 = .ok (.invokespecial 26, 3) := by decide +kernel
theorem dX0_init_47 : decode cX0_init 47 = .ok (.putfield 33, 3) := by decide +kernel
theorem dX0_init_50 : decode cX0_init 50 = .ok (.aload_n 0, 1) := by decide +kernel
theorem dX0_init_51 : decode cX0_init 51 = .ok (.new 24, 3) := by decide +kernel
theorem dX0_init_54 : decode cX0_init 54 = .ok (.dup, 1) := by decide +kernel
theorem dX0_init_55 : decode cX0_init 55 = .ok (.bipush 16, 2) := by decide +kernel
theorem dX0_init_57 : decode cX0_init 57 = .ok (.invokespecial 26, 3) := by decide +kernel
theorem dX0_init_60 : decode cX0_init 60 = .ok (.putfield 36, 3) := by decide +kernel
theorem dX0_init_63 : decode cX0_init 63 = .ok (.aload_n 0, 1) := by decide +kernel
theorem dX0_init_64 : decode cX0_init 64 = .ok (.new 24, 3) := by decide +kernel
theorem dX0_init_67 : decode cX0_init 67 = .ok (.dup, 1) := by decide +kernel
theorem dX0_init_68 : decode cX0_init 68 = .ok (.bipush 16, 2) := by decide +kernel
theorem dX0_init_70 : decode cX0_init 70 = .ok (.invokespecial 26, 3) := by decide +kernel
theorem dX0_init_73 : decode cX0_init 73 = .ok (.putfield 39, 3) := by decide +kernel
theorem dX0_init_76 : decode cX0_init 76 = .ok (.aload_n 0, 1) := by decide +kernel
theorem dX0_init_77 : decode cX0_init 77 = .ok (.new 24, 3) := by decide +kernel
theorem dX0_init_80 : decode cX0_init 80 = .ok (.dup, 1) := by decide +kernel
theorem dX0_init_81 : decode cX0_init 81 = .ok (.bipush 16, 2) := by decide +kernel
theorem dX0_init_83 : decode cX0_init 83 = .ok (.invokespecial 26, 3) := by decide +kernel
theorem dX0_init_86 : decode cX0_init 86 = .ok (.putfield 42, 3) := by decide +kernel
theorem dX0_init_89 : decode cX0_init 89 = .ok (.aload_n 0, 1) := by decide +kernel
theorem dX0_init_90 : decode cX0_init 90 = .ok (.new 24, 3) := by decide +kernel
theorem dX0_init_93 : decode cX0_init 93 = .ok (.dup, 1) := by decide +kernel
theorem dX0_init_94 : decode cX0_init 94 = .ok (.bipush 16, 2) := by decide +kernel
theorem dX0_init_96 : decode cX0_init 96 = .ok (.invokespecial 26, 3) := by decide +kernel
theorem dX0_init_99 : decode cX0_init 99 = .ok (.putfield 45, 3) := by decide +kernel
theorem dX0_init_102 : decode cX0_init 102 = .ok (.aload_n 0, 1) := by decide +kernel
theorem dX0_init_103 : decode cX0_init 103 = .ok (.new 24, 3) := by decide +kernel
theorem dX0_init_106 : decode cX0_init 106 = .ok (.dup, 1) := by decide +kernel
theorem dX0_init_107 : decode cX0_init 107 = .ok (.bipush 96, 2) := by decide +kernel
theorem dX0_init_109 : decode cX0_init 109 = .ok (.invokespecial 26, 3) := by decide +kernel
theorem dX0_init_112 : decode cX0_init 112 = .ok (.putfield 48, 3) := by decide +kernel
theorem dX0_init_115 : decode cX0_init 115 = .ok (.aload_n 0, 1) := by decide +kernel
theorem dX0_init_116 : decode cX0_init 116 = .ok (.new 24, 3) := by decide +kernel
theorem dX0_init_119 : decode cX0_init 119 = .ok (.dup, 1) := by decide +kernel
theorem dX0_init_120 : decode cX0_init 120 = .ok (.sipush 128, 3) := by decide +kernel
theorem dX0_init_123 : decode cX0_init 123 = .ok (.invokespecial 26, 3) := by decide +kernel
theorem dX0_init_126 : decode cX0_init 126 = .ok (.putfield 51, 3) := by decide +kernel
theorem dX0_init_129 : decode cX0_init 129 = .ok (.aload_n 0, 1) := by decide +kernel
theorem dX0_init_130 : decode cX0_init 130 = .ok (.new 24, 3) := by decide +kernel
theorem dX0_init_133 : decode cX0_init 133 = .ok (.dup, 1) := by decide +kernel
theorem dX0_init_134 : decode cX0_init 134 = .ok (.sipush 128, 3) := by decide +kernel
theorem dX0_init_137 : decode cX0_init 137 = .ok (.invokespecial 26, 3) := by decide +kernel
theorem dX0_init_140 : decode cX0_init 140 = .ok (.putfield 54, 3) := by decide +kernel
theorem dX0_init_143 : decode cX0_init 143 = .ok (.aload_n 0, 1) := by decide +kernel
theorem dX0_init_144 : decode cX0_init 144 = .ok (.new 24, 3) := by decide +kernel
theorem dX0_init_147 : decode cX0_init 147 = .ok (.dup, 1) := by decide +kernel
theorem dX0_init_148 : decode cX0_init 148 = .ok (.sipush 128, 3) := by decide +kernel
theorem dX0_init_151 : decode cX0_init 151 = .ok (.invokespecial 26, 3) := by decide +kernel
theorem dX0_init_154 : decode cX0_init 154 = .ok (.putfield 57, 3) := by decide +kernel
theorem dX0_init_157 : decode cX0_init 157 = .ok (.aload_n 0, 1) := by decide +kernel
theorem dX0_init_158 : decode cX0_init 158 = .ok (.new 24, 3) := by decide +kernel
theorem dX0_init_161 : decode cX0_init 161 = .ok (.dup, 1) := by decide +kernel
theorem dX0_init_162 : decode cX0_init 162 = .ok (.bipush 8, 2) := by decide +kernel
theorem dX0_init_164 : decode cX0_init 164 = .ok (.invokespecial 26, 3) := by decide +kernel
theorem dX0_init_167 : decode cX0_init 167 = .ok (.putfield 60, 3) := by decide +kernel
theorem dX0_init_170 : decode cX0_init 170 = .ok (.aload_n 0, 1) := by decide +kernel
theorem dX0_init_171 : decode cX0_init 171 = .ok (.new 24, 3) := by decide +kernel
theorem dX0_init_174 : decode cX0_init 174 = .ok (.dup, 1) := by decide +kernel
theorem dX0_init_175 : decode cX0_init 175 = .ok (.bipush 6, 2) := by decide +kernel
theorem dX0_init_177 : decode cX0_init 177 = .ok (.invokespecial 26, 3) := by decide +kernel
theorem dX0_init_180 : decode cX0_init 180 = .ok (.putfield 63, 3) := by decide +kernel
theorem dX0_init_183 : decode cX0_init 183 = .ok (.aload_n 0, 1) := by decide +kernel
theorem dX0_init_184 : decode cX0_init 184 = .ok (.new 66, 3) := by decide +kernel
theorem dX0_init_187 : decode cX0_init 187 = .ok (.dup, 1) := by decide +kernel
theorem dX0_init_188 : decode cX0_init 188 = .ok (.invokespecial 68, 3) := by decide +kernel
theorem dX0_init_191 : decode cX0_init 191 = .ok (.putfield 69, 3) := by decide +kernel
theorem dX0_init_194 : decode cX0_init 194 = .ok (.return_, 1) := by decide +kernel
theorem dX0_copyFrom_0 : decode cX0_copyFrom 0 = .ok (.aload_n 0, 1) := by decide +kernel
theorem dX0_copyFrom_1 : decode cX0_copyFrom 1 = .ok (.aload_n 1, 1) := by decide +kernel
theorem dX0_copyFrom_2 : decode cX0_copyFrom 2 = .ok (.getfield 9, 3) := by decide +kernel
theorem dX0_copyFrom_5 : decode cX0_copyFrom 5 = .ok (.putfield 9, 3) := by decide +kernel
theorem dX0_copyFrom_8 : decode cX0_copyFrom 8 = .ok (.aload_n 0, 1) := by decide +kernel
theorem dX0_copyFrom_9 : decode cX0_copyFrom 9 = .ok (.aload_n 1, 1) := by decide +kernel
theorem dX0_copyFrom_10 : decode cX0_copyFrom 10 = .ok (.getfield 15, 3) := by decide +kernel
theorem dX0_copyFrom_13 : decode cX0_copyFrom 13 = .ok (.putfield 15, 3) := by decide +kernel
theorem dX0_copyFrom_16 : decode cX0_copyFrom 16 = .ok (.aload_n 0, 1) := by decide +kernel
theorem dX0_copyFrom_17 : decode cX0_copyFrom 17 = .ok (.aload_n 1, 1) := by decide +kernel
theorem dX0_copyFrom_18 : decode cX0_copyFrom 18 = .ok (.getfield 18, 3) := by decide +kernel
theorem dX0_copyFrom_21 : decode cX0_copyFrom 21 = .ok (.putfield 18, 3) := by decide +kernel
theorem dX0_copyFrom_24 : decode cX0_copyFrom 24 = .ok (.aload_n 0, 1) := by decide +kernel
theorem dX0_copyFrom_25 : decode cX0_copyFrom 25 = .ok (.aload_n 1, 1) := by decide +kernel
theorem dX0_copyFrom_26 : decode cX0_copyFrom 26 = .ok (.getfield 21, 3) := by decide +kernel
theorem dX0_copyFrom_29 : decode cX0_copyFrom 29 = .ok (.putfield 21, 3) := by decide +kernel
theorem dX0_copyFrom_32 : decode cX0_copyFrom 32 = .ok (.aload_n 0, 1) := by decide +kernel
theorem dX0_copyFrom_33 : decode cX0_copyFrom 33 = .ok (.getfield 29, 3) := by decide +kernel
theorem dX0_copyFrom_36 : decode cX0_copyFrom 36 = .ok (.aload_n 1, 1) := by decide +kernel
theorem dX0_copyFrom_37 : decode cX0_copyFrom 37 = .ok (.getfield 29, 3) := by decide +kernel
theorem dX0_copyFrom_40 : decode cX0_copyFrom 40 = .ok (.invokevirtual 73, 3) := by decide +kernel
theorem dX0_copyFrom_43 : decode cX0_copyFrom 43 = .ok (.aload_n 0, 1) := by decide +kernel
theorem dX0_copyFrom_44 : decode cX0_copyFrom 44 = .ok (.getfield 33, 3) := by decide +kernel
theorem dX0_copyFrom_47 : decode cX0_copyFrom 47 = .ok (.aload_n 1, 1) := by decide +kernel
theorem dX0_copyFrom_48 : decode cX0_copyFrom 48 = .ok (.getfield 33, 3) := by decide +kernel
theorem dX0_copyFrom_51 : decode cX0_copyFrom 51 = .ok (.invokevirtual 73, 3) := by decide +kernel
theorem dX0_copyFrom_54 : decode cX0_copyFrom 54 = .ok (.aload_n 0, 1) := by decide +kernel
theorem dX0_copyFrom_55 : decode cX0_copyFrom 55 = .ok (.getfield 36, 3) := by decide +kernel
theorem dX0_copyFrom_58 : decode cX0_copyFrom 58 = .ok (.aload_n 1, 1) := by decide +kernel
theorem dX0_copyFrom_59 : decode cX0_copyFrom 59 = .ok (.getfield 36, 3) := by decide +kernel
theorem dX0_copyFrom_62 : decode cX0_copyFrom 62 = .ok (.invokevirtual 73, 3) := by decide +kernel
theorem dX0_copyFrom_65 : decode cX0_copyFrom 65 = .ok (.aload_n 0, 1) := by decide +kernel
theorem dX0_copyFrom_66 : decode cX0_copyFrom 66 = .ok (.getfield 39, 3) := by decide +kernel
theorem dX0_copyFrom_69 : decode cX0_copyFrom 69 = .ok (.aload_n 1, 1) := by decide +kernel
theorem dX0_copyFrom_70 : decode cX0_copyFrom 70 = .ok (.getfield 39, 3) := by decide +kernel
theorem dX0_copyFrom_73 : decode cX0_copyFrom 73 = .ok (.invokevirtual 73, 3) := by decide +kernel
theorem dX0_copyFrom_76 : decode cX0_copyFrom 76 = .ok (.aload_n 0, 1) := by decide +kernel
theorem dX0_copyFrom_77 : decode cX0_copyFrom 77 = .ok (.getfield 42, 3) := by decide +kernel
theorem dX0_copyFrom_80 : decode cX0_copyFrom 80 = .ok (.aload_n 1, 1) := by decide +kernel
theorem dX0_copyFrom_81 : decode cX0_copyFrom 81 = .ok (.getfield 42, 3) := by decide +kernel
theorem dX0_copyFrom_84 : decode cX0_copyFrom 84 = .ok (.invokevirtual 73, 3) := by decide +kernel
theorem dX0_copyFrom_87 : decode cX0_copyFrom 87 = .ok (.aload_n 0, 1) := by decide +kernel
theorem dX0_copyFrom_88 : decode cX0_copyFrom 88 = .ok (.getfield 45, 3) := by decide +kernel
theorem dX0_copyFrom_91 : decode cX0_copyFrom 91 = .ok (.aload_n 1, 1) := by decide +kernel
theorem dX0_copyFrom_92 : decode cX0_copyFrom 92 = .ok (.getfield 45, 3) := by decide +kernel
theorem dX0_copyFrom_95 : decode cX0_copyFrom 95 = .ok (.invokevirtual 73, 3) := by decide +kernel
theorem dX0_copyFrom_98 : decode cX0_copyFrom 98 = .ok (.aload_n 0, 1) := by decide +kernel
theorem dX0_copyFrom_99 : decode cX0_copyFrom 99 = .ok (.getfield 48, 3) := by decide +kernel
theorem dX0_copyFrom_102 : decode cX0_copyFrom 102 = .ok (.aload_n 1, 1) := by decide +kernel
theorem dX0_copyFrom_103 : decode cX0_copyFrom 103 = .ok (.getfield 48, 3) := by decide +kernel
theorem dX0_copyFrom_106 : decode cX0_copyFrom 106 = .ok (.invokevirtual 73, 3) := by decide +kernel
theorem dX0_copyFrom_109 : decode cX0_copyFrom 109 = .ok (.aload_n 0, 1) := by decide +kernel
theorem dX0_copyFrom_110 : decode cX0_copyFrom 110 = .ok (.getfield 51, 3) := by decide +kernel
theorem dX0_copyFrom_113 : decode cX0_copyFrom 113 = .ok (.aload_n 1, 1) := by decide +kernel
theorem dX0_copyFrom_114 : decode cX0_copyFrom 114 = .ok (.getfield 51, 3) := by decide +kernel
theorem dX0_copyFrom_117 : decode cX0_copyFrom 117 = .ok (.invokevirtual 73, 3) := by decide +kernel
theorem dX0_copyFrom_120 : decode cX0_copyFrom 120 = .ok (.aload_n 0, 1) := by decide +kernel
theorem dX0_copyFrom_121 : decode cX0_copyFrom 121 = .ok (.getfield 54, 3) := by decide +kernel
theorem dX0_copyFrom_124 : decode cX0_copyFrom 124 = .ok (.aload_n 1, 1) := by decide +kernel
theorem dX0_copyFrom_125 : decode cX0_copyFrom 125 = .ok (.getfield 54, 3) := by decide +kernel
theorem dX0_copyFrom_128 : decode cX0_copyFrom 128 = .ok (.invokevirtual 73, 3) := by decide +kernel
theorem dX0_copyFrom_131 : decode cX0_copyFrom 131 = .ok (.aload_n 0, 1) := by decide +kernel
theorem dX0_copyFrom_132 : decode cX0_copyFrom 132 = .ok (.getfield 57, 3) := by decide +kernel
theorem dX0_copyFrom_135 : decode cX0_copyFrom 135 = .ok (.aload_n 1, 1) := by decide +kernel
theorem dX0_copyFrom_136 : decode cX0_copyFrom 136 = .ok (.getfield 57, 3) := by decide +kernel
theorem dX0_copyFrom_139 : decode cX0_copyFrom 139 = .ok (.invokevirtual 73, 3) := by decide +kernel
theorem dX0_copyFrom_142 : decode cX0_copyFrom 142 = .ok (.aload_n 0, 1) := by decide +kernel
theorem dX0_copyFrom_143 : decode cX0_copyFrom 143 = .ok (.getfield 60, 3) := by decide +kernel
theorem dX0_copyFrom_146 : decode cX0_copyFrom 146 = .ok (.aload_n 1, 1) := by decide +kernel
theorem dX0_copyFrom_147 : decode cX0_copyFrom 147 = .ok (.getfield 60, 3) := by decide +kernel
theorem dX0_copyFrom_150 : decode cX0_copyFrom 150 = .ok (.invokevirtual 73, 3) := by decide +kernel
theorem dX0_copyFrom_153 : decode cX0_copyFrom 153 = .ok (.aload_n 0, 1) := by decide +kernel
theorem dX0_copyFrom_154 : decode cX0_copyFrom 154 = .ok (.getfield 63, 3) := by decide +kernel
theorem dX0_copyFrom_157 : decode cX0_copyFrom 157 = .ok (.aload_n 1, 1) := by decide +kernel
theorem dX0_copyFrom_158 : decode cX0_copyFrom 158 = .ok (.getfield 63, 3) := by decide +kernel
theorem dX0_copyFrom_161 : decode cX0_copyFrom 161 = .ok (.invokevirtual 73, 3) := by decide +kernel
theorem dX0_copyFrom_164 : decode cX0_copyFrom 164 = .ok (.aload_n 0, 1) := by decide +kernel
theorem dX0_copyFrom_165 : decode cX0_copyFrom 165 = .ok (.getfield 69, 3) := by decide +kernel
theorem dX0_copyFrom_168 : decode cX0_copyFrom 168 = .ok (.getfield 77, 3) := by decide +kernel
theorem dX0_copyFrom_171 : decode cX0_copyFrom 171 = .ok (.aload_n 1, 1) := by decide +kernel
theorem dX0_copyFrom_172 : decode cX0_copyFrom 172 = .ok (.getfield 69, 3) := by decide +kernel
theorem dX0_copyFrom_175 : decode cX0_copyFrom 175 = .ok (.getfield 77, 3) := by decide +kernel
theorem dX0_copyFrom_178 : decode cX0_copyFrom 178 = .ok (.invokevirtual 73, 3) := by decide +kernel
theorem dX0_copyFrom_181 : decode cX0_copyFrom 181 = .ok (.return_, 1) := by decide +kernel
theorem dX0_faultOf_0 : decode cX0_faultOf 0 = .ok (.iload_n 1, 1) := by decide +kernel
theorem dX0_faultOf_1 : decode cX0_faultOf 1 = .ok (.tableswitch 70 0 4 #[35, 42, 48, 57, 64], 35) := by decide +kernel
theorem dX0_faultOf_36 : decode cX0_faultOf 36 = .ok (.aload_n 0, 1) := by decide +kernel
theorem dX0_faultOf_37 : decode cX0_faultOf 37 = .ok (.iload_n 2, 1) := by decide +kernel
theorem dX0_faultOf_38 : decode cX0_faultOf 38 = .ok (.iload_n 3, 1) := by decide +kernel
theorem dX0_faultOf_39 : decode cX0_faultOf 39 = .ok (.invokevirtual 80, 3) := by decide +kernel
theorem dX0_faultOf_42 : decode cX0_faultOf 42 = .ok (.areturn, 1) := by decide +kernel
theorem dX0_faultOf_43 : decode cX0_faultOf 43 = .ok (.aload_n 0, 1) := by decide +kernel
theorem dX0_faultOf_44 : decode cX0_faultOf 44 = .ok (.iload_n 2, 1) := by decide +kernel
theorem dX0_faultOf_45 : decode cX0_faultOf 45 = .ok (.invokevirtual 84, 3) := by decide +kernel
theorem dX0_faultOf_48 : decode cX0_faultOf 48 = .ok (.areturn, 1) := by decide +kernel
theorem dX0_faultOf_49 : decode cX0_faultOf 49 = .ok (.aload_n 0, 1) := by decide +kernel
theorem dX0_faultOf_50 : decode cX0_faultOf 50 = .ok (.iload_n 2, 1) := by decide +kernel
theorem dX0_faultOf_51 : decode cX0_faultOf 51 = .ok (.iload_n 3, 1) := by decide +kernel
theorem dX0_faultOf_52 : decode cX0_faultOf 52 = .ok (.iload 4, 2) := by decide +kernel
theorem dX0_faultOf_54 : decode cX0_faultOf 54 = .ok (.invokevirtual 88, 3) := by decide +kernel
theorem dX0_faultOf_57 : decode cX0_faultOf 57 = .ok (.areturn, 1) := by decide +kernel
theorem dX0_faultOf_58 : decode cX0_faultOf 58 = .ok (.aload_n 0, 1) := by decide +kernel
theorem dX0_faultOf_59 : decode cX0_faultOf 59 = .ok (.iload_n 2, 1) := by decide +kernel
theorem dX0_faultOf_60 : decode cX0_faultOf 60 = .ok (.iload_n 3, 1) := by decide +kernel
theorem dX0_faultOf_61 : decode cX0_faultOf 61 = .ok (.invokevirtual 92, 3) := by decide +kernel
theorem dX0_faultOf_64 : decode cX0_faultOf 64 = .ok (.areturn, 1) := by decide +kernel
theorem dX0_faultOf_65 : decode cX0_faultOf 65 = .ok (.aload_n 0, 1) := by decide +kernel
theorem dX0_faultOf_66 : decode cX0_faultOf 66 = .ok (.iload_n 2, 1) := by decide +kernel
theorem dX0_faultOf_67 : decode cX0_faultOf 67 = .ok (.invokevirtual 95, 3) := by decide +kernel
theorem dX0_faultOf_70 : decode cX0_faultOf 70 = .ok (.areturn, 1) := by decide +kernel
theorem dX0_faultOf_71 : decode cX0_faultOf 71 = .ok (.aload_n 0, 1) := by decide +kernel
theorem dX0_faultOf_72 : decode cX0_faultOf 72 = .ok (.iload_n 2, 1) := by decide +kernel
theorem dX0_faultOf_73 : decode cX0_faultOf 73 = .ok (.invokevirtual 98, 3) := by decide +kernel
theorem dX0_faultOf_76 : decode cX0_faultOf 76 = .ok (.areturn, 1) := by decide +kernel
theorem dX0_perform_0 : decode cX0_perform 0 = .ok (.iload_n 1, 1) := by decide +kernel
theorem dX0_perform_1 : decode cX0_perform 1 = .ok (.tableswitch 84 0 5 #[39, 46, 52, 63, 72, 78], 39) := by decide +kernel
theorem dX0_perform_40 : decode cX0_perform 40 = .ok (.aload_n 0, 1) := by decide +kernel
theorem dX0_perform_41 : decode cX0_perform 41 = .ok (.iload_n 2, 1) := by decide +kernel
theorem dX0_perform_42 : decode cX0_perform 42 = .ok (.iload_n 3, 1) := by decide +kernel
theorem dX0_perform_43 : decode cX0_perform 43 = .ok (.invokevirtual 101, 3) := by decide +kernel
theorem dX0_perform_46 : decode cX0_perform 46 = .ok (.ireturn, 1) := by decide +kernel
theorem dX0_perform_47 : decode cX0_perform 47 = .ok (.aload_n 0, 1) := by decide +kernel
theorem dX0_perform_48 : decode cX0_perform 48 = .ok (.iload_n 2, 1) := by decide +kernel
theorem dX0_perform_49 : decode cX0_perform 49 = .ok (.invokevirtual 105, 3) := by decide +kernel
theorem dX0_perform_52 : decode cX0_perform 52 = .ok (.ireturn, 1) := by decide +kernel
theorem dX0_perform_53 : decode cX0_perform 53 = .ok (.aload_n 0, 1) := by decide +kernel
theorem dX0_perform_54 : decode cX0_perform 54 = .ok (.iload_n 2, 1) := by decide +kernel
theorem dX0_perform_55 : decode cX0_perform 55 = .ok (.iload_n 3, 1) := by decide +kernel
theorem dX0_perform_56 : decode cX0_perform 56 = .ok (.iload 4, 2) := by decide +kernel
theorem dX0_perform_58 : decode cX0_perform 58 = .ok (.iload 5, 2) := by decide +kernel
theorem dX0_perform_60 : decode cX0_perform 60 = .ok (.invokevirtual 109, 3) := by decide +kernel
theorem dX0_perform_63 : decode cX0_perform 63 = .ok (.ireturn, 1) := by decide +kernel
theorem dX0_perform_64 : decode cX0_perform 64 = .ok (.aload_n 0, 1) := by decide +kernel
theorem dX0_perform_65 : decode cX0_perform 65 = .ok (.iload_n 2, 1) := by decide +kernel
theorem dX0_perform_66 : decode cX0_perform 66 = .ok (.iload_n 3, 1) := by decide +kernel
theorem dX0_perform_67 : decode cX0_perform 67 = .ok (.iload 4, 2) := by decide +kernel
theorem dX0_perform_69 : decode cX0_perform 69 = .ok (.invokevirtual 113, 3) := by decide +kernel
theorem dX0_perform_72 : decode cX0_perform 72 = .ok (.ireturn, 1) := by decide +kernel
theorem dX0_perform_73 : decode cX0_perform 73 = .ok (.aload_n 0, 1) := by decide +kernel
theorem dX0_perform_74 : decode cX0_perform 74 = .ok (.iload_n 2, 1) := by decide +kernel
theorem dX0_perform_75 : decode cX0_perform 75 = .ok (.invokevirtual 117, 3) := by decide +kernel
theorem dX0_perform_78 : decode cX0_perform 78 = .ok (.ireturn, 1) := by decide +kernel
theorem dX0_perform_79 : decode cX0_perform 79 = .ok (.aload_n 0, 1) := by decide +kernel
theorem dX0_perform_80 : decode cX0_perform 80 = .ok (.iload_n 2, 1) := by decide +kernel
theorem dX0_perform_81 : decode cX0_perform 81 = .ok (.invokevirtual 120, 3) := by decide +kernel
theorem dX0_perform_84 : decode cX0_perform 84 = .ok (.ireturn, 1) := by decide +kernel
theorem dX0_perform_85 : decode cX0_perform 85 = .ok (.aload_n 0, 1) := by decide +kernel
theorem dX0_perform_86 : decode cX0_perform 86 = .ok (.iload_n 2, 1) := by decide +kernel
theorem dX0_perform_87 : decode cX0_perform 87 = .ok (.invokevirtual 123, 3) := by decide +kernel
theorem dX0_perform_90 : decode cX0_perform 90 = .ok (.ireturn, 1) := by decide +kernel
theorem dX0_faultOfCharge_0 : decode cX0_faultOfCharge 0 = .ok (.iload_n 1, 1) := by decide +kernel
theorem dX0_faultOfCharge_1 : decode cX0_faultOfCharge 1 = .ok (.invokestatic 126, 3) := by decide +kernel
theorem dX0_faultOfCharge_4 : decode cX0_faultOfCharge 4 = .ok (.ifCond .eq 10, 3) := by decide +kernel
theorem dX0_faultOfCharge_7 : decode cX0_faultOfCharge 7 = .ok (.iload_n 2, 1) := by decide +kernel
theorem dX0_faultOfCharge_8 : decode cX0_faultOfCharge 8 = .ok (.invokestatic 130, 3) := by decide +kernel
theorem dX0_faultOfCharge_11 : decode cX0_faultOfCharge 11 = .ok (.ifCond .ne 7, 3) := by decide +kernel
theorem dX0_faultOfCharge_14 : decode cX0_faultOfCharge 14 = .ok (.getstatic 133, 3) := by decide +kernel
theorem dX0_faultOfCharge_17 : decode cX0_faultOfCharge 17 = .ok (.areturn, 1) := by decide +kernel
theorem dX0_faultOfCharge_18 : decode cX0_faultOfCharge 18 = .ok (.aload_n 0, 1) := by decide +kernel
theorem dX0_faultOfCharge_19 : decode cX0_faultOfCharge 19 = .ok (.iload_n 1, 1) := by decide +kernel
theorem dX0_faultOfCharge_20 : decode cX0_faultOfCharge 20 = .ok (.iload_n 2, 1) := by decide +kernel
theorem dX0_faultOfCharge_21 : decode cX0_faultOfCharge 21 = .ok (.invokevirtual 139, 3) := by decide +kernel
theorem dX0_faultOfCharge_24 : decode cX0_faultOfCharge 24 = .ok (.iconst (-1), 1) := by decide +kernel
theorem dX0_faultOfCharge_25 : decode cX0_faultOfCharge 25 = .ok (.if_icmp .eq 7, 3) := by decide +kernel
theorem dX0_faultOfCharge_28 : decode cX0_faultOfCharge 28 = .ok (.iconst 1, 1) := by decide +kernel
theorem dX0_faultOfCharge_29 : decode cX0_faultOfCharge 29 = .ok (.goto 4, 3) := by decide +kernel
theorem dX0_faultOfCharge_32 : decode cX0_faultOfCharge 32 = .ok (.iconst 0, 1) := by decide +kernel
theorem dX0_faultOfCharge_33 : decode cX0_faultOfCharge 33 = .ok (.istore_n 3, 1) := by decide +kernel
theorem dX0_faultOfCharge_34 : decode cX0_faultOfCharge 34 = .ok (.iload_n 3, 1) := by decide +kernel
theorem dX0_faultOfCharge_35 : decode cX0_faultOfCharge 35 = .ok (.ifCond .ne 12, 3) := by decide +kernel
theorem dX0_faultOfCharge_38 : decode cX0_faultOfCharge 38 = .ok (.aload_n 0, 1) := by decide +kernel
theorem dX0_faultOfCharge_39 : decode cX0_faultOfCharge 39 = .ok (.getfield 9, 3) := by decide +kernel
theorem dX0_faultOfCharge_42 : decode cX0_faultOfCharge 42 = .ok (.bipush 16, 2) := by decide +kernel
theorem dX0_faultOfCharge_44 : decode cX0_faultOfCharge 44 = .ok (.if_icmp .lt 9, 3) := by decide +kernel
theorem dX0_faultOfCharge_47 : decode cX0_faultOfCharge 47 = .ok (.getstatic 142, 3) := by decide +kernel
theorem dX0_faultOfCharge_50 : decode cX0_faultOfCharge 50 = .ok (.goto 6, 3) := by decide +kernel
theorem dX0_faultOfCharge_53 : decode cX0_faultOfCharge 53 = .ok (.getstatic 145, 3) := by decide +kernel
theorem dX0_faultOfCharge_56 : decode cX0_faultOfCharge 56 = .ok (.areturn, 1) := by decide +kernel
theorem dX0_faultOfWitness_0 : decode cX0_faultOfWitness 0 = .ok (.iload_n 1, 1) := by decide +kernel
theorem dX0_faultOfWitness_1 : decode cX0_faultOfWitness 1 = .ok (.ifCond .lt 9, 3) := by decide +kernel
theorem dX0_faultOfWitness_4 : decode cX0_faultOfWitness 4 = .ok (.iload_n 1, 1) := by decide +kernel
theorem dX0_faultOfWitness_5 : decode cX0_faultOfWitness 5 = .ok (.bipush 9, 2) := by decide +kernel
theorem dX0_faultOfWitness_7 : decode cX0_faultOfWitness 7 = .ok (.if_icmp .le 7, 3) := by decide +kernel
theorem dX0_faultOfWitness_10 : decode cX0_faultOfWitness 10 = .ok (.getstatic 133, 3) := by decide +kernel
theorem dX0_faultOfWitness_13 : decode cX0_faultOfWitness 13 = .ok (.areturn, 1) := by decide +kernel
theorem dX0_faultOfWitness_14 : decode cX0_faultOfWitness 14 = .ok (.aload_n 0, 1) := by decide +kernel
theorem dX0_faultOfWitness_15 : decode cX0_faultOfWitness 15 = .ok (.getfield 15, 3) := by decide +kernel
theorem dX0_faultOfWitness_18 : decode cX0_faultOfWitness 18 = .ok (.bipush 8, 2) := by decide +kernel
theorem dX0_faultOfWitness_20 : decode cX0_faultOfWitness 20 = .ok (.if_icmp .lt 9, 3) := by decide +kernel
theorem dX0_faultOfWitness_23 : decode cX0_faultOfWitness 23 = .ok (.getstatic 142, 3) := by decide +kernel
theorem dX0_faultOfWitness_26 : decode cX0_faultOfWitness 26 = .ok (.goto 6, 3) := by decide +kernel
theorem dX0_faultOfWitness_29 : decode cX0_faultOfWitness 29 = .ok (.getstatic 145, 3) := by decide +kernel
theorem dX0_faultOfWitness_32 : decode cX0_faultOfWitness 32 = .ok (.areturn, 1) := by decide +kernel
theorem dX0_faultOfTestimony_0 : decode cX0_faultOfTestimony 0 = .ok (.aload_n 0, 1) := by decide +kernel
theorem dX0_faultOfTestimony_1 : decode cX0_faultOfTestimony 1 = .ok (.iload_n 1, 1) := by decide +kernel
theorem dX0_faultOfTestimony_2 : decode cX0_faultOfTestimony 2 = .ok (.invokevirtual 148, 3) := by decide +kernel
theorem dX0_faultOfTestimony_5 : decode cX0_faultOfTestimony 5 = .ok (.ifCond .eq 11, 3) := by decide +kernel
theorem dX0_faultOfTestimony_8 : decode cX0_faultOfTestimony 8 = .ok (.aload_n 0, 1) := by decide +kernel
theorem dX0_faultOfTestimony_9 : decode cX0_faultOfTestimony 9 = .ok (.iload_n 2, 1) := by decide +kernel
theorem dX0_faultOfTestimony_10 : decode cX0_faultOfTestimony 10 = .ok (.invokevirtual 151, 3) := by decide +kernel
theorem dX0_faultOfTestimony_13 : decode cX0_faultOfTestimony 13 = .ok (.ifCond .ne 7, 3) := by decide +kernel
theorem dX0_faultOfTestimony_16 : decode cX0_faultOfTestimony 16 = .ok (.getstatic 154, 3) := by decide +kernel
theorem dX0_faultOfTestimony_19 : decode cX0_faultOfTestimony 19 = .ok (.areturn, 1) := by decide +kernel
theorem dX0_faultOfTestimony_20 : decode cX0_faultOfTestimony 20 = .ok (.iload_n 3, 1) := by decide +kernel
theorem dX0_faultOfTestimony_21 : decode cX0_faultOfTestimony 21 = .ok (.iconst 1, 1) := by decide +kernel
theorem dX0_faultOfTestimony_22 : decode cX0_faultOfTestimony 22 = .ok (.if_icmp .lt 8, 3) := by decide +kernel
theorem dX0_faultOfTestimony_25 : decode cX0_faultOfTestimony 25 = .ok (.iload_n 3, 1) := by decide +kernel
theorem dX0_faultOfTestimony_26 : decode cX0_faultOfTestimony 26 = .ok (.iconst 5, 1) := by decide +kernel
theorem dX0_faultOfTestimony_27 : decode cX0_faultOfTestimony 27 = .ok (.if_icmp .le 7, 3) := by decide +kernel
theorem dX0_faultOfTestimony_30 : decode cX0_faultOfTestimony 30 = .ok (.getstatic 133, 3) := by decide +kernel
theorem dX0_faultOfTestimony_33 : decode cX0_faultOfTestimony 33 = .ok (.areturn, 1) := by decide +kernel
theorem dX0_faultOfTestimony_34 : decode cX0_faultOfTestimony 34 = .ok (.aload_n 0, 1) := by decide +kernel
theorem dX0_faultOfTestimony_35 : decode cX0_faultOfTestimony 35 = .ok (.getfield 45, 3) := by decide +kernel
theorem dX0_faultOfTestimony_38 : decode cX0_faultOfTestimony 38 = .ok (.iload_n 1, 1) := by decide +kernel
theorem dX0_faultOfTestimony_39 : decode cX0_faultOfTestimony 39 = .ok (.invokevirtual 157, 3) := by decide +kernel
theorem dX0_faultOfTestimony_42 : decode cX0_faultOfTestimony 42 = .ok (.bipush 6, 2) := by decide +kernel
theorem dX0_faultOfTestimony_44 : decode cX0_faultOfTestimony 44 = .ok (.if_icmp .lt 7, 3) := by decide +kernel
theorem dX0_faultOfTestimony_47 : decode cX0_faultOfTestimony 47 = .ok (.iconst 1, 1) := by decide +kernel
theorem dX0_faultOfTestimony_48 : decode cX0_faultOfTestimony 48 = .ok (.goto 4, 3) := by decide +kernel
theorem dX0_faultOfTestimony_51 : decode cX0_faultOfTestimony 51 = .ok (.iconst 0, 1) := by decide +kernel
theorem dX0_faultOfTestimony_52 : decode cX0_faultOfTestimony 52 = .ok (.istore 4, 2) := by decide +kernel
theorem dX0_faultOfTestimony_54 : decode cX0_faultOfTestimony 54 = .ok (.aload_n 0, 1) := by decide +kernel
theorem dX0_faultOfTestimony_55 : decode cX0_faultOfTestimony 55 = .ok (.iconst 0, 1) := by decide +kernel
theorem dX0_faultOfTestimony_56 : decode cX0_faultOfTestimony 56 = .ok (.iload_n 1, 1) := by decide +kernel
theorem dX0_faultOfTestimony_57 : decode cX0_faultOfTestimony 57 = .ok (.invokevirtual 160, 3) := by decide +kernel
theorem dX0_faultOfTestimony_60 : decode cX0_faultOfTestimony 60 = .ok (.ifCond .eq 17, 3) := by decide +kernel
theorem dX0_faultOfTestimony_63 : decode cX0_faultOfTestimony 63 = .ok (.aload_n 0, 1) := by decide +kernel
theorem dX0_faultOfTestimony_64 : decode cX0_faultOfTestimony 64 = .ok (.iload_n 1, 1) := by decide +kernel
theorem dX0_faultOfTestimony_65 : decode cX0_faultOfTestimony 65 = .ok (.iload_n 2, 1) := by decide +kernel
theorem dX0_faultOfTestimony_66 : decode cX0_faultOfTestimony 66 = .ok (.invokevirtual 164, 3) := by decide +kernel
theorem dX0_faultOfTestimony_69 : decode cX0_faultOfTestimony 69 = .ok (.ifCond .ne 8, 3) := by decide +kernel
theorem dX0_faultOfTestimony_72 : decode cX0_faultOfTestimony 72 = .ok (.iload 4, 2) := by decide +kernel
theorem dX0_faultOfTestimony_74 : decode cX0_faultOfTestimony 74 = .ok (.ifCond .eq 7, 3) := by decide +kernel
theorem dX0_faultOfTestimony_77 : decode cX0_faultOfTestimony 77 = .ok (.iconst 1, 1) := by decide +kernel
theorem dX0_faultOfTestimony_78 : decode cX0_faultOfTestimony 78 = .ok (.goto 4, 3) := by decide +kernel
theorem dX0_faultOfTestimony_81 : decode cX0_faultOfTestimony 81 = .ok (.iconst 0, 1) := by decide +kernel
theorem dX0_faultOfTestimony_82 : decode cX0_faultOfTestimony 82 = .ok (.istore 5, 2) := by decide +kernel
theorem dX0_faultOfTestimony_84 : decode cX0_faultOfTestimony 84 = .ok (.iload 5, 2) := by decide +kernel
theorem dX0_faultOfTestimony_86 : decode cX0_faultOfTestimony 86 = .ok (.ifCond .eq 9, 3) := by decide +kernel
theorem dX0_faultOfTestimony_89 : decode cX0_faultOfTestimony 89 = .ok (.getstatic 142, 3) := by decide +kernel
theorem dX0_faultOfTestimony_92 : decode cX0_faultOfTestimony 92 = .ok (.goto 6, 3) := by decide +kernel
theorem dX0_faultOfTestimony_95 : decode cX0_faultOfTestimony 95 = .ok (.getstatic 145, 3) := by decide +kernel
theorem dX0_faultOfTestimony_98 : decode cX0_faultOfTestimony 98 = .ok (.areturn, 1) := by decide +kernel
theorem dX0_faultOfQuestion_0 : decode cX0_faultOfQuestion 0 = .ok (.aload_n 0, 1) := by decide +kernel
theorem dX0_faultOfQuestion_1 : decode cX0_faultOfQuestion 1 = .ok (.iload_n 1, 1) := by decide +kernel
theorem dX0_faultOfQuestion_2 : decode cX0_faultOfQuestion 2 = .ok (.invokevirtual 148, 3) := by decide +kernel
theorem dX0_faultOfQuestion_5 : decode cX0_faultOfQuestion 5 = .ok (.ifCond .eq 11, 3) := by decide +kernel
theorem dX0_faultOfQuestion_8 : decode cX0_faultOfQuestion 8 = .ok (.aload_n 0, 1) := by decide +kernel
theorem dX0_faultOfQuestion_9 : decode cX0_faultOfQuestion 9 = .ok (.iload_n 2, 1) := by decide +kernel
theorem dX0_faultOfQuestion_10 : decode cX0_faultOfQuestion 10 = .ok (.invokevirtual 151, 3) := by decide +kernel
theorem dX0_faultOfQuestion_13 : decode cX0_faultOfQuestion 13 = .ok (.ifCond .ne 7, 3) := by decide +kernel
theorem dX0_faultOfQuestion_16 : decode cX0_faultOfQuestion 16 = .ok (.getstatic 154, 3) := by decide +kernel
theorem dX0_faultOfQuestion_19 : decode cX0_faultOfQuestion 19 = .ok (.areturn, 1) := by decide +kernel
theorem dX0_faultOfQuestion_20 : decode cX0_faultOfQuestion 20 = .ok (.aload_n 0, 1) := by decide +kernel
theorem dX0_faultOfQuestion_21 : decode cX0_faultOfQuestion 21 = .ok (.iload_n 1, 1) := by decide +kernel
theorem dX0_faultOfQuestion_22 : decode cX0_faultOfQuestion 22 = .ok (.iload_n 2, 1) := by decide +kernel
theorem dX0_faultOfQuestion_23 : decode cX0_faultOfQuestion 23 = .ok (.invokevirtual 164, 3) := by decide +kernel
theorem dX0_faultOfQuestion_26 : decode cX0_faultOfQuestion 26 = .ok (.ifCond .ne 7, 3) := by decide +kernel
theorem dX0_faultOfQuestion_29 : decode cX0_faultOfQuestion 29 = .ok (.getstatic 167, 3) := by decide +kernel
theorem dX0_faultOfQuestion_32 : decode cX0_faultOfQuestion 32 = .ok (.areturn, 1) := by decide +kernel
theorem dX0_faultOfQuestion_33 : decode cX0_faultOfQuestion 33 = .ok (.aload_n 0, 1) := by decide +kernel
theorem dX0_faultOfQuestion_34 : decode cX0_faultOfQuestion 34 = .ok (.iload_n 1, 1) := by decide +kernel
theorem dX0_faultOfQuestion_35 : decode cX0_faultOfQuestion 35 = .ok (.iload_n 2, 1) := by decide +kernel
theorem dX0_faultOfQuestion_36 : decode cX0_faultOfQuestion 36 = .ok (.invokevirtual 170, 3) := by decide +kernel
theorem dX0_faultOfQuestion_39 : decode cX0_faultOfQuestion 39 = .ok (.iconst 2, 1) := by decide +kernel
theorem dX0_faultOfQuestion_40 : decode cX0_faultOfQuestion 40 = .ok (.if_icmp .lt 7, 3) := by decide +kernel
theorem dX0_faultOfQuestion_43 : decode cX0_faultOfQuestion 43 = .ok (.iconst 1, 1) := by decide +kernel
theorem dX0_faultOfQuestion_44 : decode cX0_faultOfQuestion 44 = .ok (.goto 4, 3) := by decide +kernel
theorem dX0_faultOfQuestion_47 : decode cX0_faultOfQuestion 47 = .ok (.iconst 0, 1) := by decide +kernel
theorem dX0_faultOfQuestion_48 : decode cX0_faultOfQuestion 48 = .ok (.istore_n 3, 1) := by decide +kernel
theorem dX0_faultOfQuestion_49 : decode cX0_faultOfQuestion 49 = .ok (.aload_n 0, 1) := by decide +kernel
theorem dX0_faultOfQuestion_50 : decode cX0_faultOfQuestion 50 = .ok (.iconst 0, 1) := by decide +kernel
theorem dX0_faultOfQuestion_51 : decode cX0_faultOfQuestion 51 = .ok (.iload_n 1, 1) := by decide +kernel
theorem dX0_faultOfQuestion_52 : decode cX0_faultOfQuestion 52 = .ok (.invokevirtual 160, 3) := by decide +kernel
theorem dX0_faultOfQuestion_55 : decode cX0_faultOfQuestion 55 = .ok (.ifCond .eq 7, 3) := by decide +kernel
theorem dX0_faultOfQuestion_58 : decode cX0_faultOfQuestion 58 = .ok (.iload_n 3, 1) := by decide +kernel
theorem dX0_faultOfQuestion_59 : decode cX0_faultOfQuestion 59 = .ok (.ifCond .eq 9, 3) := by decide +kernel
theorem dX0_faultOfQuestion_62 : decode cX0_faultOfQuestion 62 = .ok (.getstatic 142, 3) := by decide +kernel
theorem dX0_faultOfQuestion_65 : decode cX0_faultOfQuestion 65 = .ok (.goto 6, 3) := by decide +kernel
theorem dX0_faultOfQuestion_68 : decode cX0_faultOfQuestion 68 = .ok (.getstatic 145, 3) := by decide +kernel
theorem dX0_faultOfQuestion_71 : decode cX0_faultOfQuestion 71 = .ok (.areturn, 1) := by decide +kernel
theorem dX0_faultOfDecision_0 : decode cX0_faultOfDecision 0 = .ok (.aload_n 0, 1) := by decide +kernel
theorem dX0_faultOfDecision_1 : decode cX0_faultOfDecision 1 = .ok (.iload_n 1, 1) := by decide +kernel
theorem dX0_faultOfDecision_2 : decode cX0_faultOfDecision 2 = .ok (.invokevirtual 148, 3) := by decide +kernel
theorem dX0_faultOfDecision_5 : decode cX0_faultOfDecision 5 = .ok (.ifCond .ne 7, 3) := by decide +kernel
theorem dX0_faultOfDecision_8 : decode cX0_faultOfDecision 8 = .ok (.getstatic 154, 3) := by decide +kernel
theorem dX0_faultOfDecision_11 : decode cX0_faultOfDecision 11 = .ok (.areturn, 1) := by decide +kernel
theorem dX0_faultOfDecision_12 : decode cX0_faultOfDecision 12 = .ok (.aload_n 0, 1) := by decide +kernel
theorem dX0_faultOfDecision_13 : decode cX0_faultOfDecision 13 = .ok (.iconst 0, 1) := by decide +kernel
theorem dX0_faultOfDecision_14 : decode cX0_faultOfDecision 14 = .ok (.iload_n 1, 1) := by decide +kernel
theorem dX0_faultOfDecision_15 : decode cX0_faultOfDecision 15 = .ok (.invokevirtual 160, 3) := by decide +kernel
theorem dX0_faultOfDecision_18 : decode cX0_faultOfDecision 18 = .ok (.ifCond .eq 18, 3) := by decide +kernel
theorem dX0_faultOfDecision_21 : decode cX0_faultOfDecision 21 = .ok (.aload_n 0, 1) := by decide +kernel
theorem dX0_faultOfDecision_22 : decode cX0_faultOfDecision 22 = .ok (.getfield 45, 3) := by decide +kernel
theorem dX0_faultOfDecision_25 : decode cX0_faultOfDecision 25 = .ok (.iload_n 1, 1) := by decide +kernel
theorem dX0_faultOfDecision_26 : decode cX0_faultOfDecision 26 = .ok (.invokevirtual 157, 3) := by decide +kernel
theorem dX0_faultOfDecision_29 : decode cX0_faultOfDecision 29 = .ok (.ifCond .le 7, 3) := by decide +kernel
theorem dX0_faultOfDecision_32 : decode cX0_faultOfDecision 32 = .ok (.iconst 1, 1) := by decide +kernel
theorem dX0_faultOfDecision_33 : decode cX0_faultOfDecision 33 = .ok (.goto 4, 3) := by decide +kernel
theorem dX0_faultOfDecision_36 : decode cX0_faultOfDecision 36 = .ok (.iconst 0, 1) := by decide +kernel
theorem dX0_faultOfDecision_37 : decode cX0_faultOfDecision 37 = .ok (.istore_n 2, 1) := by decide +kernel
theorem dX0_faultOfDecision_38 : decode cX0_faultOfDecision 38 = .ok (.iload_n 2, 1) := by decide +kernel
theorem dX0_faultOfDecision_39 : decode cX0_faultOfDecision 39 = .ok (.ifCond .eq 9, 3) := by decide +kernel
theorem dX0_faultOfDecision_42 : decode cX0_faultOfDecision 42 = .ok (.getstatic 145, 3) := by decide +kernel
theorem dX0_faultOfDecision_45 : decode cX0_faultOfDecision 45 = .ok (.goto 6, 3) := by decide +kernel
theorem dX0_faultOfDecision_48 : decode cX0_faultOfDecision 48 = .ok (.getstatic 142, 3) := by decide +kernel
theorem dX0_faultOfDecision_51 : decode cX0_faultOfDecision 51 = .ok (.areturn, 1) := by decide +kernel
theorem dX0_faultAfterVerdict_0 : decode cX0_faultAfterVerdict 0 = .ok (.aload_n 0, 1) := by decide +kernel
theorem dX0_faultAfterVerdict_1 : decode cX0_faultAfterVerdict 1 = .ok (.iload_n 1, 1) := by decide +kernel
theorem dX0_faultAfterVerdict_2 : decode cX0_faultAfterVerdict 2 = .ok (.invokevirtual 148, 3) := by decide +kernel
theorem dX0_faultAfterVerdict_5 : decode cX0_faultAfterVerdict 5 = .ok (.ifCond .ne 7, 3) := by decide +kernel
theorem dX0_faultAfterVerdict_8 : decode cX0_faultAfterVerdict 8 = .ok (.getstatic 154, 3) := by decide +kernel
theorem dX0_faultAfterVerdict_11 : decode cX0_faultAfterVerdict 11 = .ok (.areturn, 1) := by decide +kernel
theorem dX0_faultAfterVerdict_12 : decode cX0_faultAfterVerdict 12 = .ok (.aload_n 0, 1) := by decide +kernel
theorem dX0_faultAfterVerdict_13 : decode cX0_faultAfterVerdict 13 = .ok (.iconst 1, 1) := by decide +kernel
theorem dX0_faultAfterVerdict_14 : decode cX0_faultAfterVerdict 14 = .ok (.iload_n 1, 1) := by decide +kernel
theorem dX0_faultAfterVerdict_15 : decode cX0_faultAfterVerdict 15 = .ok (.invokevirtual 160, 3) := by decide +kernel
theorem dX0_faultAfterVerdict_18 : decode cX0_faultAfterVerdict 18 = .ok (.ifCond .eq 9, 3) := by decide +kernel
theorem dX0_faultAfterVerdict_21 : decode cX0_faultAfterVerdict 21 = .ok (.getstatic 145, 3) := by decide +kernel
theorem dX0_faultAfterVerdict_24 : decode cX0_faultAfterVerdict 24 = .ok (.goto 6, 3) := by decide +kernel
theorem dX0_faultAfterVerdict_27 : decode cX0_faultAfterVerdict 27 = .ok (.getstatic 142, 3) := by decide +kernel
theorem dX0_faultAfterVerdict_30 : decode cX0_faultAfterVerdict 30 = .ok (.areturn, 1) := by decide +kernel
theorem dX0_openCase_0 : decode cX0_openCase 0 = .ok (.aload_n 0, 1) := by decide +kernel
theorem dX0_openCase_1 : decode cX0_openCase 1 = .ok (.getfield 9, 3) := by decide +kernel
theorem dX0_openCase_4 : decode cX0_openCase 4 = .ok (.istore_n 3, 1) := by decide +kernel
theorem dX0_openCase_5 : decode cX0_openCase 5 = .ok (.aload_n 0, 1) := by decide +kernel
theorem dX0_openCase_6 : decode cX0_openCase 6 = .ok (.getfield 29, 3) := by decide +kernel
theorem dX0_openCase_9 : decode cX0_openCase 9 = .ok (.iload_n 3, 1) := by decide +kernel
theorem dX0_openCase_10 : decode cX0_openCase 10 = .ok (.iload_n 1, 1) := by decide +kernel
theorem dX0_openCase_11 : decode cX0_openCase 11 = .ok (.invokevirtual 173, 3) := by decide +kernel
theorem dX0_openCase_14 : decode cX0_openCase 14 = .ok (.aload_n 0, 1) := by decide +kernel
theorem dX0_openCase_15 : decode cX0_openCase 15 = .ok (.getfield 33, 3) := by decide +kernel
theorem dX0_openCase_18 : decode cX0_openCase 18 = .ok (.iload_n 3, 1) := by decide +kernel
theorem dX0_openCase_19 : decode cX0_openCase 19 = .ok (.iload_n 2, 1) := by decide +kernel
theorem dX0_openCase_20 : decode cX0_openCase 20 = .ok (.invokevirtual 173, 3) := by decide +kernel
theorem dX0_openCase_23 : decode cX0_openCase 23 = .ok (.aload_n 0, 1) := by decide +kernel
theorem dX0_openCase_24 : decode cX0_openCase 24 = .ok (.getfield 36, 3) := by decide +kernel
theorem dX0_openCase_27 : decode cX0_openCase 27 = .ok (.iload_n 3, 1) := by decide +kernel
theorem dX0_openCase_28 : decode cX0_openCase 28 = .ok (.iconst 0, 1) := by decide +kernel
theorem dX0_openCase_29 : decode cX0_openCase 29 = .ok (.invokevirtual 173, 3) := by decide +kernel
theorem dX0_openCase_32 : decode cX0_openCase 32 = .ok (.aload_n 0, 1) := by decide +kernel
theorem dX0_openCase_33 : decode cX0_openCase 33 = .ok (.iload_n 3, 1) := by decide +kernel
theorem dX0_openCase_34 : decode cX0_openCase 34 = .ok (.iconst 1, 1) := by decide +kernel
theorem dX0_openCase_35 : decode cX0_openCase 35 = .ok (.iadd, 1) := by decide +kernel
theorem dX0_openCase_36 : decode cX0_openCase 36 = .ok (.putfield 9, 3) := by decide +kernel
theorem dX0_openCase_39 : decode cX0_openCase 39 = .ok (.iload_n 3, 1) := by decide +kernel
theorem dX0_openCase_40 : decode cX0_openCase 40 = .ok (.ireturn, 1) := by decide +kernel
theorem dX0_register_0 : decode cX0_register 0 = .ok (.aload_n 0, 1) := by decide +kernel
theorem dX0_register_1 : decode cX0_register 1 = .ok (.getfield 15, 3) := by decide +kernel
theorem dX0_register_4 : decode cX0_register 4 = .ok (.istore_n 2, 1) := by decide +kernel
theorem dX0_register_5 : decode cX0_register 5 = .ok (.aload_n 0, 1) := by decide +kernel
theorem dX0_register_6 : decode cX0_register 6 = .ok (.getfield 60, 3) := by decide +kernel
theorem dX0_register_9 : decode cX0_register 9 = .ok (.iload_n 2, 1) := by decide +kernel
theorem dX0_register_10 : decode cX0_register 10 = .ok (.iload_n 1, 1) := by decide +kernel
theorem dX0_register_11 : decode cX0_register 11 = .ok (.invokevirtual 173, 3) := by decide +kernel
theorem dX0_register_14 : decode cX0_register 14 = .ok (.aload_n 0, 1) := by decide +kernel
theorem dX0_register_15 : decode cX0_register 15 = .ok (.getfield 69, 3) := by decide +kernel
theorem dX0_register_18 : decode cX0_register 18 = .ok (.iload_n 2, 1) := by decide +kernel
theorem dX0_register_19 : decode cX0_register 19 = .ok (.invokevirtual 177, 3) := by decide +kernel
theorem dX0_register_22 : decode cX0_register 22 = .ok (.aload_n 0, 1) := by decide +kernel
theorem dX0_register_23 : decode cX0_register 23 = .ok (.iload_n 2, 1) := by decide +kernel
theorem dX0_register_24 : decode cX0_register 24 = .ok (.iconst 1, 1) := by decide +kernel
theorem dX0_register_25 : decode cX0_register 25 = .ok (.iadd, 1) := by decide +kernel
theorem dX0_register_26 : decode cX0_register 26 = .ok (.putfield 15, 3) := by decide +kernel
theorem dX0_register_29 : decode cX0_register 29 = .ok (.iload_n 2, 1) := by decide +kernel
theorem dX0_register_30 : decode cX0_register 30 = .ok (.ireturn, 1) := by decide +kernel
theorem dX0_hear_0 : decode cX0_hear 0 = .ok (.aload_n 0, 1) := by decide +kernel
theorem dX0_hear_1 : decode cX0_hear 1 = .ok (.getfield 45, 3) := by decide +kernel
theorem dX0_hear_4 : decode cX0_hear 4 = .ok (.iload_n 1, 1) := by decide +kernel
theorem dX0_hear_5 : decode cX0_hear 5 = .ok (.invokevirtual 157, 3) := by decide +kernel
theorem dX0_hear_8 : decode cX0_hear 8 = .ok (.istore 5, 2) := by decide +kernel
theorem dX0_hear_10 : decode cX0_hear 10 = .ok (.aload_n 0, 1) := by decide +kernel
theorem dX0_hear_11 : decode cX0_hear 11 = .ok (.getfield 48, 3) := by decide +kernel
theorem dX0_hear_14 : decode cX0_hear 14 = .ok (.iload_n 1, 1) := by decide +kernel
theorem dX0_hear_15 : decode cX0_hear 15 = .ok (.bipush 6, 2) := by decide +kernel
theorem dX0_hear_17 : decode cX0_hear 17 = .ok (.imul, 1) := by decide +kernel
theorem dX0_hear_18 : decode cX0_hear 18 = .ok (.iload 5, 2) := by decide +kernel
theorem dX0_hear_20 : decode cX0_hear 20 = .ok (.iadd, 1) := by decide +kernel
theorem dX0_hear_21 : decode cX0_hear 21 = .ok (.iload_n 2, 1) := by decide +kernel
theorem dX0_hear_22 : decode cX0_hear 22 = .ok (.invokevirtual 173, 3) := by decide +kernel
theorem dX0_hear_25 : decode cX0_hear 25 = .ok (.aload_n 0, 1) := by decide +kernel
theorem dX0_hear_26 : decode cX0_hear 26 = .ok (.getfield 51, 3) := by decide +kernel
theorem dX0_hear_29 : decode cX0_hear 29 = .ok (.iload_n 1, 1) := by decide +kernel
theorem dX0_hear_30 : decode cX0_hear 30 = .ok (.iload_n 2, 1) := by decide +kernel
theorem dX0_hear_31 : decode cX0_hear 31 = .ok (.invokestatic 180, 3) := by decide +kernel
theorem dX0_hear_34 : decode cX0_hear 34 = .ok (.iload_n 3, 1) := by decide +kernel
theorem dX0_hear_35 : decode cX0_hear 35 = .ok (.ifCond .eq 7, 3) := by decide +kernel
theorem dX0_hear_38 : decode cX0_hear 38 = .ok (.iconst 1, 1) := by decide +kernel
theorem dX0_hear_39 : decode cX0_hear 39 = .ok (.goto 4, 3) := by decide +kernel
theorem dX0_hear_42 : decode cX0_hear 42 = .ok (.iconst (-1), 1) := by decide +kernel
theorem dX0_hear_43 : decode cX0_hear 43 = .ok (.invokevirtual 173, 3) := by decide +kernel
theorem dX0_hear_46 : decode cX0_hear 46 = .ok (.aload_n 0, 1) := by decide +kernel
theorem dX0_hear_47 : decode cX0_hear 47 = .ok (.getfield 54, 3) := by decide +kernel
theorem dX0_hear_50 : decode cX0_hear 50 = .ok (.iload_n 1, 1) := by decide +kernel
theorem dX0_hear_51 : decode cX0_hear 51 = .ok (.iload_n 2, 1) := by decide +kernel
theorem dX0_hear_52 : decode cX0_hear 52 = .ok (.invokestatic 180, 3) := by decide +kernel
theorem dX0_hear_55 : decode cX0_hear 55 = .ok (.iload 4, 2) := by decide +kernel
theorem dX0_hear_57 : decode cX0_hear 57 = .ok (.invokevirtual 173, 3) := by decide +kernel
theorem dX0_hear_60 : decode cX0_hear 60 = .ok (.aload_n 0, 1) := by decide +kernel
theorem dX0_hear_61 : decode cX0_hear 61 = .ok (.getfield 45, 3) := by decide +kernel
theorem dX0_hear_64 : decode cX0_hear 64 = .ok (.iload_n 1, 1) := by decide +kernel
theorem dX0_hear_65 : decode cX0_hear 65 = .ok (.iload 5, 2) := by decide +kernel
theorem dX0_hear_67 : decode cX0_hear 67 = .ok (.iconst 1, 1) := by decide +kernel
theorem dX0_hear_68 : decode cX0_hear 68 = .ok (.iadd, 1) := by decide +kernel
theorem dX0_hear_69 : decode cX0_hear 69 = .ok (.invokevirtual 173, 3) := by decide +kernel
theorem dX0_hear_72 : decode cX0_hear 72 = .ok (.aload_n 0, 1) := by decide +kernel
theorem dX0_hear_73 : decode cX0_hear 73 = .ok (.getfield 69, 3) := by decide +kernel
theorem dX0_hear_76 : decode cX0_hear 76 = .ok (.aload_n 0, 1) := by decide +kernel
theorem dX0_hear_77 : decode cX0_hear 77 = .ok (.iload_n 1, 1) := by decide +kernel
theorem dX0_hear_78 : decode cX0_hear 78 = .ok (.iconst 0, 1) := by decide +kernel
theorem dX0_hear_79 : decode cX0_hear 79 = .ok (.invokevirtual 183, 3) := by decide +kernel
theorem dX0_hear_82 : decode cX0_hear 82 = .ok (.iload_n 2, 1) := by decide +kernel
theorem dX0_hear_83 : decode cX0_hear 83 = .ok (.invokevirtual 186, 3) := by decide +kernel
theorem dX0_hear_86 : decode cX0_hear 86 = .ok (.iload 5, 2) := by decide +kernel
theorem dX0_hear_88 : decode cX0_hear 88 = .ok (.iconst 1, 1) := by decide +kernel
theorem dX0_hear_89 : decode cX0_hear 89 = .ok (.iadd, 1) := by decide +kernel
theorem dX0_hear_90 : decode cX0_hear 90 = .ok (.ireturn, 1) := by decide +kernel
theorem dX0_ask_0 : decode cX0_ask 0 = .ok (.aload_n 0, 1) := by decide +kernel
theorem dX0_ask_1 : decode cX0_ask 1 = .ok (.getfield 60, 3) := by decide +kernel
theorem dX0_ask_4 : decode cX0_ask 4 = .ok (.iload_n 2, 1) := by decide +kernel
theorem dX0_ask_5 : decode cX0_ask 5 = .ok (.invokevirtual 157, 3) := by decide +kernel
theorem dX0_ask_8 : decode cX0_ask 8 = .ok (.istore 4, 2) := by decide +kernel
theorem dX0_ask_10 : decode cX0_ask 10 = .ok (.iload_n 3, 1) := by decide +kernel
theorem dX0_ask_11 : decode cX0_ask 11 = .ok (.ifCond .eq 15, 3) := by decide +kernel
theorem dX0_ask_14 : decode cX0_ask 14 = .ok (.iload 4, 2) := by decide +kernel
theorem dX0_ask_16 : decode cX0_ask 16 = .ok (.iconst 1, 1) := by decide +kernel
theorem dX0_ask_17 : decode cX0_ask 17 = .ok (.iadd, 1) := by decide +kernel
theorem dX0_ask_18 : decode cX0_ask 18 = .ok (.bipush 9, 2) := by decide +kernel
theorem dX0_ask_20 : decode cX0_ask 20 = .ok (.invokestatic 189, 3) := by decide +kernel
theorem dX0_ask_23 : decode cX0_ask 23 = .ok (.goto 11, 3) := by decide +kernel
theorem dX0_ask_26 : decode cX0_ask 26 = .ok (.iload 4, 2) := by decide +kernel
theorem dX0_ask_28 : decode cX0_ask 28 = .ok (.iconst 2, 1) := by decide +kernel
theorem dX0_ask_29 : decode cX0_ask 29 = .ok (.isub, 1) := by decide +kernel
theorem dX0_ask_30 : decode cX0_ask 30 = .ok (.iconst 0, 1) := by decide +kernel
theorem dX0_ask_31 : decode cX0_ask 31 = .ok (.invokestatic 194, 3) := by decide +kernel
theorem dX0_ask_34 : decode cX0_ask 34 = .ok (.istore 5, 2) := by decide +kernel
theorem dX0_ask_36 : decode cX0_ask 36 = .ok (.aload_n 0, 1) := by decide +kernel
theorem dX0_ask_37 : decode cX0_ask 37 = .ok (.getfield 60, 3) := by decide +kernel
theorem dX0_ask_40 : decode cX0_ask 40 = .ok (.iload_n 2, 1) := by decide +kernel
theorem dX0_ask_41 : decode cX0_ask 41 = .ok (.iload 5, 2) := by decide +kernel
theorem dX0_ask_43 : decode cX0_ask 43 = .ok (.invokevirtual 173, 3) := by decide +kernel
theorem dX0_ask_46 : decode cX0_ask 46 = .ok (.aload_n 0, 1) := by decide +kernel
theorem dX0_ask_47 : decode cX0_ask 47 = .ok (.getfield 57, 3) := by decide +kernel
theorem dX0_ask_50 : decode cX0_ask 50 = .ok (.iload_n 1, 1) := by decide +kernel
theorem dX0_ask_51 : decode cX0_ask 51 = .ok (.iload_n 2, 1) := by decide +kernel
theorem dX0_ask_52 : decode cX0_ask 52 = .ok (.invokestatic 180, 3) := by decide +kernel
theorem dX0_ask_55 : decode cX0_ask 55 = .ok (.iconst 1, 1) := by decide +kernel
theorem dX0_ask_56 : decode cX0_ask 56 = .ok (.invokevirtual 197, 3) := by decide +kernel
theorem dX0_ask_59 : decode cX0_ask 59 = .ok (.aload_n 0, 1) := by decide +kernel
theorem dX0_ask_60 : decode cX0_ask 60 = .ok (.dup, 1) := by decide +kernel
theorem dX0_ask_61 : decode cX0_ask 61 = .ok (.getfield 21, 3) := by decide +kernel
theorem dX0_ask_64 : decode cX0_ask 64 = .ok (.iconst 1, 1) := by decide +kernel
theorem dX0_ask_65 : decode cX0_ask 65 = .ok (.iadd, 1) := by decide +kernel
theorem dX0_ask_66 : decode cX0_ask 66 = .ok (.putfield 21, 3) := by decide +kernel
theorem dX0_ask_69 : decode cX0_ask 69 = .ok (.iload 5, 2) := by decide +kernel
theorem dX0_ask_71 : decode cX0_ask 71 = .ok (.ireturn, 1) := by decide +kernel
theorem dX0_judge_0 : decode cX0_judge 0 = .ok (.aload_n 0, 1) := by decide +kernel
theorem dX0_judge_1 : decode cX0_judge 1 = .ok (.iload_n 1, 1) := by decide +kernel
theorem dX0_judge_2 : decode cX0_judge 2 = .ok (.invokestatic 200, 3) := by decide +kernel
theorem dX0_judge_5 : decode cX0_judge 5 = .ok (.ifCond .le 7, 3) := by decide +kernel
theorem dX0_judge_8 : decode cX0_judge 8 = .ok (.iconst 1, 1) := by decide +kernel
theorem dX0_judge_9 : decode cX0_judge 9 = .ok (.goto 4, 3) := by decide +kernel
theorem dX0_judge_12 : decode cX0_judge 12 = .ok (.iconst 0, 1) := by decide +kernel
theorem dX0_judge_13 : decode cX0_judge 13 = .ok (.istore_n 2, 1) := by decide +kernel
theorem dX0_judge_14 : decode cX0_judge 14 = .ok (.iload_n 2, 1) := by decide +kernel
theorem dX0_judge_15 : decode cX0_judge 15 = .ok (.ifCond .eq 23, 3) := by decide +kernel
theorem dX0_judge_18 : decode cX0_judge 18 = .ok (.aload_n 0, 1) := by decide +kernel
theorem dX0_judge_19 : decode cX0_judge 19 = .ok (.getfield 63, 3) := by decide +kernel
theorem dX0_judge_22 : decode cX0_judge 22 = .ok (.aload_n 0, 1) := by decide +kernel
theorem dX0_judge_23 : decode cX0_judge 23 = .ok (.getfield 29, 3) := by decide +kernel
theorem dX0_judge_26 : decode cX0_judge 26 = .ok (.iload_n 1, 1) := by decide +kernel
theorem dX0_judge_27 : decode cX0_judge 27 = .ok (.invokevirtual 157, 3) := by decide +kernel
theorem dX0_judge_30 : decode cX0_judge 30 = .ok (.aload_n 0, 1) := by decide +kernel
theorem dX0_judge_31 : decode cX0_judge 31 = .ok (.iload_n 1, 1) := by decide +kernel
theorem dX0_judge_32 : decode cX0_judge 32 = .ok (.invokevirtual 206, 3) := by decide +kernel
theorem dX0_judge_35 : decode cX0_judge 35 = .ok (.invokevirtual 197, 3) := by decide +kernel
theorem dX0_judge_38 : decode cX0_judge 38 = .ok (.aload_n 0, 1) := by decide +kernel
theorem dX0_judge_39 : decode cX0_judge 39 = .ok (.getfield 39, 3) := by decide +kernel
theorem dX0_judge_42 : decode cX0_judge 42 = .ok (.iload_n 1, 1) := by decide +kernel
theorem dX0_judge_43 : decode cX0_judge 43 = .ok (.iload_n 2, 1) := by decide +kernel
theorem dX0_judge_44 : decode cX0_judge 44 = .ok (.ifCond .eq 7, 3) := by decide +kernel
theorem dX0_judge_47 : decode cX0_judge 47 = .ok (.iconst 1, 1) := by decide +kernel
theorem dX0_judge_48 : decode cX0_judge 48 = .ok (.goto 4, 3) := by decide +kernel
theorem dX0_judge_51 : decode cX0_judge 51 = .ok (.iconst 0, 1) := by decide +kernel
theorem dX0_judge_52 : decode cX0_judge 52 = .ok (.invokevirtual 173, 3) := by decide +kernel
theorem dX0_judge_55 : decode cX0_judge 55 = .ok (.aload_n 0, 1) := by decide +kernel
theorem dX0_judge_56 : decode cX0_judge 56 = .ok (.getfield 36, 3) := by decide +kernel
theorem dX0_judge_59 : decode cX0_judge 59 = .ok (.iload_n 1, 1) := by decide +kernel
theorem dX0_judge_60 : decode cX0_judge 60 = .ok (.aload_n 0, 1) := by decide +kernel
theorem dX0_judge_61 : decode cX0_judge 61 = .ok (.getfield 42, 3) := by decide +kernel
theorem dX0_judge_64 : decode cX0_judge 64 = .ok (.iload_n 1, 1) := by decide +kernel
theorem dX0_judge_65 : decode cX0_judge 65 = .ok (.invokevirtual 157, 3) := by decide +kernel
theorem dX0_judge_68 : decode cX0_judge 68 = .ok (.iconst 2, 1) := by decide +kernel
theorem dX0_judge_69 : decode cX0_judge 69 = .ok (.if_icmp .lt 7, 3) := by decide +kernel
theorem dX0_judge_72 : decode cX0_judge 72 = .ok (.iconst 2, 1) := by decide +kernel
theorem dX0_judge_73 : decode cX0_judge 73 = .ok (.goto 4, 3) := by decide +kernel
theorem dX0_judge_76 : decode cX0_judge 76 = .ok (.iconst 1, 1) := by decide +kernel
theorem dX0_judge_77 : decode cX0_judge 77 = .ok (.invokevirtual 173, 3) := by decide +kernel
theorem dX0_judge_80 : decode cX0_judge 80 = .ok (.aload_n 0, 1) := by decide +kernel
theorem dX0_judge_81 : decode cX0_judge 81 = .ok (.dup, 1) := by decide +kernel
theorem dX0_judge_82 : decode cX0_judge 82 = .ok (.getfield 18, 3) := by decide +kernel
theorem dX0_judge_85 : decode cX0_judge 85 = .ok (.iconst 1, 1) := by decide +kernel
theorem dX0_judge_86 : decode cX0_judge 86 = .ok (.iadd, 1) := by decide +kernel
theorem dX0_judge_87 : decode cX0_judge 87 = .ok (.putfield 18, 3) := by decide +kernel
theorem dX0_judge_90 : decode cX0_judge 90 = .ok (.iload_n 2, 1) := by decide +kernel
theorem dX0_judge_91 : decode cX0_judge 91 = .ok (.ifCond .eq 7, 3) := by decide +kernel
theorem dX0_judge_94 : decode cX0_judge 94 = .ok (.iconst 1, 1) := by decide +kernel
theorem dX0_judge_95 : decode cX0_judge 95 = .ok (.goto 4, 3) := by decide +kernel
theorem dX0_judge_98 : decode cX0_judge 98 = .ok (.iconst 0, 1) := by decide +kernel
theorem dX0_judge_99 : decode cX0_judge 99 = .ok (.ireturn, 1) := by decide +kernel
theorem dX0_reopen_0 : decode cX0_reopen 0 = .ok (.aload_n 0, 1) := by decide +kernel
theorem dX0_reopen_1 : decode cX0_reopen 1 = .ok (.iload_n 1, 1) := by decide +kernel
theorem dX0_reopen_2 : decode cX0_reopen 2 = .ok (.invokevirtual 209, 3) := by decide +kernel
theorem dX0_reopen_5 : decode cX0_reopen 5 = .ok (.ifCond .eq 24, 3) := by decide +kernel
theorem dX0_reopen_8 : decode cX0_reopen 8 = .ok (.aload_n 0, 1) := by decide +kernel
theorem dX0_reopen_9 : decode cX0_reopen 9 = .ok (.getfield 63, 3) := by decide +kernel
theorem dX0_reopen_12 : decode cX0_reopen 12 = .ok (.aload_n 0, 1) := by decide +kernel
theorem dX0_reopen_13 : decode cX0_reopen 13 = .ok (.getfield 29, 3) := by decide +kernel
theorem dX0_reopen_16 : decode cX0_reopen 16 = .ok (.iload_n 1, 1) := by decide +kernel
theorem dX0_reopen_17 : decode cX0_reopen 17 = .ok (.invokevirtual 157, 3) := by decide +kernel
theorem dX0_reopen_20 : decode cX0_reopen 20 = .ok (.aload_n 0, 1) := by decide +kernel
theorem dX0_reopen_21 : decode cX0_reopen 21 = .ok (.iload_n 1, 1) := by decide +kernel
theorem dX0_reopen_22 : decode cX0_reopen 22 = .ok (.invokevirtual 206, 3) := by decide +kernel
theorem dX0_reopen_25 : decode cX0_reopen 25 = .ok (.ineg, 1) := by decide +kernel
theorem dX0_reopen_26 : decode cX0_reopen 26 = .ok (.invokevirtual 197, 3) := by decide +kernel
theorem dX0_reopen_29 : decode cX0_reopen 29 = .ok (.aload_n 0, 1) := by decide +kernel
theorem dX0_reopen_30 : decode cX0_reopen 30 = .ok (.getfield 39, 3) := by decide +kernel
theorem dX0_reopen_33 : decode cX0_reopen 33 = .ok (.iload_n 1, 1) := by decide +kernel
theorem dX0_reopen_34 : decode cX0_reopen 34 = .ok (.iconst 0, 1) := by decide +kernel
theorem dX0_reopen_35 : decode cX0_reopen 35 = .ok (.invokevirtual 173, 3) := by decide +kernel
theorem dX0_reopen_38 : decode cX0_reopen 38 = .ok (.aload_n 0, 1) := by decide +kernel
theorem dX0_reopen_39 : decode cX0_reopen 39 = .ok (.getfield 36, 3) := by decide +kernel
theorem dX0_reopen_42 : decode cX0_reopen 42 = .ok (.iload_n 1, 1) := by decide +kernel
theorem dX0_reopen_43 : decode cX0_reopen 43 = .ok (.iconst 0, 1) := by decide +kernel
theorem dX0_reopen_44 : decode cX0_reopen 44 = .ok (.invokevirtual 173, 3) := by decide +kernel
theorem dX0_reopen_47 : decode cX0_reopen 47 = .ok (.aload_n 0, 1) := by decide +kernel
theorem dX0_reopen_48 : decode cX0_reopen 48 = .ok (.getfield 42, 3) := by decide +kernel
theorem dX0_reopen_51 : decode cX0_reopen 51 = .ok (.iload_n 1, 1) := by decide +kernel
theorem dX0_reopen_52 : decode cX0_reopen 52 = .ok (.iconst 1, 1) := by decide +kernel
theorem dX0_reopen_53 : decode cX0_reopen 53 = .ok (.invokevirtual 197, 3) := by decide +kernel
theorem dX0_reopen_56 : decode cX0_reopen 56 = .ok (.aload_n 0, 1) := by decide +kernel
theorem dX0_reopen_57 : decode cX0_reopen 57 = .ok (.getfield 42, 3) := by decide +kernel
theorem dX0_reopen_60 : decode cX0_reopen 60 = .ok (.iload_n 1, 1) := by decide +kernel
theorem dX0_reopen_61 : decode cX0_reopen 61 = .ok (.invokevirtual 157, 3) := by decide +kernel
theorem dX0_reopen_64 : decode cX0_reopen 64 = .ok (.ireturn, 1) := by decide +kernel
theorem dX0_finish_0 : decode cX0_finish 0 = .ok (.aload_n 0, 1) := by decide +kernel
theorem dX0_finish_1 : decode cX0_finish 1 = .ok (.getfield 36, 3) := by decide +kernel
theorem dX0_finish_4 : decode cX0_finish 4 = .ok (.iload_n 1, 1) := by decide +kernel
theorem dX0_finish_5 : decode cX0_finish 5 = .ok (.iconst 2, 1) := by decide +kernel
theorem dX0_finish_6 : decode cX0_finish 6 = .ok (.invokevirtual 173, 3) := by decide +kernel
theorem dX0_finish_9 : decode cX0_finish 9 = .ok (.aload_n 0, 1) := by decide +kernel
theorem dX0_finish_10 : decode cX0_finish 10 = .ok (.iconst 2, 1) := by decide +kernel
theorem dX0_finish_11 : decode cX0_finish 11 = .ok (.invokevirtual 212, 3) := by decide +kernel
theorem dX0_finish_14 : decode cX0_finish 14 = .ok (.ireturn, 1) := by decide +kernel
theorem dX0_hasCase_0 : decode cX0_hasCase 0 = .ok (.iload_n 1, 1) := by decide +kernel
theorem dX0_hasCase_1 : decode cX0_hasCase 1 = .ok (.ifCond .lt 15, 3) := by decide +kernel
theorem dX0_hasCase_4 : decode cX0_hasCase 4 = .ok (.iload_n 1, 1) := by decide +kernel
theorem dX0_hasCase_5 : decode cX0_hasCase 5 = .ok (.aload_n 0, 1) := by decide +kernel
theorem dX0_hasCase_6 : decode cX0_hasCase 6 = .ok (.getfield 9, 3) := by decide +kernel
theorem dX0_hasCase_9 : decode cX0_hasCase 9 = .ok (.if_icmp .ge 7, 3) := by decide +kernel
theorem dX0_hasCase_12 : decode cX0_hasCase 12 = .ok (.iconst 1, 1) := by decide +kernel
theorem dX0_hasCase_13 : decode cX0_hasCase 13 = .ok (.goto 4, 3) := by decide +kernel
theorem dX0_hasCase_16 : decode cX0_hasCase 16 = .ok (.iconst 0, 1) := by decide +kernel
theorem dX0_hasCase_17 : decode cX0_hasCase 17 = .ok (.ireturn, 1) := by decide +kernel
theorem dX0_hasWitness_0 : decode cX0_hasWitness 0 = .ok (.iload_n 1, 1) := by decide +kernel
theorem dX0_hasWitness_1 : decode cX0_hasWitness 1 = .ok (.ifCond .lt 15, 3) := by decide +kernel
theorem dX0_hasWitness_4 : decode cX0_hasWitness 4 = .ok (.iload_n 1, 1) := by decide +kernel
theorem dX0_hasWitness_5 : decode cX0_hasWitness 5 = .ok (.aload_n 0, 1) := by decide +kernel
theorem dX0_hasWitness_6 : decode cX0_hasWitness 6 = .ok (.getfield 15, 3) := by decide +kernel
theorem dX0_hasWitness_9 : decode cX0_hasWitness 9 = .ok (.if_icmp .ge 7, 3) := by decide +kernel
theorem dX0_hasWitness_12 : decode cX0_hasWitness 12 = .ok (.iconst 1, 1) := by decide +kernel
theorem dX0_hasWitness_13 : decode cX0_hasWitness 13 = .ok (.goto 4, 3) := by decide +kernel
theorem dX0_hasWitness_16 : decode cX0_hasWitness 16 = .ok (.iconst 0, 1) := by decide +kernel
theorem dX0_hasWitness_17 : decode cX0_hasWitness 17 = .ok (.ireturn, 1) := by decide +kernel
theorem dX0_isIn_0 : decode cX0_isIn 0 = .ok (.aload_n 0, 1) := by decide +kernel
theorem dX0_isIn_1 : decode cX0_isIn 1 = .ok (.getfield 36, 3) := by decide +kernel
theorem dX0_isIn_4 : decode cX0_isIn 4 = .ok (.iload_n 2, 1) := by decide +kernel
theorem dX0_isIn_5 : decode cX0_isIn 5 = .ok (.invokevirtual 157, 3) := by decide +kernel
theorem dX0_isIn_8 : decode cX0_isIn 8 = .ok (.iload_n 1, 1) := by decide +kernel
theorem dX0_isIn_9 : decode cX0_isIn 9 = .ok (.if_icmp .ne 7, 3) := by decide +kernel
theorem dX0_isIn_12 : decode cX0_isIn 12 = .ok (.iconst 1, 1) := by decide +kernel
theorem dX0_isIn_13 : decode cX0_isIn 13 = .ok (.goto 4, 3) := by decide +kernel
theorem dX0_isIn_16 : decode cX0_isIn 16 = .ok (.iconst 0, 1) := by decide +kernel
theorem dX0_isIn_17 : decode cX0_isIn 17 = .ok (.ireturn, 1) := by decide +kernel
theorem dX0_isFoundGuilty_0 : decode cX0_isFoundGuilty 0 = .ok (.aload_n 0, 1) := by decide +kernel
theorem dX0_isFoundGuilty_1 : decode cX0_isFoundGuilty 1 = .ok (.getfield 39, 3) := by decide +kernel
theorem dX0_isFoundGuilty_4 : decode cX0_isFoundGuilty 4 = .ok (.iload_n 1, 1) := by decide +kernel
theorem dX0_isFoundGuilty_5 : decode cX0_isFoundGuilty 5 = .ok (.invokevirtual 157, 3) := by decide +kernel
theorem dX0_isFoundGuilty_8 : decode cX0_isFoundGuilty 8 = .ok (.ifCond .eq 7, 3) := by decide +kernel
theorem dX0_isFoundGuilty_11 : decode cX0_isFoundGuilty 11 = .ok (.iconst 1, 1) := by decide +kernel
theorem dX0_isFoundGuilty_12 : decode cX0_isFoundGuilty 12 = .ok (.goto 4, 3) := by decide +kernel
theorem dX0_isFoundGuilty_15 : decode cX0_isFoundGuilty 15 = .ok (.iconst 0, 1) := by decide +kernel
theorem dX0_isFoundGuilty_16 : decode cX0_isFoundGuilty 16 = .ok (.ireturn, 1) := by decide +kernel
theorem dX0_severityIn_0 : decode cX0_severityIn 0 = .ok (.aload_n 0, 1) := by decide +kernel
theorem dX0_severityIn_1 : decode cX0_severityIn 1 = .ok (.getfield 33, 3) := by decide +kernel
theorem dX0_severityIn_4 : decode cX0_severityIn 4 = .ok (.iload_n 1, 1) := by decide +kernel
theorem dX0_severityIn_5 : decode cX0_severityIn 5 = .ok (.invokevirtual 157, 3) := by decide +kernel
theorem dX0_severityIn_8 : decode cX0_severityIn 8 = .ok (.iconst 1, 1) := by decide +kernel
theorem dX0_severityIn_9 : decode cX0_severityIn 9 = .ok (.iadd, 1) := by decide +kernel
theorem dX0_severityIn_10 : decode cX0_severityIn 10 = .ok (.ireturn, 1) := by decide +kernel
theorem dX0_caseAgainst_0 : decode cX0_caseAgainst 0 = .ok (.iconst 0, 1) := by decide +kernel
theorem dX0_caseAgainst_1 : decode cX0_caseAgainst 1 = .ok (.istore_n 3, 1) := by decide +kernel
theorem dX0_caseAgainst_2 : decode cX0_caseAgainst 2 = .ok (.iload_n 3, 1) := by decide +kernel
theorem dX0_caseAgainst_3 : decode cX0_caseAgainst 3 = .ok (.aload_n 0, 1) := by decide +kernel
theorem dX0_caseAgainst_4 : decode cX0_caseAgainst 4 = .ok (.getfield 9, 3) := by decide +kernel
theorem dX0_caseAgainst_7 : decode cX0_caseAgainst 7 = .ok (.if_icmp .ge 35, 3) := by decide +kernel
theorem dX0_caseAgainst_10 : decode cX0_caseAgainst 10 = .ok (.aload_n 0, 1) := by decide +kernel
theorem dX0_caseAgainst_11 : decode cX0_caseAgainst 11 = .ok (.getfield 29, 3) := by decide +kernel
theorem dX0_caseAgainst_14 : decode cX0_caseAgainst 14 = .ok (.iload_n 3, 1) := by decide +kernel
theorem dX0_caseAgainst_15 : decode cX0_caseAgainst 15 = .ok (.invokevirtual 157, 3) := by decide +kernel
theorem dX0_caseAgainst_18 : decode cX0_caseAgainst 18 = .ok (.iload_n 1, 1) := by decide +kernel
theorem dX0_caseAgainst_19 : decode cX0_caseAgainst 19 = .ok (.if_icmp .ne 17, 3) := by decide +kernel
theorem dX0_caseAgainst_22 : decode cX0_caseAgainst 22 = .ok (.aload_n 0, 1) := by decide +kernel
theorem dX0_caseAgainst_23 : decode cX0_caseAgainst 23 = .ok (.getfield 33, 3) := by decide +kernel
theorem dX0_caseAgainst_26 : decode cX0_caseAgainst 26 = .ok (.iload_n 3, 1) := by decide +kernel
theorem dX0_caseAgainst_27 : decode cX0_caseAgainst 27 = .ok (.invokevirtual 157, 3) := by decide +kernel
theorem dX0_caseAgainst_30 : decode cX0_caseAgainst 30 = .ok (.iload_n 2, 1) := by decide +kernel
theorem dX0_caseAgainst_31 : decode cX0_caseAgainst 31 = .ok (.if_icmp .ne 5, 3) := by decide +kernel
theorem dX0_caseAgainst_34 : decode cX0_caseAgainst 34 = .ok (.iload_n 3, 1) := by decide +kernel
theorem dX0_caseAgainst_35 : decode cX0_caseAgainst 35 = .ok (.ireturn, 1) := by decide +kernel
theorem dX0_caseAgainst_36 : decode cX0_caseAgainst 36 = .ok (.iinc 3 1, 3) := by decide +kernel
theorem dX0_caseAgainst_39 : decode cX0_caseAgainst 39 = .ok (.goto (-37), 3) := by decide +kernel
theorem dX0_caseAgainst_42 : decode cX0_caseAgainst 42 = .ok (.iconst (-1), 1) := by decide +kernel
theorem dX0_caseAgainst_43 : decode cX0_caseAgainst 43 = .ok (.ireturn, 1) := by decide +kernel
theorem dX0_cellOf_0 : decode cX0_cellOf 0 = .ok (.iload_n 0, 1) := by decide +kernel
theorem dX0_cellOf_1 : decode cX0_cellOf 1 = .ok (.bipush 8, 2) := by decide +kernel
theorem dX0_cellOf_3 : decode cX0_cellOf 3 = .ok (.imul, 1) := by decide +kernel
theorem dX0_cellOf_4 : decode cX0_cellOf 4 = .ok (.iload_n 1, 1) := by decide +kernel
theorem dX0_cellOf_5 : decode cX0_cellOf 5 = .ok (.iadd, 1) := by decide +kernel
theorem dX0_cellOf_6 : decode cX0_cellOf 6 = .ok (.ireturn, 1) := by decide +kernel
theorem dX0_hasHeard_0 : decode cX0_hasHeard 0 = .ok (.aload_n 0, 1) := by decide +kernel
theorem dX0_hasHeard_1 : decode cX0_hasHeard 1 = .ok (.getfield 54, 3) := by decide +kernel
theorem dX0_hasHeard_4 : decode cX0_hasHeard 4 = .ok (.iload_n 1, 1) := by decide +kernel
theorem dX0_hasHeard_5 : decode cX0_hasHeard 5 = .ok (.iload_n 2, 1) := by decide +kernel
theorem dX0_hasHeard_6 : decode cX0_hasHeard 6 = .ok (.invokestatic 180, 3) := by decide +kernel
theorem dX0_hasHeard_9 : decode cX0_hasHeard 9 = .ok (.invokevirtual 157, 3) := by decide +kernel
theorem dX0_hasHeard_12 : decode cX0_hasHeard 12 = .ok (.ifCond .le 7, 3) := by decide +kernel
theorem dX0_hasHeard_15 : decode cX0_hasHeard 15 = .ok (.iconst 1, 1) := by decide +kernel
theorem dX0_hasHeard_16 : decode cX0_hasHeard 16 = .ok (.goto 4, 3) := by decide +kernel
theorem dX0_hasHeard_19 : decode cX0_hasHeard 19 = .ok (.iconst 0, 1) := by decide +kernel
theorem dX0_hasHeard_20 : decode cX0_hasHeard 20 = .ok (.ireturn, 1) := by decide +kernel
theorem dX0_witnessHeardAt_0 : decode cX0_witnessHeardAt 0 = .ok (.aload_n 0, 1) := by decide +kernel
theorem dX0_witnessHeardAt_1 : decode cX0_witnessHeardAt 1 = .ok (.getfield 48, 3) := by decide +kernel
theorem dX0_witnessHeardAt_4 : decode cX0_witnessHeardAt 4 = .ok (.iload_n 1, 1) := by decide +kernel
theorem dX0_witnessHeardAt_5 : decode cX0_witnessHeardAt 5 = .ok (.bipush 6, 2) := by decide +kernel
theorem dX0_witnessHeardAt_7 : decode cX0_witnessHeardAt 7 = .ok (.imul, 1) := by decide +kernel
theorem dX0_witnessHeardAt_8 : decode cX0_witnessHeardAt 8 = .ok (.iload_n 2, 1) := by decide +kernel
theorem dX0_witnessHeardAt_9 : decode cX0_witnessHeardAt 9 = .ok (.iadd, 1) := by decide +kernel
theorem dX0_witnessHeardAt_10 : decode cX0_witnessHeardAt 10 = .ok (.invokevirtual 157, 3) := by decide +kernel
theorem dX0_witnessHeardAt_13 : decode cX0_witnessHeardAt 13 = .ok (.ireturn, 1) := by decide +kernel
theorem dX0_sideOf_0 : decode cX0_sideOf 0 = .ok (.aload_n 0, 1) := by decide +kernel
theorem dX0_sideOf_1 : decode cX0_sideOf 1 = .ok (.getfield 51, 3) := by decide +kernel
theorem dX0_sideOf_4 : decode cX0_sideOf 4 = .ok (.iload_n 1, 1) := by decide +kernel
theorem dX0_sideOf_5 : decode cX0_sideOf 5 = .ok (.iload_n 2, 1) := by decide +kernel
theorem dX0_sideOf_6 : decode cX0_sideOf 6 = .ok (.invokestatic 180, 3) := by decide +kernel
theorem dX0_sideOf_9 : decode cX0_sideOf 9 = .ok (.invokevirtual 157, 3) := by decide +kernel
theorem dX0_sideOf_12 : decode cX0_sideOf 12 = .ok (.ireturn, 1) := by decide +kernel
theorem dX0_strengthOf_0 : decode cX0_strengthOf 0 = .ok (.aload_n 0, 1) := by decide +kernel
theorem dX0_strengthOf_1 : decode cX0_strengthOf 1 = .ok (.getfield 54, 3) := by decide +kernel
theorem dX0_strengthOf_4 : decode cX0_strengthOf 4 = .ok (.iload_n 1, 1) := by decide +kernel
theorem dX0_strengthOf_5 : decode cX0_strengthOf 5 = .ok (.iload_n 2, 1) := by decide +kernel
theorem dX0_strengthOf_6 : decode cX0_strengthOf 6 = .ok (.invokestatic 180, 3) := by decide +kernel
theorem dX0_strengthOf_9 : decode cX0_strengthOf 9 = .ok (.invokevirtual 157, 3) := by decide +kernel
theorem dX0_strengthOf_12 : decode cX0_strengthOf 12 = .ok (.ireturn, 1) := by decide +kernel
theorem dX0_weightOf_0 : decode cX0_weightOf 0 = .ok (.aload_n 0, 1) := by decide +kernel
theorem dX0_weightOf_1 : decode cX0_weightOf 1 = .ok (.getfield 54, 3) := by decide +kernel
theorem dX0_weightOf_4 : decode cX0_weightOf 4 = .ok (.iload_n 1, 1) := by decide +kernel
theorem dX0_weightOf_5 : decode cX0_weightOf 5 = .ok (.iload_n 2, 1) := by decide +kernel
theorem dX0_weightOf_6 : decode cX0_weightOf 6 = .ok (.invokestatic 180, 3) := by decide +kernel
theorem dX0_weightOf_9 : decode cX0_weightOf 9 = .ok (.invokevirtual 157, 3) := by decide +kernel
theorem dX0_weightOf_12 : decode cX0_weightOf 12 = .ok (.aload_n 0, 1) := by decide +kernel
theorem dX0_weightOf_13 : decode cX0_weightOf 13 = .ok (.getfield 60, 3) := by decide +kernel
theorem dX0_weightOf_16 : decode cX0_weightOf 16 = .ok (.iload_n 2, 1) := by decide +kernel
theorem dX0_weightOf_17 : decode cX0_weightOf 17 = .ok (.invokevirtual 157, 3) := by decide +kernel
theorem dX0_weightOf_20 : decode cX0_weightOf 20 = .ok (.imul, 1) := by decide +kernel
theorem dX0_weightOf_21 : decode cX0_weightOf 21 = .ok (.ireturn, 1) := by decide +kernel
theorem dX0_questionsTo_0 : decode cX0_questionsTo 0 = .ok (.aload_n 0, 1) := by decide +kernel
theorem dX0_questionsTo_1 : decode cX0_questionsTo 1 = .ok (.getfield 57, 3) := by decide +kernel
theorem dX0_questionsTo_4 : decode cX0_questionsTo 4 = .ok (.iload_n 1, 1) := by decide +kernel
theorem dX0_questionsTo_5 : decode cX0_questionsTo 5 = .ok (.iload_n 2, 1) := by decide +kernel
theorem dX0_questionsTo_6 : decode cX0_questionsTo 6 = .ok (.invokestatic 180, 3) := by decide +kernel
theorem dX0_questionsTo_9 : decode cX0_questionsTo 9 = .ok (.invokevirtual 157, 3) := by decide +kernel
theorem dX0_questionsTo_12 : decode cX0_questionsTo 12 = .ok (.ireturn, 1) := by decide +kernel
theorem dX0_casesHearing_0 : decode cX0_casesHearing 0 = .ok (.iconst 0, 1) := by decide +kernel
theorem dX0_casesHearing_1 : decode cX0_casesHearing 1 = .ok (.istore_n 2, 1) := by decide +kernel
theorem dX0_casesHearing_2 : decode cX0_casesHearing 2 = .ok (.iconst 0, 1) := by decide +kernel
theorem dX0_casesHearing_3 : decode cX0_casesHearing 3 = .ok (.istore_n 3, 1) := by decide +kernel
theorem dX0_casesHearing_4 : decode cX0_casesHearing 4 = .ok (.iload_n 3, 1) := by decide +kernel
theorem dX0_casesHearing_5 : decode cX0_casesHearing 5 = .ok (.aload_n 0, 1) := by decide +kernel
theorem dX0_casesHearing_6 : decode cX0_casesHearing 6 = .ok (.getfield 9, 3) := by decide +kernel
theorem dX0_casesHearing_9 : decode cX0_casesHearing 9 = .ok (.if_icmp .ge 21, 3) := by decide +kernel
theorem dX0_casesHearing_12 : decode cX0_casesHearing 12 = .ok (.aload_n 0, 1) := by decide +kernel
theorem dX0_casesHearing_13 : decode cX0_casesHearing 13 = .ok (.iload_n 3, 1) := by decide +kernel
theorem dX0_casesHearing_14 : decode cX0_casesHearing 14 = .ok (.iload_n 1, 1) := by decide +kernel
theorem dX0_casesHearing_15 : decode cX0_casesHearing 15 = .ok (.invokevirtual 164, 3) := by decide +kernel
theorem dX0_casesHearing_18 : decode cX0_casesHearing 18 = .ok (.ifCond .eq 6, 3) := by decide +kernel
theorem dX0_casesHearing_21 : decode cX0_casesHearing 21 = .ok (.iinc 2 1, 3) := by decide +kernel
theorem dX0_casesHearing_24 : decode cX0_casesHearing 24 = .ok (.iinc 3 1, 3) := by decide +kernel
theorem dX0_casesHearing_27 : decode cX0_casesHearing 27 = .ok (.goto (-23), 3) := by decide +kernel
theorem dX0_casesHearing_30 : decode cX0_casesHearing 30 = .ok (.iload_n 2, 1) := by decide +kernel
theorem dX0_casesHearing_31 : decode cX0_casesHearing 31 = .ok (.ireturn, 1) := by decide +kernel
theorem dX0_agreementOf_0 : decode cX0_agreementOf 0 = .ok (.iconst 0, 1) := by decide +kernel
theorem dX0_agreementOf_1 : decode cX0_agreementOf 1 = .ok (.istore_n 3, 1) := by decide +kernel
theorem dX0_agreementOf_2 : decode cX0_agreementOf 2 = .ok (.iconst 0, 1) := by decide +kernel
theorem dX0_agreementOf_3 : decode cX0_agreementOf 3 = .ok (.istore 4, 2) := by decide +kernel
theorem dX0_agreementOf_5 : decode cX0_agreementOf 5 = .ok (.iload 4, 2) := by decide +kernel
theorem dX0_agreementOf_7 : decode cX0_agreementOf 7 = .ok (.aload_n 0, 1) := by decide +kernel
theorem dX0_agreementOf_8 : decode cX0_agreementOf 8 = .ok (.getfield 9, 3) := by decide +kernel
theorem dX0_agreementOf_11 : decode cX0_agreementOf 11 = .ok (.if_icmp .ge 27, 3) := by decide +kernel
theorem dX0_agreementOf_14 : decode cX0_agreementOf 14 = .ok (.iload_n 3, 1) := by decide +kernel
theorem dX0_agreementOf_15 : decode cX0_agreementOf 15 = .ok (.aload_n 0, 1) := by decide +kernel
theorem dX0_agreementOf_16 : decode cX0_agreementOf 16 = .ok (.iload 4, 2) := by decide +kernel
theorem dX0_agreementOf_18 : decode cX0_agreementOf 18 = .ok (.iload_n 1, 1) := by decide +kernel
theorem dX0_agreementOf_19 : decode cX0_agreementOf 19 = .ok (.invokevirtual 215, 3) := by decide +kernel
theorem dX0_agreementOf_22 : decode cX0_agreementOf 22 = .ok (.aload_n 0, 1) := by decide +kernel
theorem dX0_agreementOf_23 : decode cX0_agreementOf 23 = .ok (.iload 4, 2) := by decide +kernel
theorem dX0_agreementOf_25 : decode cX0_agreementOf 25 = .ok (.iload_n 2, 1) := by decide +kernel
theorem dX0_agreementOf_26 : decode cX0_agreementOf 26 = .ok (.invokevirtual 215, 3) := by decide +kernel
theorem dX0_agreementOf_29 : decode cX0_agreementOf 29 = .ok (.imul, 1) := by decide +kernel
theorem dX0_agreementOf_30 : decode cX0_agreementOf 30 = .ok (.iadd, 1) := by decide +kernel
theorem dX0_agreementOf_31 : decode cX0_agreementOf 31 = .ok (.istore_n 3, 1) := by decide +kernel
theorem dX0_agreementOf_32 : decode cX0_agreementOf 32 = .ok (.iinc 4 1, 3) := by decide +kernel
theorem dX0_agreementOf_35 : decode cX0_agreementOf 35 = .ok (.goto (-30), 3) := by decide +kernel
theorem dX0_agreementOf_38 : decode cX0_agreementOf 38 = .ok (.iload_n 3, 1) := by decide +kernel
theorem dX0_agreementOf_39 : decode cX0_agreementOf 39 = .ok (.ireturn, 1) := by decide +kernel
theorem dX0_witnessOfRank_0 : decode cX0_witnessOfRank 0 = .ok (.iconst 0, 1) := by decide +kernel
theorem dX0_witnessOfRank_1 : decode cX0_witnessOfRank 1 = .ok (.istore_n 2, 1) := by decide +kernel
theorem dX0_witnessOfRank_2 : decode cX0_witnessOfRank 2 = .ok (.iload_n 2, 1) := by decide +kernel
theorem dX0_witnessOfRank_3 : decode cX0_witnessOfRank 3 = .ok (.aload_n 0, 1) := by decide +kernel
theorem dX0_witnessOfRank_4 : decode cX0_witnessOfRank 4 = .ok (.getfield 15, 3) := by decide +kernel
theorem dX0_witnessOfRank_7 : decode cX0_witnessOfRank 7 = .ok (.if_icmp .ge 20, 3) := by decide +kernel
theorem dX0_witnessOfRank_10 : decode cX0_witnessOfRank 10 = .ok (.aload_n 0, 1) := by decide +kernel
theorem dX0_witnessOfRank_11 : decode cX0_witnessOfRank 11 = .ok (.iload_n 2, 1) := by decide +kernel
theorem dX0_witnessOfRank_12 : decode cX0_witnessOfRank 12 = .ok (.invokevirtual 218, 3) := by decide +kernel
theorem dX0_witnessOfRank_15 : decode cX0_witnessOfRank 15 = .ok (.iload_n 1, 1) := by decide +kernel
theorem dX0_witnessOfRank_16 : decode cX0_witnessOfRank 16 = .ok (.if_icmp .ne 5, 3) := by decide +kernel
theorem dX0_witnessOfRank_19 : decode cX0_witnessOfRank 19 = .ok (.iload_n 2, 1) := by decide +kernel
theorem dX0_witnessOfRank_20 : decode cX0_witnessOfRank 20 = .ok (.ireturn, 1) := by decide +kernel
theorem dX0_witnessOfRank_21 : decode cX0_witnessOfRank 21 = .ok (.iinc 2 1, 3) := by decide +kernel
theorem dX0_witnessOfRank_24 : decode cX0_witnessOfRank 24 = .ok (.goto (-22), 3) := by decide +kernel
theorem dX0_witnessOfRank_27 : decode cX0_witnessOfRank 27 = .ok (.iconst (-1), 1) := by decide +kernel
theorem dX0_witnessOfRank_28 : decode cX0_witnessOfRank 28 = .ok (.ireturn, 1) := by decide +kernel
theorem dX0_rankOf_0 : decode cX0_rankOf 0 = .ok (.iconst 0, 1) := by decide +kernel
theorem dX0_rankOf_1 : decode cX0_rankOf 1 = .ok (.istore_n 2, 1) := by decide +kernel
theorem dX0_rankOf_2 : decode cX0_rankOf 2 = .ok (.iconst 0, 1) := by decide +kernel
theorem dX0_rankOf_3 : decode cX0_rankOf 3 = .ok (.istore_n 3, 1) := by decide +kernel
theorem dX0_rankOf_4 : decode cX0_rankOf 4 = .ok (.iload_n 3, 1) := by decide +kernel
theorem dX0_rankOf_5 : decode cX0_rankOf 5 = .ok (.aload_n 0, 1) := by decide +kernel
theorem dX0_rankOf_6 : decode cX0_rankOf 6 = .ok (.getfield 15, 3) := by decide +kernel
theorem dX0_rankOf_9 : decode cX0_rankOf 9 = .ok (.if_icmp .ge 21, 3) := by decide +kernel
theorem dX0_rankOf_12 : decode cX0_rankOf 12 = .ok (.aload_n 0, 1) := by decide +kernel
theorem dX0_rankOf_13 : decode cX0_rankOf 13 = .ok (.iload_n 3, 1) := by decide +kernel
theorem dX0_rankOf_14 : decode cX0_rankOf 14 = .ok (.iload_n 1, 1) := by decide +kernel
theorem dX0_rankOf_15 : decode cX0_rankOf 15 = .ok (.invokevirtual 221, 3) := by decide +kernel
theorem dX0_rankOf_18 : decode cX0_rankOf 18 = .ok (.ifCond .eq 6, 3) := by decide +kernel
theorem dX0_rankOf_21 : decode cX0_rankOf 21 = .ok (.iinc 2 1, 3) := by decide +kernel
theorem dX0_rankOf_24 : decode cX0_rankOf 24 = .ok (.iinc 3 1, 3) := by decide +kernel
theorem dX0_rankOf_27 : decode cX0_rankOf 27 = .ok (.goto (-23), 3) := by decide +kernel
theorem dX0_rankOf_30 : decode cX0_rankOf 30 = .ok (.iload_n 2, 1) := by decide +kernel
theorem dX0_rankOf_31 : decode cX0_rankOf 31 = .ok (.ireturn, 1) := by decide +kernel
theorem dX0_isMoreCredible_0 : decode cX0_isMoreCredible 0 = .ok (.aload_n 0, 1) := by decide +kernel
theorem dX0_isMoreCredible_1 : decode cX0_isMoreCredible 1 = .ok (.getfield 60, 3) := by decide +kernel
theorem dX0_isMoreCredible_4 : decode cX0_isMoreCredible 4 = .ok (.iload_n 1, 1) := by decide +kernel
theorem dX0_isMoreCredible_5 : decode cX0_isMoreCredible 5 = .ok (.invokevirtual 157, 3) := by decide +kernel
theorem dX0_isMoreCredible_8 : decode cX0_isMoreCredible 8 = .ok (.aload_n 0, 1) := by decide +kernel
theorem dX0_isMoreCredible_9 : decode cX0_isMoreCredible 9 = .ok (.getfield 60, 3) := by decide +kernel
theorem dX0_isMoreCredible_12 : decode cX0_isMoreCredible 12 = .ok (.iload_n 2, 1) := by decide +kernel
theorem dX0_isMoreCredible_13 : decode cX0_isMoreCredible 13 = .ok (.invokevirtual 157, 3) := by decide +kernel
theorem dX0_isMoreCredible_16 : decode cX0_isMoreCredible 16 = .ok (.if_icmp .eq 28, 3) := by decide +kernel
theorem dX0_isMoreCredible_19 : decode cX0_isMoreCredible 19 = .ok (.aload_n 0, 1) := by decide +kernel
theorem dX0_isMoreCredible_20 : decode cX0_isMoreCredible 20 = .ok (.getfield 60, 3) := by decide +kernel
theorem dX0_isMoreCredible_23 : decode cX0_isMoreCredible 23 = .ok (.iload_n 1, 1) := by decide +kernel
theorem dX0_isMoreCredible_24 : decode cX0_isMoreCredible 24 = .ok (.invokevirtual 157, 3) := by decide +kernel
theorem dX0_isMoreCredible_27 : decode cX0_isMoreCredible 27 = .ok (.aload_n 0, 1) := by decide +kernel
theorem dX0_isMoreCredible_28 : decode cX0_isMoreCredible 28 = .ok (.getfield 60, 3) := by decide +kernel
theorem dX0_isMoreCredible_31 : decode cX0_isMoreCredible 31 = .ok (.iload_n 2, 1) := by decide +kernel
theorem dX0_isMoreCredible_32 : decode cX0_isMoreCredible 32 = .ok (.invokevirtual 157, 3) := by decide +kernel
theorem dX0_isMoreCredible_35 : decode cX0_isMoreCredible 35 = .ok (.if_icmp .le 7, 3) := by decide +kernel
theorem dX0_isMoreCredible_38 : decode cX0_isMoreCredible 38 = .ok (.iconst 1, 1) := by decide +kernel
theorem dX0_isMoreCredible_39 : decode cX0_isMoreCredible 39 = .ok (.goto 4, 3) := by decide +kernel
theorem dX0_isMoreCredible_42 : decode cX0_isMoreCredible 42 = .ok (.iconst 0, 1) := by decide +kernel
theorem dX0_isMoreCredible_43 : decode cX0_isMoreCredible 43 = .ok (.ireturn, 1) := by decide +kernel
theorem dX0_isMoreCredible_44 : decode cX0_isMoreCredible 44 = .ok (.aload_n 0, 1) := by decide +kernel
theorem dX0_isMoreCredible_45 : decode cX0_isMoreCredible 45 = .ok (.iload_n 1, 1) := by decide +kernel
theorem dX0_isMoreCredible_46 : decode cX0_isMoreCredible 46 = .ok (.invokevirtual 224, 3) := by decide +kernel
theorem dX0_isMoreCredible_49 : decode cX0_isMoreCredible 49 = .ok (.istore_n 3, 1) := by decide +kernel
theorem dX0_isMoreCredible_50 : decode cX0_isMoreCredible 50 = .ok (.aload_n 0, 1) := by decide +kernel
theorem dX0_isMoreCredible_51 : decode cX0_isMoreCredible 51 = .ok (.iload_n 2, 1) := by decide +kernel
theorem dX0_isMoreCredible_52 : decode cX0_isMoreCredible 52 = .ok (.invokevirtual 224, 3) := by decide +kernel
theorem dX0_isMoreCredible_55 : decode cX0_isMoreCredible 55 = .ok (.istore 4, 2) := by decide +kernel
theorem dX0_isMoreCredible_57 : decode cX0_isMoreCredible 57 = .ok (.iload_n 3, 1) := by decide +kernel
theorem dX0_isMoreCredible_58 : decode cX0_isMoreCredible 58 = .ok (.iload 4, 2) := by decide +kernel
theorem dX0_isMoreCredible_60 : decode cX0_isMoreCredible 60 = .ok (.if_icmp .eq 17, 3) := by decide +kernel
theorem dX0_isMoreCredible_63 : decode cX0_isMoreCredible 63 = .ok (.iload_n 3, 1) := by decide +kernel
theorem dX0_isMoreCredible_64 : decode cX0_isMoreCredible 64 = .ok (.iload 4, 2) := by decide +kernel
theorem dX0_isMoreCredible_66 : decode cX0_isMoreCredible 66 = .ok (.if_icmp .le 7, 3) := by decide +kernel
theorem dX0_isMoreCredible_69 : decode cX0_isMoreCredible 69 = .ok (.iconst 1, 1) := by decide +kernel
theorem dX0_isMoreCredible_70 : decode cX0_isMoreCredible 70 = .ok (.goto 17, 3) := by decide +kernel
theorem dX0_isMoreCredible_73 : decode cX0_isMoreCredible 73 = .ok (.iconst 0, 1) := by decide +kernel
theorem dX0_isMoreCredible_74 : decode cX0_isMoreCredible 74 = .ok (.goto 13, 3) := by decide +kernel
theorem dX0_isMoreCredible_77 : decode cX0_isMoreCredible 77 = .ok (.iload_n 1, 1) := by decide +kernel
theorem dX0_isMoreCredible_78 : decode cX0_isMoreCredible 78 = .ok (.iload_n 2, 1) := by decide +kernel
theorem dX0_isMoreCredible_79 : decode cX0_isMoreCredible 79 = .ok (.if_icmp .ge 7, 3) := by decide +kernel
theorem dX0_isMoreCredible_82 : decode cX0_isMoreCredible 82 = .ok (.iconst 1, 1) := by decide +kernel
theorem dX0_isMoreCredible_83 : decode cX0_isMoreCredible 83 = .ok (.goto 4, 3) := by decide +kernel
theorem dX0_isMoreCredible_86 : decode cX0_isMoreCredible 86 = .ok (.iconst 0, 1) := by decide +kernel
theorem dX0_isMoreCredible_87 : decode cX0_isMoreCredible 87 = .ok (.ireturn, 1) := by decide +kernel
theorem dX0_credibilitySum_0 : decode cX0_credibilitySum 0 = .ok (.iconst 0, 1) := by decide +kernel
theorem dX0_credibilitySum_1 : decode cX0_credibilitySum 1 = .ok (.istore_n 1, 1) := by decide +kernel
theorem dX0_credibilitySum_2 : decode cX0_credibilitySum 2 = .ok (.iconst 0, 1) := by decide +kernel
theorem dX0_credibilitySum_3 : decode cX0_credibilitySum 3 = .ok (.istore_n 2, 1) := by decide +kernel
theorem dX0_credibilitySum_4 : decode cX0_credibilitySum 4 = .ok (.iload_n 2, 1) := by decide +kernel
theorem dX0_credibilitySum_5 : decode cX0_credibilitySum 5 = .ok (.aload_n 0, 1) := by decide +kernel
theorem dX0_credibilitySum_6 : decode cX0_credibilitySum 6 = .ok (.getfield 15, 3) := by decide +kernel
theorem dX0_credibilitySum_9 : decode cX0_credibilitySum 9 = .ok (.if_icmp .ge 20, 3) := by decide +kernel
theorem dX0_credibilitySum_12 : decode cX0_credibilitySum 12 = .ok (.iload_n 1, 1) := by decide +kernel
theorem dX0_credibilitySum_13 : decode cX0_credibilitySum 13 = .ok (.aload_n 0, 1) := by decide +kernel
theorem dX0_credibilitySum_14 : decode cX0_credibilitySum 14 = .ok (.getfield 60, 3) := by decide +kernel
theorem dX0_credibilitySum_17 : decode cX0_credibilitySum 17 = .ok (.iload_n 2, 1) := by decide +kernel
theorem dX0_credibilitySum_18 : decode cX0_credibilitySum 18 = .ok (.invokevirtual 157, 3) := by decide +kernel
theorem dX0_credibilitySum_21 : decode cX0_credibilitySum 21 = .ok (.iadd, 1) := by decide +kernel
theorem dX0_credibilitySum_22 : decode cX0_credibilitySum 22 = .ok (.istore_n 1, 1) := by decide +kernel
theorem dX0_credibilitySum_23 : decode cX0_credibilitySum 23 = .ok (.iinc 2 1, 3) := by decide +kernel
theorem dX0_credibilitySum_26 : decode cX0_credibilitySum 26 = .ok (.goto (-22), 3) := by decide +kernel
theorem dX0_credibilitySum_29 : decode cX0_credibilitySum 29 = .ok (.iload_n 1, 1) := by decide +kernel
theorem dX0_credibilitySum_30 : decode cX0_credibilitySum 30 = .ok (.ireturn, 1) := by decide +kernel
theorem dX0_addedSentence_0 : decode cX0_addedSentence 0 = .ok (.iconst 0, 1) := by decide +kernel
theorem dX0_addedSentence_1 : decode cX0_addedSentence 1 = .ok (.istore_n 2, 1) := by decide +kernel
theorem dX0_addedSentence_2 : decode cX0_addedSentence 2 = .ok (.iconst 0, 1) := by decide +kernel
theorem dX0_addedSentence_3 : decode cX0_addedSentence 3 = .ok (.istore_n 3, 1) := by decide +kernel
theorem dX0_addedSentence_4 : decode cX0_addedSentence 4 = .ok (.iload_n 3, 1) := by decide +kernel
theorem dX0_addedSentence_5 : decode cX0_addedSentence 5 = .ok (.aload_n 0, 1) := by decide +kernel
theorem dX0_addedSentence_6 : decode cX0_addedSentence 6 = .ok (.getfield 9, 3) := by decide +kernel
theorem dX0_addedSentence_9 : decode cX0_addedSentence 9 = .ok (.if_icmp .ge 37, 3) := by decide +kernel
theorem dX0_addedSentence_12 : decode cX0_addedSentence 12 = .ok (.aload_n 0, 1) := by decide +kernel
theorem dX0_addedSentence_13 : decode cX0_addedSentence 13 = .ok (.getfield 29, 3) := by decide +kernel
theorem dX0_addedSentence_16 : decode cX0_addedSentence 16 = .ok (.iload_n 3, 1) := by decide +kernel
theorem dX0_addedSentence_17 : decode cX0_addedSentence 17 = .ok (.invokevirtual 157, 3) := by decide +kernel
theorem dX0_addedSentence_20 : decode cX0_addedSentence 20 = .ok (.iload_n 1, 1) := by decide +kernel
theorem dX0_addedSentence_21 : decode cX0_addedSentence 21 = .ok (.if_icmp .ne 19, 3) := by decide +kernel
theorem dX0_addedSentence_24 : decode cX0_addedSentence 24 = .ok (.aload_n 0, 1) := by decide +kernel
theorem dX0_addedSentence_25 : decode cX0_addedSentence 25 = .ok (.iload_n 3, 1) := by decide +kernel
theorem dX0_addedSentence_26 : decode cX0_addedSentence 26 = .ok (.invokevirtual 209, 3) := by decide +kernel
theorem dX0_addedSentence_29 : decode cX0_addedSentence 29 = .ok (.ifCond .eq 11, 3) := by decide +kernel
theorem dX0_addedSentence_32 : decode cX0_addedSentence 32 = .ok (.iload_n 2, 1) := by decide +kernel
theorem dX0_addedSentence_33 : decode cX0_addedSentence 33 = .ok (.aload_n 0, 1) := by decide +kernel
theorem dX0_addedSentence_34 : decode cX0_addedSentence 34 = .ok (.iload_n 3, 1) := by decide +kernel
theorem dX0_addedSentence_35 : decode cX0_addedSentence 35 = .ok (.invokevirtual 206, 3) := by decide +kernel
theorem dX0_addedSentence_38 : decode cX0_addedSentence 38 = .ok (.iadd, 1) := by decide +kernel
theorem dX0_addedSentence_39 : decode cX0_addedSentence 39 = .ok (.istore_n 2, 1) := by decide +kernel
theorem dX0_addedSentence_40 : decode cX0_addedSentence 40 = .ok (.iinc 3 1, 3) := by decide +kernel
theorem dX0_addedSentence_43 : decode cX0_addedSentence 43 = .ok (.goto (-39), 3) := by decide +kernel
theorem dX0_addedSentence_46 : decode cX0_addedSentence 46 = .ok (.iload_n 2, 1) := by decide +kernel
theorem dX0_addedSentence_47 : decode cX0_addedSentence 47 = .ok (.ireturn, 1) := by decide +kernel
theorem dX0_countIn_0 : decode cX0_countIn 0 = .ok (.iconst 0, 1) := by decide +kernel
theorem dX0_countIn_1 : decode cX0_countIn 1 = .ok (.istore_n 2, 1) := by decide +kernel
theorem dX0_countIn_2 : decode cX0_countIn 2 = .ok (.iconst 0, 1) := by decide +kernel
theorem dX0_countIn_3 : decode cX0_countIn 3 = .ok (.istore_n 3, 1) := by decide +kernel
theorem dX0_countIn_4 : decode cX0_countIn 4 = .ok (.iload_n 3, 1) := by decide +kernel
theorem dX0_countIn_5 : decode cX0_countIn 5 = .ok (.aload_n 0, 1) := by decide +kernel
theorem dX0_countIn_6 : decode cX0_countIn 6 = .ok (.getfield 9, 3) := by decide +kernel
theorem dX0_countIn_9 : decode cX0_countIn 9 = .ok (.if_icmp .ge 21, 3) := by decide +kernel
theorem dX0_countIn_12 : decode cX0_countIn 12 = .ok (.aload_n 0, 1) := by decide +kernel
theorem dX0_countIn_13 : decode cX0_countIn 13 = .ok (.iload_n 1, 1) := by decide +kernel
theorem dX0_countIn_14 : decode cX0_countIn 14 = .ok (.iload_n 3, 1) := by decide +kernel
theorem dX0_countIn_15 : decode cX0_countIn 15 = .ok (.invokevirtual 160, 3) := by decide +kernel
theorem dX0_countIn_18 : decode cX0_countIn 18 = .ok (.ifCond .eq 6, 3) := by decide +kernel
theorem dX0_countIn_21 : decode cX0_countIn 21 = .ok (.iinc 2 1, 3) := by decide +kernel
theorem dX0_countIn_24 : decode cX0_countIn 24 = .ok (.iinc 3 1, 3) := by decide +kernel
theorem dX0_countIn_27 : decode cX0_countIn 27 = .ok (.goto (-23), 3) := by decide +kernel
theorem dX0_countIn_30 : decode cX0_countIn 30 = .ok (.iload_n 2, 1) := by decide +kernel
theorem dX0_countIn_31 : decode cX0_countIn 31 = .ok (.ireturn, 1) := by decide +kernel
theorem dX0_countGuilty_0 : decode cX0_countGuilty 0 = .ok (.iconst 0, 1) := by decide +kernel
theorem dX0_countGuilty_1 : decode cX0_countGuilty 1 = .ok (.istore_n 1, 1) := by decide +kernel
theorem dX0_countGuilty_2 : decode cX0_countGuilty 2 = .ok (.iconst 0, 1) := by decide +kernel
theorem dX0_countGuilty_3 : decode cX0_countGuilty 3 = .ok (.istore_n 2, 1) := by decide +kernel
theorem dX0_countGuilty_4 : decode cX0_countGuilty 4 = .ok (.iload_n 2, 1) := by decide +kernel
theorem dX0_countGuilty_5 : decode cX0_countGuilty 5 = .ok (.aload_n 0, 1) := by decide +kernel
theorem dX0_countGuilty_6 : decode cX0_countGuilty 6 = .ok (.getfield 9, 3) := by decide +kernel
theorem dX0_countGuilty_9 : decode cX0_countGuilty 9 = .ok (.if_icmp .ge 20, 3) := by decide +kernel
theorem dX0_countGuilty_12 : decode cX0_countGuilty 12 = .ok (.aload_n 0, 1) := by decide +kernel
theorem dX0_countGuilty_13 : decode cX0_countGuilty 13 = .ok (.iload_n 2, 1) := by decide +kernel
theorem dX0_countGuilty_14 : decode cX0_countGuilty 14 = .ok (.invokevirtual 209, 3) := by decide +kernel
theorem dX0_countGuilty_17 : decode cX0_countGuilty 17 = .ok (.ifCond .eq 6, 3) := by decide +kernel
theorem dX0_countGuilty_20 : decode cX0_countGuilty 20 = .ok (.iinc 1 1, 3) := by decide +kernel
theorem dX0_countGuilty_23 : decode cX0_countGuilty 23 = .ok (.iinc 2 1, 3) := by decide +kernel
theorem dX0_countGuilty_26 : decode cX0_countGuilty 26 = .ok (.goto (-22), 3) := by decide +kernel
theorem dX0_countGuilty_29 : decode cX0_countGuilty 29 = .ok (.iload_n 1, 1) := by decide +kernel
theorem dX0_countGuilty_30 : decode cX0_countGuilty 30 = .ok (.ireturn, 1) := by decide +kernel
theorem dX0_openCasesBefore_0 : decode cX0_openCasesBefore 0 = .ok (.iconst 0, 1) := by decide +kernel
theorem dX0_openCasesBefore_1 : decode cX0_openCasesBefore 1 = .ok (.istore_n 2, 1) := by decide +kernel
theorem dX0_openCasesBefore_2 : decode cX0_openCasesBefore 2 = .ok (.iconst 0, 1) := by decide +kernel
theorem dX0_openCasesBefore_3 : decode cX0_openCasesBefore 3 = .ok (.istore_n 3, 1) := by decide +kernel
theorem dX0_openCasesBefore_4 : decode cX0_openCasesBefore 4 = .ok (.iload_n 3, 1) := by decide +kernel
theorem dX0_openCasesBefore_5 : decode cX0_openCasesBefore 5 = .ok (.aload_n 0, 1) := by decide +kernel
theorem dX0_openCasesBefore_6 : decode cX0_openCasesBefore 6 = .ok (.getfield 9, 3) := by decide +kernel
theorem dX0_openCasesBefore_9 : decode cX0_openCasesBefore 9 = .ok (.if_icmp .ge 30, 3) := by decide +kernel
theorem dX0_openCasesBefore_12 : decode cX0_openCasesBefore 12 = .ok (.aload_n 0, 1) := by decide +kernel
theorem dX0_openCasesBefore_13 : decode cX0_openCasesBefore 13 = .ok (.iconst 0, 1) := by decide +kernel
theorem dX0_openCasesBefore_14 : decode cX0_openCasesBefore 14 = .ok (.iload_n 3, 1) := by decide +kernel
theorem dX0_openCasesBefore_15 : decode cX0_openCasesBefore 15 = .ok (.invokevirtual 160, 3) := by decide +kernel
theorem dX0_openCasesBefore_18 : decode cX0_openCasesBefore 18 = .ok (.ifCond .eq 15, 3) := by decide +kernel
theorem dX0_openCasesBefore_21 : decode cX0_openCasesBefore 21 = .ok (.aload_n 0, 1) := by decide +kernel
theorem dX0_openCasesBefore_22 : decode cX0_openCasesBefore 22 = .ok (.iload_n 3, 1) := by decide +kernel
theorem dX0_openCasesBefore_23 : decode cX0_openCasesBefore 23 = .ok (.iload_n 1, 1) := by decide +kernel
theorem dX0_openCasesBefore_24 : decode cX0_openCasesBefore 24 = .ok (.invokevirtual 227, 3) := by decide +kernel
theorem dX0_openCasesBefore_27 : decode cX0_openCasesBefore 27 = .ok (.ifCond .eq 6, 3) := by decide +kernel
theorem dX0_openCasesBefore_30 : decode cX0_openCasesBefore 30 = .ok (.iinc 2 1, 3) := by decide +kernel
theorem dX0_openCasesBefore_33 : decode cX0_openCasesBefore 33 = .ok (.iinc 3 1, 3) := by decide +kernel
theorem dX0_openCasesBefore_36 : decode cX0_openCasesBefore 36 = .ok (.goto (-32), 3) := by decide +kernel
theorem dX0_openCasesBefore_39 : decode cX0_openCasesBefore 39 = .ok (.iload_n 2, 1) := by decide +kernel
theorem dX0_openCasesBefore_40 : decode cX0_openCasesBefore 40 = .ok (.ireturn, 1) := by decide +kernel
theorem dX0_comesBefore_0 : decode cX0_comesBefore 0 = .ok (.aload_n 0, 1) := by decide +kernel
theorem dX0_comesBefore_1 : decode cX0_comesBefore 1 = .ok (.getfield 33, 3) := by decide +kernel
theorem dX0_comesBefore_4 : decode cX0_comesBefore 4 = .ok (.iload_n 1, 1) := by decide +kernel
theorem dX0_comesBefore_5 : decode cX0_comesBefore 5 = .ok (.invokevirtual 157, 3) := by decide +kernel
theorem dX0_comesBefore_8 : decode cX0_comesBefore 8 = .ok (.aload_n 0, 1) := by decide +kernel
theorem dX0_comesBefore_9 : decode cX0_comesBefore 9 = .ok (.getfield 33, 3) := by decide +kernel
theorem dX0_comesBefore_12 : decode cX0_comesBefore 12 = .ok (.iload_n 2, 1) := by decide +kernel
theorem dX0_comesBefore_13 : decode cX0_comesBefore 13 = .ok (.invokevirtual 157, 3) := by decide +kernel
theorem dX0_comesBefore_16 : decode cX0_comesBefore 16 = .ok (.if_icmp .eq 28, 3) := by decide +kernel
theorem dX0_comesBefore_19 : decode cX0_comesBefore 19 = .ok (.aload_n 0, 1) := by decide +kernel
theorem dX0_comesBefore_20 : decode cX0_comesBefore 20 = .ok (.getfield 33, 3) := by decide +kernel
theorem dX0_comesBefore_23 : decode cX0_comesBefore 23 = .ok (.iload_n 1, 1) := by decide +kernel
theorem dX0_comesBefore_24 : decode cX0_comesBefore 24 = .ok (.invokevirtual 157, 3) := by decide +kernel
theorem dX0_comesBefore_27 : decode cX0_comesBefore 27 = .ok (.aload_n 0, 1) := by decide +kernel
theorem dX0_comesBefore_28 : decode cX0_comesBefore 28 = .ok (.getfield 33, 3) := by decide +kernel
theorem dX0_comesBefore_31 : decode cX0_comesBefore 31 = .ok (.iload_n 2, 1) := by decide +kernel
theorem dX0_comesBefore_32 : decode cX0_comesBefore 32 = .ok (.invokevirtual 157, 3) := by decide +kernel
theorem dX0_comesBefore_35 : decode cX0_comesBefore 35 = .ok (.if_icmp .le 7, 3) := by decide +kernel
theorem dX0_comesBefore_38 : decode cX0_comesBefore 38 = .ok (.iconst 1, 1) := by decide +kernel
theorem dX0_comesBefore_39 : decode cX0_comesBefore 39 = .ok (.goto 4, 3) := by decide +kernel
theorem dX0_comesBefore_42 : decode cX0_comesBefore 42 = .ok (.iconst 0, 1) := by decide +kernel
theorem dX0_comesBefore_43 : decode cX0_comesBefore 43 = .ok (.ireturn, 1) := by decide +kernel
theorem dX0_comesBefore_44 : decode cX0_comesBefore 44 = .ok (.aload_n 0, 1) := by decide +kernel
theorem dX0_comesBefore_45 : decode cX0_comesBefore 45 = .ok (.getfield 45, 3) := by decide +kernel
theorem dX0_comesBefore_48 : decode cX0_comesBefore 48 = .ok (.iload_n 1, 1) := by decide +kernel
theorem dX0_comesBefore_49 : decode cX0_comesBefore 49 = .ok (.invokevirtual 157, 3) := by decide +kernel
theorem dX0_comesBefore_52 : decode cX0_comesBefore 52 = .ok (.aload_n 0, 1) := by decide +kernel
theorem dX0_comesBefore_53 : decode cX0_comesBefore 53 = .ok (.getfield 45, 3) := by decide +kernel
theorem dX0_comesBefore_56 : decode cX0_comesBefore 56 = .ok (.iload_n 2, 1) := by decide +kernel
theorem dX0_comesBefore_57 : decode cX0_comesBefore 57 = .ok (.invokevirtual 157, 3) := by decide +kernel
theorem dX0_comesBefore_60 : decode cX0_comesBefore 60 = .ok (.if_icmp .eq 28, 3) := by decide +kernel
theorem dX0_comesBefore_63 : decode cX0_comesBefore 63 = .ok (.aload_n 0, 1) := by decide +kernel
theorem dX0_comesBefore_64 : decode cX0_comesBefore 64 = .ok (.getfield 45, 3) := by decide +kernel
theorem dX0_comesBefore_67 : decode cX0_comesBefore 67 = .ok (.iload_n 1, 1) := by decide +kernel
theorem dX0_comesBefore_68 : decode cX0_comesBefore 68 = .ok (.invokevirtual 157, 3) := by decide +kernel
theorem dX0_comesBefore_71 : decode cX0_comesBefore 71 = .ok (.aload_n 0, 1) := by decide +kernel
theorem dX0_comesBefore_72 : decode cX0_comesBefore 72 = .ok (.getfield 45, 3) := by decide +kernel
theorem dX0_comesBefore_75 : decode cX0_comesBefore 75 = .ok (.iload_n 2, 1) := by decide +kernel
theorem dX0_comesBefore_76 : decode cX0_comesBefore 76 = .ok (.invokevirtual 157, 3) := by decide +kernel
theorem dX0_comesBefore_79 : decode cX0_comesBefore 79 = .ok (.if_icmp .le 7, 3) := by decide +kernel
theorem dX0_comesBefore_82 : decode cX0_comesBefore 82 = .ok (.iconst 1, 1) := by decide +kernel
theorem dX0_comesBefore_83 : decode cX0_comesBefore 83 = .ok (.goto 4, 3) := by decide +kernel
theorem dX0_comesBefore_86 : decode cX0_comesBefore 86 = .ok (.iconst 0, 1) := by decide +kernel
theorem dX0_comesBefore_87 : decode cX0_comesBefore 87 = .ok (.ireturn, 1) := by decide +kernel
theorem dX0_comesBefore_88 : decode cX0_comesBefore 88 = .ok (.iload_n 1, 1) := by decide +kernel
theorem dX0_comesBefore_89 : decode cX0_comesBefore 89 = .ok (.iload_n 2, 1) := by decide +kernel
theorem dX0_comesBefore_90 : decode cX0_comesBefore 90 = .ok (.if_icmp .ge 7, 3) := by decide +kernel
theorem dX0_comesBefore_93 : decode cX0_comesBefore 93 = .ok (.iconst 1, 1) := by decide +kernel
theorem dX0_comesBefore_94 : decode cX0_comesBefore 94 = .ok (.goto 4, 3) := by decide +kernel
theorem dX0_comesBefore_97 : decode cX0_comesBefore 97 = .ok (.iconst 0, 1) := by decide +kernel
theorem dX0_comesBefore_98 : decode cX0_comesBefore 98 = .ok (.ireturn, 1) := by decide +kernel
theorem dX1_init_0 : decode cX1_init 0 = .ok (.aload_n 0, 1) := by decide +kernel
theorem dX1_init_1 : decode cX1_init 1 = .ok (.invokespecial 3, 3) := by decide +kernel
theorem dX1_init_4 : decode cX1_init 4 = .ok (.aload_n 0, 1) := by decide +kernel
theorem dX1_init_5 : decode cX1_init 5 = .ok (.new 9, 3) := by decide +kernel
theorem dX1_init_8 : decode cX1_init 8 = .ok (.dup, 1) := by decide +kernel
theorem dX1_init_9 : decode cX1_init 9 = .ok (.bipush 16, 2) := by decide +kernel
theorem dX1_init_11 : decode cX1_init 11 = .ok (.invokespecial 11, 3) := by decide +kernel
theorem dX1_init_14 : decode cX1_init 14 = .ok (.putfield 14, 3) := by decide +kernel
theorem dX1_init_17 : decode cX1_init 17 = .ok (.aload_n 0, 1) := by decide +kernel
theorem dX1_init_18 : decode cX1_init 18 = .ok (.iconst 0, 1) := by decide +kernel
theorem dX1_init_19 : decode cX1_init 19 = .ok (.putfield 20, 3) := by decide +kernel
theorem dX1_init_22 : decode cX1_init 22 = .ok (.return_, 1) := by decide +kernel
theorem dX1_fill_0 : decode cX1_fill 0 = .ok (.aload_n 0, 1) := by decide +kernel
theorem dX1_fill_1 : decode cX1_fill 1 = .ok (.iconst 0, 1) := by decide +kernel
theorem dX1_fill_2 : decode cX1_fill 2 = .ok (.putfield 20, 3) := by decide +kernel
theorem dX1_fill_5 : decode cX1_fill 5 = .ok (.iconst 0, 1) := by decide +kernel
theorem dX1_fill_6 : decode cX1_fill 6 = .ok (.istore_n 2, 1) := by decide +kernel
theorem dX1_fill_7 : decode cX1_fill 7 = .ok (.iload_n 2, 1) := by decide +kernel
theorem dX1_fill_8 : decode cX1_fill 8 = .ok (.aload_n 1, 1) := by decide +kernel
theorem dX1_fill_9 : decode cX1_fill 9 = .ok (.getfield 24, 3) := by decide +kernel
theorem dX1_fill_12 : decode cX1_fill 12 = .ok (.if_icmp .ge 24, 3) := by decide +kernel
theorem dX1_fill_15 : decode cX1_fill 15 = .ok (.aload_n 1, 1) := by decide +kernel
theorem dX1_fill_16 : decode cX1_fill 16 = .ok (.iconst 0, 1) := by decide +kernel
theorem dX1_fill_17 : decode cX1_fill 17 = .ok (.iload_n 2, 1) := by decide +kernel
theorem dX1_fill_18 : decode cX1_fill 18 = .ok (.invokevirtual 29, 3) := by decide +kernel
theorem dX1_fill_21 : decode cX1_fill 21 = .ok (.ifCond .eq 9, 3) := by decide +kernel
theorem dX1_fill_24 : decode cX1_fill 24 = .ok (.aload_n 0, 1) := by decide +kernel
theorem dX1_fill_25 : decode cX1_fill 25 = .ok (.iload_n 2, 1) := by decide +kernel
theorem dX1_fill_26 : decode cX1_fill 26 = .ok (.aload_n 1, 1) := by decide +kernel
theorem dX1_fill_27 : decode cX1_fill 27 = .ok (.invokevirtual 33, 3) := by decide +kernel
theorem dX1_fill_30 : decode cX1_fill 30 = .ok (.iinc 2 1, 3) := by decide +kernel
theorem dX1_fill_33 : decode cX1_fill 33 = .ok (.goto (-26), 3) := by decide +kernel
theorem dX1_fill_36 : decode cX1_fill 36 = .ok (.return_, 1) := by decide +kernel
theorem dX1_insert_0 : decode cX1_insert 0 = .ok (.aload_n 0, 1) := by decide +kernel
theorem dX1_insert_1 : decode cX1_insert 1 = .ok (.getfield 20, 3) := by decide +kernel
theorem dX1_insert_4 : decode cX1_insert 4 = .ok (.istore_n 3, 1) := by decide +kernel
theorem dX1_insert_5 : decode cX1_insert 5 = .ok (.iload_n 3, 1) := by decide +kernel
theorem dX1_insert_6 : decode cX1_insert 6 = .ok (.ifCond .le 45, 3) := by decide +kernel
theorem dX1_insert_9 : decode cX1_insert 9 = .ok (.aload_n 2, 1) := by decide +kernel
theorem dX1_insert_10 : decode cX1_insert 10 = .ok (.iload_n 1, 1) := by decide +kernel
theorem dX1_insert_11 : decode cX1_insert 11 = .ok (.aload_n 0, 1) := by decide +kernel
theorem dX1_insert_12 : decode cX1_insert 12 = .ok (.getfield 14, 3) := by decide +kernel
theorem dX1_insert_15 : decode cX1_insert 15 = .ok (.iload_n 3, 1) := by decide +kernel
theorem dX1_insert_16 : decode cX1_insert 16 = .ok (.iconst 1, 1) := by decide +kernel
theorem dX1_insert_17 : decode cX1_insert 17 = .ok (.isub, 1) := by decide +kernel
theorem dX1_insert_18 : decode cX1_insert 18 = .ok (.invokevirtual 37, 3) := by decide +kernel
theorem dX1_insert_21 : decode cX1_insert 21 = .ok (.invokevirtual 41, 3) := by decide +kernel
theorem dX1_insert_24 : decode cX1_insert 24 = .ok (.ifCond .eq 27, 3) := by decide +kernel
theorem dX1_insert_27 : decode cX1_insert 27 = .ok (.aload_n 0, 1) := by decide +kernel
theorem dX1_insert_28 : decode cX1_insert 28 = .ok (.getfield 14, 3) := by decide +kernel
theorem dX1_insert_31 : decode cX1_insert 31 = .ok (.iload_n 3, 1) := by decide +kernel
theorem dX1_insert_32 : decode cX1_insert 32 = .ok (.aload_n 0, 1) := by decide +kernel
theorem dX1_insert_33 : decode cX1_insert 33 = .ok (.getfield 14, 3) := by decide +kernel
theorem dX1_insert_36 : decode cX1_insert 36 = .ok (.iload_n 3, 1) := by decide +kernel
theorem dX1_insert_37 : decode cX1_insert 37 = .ok (.iconst 1, 1) := by decide +kernel
theorem dX1_insert_38 : decode cX1_insert 38 = .ok (.isub, 1) := by decide +kernel
theorem dX1_insert_39 : decode cX1_insert 39 = .ok (.invokevirtual 37, 3) := by decide +kernel
theorem dX1_insert_42 : decode cX1_insert 42 = .ok (.invokevirtual 44, 3) := by decide +kernel
theorem dX1_insert_45 : decode cX1_insert 45 = .ok (.iinc 3 (-1), 3) := by decide +kernel
theorem dX1_insert_48 : decode cX1_insert 48 = .ok (.goto (-43), 3) := by decide +kernel
theorem dX1_insert_51 : decode cX1_insert 51 = .ok (.aload_n 0, 1) := by decide +kernel
theorem dX1_insert_52 : decode cX1_insert 52 = .ok (.getfield 14, 3) := by decide +kernel
theorem dX1_insert_55 : decode cX1_insert 55 = .ok (.iload_n 3, 1) := by decide +kernel
theorem dX1_insert_56 : decode cX1_insert 56 = .ok (.iload_n 1, 1) := by decide +kernel
theorem dX1_insert_57 : decode cX1_insert 57 = .ok (.invokevirtual 44, 3) := by decide +kernel
theorem dX1_insert_60 : decode cX1_insert 60 = .ok (.aload_n 0, 1) := by decide +kernel
theorem dX1_insert_61 : decode cX1_insert 61 = .ok (.dup, 1) := by decide +kernel
theorem dX1_insert_62 : decode cX1_insert 62 = .ok (.getfield 20, 3) := by decide +kernel
theorem dX1_insert_65 : decode cX1_insert 65 = .ok (.iconst 1, 1) := by decide +kernel
theorem dX1_insert_66 : decode cX1_insert 66 = .ok (.iadd, 1) := by decide +kernel
theorem dX1_insert_67 : decode cX1_insert 67 = .ok (.putfield 20, 3) := by decide +kernel
theorem dX1_insert_70 : decode cX1_insert 70 = .ok (.return_, 1) := by decide +kernel
theorem dX1_holdsAt_0 : decode cX1_holdsAt 0 = .ok (.iload_n 1, 1) := by decide +kernel
theorem dX1_holdsAt_1 : decode cX1_holdsAt 1 = .ok (.aload_n 0, 1) := by decide +kernel
theorem dX1_holdsAt_2 : decode cX1_holdsAt 2 = .ok (.getfield 20, 3) := by decide +kernel
theorem dX1_holdsAt_5 : decode cX1_holdsAt 5 = .ok (.if_icmp .ge 19, 3) := by decide +kernel
theorem dX1_holdsAt_8 : decode cX1_holdsAt 8 = .ok (.aload_n 0, 1) := by decide +kernel
theorem dX1_holdsAt_9 : decode cX1_holdsAt 9 = .ok (.getfield 14, 3) := by decide +kernel
theorem dX1_holdsAt_12 : decode cX1_holdsAt 12 = .ok (.iload_n 1, 1) := by decide +kernel
theorem dX1_holdsAt_13 : decode cX1_holdsAt 13 = .ok (.invokevirtual 37, 3) := by decide +kernel
theorem dX1_holdsAt_16 : decode cX1_holdsAt 16 = .ok (.iload_n 2, 1) := by decide +kernel
theorem dX1_holdsAt_17 : decode cX1_holdsAt 17 = .ok (.if_icmp .ne 7, 3) := by decide +kernel
theorem dX1_holdsAt_20 : decode cX1_holdsAt 20 = .ok (.iconst 1, 1) := by decide +kernel
theorem dX1_holdsAt_21 : decode cX1_holdsAt 21 = .ok (.goto 4, 3) := by decide +kernel
theorem dX1_holdsAt_24 : decode cX1_holdsAt 24 = .ok (.iconst 0, 1) := by decide +kernel
theorem dX1_holdsAt_25 : decode cX1_holdsAt 25 = .ok (.ireturn, 1) := by decide +kernel
theorem dX1_firstHeard_0 : decode cX1_firstHeard 0 = .ok (.iconst 0, 1) := by decide +kernel
theorem dX1_firstHeard_1 : decode cX1_firstHeard 1 = .ok (.istore_n 2, 1) := by decide +kernel
theorem dX1_firstHeard_2 : decode cX1_firstHeard 2 = .ok (.iload_n 2, 1) := by decide +kernel
theorem dX1_firstHeard_3 : decode cX1_firstHeard 3 = .ok (.aload_n 0, 1) := by decide +kernel
theorem dX1_firstHeard_4 : decode cX1_firstHeard 4 = .ok (.getfield 20, 3) := by decide +kernel
theorem dX1_firstHeard_7 : decode cX1_firstHeard 7 = .ok (.if_icmp .ge 36, 3) := by decide +kernel
theorem dX1_firstHeard_10 : decode cX1_firstHeard 10 = .ok (.aload_n 1, 1) := by decide +kernel
theorem dX1_firstHeard_11 : decode cX1_firstHeard 11 = .ok (.getfield 48, 3) := by decide +kernel
theorem dX1_firstHeard_14 : decode cX1_firstHeard 14 = .ok (.aload_n 0, 1) := by decide +kernel
theorem dX1_firstHeard_15 : decode cX1_firstHeard 15 = .ok (.getfield 14, 3) := by decide +kernel
theorem dX1_firstHeard_18 : decode cX1_firstHeard 18 = .ok (.iload_n 2, 1) := by decide +kernel
theorem dX1_firstHeard_19 : decode cX1_firstHeard 19 = .ok (.invokevirtual 37, 3) := by decide +kernel
theorem dX1_firstHeard_22 : decode cX1_firstHeard 22 = .ok (.invokevirtual 37, 3) := by decide +kernel
theorem dX1_firstHeard_25 : decode cX1_firstHeard 25 = .ok (.ifCond .le 12, 3) := by decide +kernel
theorem dX1_firstHeard_28 : decode cX1_firstHeard 28 = .ok (.aload_n 0, 1) := by decide +kernel
theorem dX1_firstHeard_29 : decode cX1_firstHeard 29 = .ok (.getfield 14, 3) := by decide +kernel
theorem dX1_firstHeard_32 : decode cX1_firstHeard 32 = .ok (.iload_n 2, 1) := by decide +kernel
theorem dX1_firstHeard_33 : decode cX1_firstHeard 33 = .ok (.invokevirtual 37, 3) := by decide +kernel
theorem dX1_firstHeard_36 : decode cX1_firstHeard 36 = .ok (.ireturn, 1) := by decide +kernel
theorem dX1_firstHeard_37 : decode cX1_firstHeard 37 = .ok (.iinc 2 1, 3) := by decide +kernel
theorem dX1_firstHeard_40 : decode cX1_firstHeard 40 = .ok (.goto (-38), 3) := by decide +kernel
theorem dX1_firstHeard_43 : decode cX1_firstHeard 43 = .ok (.iconst (-1), 1) := by decide +kernel
theorem dX1_firstHeard_44 : decode cX1_firstHeard 44 = .ok (.ireturn, 1) := by decide +kernel
theorem dX3_init_0 : decode cX3_init 0 = .ok (.aload_n 0, 1) := by decide +kernel
theorem dX3_init_1 : decode cX3_init 1 = .ok (.invokespecial 3, 3) := by decide +kernel
theorem dX3_init_4 : decode cX3_init 4 = .ok (.aload_n 0, 1) := by decide +kernel
theorem dX3_init_5 : decode cX3_init 5 = .ok (.new 9, 3) := by decide +kernel
theorem dX3_init_8 : decode cX3_init 8 = .ok (.dup, 1) := by decide +kernel
theorem dX3_init_9 : decode cX3_init 9 = .ok (.bipush 8, 2) := by decide +kernel
theorem dX3_init_11 : decode cX3_init 11 = .ok (.invokespecial 11, 3) := by decide +kernel
theorem dX3_init_14 : decode cX3_init 14 = .ok (.putfield 14, 3) := by decide +kernel
theorem dX3_init_17 : decode cX3_init 17 = .ok (.return_, 1) := by decide +kernel
theorem dX3_found_0 : decode cX3_found 0 = .ok (.aload_n 0, 1) := by decide +kernel
theorem dX3_found_1 : decode cX3_found 1 = .ok (.getfield 14, 3) := by decide +kernel
theorem dX3_found_4 : decode cX3_found 4 = .ok (.iload_n 1, 1) := by decide +kernel
theorem dX3_found_5 : decode cX3_found 5 = .ok (.iload_n 1, 1) := by decide +kernel
theorem dX3_found_6 : decode cX3_found 6 = .ok (.invokevirtual 20, 3) := by decide +kernel
theorem dX3_found_9 : decode cX3_found 9 = .ok (.return_, 1) := by decide +kernel
theorem dX3_unite_0 : decode cX3_unite 0 = .ok (.aload_n 0, 1) := by decide +kernel
theorem dX3_unite_1 : decode cX3_unite 1 = .ok (.getfield 14, 3) := by decide +kernel
theorem dX3_unite_4 : decode cX3_unite 4 = .ok (.aload_n 0, 1) := by decide +kernel
theorem dX3_unite_5 : decode cX3_unite 5 = .ok (.iload_n 2, 1) := by decide +kernel
theorem dX3_unite_6 : decode cX3_unite 6 = .ok (.invokevirtual 24, 3) := by decide +kernel
theorem dX3_unite_9 : decode cX3_unite 9 = .ok (.aload_n 0, 1) := by decide +kernel
theorem dX3_unite_10 : decode cX3_unite 10 = .ok (.iload_n 1, 1) := by decide +kernel
theorem dX3_unite_11 : decode cX3_unite 11 = .ok (.invokevirtual 24, 3) := by decide +kernel
theorem dX3_unite_14 : decode cX3_unite 14 = .ok (.invokevirtual 20, 3) := by decide +kernel
theorem dX3_unite_17 : decode cX3_unite 17 = .ok (.return_, 1) := by decide +kernel
theorem dX3_areUnited_0 : decode cX3_areUnited 0 = .ok (.aload_n 0, 1) := by decide +kernel
theorem dX3_areUnited_1 : decode cX3_areUnited 1 = .ok (.iload_n 1, 1) := by decide +kernel
theorem dX3_areUnited_2 : decode cX3_areUnited 2 = .ok (.invokevirtual 24, 3) := by decide +kernel
theorem dX3_areUnited_5 : decode cX3_areUnited 5 = .ok (.aload_n 0, 1) := by decide +kernel
theorem dX3_areUnited_6 : decode cX3_areUnited 6 = .ok (.iload_n 2, 1) := by decide +kernel
theorem dX3_areUnited_7 : decode cX3_areUnited 7 = .ok (.invokevirtual 24, 3) := by decide +kernel
theorem dX3_areUnited_10 : decode cX3_areUnited 10 = .ok (.if_icmp .ne 7, 3) := by decide +kernel
theorem dX3_areUnited_13 : decode cX3_areUnited 13 = .ok (.iconst 1, 1) := by decide +kernel
theorem dX3_areUnited_14 : decode cX3_areUnited 14 = .ok (.goto 4, 3) := by decide +kernel
theorem dX3_areUnited_17 : decode cX3_areUnited 17 = .ok (.iconst 0, 1) := by decide +kernel
theorem dX3_areUnited_18 : decode cX3_areUnited 18 = .ok (.ireturn, 1) := by decide +kernel
theorem dX3_sizeAround_0 : decode cX3_sizeAround 0 = .ok (.iconst 0, 1) := by decide +kernel
theorem dX3_sizeAround_1 : decode cX3_sizeAround 1 = .ok (.istore_n 3, 1) := by decide +kernel
theorem dX3_sizeAround_2 : decode cX3_sizeAround 2 = .ok (.iconst 0, 1) := by decide +kernel
theorem dX3_sizeAround_3 : decode cX3_sizeAround 3 = .ok (.istore 4, 2) := by decide +kernel
theorem dX3_sizeAround_5 : decode cX3_sizeAround 5 = .ok (.iload 4, 2) := by decide +kernel
theorem dX3_sizeAround_7 : decode cX3_sizeAround 7 = .ok (.iload_n 2, 1) := by decide +kernel
theorem dX3_sizeAround_8 : decode cX3_sizeAround 8 = .ok (.if_icmp .ge 22, 3) := by decide +kernel
theorem dX3_sizeAround_11 : decode cX3_sizeAround 11 = .ok (.aload_n 0, 1) := by decide +kernel
theorem dX3_sizeAround_12 : decode cX3_sizeAround 12 = .ok (.iload_n 1, 1) := by decide +kernel
theorem dX3_sizeAround_13 : decode cX3_sizeAround 13 = .ok (.iload 4, 2) := by decide +kernel
theorem dX3_sizeAround_15 : decode cX3_sizeAround 15 = .ok (.invokevirtual 28, 3) := by decide +kernel
theorem dX3_sizeAround_18 : decode cX3_sizeAround 18 = .ok (.ifCond .eq 6, 3) := by decide +kernel
theorem dX3_sizeAround_21 : decode cX3_sizeAround 21 = .ok (.iinc 3 1, 3) := by decide +kernel
theorem dX3_sizeAround_24 : decode cX3_sizeAround 24 = .ok (.iinc 4 1, 3) := by decide +kernel
theorem dX3_sizeAround_27 : decode cX3_sizeAround 27 = .ok (.goto (-22), 3) := by decide +kernel
theorem dX3_sizeAround_30 : decode cX3_sizeAround 30 = .ok (.iload_n 3, 1) := by decide +kernel
theorem dX3_sizeAround_31 : decode cX3_sizeAround 31 = .ok (.ireturn, 1) := by decide +kernel
theorem dX3_countAmong_0 : decode cX3_countAmong 0 = .ok (.iconst 0, 1) := by decide +kernel
theorem dX3_countAmong_1 : decode cX3_countAmong 1 = .ok (.istore_n 2, 1) := by decide +kernel
theorem dX3_countAmong_2 : decode cX3_countAmong 2 = .ok (.iconst 0, 1) := by decide +kernel
theorem dX3_countAmong_3 : decode cX3_countAmong 3 = .ok (.istore_n 3, 1) := by decide +kernel
theorem dX3_countAmong_4 : decode cX3_countAmong 4 = .ok (.iload_n 3, 1) := by decide +kernel
theorem dX3_countAmong_5 : decode cX3_countAmong 5 = .ok (.iload_n 1, 1) := by decide +kernel
theorem dX3_countAmong_6 : decode cX3_countAmong 6 = .ok (.if_icmp .ge 24, 3) := by decide +kernel
theorem dX3_countAmong_9 : decode cX3_countAmong 9 = .ok (.aload_n 0, 1) := by decide +kernel
theorem dX3_countAmong_10 : decode cX3_countAmong 10 = .ok (.getfield 14, 3) := by decide +kernel
theorem dX3_countAmong_13 : decode cX3_countAmong 13 = .ok (.iload_n 3, 1) := by decide +kernel
theorem dX3_countAmong_14 : decode cX3_countAmong 14 = .ok (.invokevirtual 32, 3) := by decide +kernel
theorem dX3_countAmong_17 : decode cX3_countAmong 17 = .ok (.iload_n 3, 1) := by decide +kernel
theorem dX3_countAmong_18 : decode cX3_countAmong 18 = .ok (.if_icmp .ne 6, 3) := by decide +kernel
theorem dX3_countAmong_21 : decode cX3_countAmong 21 = .ok (.iinc 2 1, 3) := by decide +kernel
theorem dX3_countAmong_24 : decode cX3_countAmong 24 = .ok (.iinc 3 1, 3) := by decide +kernel
theorem dX3_countAmong_27 : decode cX3_countAmong 27 = .ok (.goto (-23), 3) := by decide +kernel
theorem dX3_countAmong_30 : decode cX3_countAmong 30 = .ok (.iload_n 2, 1) := by decide +kernel
theorem dX3_countAmong_31 : decode cX3_countAmong 31 = .ok (.ireturn, 1) := by decide +kernel
theorem dX3_rootOf_0 : decode cX3_rootOf 0 = .ok (.iload_n 1, 1) := by decide +kernel
theorem dX3_rootOf_1 : decode cX3_rootOf 1 = .ok (.istore_n 2, 1) := by decide +kernel
theorem dX3_rootOf_2 : decode cX3_rootOf 2 = .ok (.iconst 0, 1) := by decide +kernel
theorem dX3_rootOf_3 : decode cX3_rootOf 3 = .ok (.istore_n 3, 1) := by decide +kernel
theorem dX3_rootOf_4 : decode cX3_rootOf 4 = .ok (.iload_n 3, 1) := by decide +kernel
theorem dX3_rootOf_5 : decode cX3_rootOf 5 = .ok (.bipush 8, 2) := by decide +kernel
theorem dX3_rootOf_7 : decode cX3_rootOf 7 = .ok (.if_icmp .ge 30, 3) := by decide +kernel
theorem dX3_rootOf_10 : decode cX3_rootOf 10 = .ok (.aload_n 0, 1) := by decide +kernel
theorem dX3_rootOf_11 : decode cX3_rootOf 11 = .ok (.getfield 14, 3) := by decide +kernel
theorem dX3_rootOf_14 : decode cX3_rootOf 14 = .ok (.iload_n 2, 1) := by decide +kernel
theorem dX3_rootOf_15 : decode cX3_rootOf 15 = .ok (.invokevirtual 32, 3) := by decide +kernel
theorem dX3_rootOf_18 : decode cX3_rootOf 18 = .ok (.iload_n 2, 1) := by decide +kernel
theorem dX3_rootOf_19 : decode cX3_rootOf 19 = .ok (.if_icmp .eq 18, 3) := by decide +kernel
theorem dX3_rootOf_22 : decode cX3_rootOf 22 = .ok (.aload_n 0, 1) := by decide +kernel
theorem dX3_rootOf_23 : decode cX3_rootOf 23 = .ok (.getfield 14, 3) := by decide +kernel
theorem dX3_rootOf_26 : decode cX3_rootOf 26 = .ok (.iload_n 2, 1) := by decide +kernel
theorem dX3_rootOf_27 : decode cX3_rootOf 27 = .ok (.invokevirtual 32, 3) := by decide +kernel
theorem dX3_rootOf_30 : decode cX3_rootOf 30 = .ok (.istore_n 2, 1) := by decide +kernel
theorem dX3_rootOf_31 : decode cX3_rootOf 31 = .ok (.iinc 3 1, 3) := by decide +kernel
theorem dX3_rootOf_34 : decode cX3_rootOf 34 = .ok (.goto (-30), 3) := by decide +kernel
theorem dX3_rootOf_37 : decode cX3_rootOf 37 = .ok (.iload_n 2, 1) := by decide +kernel
theorem dX3_rootOf_38 : decode cX3_rootOf 38 = .ok (.ireturn, 1) := by decide +kernel
theorem dX4_init_0 : decode cX4_init 0 = .ok (.aload_n 0, 1) := by decide +kernel
theorem dX4_init_1 : decode cX4_init 1 = .ok (.invokespecial 3, 3) := by decide +kernel
theorem dX4_init_4 : decode cX4_init 4 = .ok (.aload_n 0, 1) := by decide +kernel
theorem dX4_init_5 : decode cX4_init 5 = .ok (.bipush 8, 2) := by decide +kernel
theorem dX4_init_7 : decode cX4_init 7 = .ok (.anewarray 9, 3) := by decide +kernel
theorem dX4_init_10 : decode cX4_init 10 = .ok (.putfield 11, 3) := by decide +kernel
theorem dX4_init_13 : decode cX4_init 13 = .ok (.aload_n 0, 1) := by decide +kernel
theorem dX4_init_14 : decode cX4_init 14 = .ok (.iconst 0, 1) := by decide +kernel
theorem dX4_init_15 : decode cX4_init 15 = .ok (.putfield 17, 3) := by decide +kernel
theorem dX4_init_18 : decode cX4_init 18 = .ok (.aload_n 0, 1) := by decide +kernel
theorem dX4_init_19 : decode cX4_init 19 = .ok (.iconst 0, 1) := by decide +kernel
theorem dX4_init_20 : decode cX4_init 20 = .ok (.putfield 21, 3) := by decide +kernel
theorem dX4_init_23 : decode cX4_init 23 = .ok (.iconst 0, 1) := by decide +kernel
theorem dX4_init_24 : decode cX4_init 24 = .ok (.istore_n 1, 1) := by decide +kernel
theorem dX4_init_25 : decode cX4_init 25 = .ok (.iload_n 1, 1) := by decide +kernel
theorem dX4_init_26 : decode cX4_init 26 = .ok (.aload_n 0, 1) := by decide +kernel
theorem dX4_init_27 : decode cX4_init 27 = .ok (.getfield 11, 3) := by decide +kernel
theorem dX4_init_30 : decode cX4_init 30 = .ok (.arraylength, 1) := by decide +kernel
theorem dX4_init_31 : decode cX4_init 31 = .ok (.if_icmp .ge 22, 3) := by decide +kernel
theorem dX4_init_34 : decode cX4_init 34 = .ok (.aload_n 0, 1) := by decide +kernel
theorem dX4_init_35 : decode cX4_init 35 = .ok (.getfield 11, 3) := by decide +kernel
theorem dX4_init_38 : decode cX4_init 38 = .ok (.iload_n 1, 1) := by decide +kernel
theorem dX4_init_39 : decode cX4_init 39 = .ok (.new 9, 3) := by decide +kernel
theorem dX4_init_42 : decode cX4_init 42 = .ok (.dup, 1) := by decide +kernel
theorem dX4_init_43 : decode cX4_init 43 = .ok (.invokespecial 24, 3) := by decide +kernel
theorem dX4_init_46 : decode cX4_init 46 = .ok (.aastore, 1) := by decide +kernel
theorem dX4_init_47 : decode cX4_init 47 = .ok (.iinc 1 1, 3) := by decide +kernel
theorem dX4_init_50 : decode cX4_init 50 = .ok (.goto (-25), 3) := by decide +kernel
theorem dX4_init_53 : decode cX4_init 53 = .ok (.return_, 1) := by decide +kernel
theorem dX4_keep_0 : decode cX4_keep 0 = .ok (.aload_n 0, 1) := by decide +kernel
theorem dX4_keep_1 : decode cX4_keep 1 = .ok (.aload_n 0, 1) := by decide +kernel
theorem dX4_keep_2 : decode cX4_keep 2 = .ok (.getfield 17, 3) := by decide +kernel
theorem dX4_keep_5 : decode cX4_keep 5 = .ok (.invokevirtual 25, 3) := by decide +kernel
theorem dX4_keep_8 : decode cX4_keep 8 = .ok (.astore_n 2, 1) := by decide +kernel
theorem dX4_keep_9 : decode cX4_keep 9 = .ok (.aload_n 2, 1) := by decide +kernel
theorem dX4_keep_10 : decode cX4_keep 10 = .ok (.ifnull 48, 3) := by decide +kernel
theorem dX4_keep_13 : decode cX4_keep 13 = .ok (.aload_n 2, 1) := by decide +kernel
theorem dX4_keep_14 : decode cX4_keep 14 = .ok (.aload_n 1, 1) := by decide +kernel
theorem dX4_keep_15 : decode cX4_keep 15 = .ok (.invokevirtual 29, 3) := by decide +kernel
theorem dX4_keep_18 : decode cX4_keep 18 = .ok (.aload_n 0, 1) := by decide +kernel
theorem dX4_keep_19 : decode cX4_keep 19 = .ok (.aload_n 0, 1) := by decide +kernel
theorem dX4_keep_20 : decode cX4_keep 20 = .ok (.getfield 17, 3) := by decide +kernel
theorem dX4_keep_23 : decode cX4_keep 23 = .ok (.iconst 1, 1) := by decide +kernel
theorem dX4_keep_24 : decode cX4_keep 24 = .ok (.iadd, 1) := by decide +kernel
theorem dX4_keep_25 : decode cX4_keep 25 = .ok (.bipush 8, 2) := by decide +kernel
theorem dX4_keep_27 : decode cX4_keep 27 = .ok (.if_icmp .ge 12, 3) := by decide +kernel
theorem dX4_keep_30 : decode cX4_keep 30 = .ok (.aload_n 0, 1) := by decide +kernel
theorem dX4_keep_31 : decode cX4_keep 31 = .ok (.getfield 17, 3) := by decide +kernel
theorem dX4_keep_34 : decode cX4_keep 34 = .ok (.iconst 1, 1) := by decide +kernel
theorem dX4_keep_35 : decode cX4_keep 35 = .ok (.iadd, 1) := by decide +kernel
theorem dX4_keep_36 : decode cX4_keep 36 = .ok (.goto 4, 3) := by decide +kernel
theorem dX4_keep_39 : decode cX4_keep 39 = .ok (.iconst 0, 1) := by decide +kernel
theorem dX4_keep_40 : decode cX4_keep 40 = .ok (.putfield 17, 3) := by decide +kernel
theorem dX4_keep_43 : decode cX4_keep 43 = .ok (.aload_n 0, 1) := by decide +kernel
theorem dX4_keep_44 : decode cX4_keep 44 = .ok (.aload_n 0, 1) := by decide +kernel
theorem dX4_keep_45 : decode cX4_keep 45 = .ok (.getfield 21, 3) := by decide +kernel
theorem dX4_keep_48 : decode cX4_keep 48 = .ok (.iconst 1, 1) := by decide +kernel
theorem dX4_keep_49 : decode cX4_keep 49 = .ok (.iadd, 1) := by decide +kernel
theorem dX4_keep_50 : decode cX4_keep 50 = .ok (.bipush 8, 2) := by decide +kernel
theorem dX4_keep_52 : decode cX4_keep 52 = .ok (.invokestatic 33, 3) := by decide +kernel
theorem dX4_keep_55 : decode cX4_keep 55 = .ok (.putfield 21, 3) := by decide +kernel
theorem dX4_keep_58 : decode cX4_keep 58 = .ok (.return_, 1) := by decide +kernel
theorem dX4_placeAt_0 : decode cX4_placeAt 0 = .ok (.iload_n 1, 1) := by decide +kernel
theorem dX4_placeAt_1 : decode cX4_placeAt 1 = .ok (.ifCond .lt 21, 3) := by decide +kernel
theorem dX4_placeAt_4 : decode cX4_placeAt 4 = .ok (.iload_n 1, 1) := by decide +kernel
theorem dX4_placeAt_5 : decode cX4_placeAt 5 = .ok (.aload_n 0, 1) := by decide +kernel
theorem dX4_placeAt_6 : decode cX4_placeAt 6 = .ok (.getfield 11, 3) := by decide +kernel
theorem dX4_placeAt_9 : decode cX4_placeAt 9 = .ok (.arraylength, 1) := by decide +kernel
theorem dX4_placeAt_10 : decode cX4_placeAt 10 = .ok (.if_icmp .ge 12, 3) := by decide +kernel
theorem dX4_placeAt_13 : decode cX4_placeAt 13 = .ok (.aload_n 0, 1) := by decide +kernel
theorem dX4_placeAt_14 : decode cX4_placeAt 14 = .ok (.getfield 11, 3) := by decide +kernel
theorem dX4_placeAt_17 : decode cX4_placeAt 17 = .ok (.iload_n 1, 1) := by decide +kernel
theorem dX4_placeAt_18 : decode cX4_placeAt 18 = .ok (.aaload, 1) := by decide +kernel
theorem dX4_placeAt_19 : decode cX4_placeAt 19 = .ok (.goto 4, 3) := by decide +kernel
theorem dX4_placeAt_22 : decode cX4_placeAt 22 = .ok (.aconst_null, 1) := by decide +kernel
theorem dX4_placeAt_23 : decode cX4_placeAt 23 = .ok (.areturn, 1) := by decide +kernel
theorem dX5_init_0 : decode cX5_init 0 = .ok (.aload_n 0, 1) := by decide +kernel
theorem dX5_init_1 : decode cX5_init 1 = .ok (.invokespecial 3, 3) := by decide +kernel
theorem dX5_init_4 : decode cX5_init 4 = .ok (.aload_n 0, 1) := by decide +kernel
theorem dX5_init_5 : decode cX5_init 5 = .ok (.new 9, 3) := by decide +kernel
theorem dX5_init_8 : decode cX5_init 8 = .ok (.dup, 1) := by decide +kernel
theorem dX5_init_9 : decode cX5_init 9 = .ok (.invokespecial 11, 3) := by decide +kernel
theorem dX5_init_12 : decode cX5_init 12 = .ok (.putfield 12, 3) := by decide +kernel
theorem dX5_init_15 : decode cX5_init 15 = .ok (.aload_n 0, 1) := by decide +kernel
theorem dX5_init_16 : decode cX5_init 16 = .ok (.iconst 0, 1) := by decide +kernel
theorem dX5_init_17 : decode cX5_init 17 = .ok (.putfield 18, 3) := by decide +kernel
theorem dX5_init_20 : decode cX5_init 20 = .ok (.aload_n 0, 1) := by decide +kernel
theorem dX5_init_21 : decode cX5_init 21 = .ok (.iconst 0, 1) := by decide +kernel
theorem dX5_init_22 : decode cX5_init 22 = .ok (.putfield 22, 3) := by decide +kernel
theorem dX5_init_25 : decode cX5_init 25 = .ok (.aload_n 0, 1) := by decide +kernel
theorem dX5_init_26 : decode cX5_init 26 = .ok (.new 25, 3) := by decide +kernel
theorem dX5_init_29 : decode cX5_init 29 = .ok (.dup, 1) := by decide +kernel
theorem dX5_init_30 : decode cX5_init 30 = .ok (.bipush 8, 2) := by decide +kernel
theorem dX5_init_32 : decode cX5_init 32 = .ok (.invokespecial 27, 3) := by decide +kernel
theorem dX5_init_35 : decode cX5_init 35 = .ok (.putfield 30, 3) := by decide +kernel
theorem dX5_init_38 : decode cX5_init 38 = .ok (.aload_n 0, 1) := by decide +kernel
theorem dX5_init_39 : decode cX5_init 39 = .ok (.new 25, 3) := by decide +kernel
theorem dX5_init_42 : decode cX5_init 42 = .ok (.dup, 1) := by decide +kernel
theorem dX5_init_43 : decode cX5_init 43 = .ok (.bipush 8, 2) := by decide +kernel
theorem dX5_init_45 : decode cX5_init 45 = .ok (.invokespecial 27, 3) := by decide +kernel
theorem dX5_init_48 : decode cX5_init 48 = .ok (.putfield 34, 3) := by decide +kernel
theorem dX5_init_51 : decode cX5_init 51 = .ok (.aload_n 0, 1) := by decide +kernel
theorem dX5_init_52 : decode cX5_init 52 = .ok (.new 25, 3) := by decide +kernel
theorem dX5_init_55 : decode cX5_init 55 = .ok (.dup, 1) := by decide +kernel
theorem dX5_init_56 : decode cX5_init 56 = .ok (.bipush 8, 2) := by decide +kernel
theorem dX5_init_58 : decode cX5_init 58 = .ok (.invokespecial 27, 3) := by decide +kernel
theorem dX5_init_61 : decode cX5_init 61 = .ok (.putfield 37, 3) := by decide +kernel
theorem dX5_init_64 : decode cX5_init 64 = .ok (.aload_n 0, 1) := by decide +kernel
theorem dX5_init_65 : decode cX5_init 65 = .ok (.new 25, 3) := by decide +kernel
theorem dX5_init_68 : decode cX5_init 68 = .ok (.dup, 1) := by decide +kernel
theorem dX5_init_69 : decode cX5_init 69 = .ok (.bipush 8, 2) := by decide +kernel
theorem dX5_init_71 : decode cX5_init 71 = .ok (.invokespecial 27, 3) := by decide +kernel
theorem dX5_init_74 : decode cX5_init 74 = .ok (.putfield 40, 3) := by decide +kernel
theorem dX5_init_77 : decode cX5_init 77 = .ok (.aload_n 0, 1) := by decide +kernel
theorem dX5_init_78 : decode cX5_init 78 = .ok (.new 25, 3) := by decide +kernel
theorem dX5_init_81 : decode cX5_init 81 = .ok (.dup, 1) := by decide +kernel
theorem dX5_init_82 : decode cX5_init 82 = .ok (.bipush 8, 2) := by decide +kernel
theorem dX5_init_84 : decode cX5_init 84 = .ok (.invokespecial 27, 3) := by decide +kernel
theorem dX5_init_87 : decode cX5_init 87 = .ok (.putfield 43, 3) := by decide +kernel
theorem dX5_init_90 : decode cX5_init 90 = .ok (.return_, 1) := by decide +kernel
theorem dX6_init_0 : decode cX6_init 0 = .ok (.aload_n 0, 1) := by decide +kernel
theorem dX6_init_1 : decode cX6_init 1 = .ok (.invokespecial 1, 3) := by decide +kernel
theorem dX6_init_4 : decode cX6_init 4 = .ok (.aload_n 0, 1) := by decide +kernel
theorem dX6_init_5 : decode cX6_init 5 = .ok (.iload_n 1, 1) := by decide +kernel
theorem dX6_init_6 : decode cX6_init 6 = .ok (.ifCond .ge 7, 3) := by decide +kernel
theorem dX6_init_9 : decode cX6_init 9 = .ok (.iconst 0, 1) := by decide +kernel
theorem dX6_init_10 : decode cX6_init 10 = .ok (.goto 4, 3) := by decide +kernel
theorem dX6_init_13 : decode cX6_init 13 = .ok (.iload_n 1, 1) := by decide +kernel
theorem dX6_init_14 : decode cX6_init 14 = .ok (.newarray .int, 2) := by decide +kernel
theorem dX6_init_16 : decode cX6_init 16 = .ok (.putfield 7, 3) := by decide +kernel
theorem dX6_init_19 : decode cX6_init 19 = .ok (.return_, 1) := by decide +kernel
theorem dX6_get_0 : decode cX6_get 0 = .ok (.iload_n 1, 1) := by decide +kernel
theorem dX6_get_1 : decode cX6_get 1 = .ok (.ifCond .lt 21, 3) := by decide +kernel
theorem dX6_get_4 : decode cX6_get 4 = .ok (.iload_n 1, 1) := by decide +kernel
theorem dX6_get_5 : decode cX6_get 5 = .ok (.aload_n 0, 1) := by decide +kernel
theorem dX6_get_6 : decode cX6_get 6 = .ok (.getfield 7, 3) := by decide +kernel
theorem dX6_get_9 : decode cX6_get 9 = .ok (.arraylength, 1) := by decide +kernel
theorem dX6_get_10 : decode cX6_get 10 = .ok (.if_icmp .ge 12, 3) := by decide +kernel
theorem dX6_get_13 : decode cX6_get 13 = .ok (.aload_n 0, 1) := by decide +kernel
theorem dX6_get_14 : decode cX6_get 14 = .ok (.getfield 7, 3) := by decide +kernel
theorem dX6_get_17 : decode cX6_get 17 = .ok (.iload_n 1, 1) := by decide +kernel
theorem dX6_get_18 : decode cX6_get 18 = .ok (.iaload, 1) := by decide +kernel
theorem dX6_get_19 : decode cX6_get 19 = .ok (.goto 4, 3) := by decide +kernel
theorem dX6_get_22 : decode cX6_get 22 = .ok (.iconst 0, 1) := by decide +kernel
theorem dX6_get_23 : decode cX6_get 23 = .ok (.ireturn, 1) := by decide +kernel
theorem dX6_put_0 : decode cX6_put 0 = .ok (.iload_n 1, 1) := by decide +kernel
theorem dX6_put_1 : decode cX6_put 1 = .ok (.ifCond .lt 19, 3) := by decide +kernel
theorem dX6_put_4 : decode cX6_put 4 = .ok (.iload_n 1, 1) := by decide +kernel
theorem dX6_put_5 : decode cX6_put 5 = .ok (.aload_n 0, 1) := by decide +kernel
theorem dX6_put_6 : decode cX6_put 6 = .ok (.getfield 7, 3) := by decide +kernel
theorem dX6_put_9 : decode cX6_put 9 = .ok (.arraylength, 1) := by decide +kernel
theorem dX6_put_10 : decode cX6_put 10 = .ok (.if_icmp .ge 10, 3) := by decide +kernel
theorem dX6_put_13 : decode cX6_put 13 = .ok (.aload_n 0, 1) := by decide +kernel
theorem dX6_put_14 : decode cX6_put 14 = .ok (.getfield 7, 3) := by decide +kernel
theorem dX6_put_17 : decode cX6_put 17 = .ok (.iload_n 1, 1) := by decide +kernel
theorem dX6_put_18 : decode cX6_put 18 = .ok (.iload_n 2, 1) := by decide +kernel
theorem dX6_put_19 : decode cX6_put 19 = .ok (.iastore, 1) := by decide +kernel
theorem dX6_put_20 : decode cX6_put 20 = .ok (.return_, 1) := by decide +kernel
theorem dX6_add_0 : decode cX6_add 0 = .ok (.aload_n 0, 1) := by decide +kernel
theorem dX6_add_1 : decode cX6_add 1 = .ok (.iload_n 1, 1) := by decide +kernel
theorem dX6_add_2 : decode cX6_add 2 = .ok (.aload_n 0, 1) := by decide +kernel
theorem dX6_add_3 : decode cX6_add 3 = .ok (.iload_n 1, 1) := by decide +kernel
theorem dX6_add_4 : decode cX6_add 4 = .ok (.invokevirtual 13, 3) := by decide +kernel
theorem dX6_add_7 : decode cX6_add 7 = .ok (.iload_n 2, 1) := by decide +kernel
theorem dX6_add_8 : decode cX6_add 8 = .ok (.iadd, 1) := by decide +kernel
theorem dX6_add_9 : decode cX6_add 9 = .ok (.invokevirtual 17, 3) := by decide +kernel
theorem dX6_add_12 : decode cX6_add 12 = .ok (.return_, 1) := by decide +kernel
theorem dX6_clear_0 : decode cX6_clear 0 = .ok (.iconst 0, 1) := by decide +kernel
theorem dX6_clear_1 : decode cX6_clear 1 = .ok (.istore_n 1, 1) := by decide +kernel
theorem dX6_clear_2 : decode cX6_clear 2 = .ok (.iload_n 1, 1) := by decide +kernel
theorem dX6_clear_3 : decode cX6_clear 3 = .ok (.aload_n 0, 1) := by decide +kernel
theorem dX6_clear_4 : decode cX6_clear 4 = .ok (.getfield 7, 3) := by decide +kernel
theorem dX6_clear_7 : decode cX6_clear 7 = .ok (.arraylength, 1) := by decide +kernel
theorem dX6_clear_8 : decode cX6_clear 8 = .ok (.if_icmp .ge 16, 3) := by decide +kernel
theorem dX6_clear_11 : decode cX6_clear 11 = .ok (.aload_n 0, 1) := by decide +kernel
theorem dX6_clear_12 : decode cX6_clear 12 = .ok (.getfield 7, 3) := by decide +kernel
theorem dX6_clear_15 : decode cX6_clear 15 = .ok (.iload_n 1, 1) := by decide +kernel
theorem dX6_clear_16 : decode cX6_clear 16 = .ok (.iconst 0, 1) := by decide +kernel
theorem dX6_clear_17 : decode cX6_clear 17 = .ok (.iastore, 1) := by decide +kernel
theorem dX6_clear_18 : decode cX6_clear 18 = .ok (.iinc 1 1, 3) := by decide +kernel
theorem dX6_clear_21 : decode cX6_clear 21 = .ok (.goto (-19), 3) := by decide +kernel
theorem dX6_clear_24 : decode cX6_clear 24 = .ok (.return_, 1) := by decide +kernel
theorem dX6_copyFrom_0 : decode cX6_copyFrom 0 = .ok (.aload_n 1, 1) := by decide +kernel
theorem dX6_copyFrom_1 : decode cX6_copyFrom 1 = .ok (.getfield 7, 3) := by decide +kernel
theorem dX6_copyFrom_4 : decode cX6_copyFrom 4 = .ok (.iconst 0, 1) := by decide +kernel
theorem dX6_copyFrom_5 : decode cX6_copyFrom 5 = .ok (.aload_n 0, 1) := by decide +kernel
theorem dX6_copyFrom_6 : decode cX6_copyFrom 6 = .ok (.getfield 7, 3) := by decide +kernel
theorem dX6_copyFrom_9 : decode cX6_copyFrom 9 = .ok (.iconst 0, 1) := by decide +kernel
theorem dX6_copyFrom_10 : decode cX6_copyFrom 10 = .ok (.aload_n 0, 1) := by decide +kernel
theorem dX6_copyFrom_11 : decode cX6_copyFrom 11 = .ok (.getfield 7, 3) := by decide +kernel
theorem dX6_copyFrom_14 : decode cX6_copyFrom 14 = .ok (.arraylength, 1) := by decide +kernel
theorem dX6_copyFrom_15 : decode cX6_copyFrom 15 = .ok (.aload_n 1, 1) := by decide +kernel
theorem dX6_copyFrom_16 : decode cX6_copyFrom 16 = .ok (.getfield 7, 3) := by decide +kernel
theorem dX6_copyFrom_19 : decode cX6_copyFrom 19 = .ok (.arraylength, 1) := by decide +kernel
theorem dX6_copyFrom_20 : decode cX6_copyFrom 20 = .ok (.invokestatic 21, 3) := by decide +kernel
theorem dX6_copyFrom_23 : decode cX6_copyFrom 23 = .ok (.invokestatic 27, 3) := by decide +kernel
theorem dX6_copyFrom_26 : decode cX6_copyFrom 26 = .ok (.return_, 1) := by decide +kernel
theorem dX7_init_0 : decode cX7_init 0 = .ok (.aload_n 0, 1) := by decide +kernel
theorem dX7_init_1 : decode cX7_init 1 = .ok (.invokespecial 3, 3) := by decide +kernel
theorem dX7_init_4 : decode cX7_init 4 = .ok (.aload_n 0, 1) := by decide +kernel
theorem dX7_init_5 : decode cX7_init 5 = .ok (.new 9, 3) := by decide +kernel
theorem dX7_init_8 : decode cX7_init 8 = .ok (.dup, 1) := by decide +kernel
theorem dX7_init_9 : decode cX7_init 9 = .ok (.bipush 8, 2) := by decide +kernel
theorem dX7_init_11 : decode cX7_init 11 = .ok (.invokespecial 11, 3) := by decide +kernel
theorem dX7_init_14 : decode cX7_init 14 = .ok (.putfield 14, 3) := by decide +kernel
theorem dX7_init_17 : decode cX7_init 17 = .ok (.aload_n 0, 1) := by decide +kernel
theorem dX7_init_18 : decode cX7_init 18 = .ok (.new 9, 3) := by decide +kernel
theorem dX7_init_21 : decode cX7_init 21 = .ok (.dup, 1) := by decide +kernel
theorem dX7_init_22 : decode cX7_init 22 = .ok (.bipush 8, 2) := by decide +kernel
theorem dX7_init_24 : decode cX7_init 24 = .ok (.invokespecial 11, 3) := by decide +kernel
theorem dX7_init_27 : decode cX7_init 27 = .ok (.putfield 20, 3) := by decide +kernel
theorem dX7_init_30 : decode cX7_init 30 = .ok (.aload_n 0, 1) := by decide +kernel
theorem dX7_init_31 : decode cX7_init 31 = .ok (.iconst 0, 1) := by decide +kernel
theorem dX7_init_32 : decode cX7_init 32 = .ok (.putfield 23, 3) := by decide +kernel
theorem dX7_init_35 : decode cX7_init 35 = .ok (.return_, 1) := by decide +kernel
theorem dX7_startAt_0 : decode cX7_startAt 0 = .ok (.aload_n 0, 1) := by decide +kernel
theorem dX7_startAt_1 : decode cX7_startAt 1 = .ok (.getfield 20, 3) := by decide +kernel
theorem dX7_startAt_4 : decode cX7_startAt 4 = .ok (.invokevirtual 27, 3) := by decide +kernel
theorem dX7_startAt_7 : decode cX7_startAt 7 = .ok (.aload_n 0, 1) := by decide +kernel
theorem dX7_startAt_8 : decode cX7_startAt 8 = .ok (.iconst 0, 1) := by decide +kernel
theorem dX7_startAt_9 : decode cX7_startAt 9 = .ok (.putfield 23, 3) := by decide +kernel
theorem dX7_startAt_12 : decode cX7_startAt 12 = .ok (.aload_n 0, 1) := by decide +kernel
theorem dX7_startAt_13 : decode cX7_startAt 13 = .ok (.iload_n 1, 1) := by decide +kernel
theorem dX7_startAt_14 : decode cX7_startAt 14 = .ok (.invokevirtual 30, 3) := by decide +kernel
theorem dX7_startAt_17 : decode cX7_startAt 17 = .ok (.iconst 0, 1) := by decide +kernel
theorem dX7_startAt_18 : decode cX7_startAt 18 = .ok (.istore_n 3, 1) := by decide +kernel
theorem dX7_startAt_19 : decode cX7_startAt 19 = .ok (.iload_n 3, 1) := by decide +kernel
theorem dX7_startAt_20 : decode cX7_startAt 20 = .ok (.aload_n 0, 1) := by decide +kernel
theorem dX7_startAt_21 : decode cX7_startAt 21 = .ok (.getfield 23, 3) := by decide +kernel
theorem dX7_startAt_24 : decode cX7_startAt 24 = .ok (.if_icmp .ge 28, 3) := by decide +kernel
theorem dX7_startAt_27 : decode cX7_startAt 27 = .ok (.iload_n 3, 1) := by decide +kernel
theorem dX7_startAt_28 : decode cX7_startAt 28 = .ok (.bipush 8, 2) := by decide +kernel
theorem dX7_startAt_30 : decode cX7_startAt 30 = .ok (.if_icmp .ge 22, 3) := by decide +kernel
theorem dX7_startAt_33 : decode cX7_startAt 33 = .ok (.aload_n 0, 1) := by decide +kernel
theorem dX7_startAt_34 : decode cX7_startAt 34 = .ok (.aload_n 0, 1) := by decide +kernel
theorem dX7_startAt_35 : decode cX7_startAt 35 = .ok (.getfield 14, 3) := by decide +kernel
theorem dX7_startAt_38 : decode cX7_startAt 38 = .ok (.iload_n 3, 1) := by decide +kernel
theorem dX7_startAt_39 : decode cX7_startAt 39 = .ok (.invokevirtual 33, 3) := by decide +kernel
theorem dX7_startAt_42 : decode cX7_startAt 42 = .ok (.aload_n 2, 1) := by decide +kernel
theorem dX7_startAt_43 : decode cX7_startAt 43 = .ok (.invokevirtual 37, 3) := by decide +kernel
theorem dX7_startAt_46 : decode cX7_startAt 46 = .ok (.iinc 3 1, 3) := by decide +kernel
theorem dX7_startAt_49 : decode cX7_startAt 49 = .ok (.goto (-30), 3) := by decide +kernel
theorem dX7_startAt_52 : decode cX7_startAt 52 = .ok (.return_, 1) := by decide +kernel
theorem dX7_hasReached_0 : decode cX7_hasReached 0 = .ok (.aload_n 0, 1) := by decide +kernel
theorem dX7_hasReached_1 : decode cX7_hasReached 1 = .ok (.getfield 20, 3) := by decide +kernel
theorem dX7_hasReached_4 : decode cX7_hasReached 4 = .ok (.iload_n 1, 1) := by decide +kernel
theorem dX7_hasReached_5 : decode cX7_hasReached 5 = .ok (.invokevirtual 33, 3) := by decide +kernel
theorem dX7_hasReached_8 : decode cX7_hasReached 8 = .ok (.ifCond .eq 7, 3) := by decide +kernel
theorem dX7_hasReached_11 : decode cX7_hasReached 11 = .ok (.iconst 1, 1) := by decide +kernel
theorem dX7_hasReached_12 : decode cX7_hasReached 12 = .ok (.goto 4, 3) := by decide +kernel
theorem dX7_hasReached_15 : decode cX7_hasReached 15 = .ok (.iconst 0, 1) := by decide +kernel
theorem dX7_hasReached_16 : decode cX7_hasReached 16 = .ok (.ireturn, 1) := by decide +kernel
theorem dX7_spreadFrom_0 : decode cX7_spreadFrom 0 = .ok (.iconst 0, 1) := by decide +kernel
theorem dX7_spreadFrom_1 : decode cX7_spreadFrom 1 = .ok (.istore_n 3, 1) := by decide +kernel
theorem dX7_spreadFrom_2 : decode cX7_spreadFrom 2 = .ok (.iload_n 3, 1) := by decide +kernel
theorem dX7_spreadFrom_3 : decode cX7_spreadFrom 3 = .ok (.aload_n 2, 1) := by decide +kernel
theorem dX7_spreadFrom_4 : decode cX7_spreadFrom 4 = .ok (.getfield 41, 3) := by decide +kernel
theorem dX7_spreadFrom_7 : decode cX7_spreadFrom 7 = .ok (.if_icmp .ge 24, 3) := by decide +kernel
theorem dX7_spreadFrom_10 : decode cX7_spreadFrom 10 = .ok (.aload_n 2, 1) := by decide +kernel
theorem dX7_spreadFrom_11 : decode cX7_spreadFrom 11 = .ok (.iload_n 3, 1) := by decide +kernel
theorem dX7_spreadFrom_12 : decode cX7_spreadFrom 12 = .ok (.iload_n 1, 1) := by decide +kernel
theorem dX7_spreadFrom_13 : decode cX7_spreadFrom 13 = .ok (.invokevirtual 46, 3) := by decide +kernel
theorem dX7_spreadFrom_16 : decode cX7_spreadFrom 16 = .ok (.ifCond .eq 9, 3) := by decide +kernel
theorem dX7_spreadFrom_19 : decode cX7_spreadFrom 19 = .ok (.aload_n 0, 1) := by decide +kernel
theorem dX7_spreadFrom_20 : decode cX7_spreadFrom 20 = .ok (.iload_n 3, 1) := by decide +kernel
theorem dX7_spreadFrom_21 : decode cX7_spreadFrom 21 = .ok (.aload_n 2, 1) := by decide +kernel
theorem dX7_spreadFrom_22 : decode cX7_spreadFrom 22 = .ok (.invokevirtual 50, 3) := by decide +kernel
theorem dX7_spreadFrom_25 : decode cX7_spreadFrom 25 = .ok (.iinc 3 1, 3) := by decide +kernel
theorem dX7_spreadFrom_28 : decode cX7_spreadFrom 28 = .ok (.goto (-26), 3) := by decide +kernel
theorem dX7_spreadFrom_31 : decode cX7_spreadFrom 31 = .ok (.return_, 1) := by decide +kernel
theorem dX7_reachAllOf_0 : decode cX7_reachAllOf 0 = .ok (.iconst 0, 1) := by decide +kernel
theorem dX7_reachAllOf_1 : decode cX7_reachAllOf 1 = .ok (.istore_n 3, 1) := by decide +kernel
theorem dX7_reachAllOf_2 : decode cX7_reachAllOf 2 = .ok (.iload_n 3, 1) := by decide +kernel
theorem dX7_reachAllOf_3 : decode cX7_reachAllOf 3 = .ok (.aload_n 2, 1) := by decide +kernel
theorem dX7_reachAllOf_4 : decode cX7_reachAllOf 4 = .ok (.getfield 53, 3) := by decide +kernel
theorem dX7_reachAllOf_7 : decode cX7_reachAllOf 7 = .ok (.iload_n 1, 1) := by decide +kernel
theorem dX7_reachAllOf_8 : decode cX7_reachAllOf 8 = .ok (.invokevirtual 33, 3) := by decide +kernel
theorem dX7_reachAllOf_11 : decode cX7_reachAllOf 11 = .ok (.if_icmp .ge 19, 3) := by decide +kernel
theorem dX7_reachAllOf_14 : decode cX7_reachAllOf 14 = .ok (.aload_n 0, 1) := by decide +kernel
theorem dX7_reachAllOf_15 : decode cX7_reachAllOf 15 = .ok (.aload_n 2, 1) := by decide +kernel
theorem dX7_reachAllOf_16 : decode cX7_reachAllOf 16 = .ok (.iload_n 1, 1) := by decide +kernel
theorem dX7_reachAllOf_17 : decode cX7_reachAllOf 17 = .ok (.iload_n 3, 1) := by decide +kernel
theorem dX7_reachAllOf_18 : decode cX7_reachAllOf 18 = .ok (.invokevirtual 56, 3) := by decide +kernel
theorem dX7_reachAllOf_21 : decode cX7_reachAllOf 21 = .ok (.invokevirtual 30, 3) := by decide +kernel
theorem dX7_reachAllOf_24 : decode cX7_reachAllOf 24 = .ok (.iinc 3 1, 3) := by decide +kernel
theorem dX7_reachAllOf_27 : decode cX7_reachAllOf 27 = .ok (.goto (-25), 3) := by decide +kernel
theorem dX7_reachAllOf_30 : decode cX7_reachAllOf 30 = .ok (.return_, 1) := by decide +kernel
theorem dX7_reach_0 : decode cX7_reach 0 = .ok (.aload_n 0, 1) := by decide +kernel
theorem dX7_reach_1 : decode cX7_reach 1 = .ok (.getfield 20, 3) := by decide +kernel
theorem dX7_reach_4 : decode cX7_reach 4 = .ok (.iload_n 1, 1) := by decide +kernel
theorem dX7_reach_5 : decode cX7_reach 5 = .ok (.invokevirtual 33, 3) := by decide +kernel
theorem dX7_reach_8 : decode cX7_reach 8 = .ok (.ifCond .ne 34, 3) := by decide +kernel
theorem dX7_reach_11 : decode cX7_reach 11 = .ok (.aload_n 0, 1) := by decide +kernel
theorem dX7_reach_12 : decode cX7_reach 12 = .ok (.getfield 20, 3) := by decide +kernel
theorem dX7_reach_15 : decode cX7_reach 15 = .ok (.iload_n 1, 1) := by decide +kernel
theorem dX7_reach_16 : decode cX7_reach 16 = .ok (.iconst 1, 1) := by decide +kernel
theorem dX7_reach_17 : decode cX7_reach 17 = .ok (.invokevirtual 60, 3) := by decide +kernel
theorem dX7_reach_20 : decode cX7_reach 20 = .ok (.aload_n 0, 1) := by decide +kernel
theorem dX7_reach_21 : decode cX7_reach 21 = .ok (.getfield 14, 3) := by decide +kernel
theorem dX7_reach_24 : decode cX7_reach 24 = .ok (.aload_n 0, 1) := by decide +kernel
theorem dX7_reach_25 : decode cX7_reach 25 = .ok (.getfield 23, 3) := by decide +kernel
theorem dX7_reach_28 : decode cX7_reach 28 = .ok (.iload_n 1, 1) := by decide +kernel
theorem dX7_reach_29 : decode cX7_reach 29 = .ok (.invokevirtual 60, 3) := by decide +kernel
theorem dX7_reach_32 : decode cX7_reach 32 = .ok (.aload_n 0, 1) := by decide +kernel
theorem dX7_reach_33 : decode cX7_reach 33 = .ok (.dup, 1) := by decide +kernel
theorem dX7_reach_34 : decode cX7_reach 34 = .ok (.getfield 23, 3) := by decide +kernel
theorem dX7_reach_37 : decode cX7_reach 37 = .ok (.iconst 1, 1) := by decide +kernel
theorem dX7_reach_38 : decode cX7_reach 38 = .ok (.iadd, 1) := by decide +kernel
theorem dX7_reach_39 : decode cX7_reach 39 = .ok (.putfield 23, 3) := by decide +kernel
theorem dX7_reach_42 : decode cX7_reach 42 = .ok (.return_, 1) := by decide +kernel
theorem dX8_ofSide_0 : decode cX8_ofSide 0 = .ok (.iconst 0, 1) := by decide +kernel
theorem dX8_ofSide_1 : decode cX8_ofSide 1 = .ok (.istore_n 3, 1) := by decide +kernel
theorem dX8_ofSide_2 : decode cX8_ofSide 2 = .ok (.iconst 0, 1) := by decide +kernel
theorem dX8_ofSide_3 : decode cX8_ofSide 3 = .ok (.istore 4, 2) := by decide +kernel
theorem dX8_ofSide_5 : decode cX8_ofSide 5 = .ok (.iload 4, 2) := by decide +kernel
theorem dX8_ofSide_7 : decode cX8_ofSide 7 = .ok (.aload_n 0, 1) := by decide +kernel
theorem dX8_ofSide_8 : decode cX8_ofSide 8 = .ok (.getfield 9, 3) := by decide +kernel
theorem dX8_ofSide_11 : decode cX8_ofSide 11 = .ok (.iload_n 1, 1) := by decide +kernel
theorem dX8_ofSide_12 : decode cX8_ofSide 12 = .ok (.invokevirtual 15, 3) := by decide +kernel
theorem dX8_ofSide_15 : decode cX8_ofSide 15 = .ok (.if_icmp .ge 39, 3) := by decide +kernel
theorem dX8_ofSide_18 : decode cX8_ofSide 18 = .ok (.aload_n 0, 1) := by decide +kernel
theorem dX8_ofSide_19 : decode cX8_ofSide 19 = .ok (.iload_n 1, 1) := by decide +kernel
theorem dX8_ofSide_20 : decode cX8_ofSide 20 = .ok (.iload 4, 2) := by decide +kernel
theorem dX8_ofSide_22 : decode cX8_ofSide 22 = .ok (.invokevirtual 21, 3) := by decide +kernel
theorem dX8_ofSide_25 : decode cX8_ofSide 25 = .ok (.istore 5, 2) := by decide +kernel
theorem dX8_ofSide_27 : decode cX8_ofSide 27 = .ok (.aload_n 0, 1) := by decide +kernel
theorem dX8_ofSide_28 : decode cX8_ofSide 28 = .ok (.iload_n 1, 1) := by decide +kernel
theorem dX8_ofSide_29 : decode cX8_ofSide 29 = .ok (.iload 5, 2) := by decide +kernel
theorem dX8_ofSide_31 : decode cX8_ofSide 31 = .ok (.invokevirtual 25, 3) := by decide +kernel
theorem dX8_ofSide_34 : decode cX8_ofSide 34 = .ok (.iload_n 2, 1) := by decide +kernel
theorem dX8_ofSide_35 : decode cX8_ofSide 35 = .ok (.if_icmp .ne 13, 3) := by decide +kernel
theorem dX8_ofSide_38 : decode cX8_ofSide 38 = .ok (.iload_n 3, 1) := by decide +kernel
theorem dX8_ofSide_39 : decode cX8_ofSide 39 = .ok (.aload_n 0, 1) := by decide +kernel
theorem dX8_ofSide_40 : decode cX8_ofSide 40 = .ok (.iload_n 1, 1) := by decide +kernel
theorem dX8_ofSide_41 : decode cX8_ofSide 41 = .ok (.iload 5, 2) := by decide +kernel
theorem dX8_ofSide_43 : decode cX8_ofSide 43 = .ok (.invokevirtual 28, 3) := by decide +kernel
theorem dX8_ofSide_46 : decode cX8_ofSide 46 = .ok (.iadd, 1) := by decide +kernel
theorem dX8_ofSide_47 : decode cX8_ofSide 47 = .ok (.istore_n 3, 1) := by decide +kernel
theorem dX8_ofSide_48 : decode cX8_ofSide 48 = .ok (.iinc 4 1, 3) := by decide +kernel
theorem dX8_ofSide_51 : decode cX8_ofSide 51 = .ok (.goto (-46), 3) := by decide +kernel
theorem dX8_ofSide_54 : decode cX8_ofSide 54 = .ok (.iload_n 3, 1) := by decide +kernel
theorem dX8_ofSide_55 : decode cX8_ofSide 55 = .ok (.ireturn, 1) := by decide +kernel
theorem dX8_marginByTestimony_0 : decode cX8_marginByTestimony 0 = .ok (.bipush (-2), 2) := by decide +kernel
theorem dX8_marginByTestimony_2 : decode cX8_marginByTestimony 2 = .ok (.aload_n 0, 1) := by decide +kernel
theorem dX8_marginByTestimony_3 : decode cX8_marginByTestimony 3 = .ok (.iload_n 1, 1) := by decide +kernel
theorem dX8_marginByTestimony_4 : decode cX8_marginByTestimony 4 = .ok (.invokevirtual 31, 3) := by decide +kernel
theorem dX8_marginByTestimony_7 : decode cX8_marginByTestimony 7 = .ok (.imul, 1) := by decide +kernel
theorem dX8_marginByTestimony_8 : decode cX8_marginByTestimony 8 = .ok (.istore_n 2, 1) := by decide +kernel
theorem dX8_marginByTestimony_9 : decode cX8_marginByTestimony 9 = .ok (.iconst 0, 1) := by decide +kernel
theorem dX8_marginByTestimony_10 : decode cX8_marginByTestimony 10 = .ok (.istore_n 3, 1) := by decide +kernel
theorem dX8_marginByTestimony_11 : decode cX8_marginByTestimony 11 = .ok (.iload_n 3, 1) := by decide +kernel
theorem dX8_marginByTestimony_12 : decode cX8_marginByTestimony 12 = .ok (.aload_n 0, 1) := by decide +kernel
theorem dX8_marginByTestimony_13 : decode cX8_marginByTestimony 13 = .ok (.getfield 9, 3) := by decide +kernel
theorem dX8_marginByTestimony_16 : decode cX8_marginByTestimony 16 = .ok (.iload_n 1, 1) := by decide +kernel
theorem dX8_marginByTestimony_17 : decode cX8_marginByTestimony 17 = .ok (.invokevirtual 15, 3) := by decide +kernel
theorem dX8_marginByTestimony_20 : decode cX8_marginByTestimony 20 = .ok (.if_icmp .ge 35, 3) := by decide +kernel
theorem dX8_marginByTestimony_23 : decode cX8_marginByTestimony 23 = .ok (.aload_n 0, 1) := by decide +kernel
theorem dX8_marginByTestimony_24 : decode cX8_marginByTestimony 24 = .ok (.iload_n 1, 1) := by decide +kernel
theorem dX8_marginByTestimony_25 : decode cX8_marginByTestimony 25 = .ok (.iload_n 3, 1) := by decide +kernel
theorem dX8_marginByTestimony_26 : decode cX8_marginByTestimony 26 = .ok (.invokevirtual 21, 3) := by decide +kernel
theorem dX8_marginByTestimony_29 : decode cX8_marginByTestimony 29 = .ok (.istore 4, 2) := by decide +kernel
theorem dX8_marginByTestimony_31 : decode cX8_marginByTestimony 31 = .ok (.iload_n 2, 1) := by decide +kernel
theorem dX8_marginByTestimony_32 : decode cX8_marginByTestimony 32 = .ok (.aload_n 0, 1) := by decide +kernel
theorem dX8_marginByTestimony_33 : decode cX8_marginByTestimony 33 = .ok (.iload_n 1, 1) := by decide +kernel
theorem dX8_marginByTestimony_34 : decode cX8_marginByTestimony 34 = .ok (.iload 4, 2) := by decide +kernel
theorem dX8_marginByTestimony_36 : decode cX8_marginByTestimony 36 = .ok (.invokevirtual 25, 3) := by decide +kernel
theorem dX8_marginByTestimony_39 : decode cX8_marginByTestimony 39 = .ok (.aload_n 0, 1) := by decide +kernel
theorem dX8_marginByTestimony_40 : decode cX8_marginByTestimony 40 = .ok (.iload_n 1, 1) := by decide +kernel
theorem dX8_marginByTestimony_41 : decode cX8_marginByTestimony 41 = .ok (.iload 4, 2) := by decide +kernel
theorem dX8_marginByTestimony_43 : decode cX8_marginByTestimony 43 = .ok (.invokevirtual 28, 3) := by decide +kernel
theorem dX8_marginByTestimony_46 : decode cX8_marginByTestimony 46 = .ok (.imul, 1) := by decide +kernel
theorem dX8_marginByTestimony_47 : decode cX8_marginByTestimony 47 = .ok (.iadd, 1) := by decide +kernel
theorem dX8_marginByTestimony_48 : decode cX8_marginByTestimony 48 = .ok (.istore_n 2, 1) := by decide +kernel
theorem dX8_marginByTestimony_49 : decode cX8_marginByTestimony 49 = .ok (.iinc 3 1, 3) := by decide +kernel
theorem dX8_marginByTestimony_52 : decode cX8_marginByTestimony 52 = .ok (.goto (-41), 3) := by decide +kernel
theorem dX8_marginByTestimony_55 : decode cX8_marginByTestimony 55 = .ok (.iload_n 2, 1) := by decide +kernel
theorem dX8_marginByTestimony_56 : decode cX8_marginByTestimony 56 = .ok (.ireturn, 1) := by decide +kernel
theorem dX8_marginByLevel_0 : decode cX8_marginByLevel 0 = .ok (.bipush (-2), 2) := by decide +kernel
theorem dX8_marginByLevel_2 : decode cX8_marginByLevel 2 = .ok (.aload_n 0, 1) := by decide +kernel
theorem dX8_marginByLevel_3 : decode cX8_marginByLevel 3 = .ok (.iload_n 1, 1) := by decide +kernel
theorem dX8_marginByLevel_4 : decode cX8_marginByLevel 4 = .ok (.invokevirtual 31, 3) := by decide +kernel
theorem dX8_marginByLevel_7 : decode cX8_marginByLevel 7 = .ok (.imul, 1) := by decide +kernel
theorem dX8_marginByLevel_8 : decode cX8_marginByLevel 8 = .ok (.istore_n 2, 1) := by decide +kernel
theorem dX8_marginByLevel_9 : decode cX8_marginByLevel 9 = .ok (.iconst 0, 1) := by decide +kernel
theorem dX8_marginByLevel_10 : decode cX8_marginByLevel 10 = .ok (.istore_n 3, 1) := by decide +kernel
theorem dX8_marginByLevel_11 : decode cX8_marginByLevel 11 = .ok (.iload_n 3, 1) := by decide +kernel
theorem dX8_marginByLevel_12 : decode cX8_marginByLevel 12 = .ok (.bipush 9, 2) := by decide +kernel
theorem dX8_marginByLevel_14 : decode cX8_marginByLevel 14 = .ok (.if_icmp .gt 20, 3) := by decide +kernel
theorem dX8_marginByLevel_17 : decode cX8_marginByLevel 17 = .ok (.iload_n 2, 1) := by decide +kernel
theorem dX8_marginByLevel_18 : decode cX8_marginByLevel 18 = .ok (.iload_n 3, 1) := by decide +kernel
theorem dX8_marginByLevel_19 : decode cX8_marginByLevel 19 = .ok (.iload_n 3, 1) := by decide +kernel
theorem dX8_marginByLevel_20 : decode cX8_marginByLevel 20 = .ok (.aload_n 0, 1) := by decide +kernel
theorem dX8_marginByLevel_21 : decode cX8_marginByLevel 21 = .ok (.iload_n 1, 1) := by decide +kernel
theorem dX8_marginByLevel_22 : decode cX8_marginByLevel 22 = .ok (.invokestatic 34, 3) := by decide +kernel
theorem dX8_marginByLevel_25 : decode cX8_marginByLevel 25 = .ok (.imul, 1) := by decide +kernel
theorem dX8_marginByLevel_26 : decode cX8_marginByLevel 26 = .ok (.iadd, 1) := by decide +kernel
theorem dX8_marginByLevel_27 : decode cX8_marginByLevel 27 = .ok (.istore_n 2, 1) := by decide +kernel
theorem dX8_marginByLevel_28 : decode cX8_marginByLevel 28 = .ok (.iinc 3 1, 3) := by decide +kernel
theorem dX8_marginByLevel_31 : decode cX8_marginByLevel 31 = .ok (.goto (-20), 3) := by decide +kernel
theorem dX8_marginByLevel_34 : decode cX8_marginByLevel 34 = .ok (.iload_n 2, 1) := by decide +kernel
theorem dX8_marginByLevel_35 : decode cX8_marginByLevel 35 = .ok (.ireturn, 1) := by decide +kernel
theorem dX8_signedStrengthsAt_0 : decode cX8_signedStrengthsAt 0 = .ok (.iconst 0, 1) := by decide +kernel
theorem dX8_signedStrengthsAt_1 : decode cX8_signedStrengthsAt 1 = .ok (.istore_n 3, 1) := by decide +kernel
theorem dX8_signedStrengthsAt_2 : decode cX8_signedStrengthsAt 2 = .ok (.iconst 0, 1) := by decide +kernel
theorem dX8_signedStrengthsAt_3 : decode cX8_signedStrengthsAt 3 = .ok (.istore 4, 2) := by decide +kernel
theorem dX8_signedStrengthsAt_5 : decode cX8_signedStrengthsAt 5 = .ok (.iload 4, 2) := by decide +kernel
theorem dX8_signedStrengthsAt_7 : decode cX8_signedStrengthsAt 7 = .ok (.aload_n 1, 1) := by decide +kernel
theorem dX8_signedStrengthsAt_8 : decode cX8_signedStrengthsAt 8 = .ok (.getfield 9, 3) := by decide +kernel
theorem dX8_signedStrengthsAt_11 : decode cX8_signedStrengthsAt 11 = .ok (.iload_n 2, 1) := by decide +kernel
theorem dX8_signedStrengthsAt_12 : decode cX8_signedStrengthsAt 12 = .ok (.invokevirtual 15, 3) := by decide +kernel
theorem dX8_signedStrengthsAt_15 : decode cX8_signedStrengthsAt 15 = .ok (.if_icmp .ge 49, 3) := by decide +kernel
theorem dX8_signedStrengthsAt_18 : decode cX8_signedStrengthsAt 18 = .ok (.aload_n 1, 1) := by decide +kernel
theorem dX8_signedStrengthsAt_19 : decode cX8_signedStrengthsAt 19 = .ok (.iload_n 2, 1) := by decide +kernel
theorem dX8_signedStrengthsAt_20 : decode cX8_signedStrengthsAt 20 = .ok (.iload 4, 2) := by decide +kernel
theorem dX8_signedStrengthsAt_22 : decode cX8_signedStrengthsAt 22 = .ok (.invokevirtual 21, 3) := by decide +kernel
theorem dX8_signedStrengthsAt_25 : decode cX8_signedStrengthsAt 25 = .ok (.istore 5, 2) := by decide +kernel
theorem dX8_signedStrengthsAt_27 : decode cX8_signedStrengthsAt 27 = .ok (.aload_n 1, 1) := by decide +kernel
theorem dX8_signedStrengthsAt_28 : decode cX8_signedStrengthsAt 28 = .ok (.getfield 40, 3) := by decide +kernel
theorem dX8_signedStrengthsAt_31 : decode cX8_signedStrengthsAt 31 = .ok (.iload 5, 2) := by decide +kernel
theorem dX8_signedStrengthsAt_33 : decode cX8_signedStrengthsAt 33 = .ok (.invokevirtual 15, 3) := by decide +kernel
theorem dX8_signedStrengthsAt_36 : decode cX8_signedStrengthsAt 36 = .ok (.iload_n 0, 1) := by decide +kernel
theorem dX8_signedStrengthsAt_37 : decode cX8_signedStrengthsAt 37 = .ok (.if_icmp .ne 21, 3) := by decide +kernel
theorem dX8_signedStrengthsAt_40 : decode cX8_signedStrengthsAt 40 = .ok (.iload_n 3, 1) := by decide +kernel
theorem dX8_signedStrengthsAt_41 : decode cX8_signedStrengthsAt 41 = .ok (.aload_n 1, 1) := by decide +kernel
theorem dX8_signedStrengthsAt_42 : decode cX8_signedStrengthsAt 42 = .ok (.iload_n 2, 1) := by decide +kernel
theorem dX8_signedStrengthsAt_43 : decode cX8_signedStrengthsAt 43 = .ok (.iload 5, 2) := by decide +kernel
theorem dX8_signedStrengthsAt_45 : decode cX8_signedStrengthsAt 45 = .ok (.invokevirtual 25, 3) := by decide +kernel
theorem dX8_signedStrengthsAt_48 : decode cX8_signedStrengthsAt 48 = .ok (.aload_n 1, 1) := by decide +kernel
theorem dX8_signedStrengthsAt_49 : decode cX8_signedStrengthsAt 49 = .ok (.iload_n 2, 1) := by decide +kernel
theorem dX8_signedStrengthsAt_50 : decode cX8_signedStrengthsAt 50 = .ok (.iload 5, 2) := by decide +kernel
theorem dX8_signedStrengthsAt_52 : decode cX8_signedStrengthsAt 52 = .ok (.invokevirtual 43, 3) := by decide +kernel
theorem dX8_signedStrengthsAt_55 : decode cX8_signedStrengthsAt 55 = .ok (.imul, 1) := by decide +kernel
theorem dX8_signedStrengthsAt_56 : decode cX8_signedStrengthsAt 56 = .ok (.iadd, 1) := by decide +kernel
theorem dX8_signedStrengthsAt_57 : decode cX8_signedStrengthsAt 57 = .ok (.istore_n 3, 1) := by decide +kernel
theorem dX8_signedStrengthsAt_58 : decode cX8_signedStrengthsAt 58 = .ok (.iinc 4 1, 3) := by decide +kernel
theorem dX8_signedStrengthsAt_61 : decode cX8_signedStrengthsAt 61 = .ok (.goto (-56), 3) := by decide +kernel
theorem dX8_signedStrengthsAt_64 : decode cX8_signedStrengthsAt 64 = .ok (.iload_n 3, 1) := by decide +kernel
theorem dX8_signedStrengthsAt_65 : decode cX8_signedStrengthsAt 65 = .ok (.ireturn, 1) := by decide +kernel
theorem dX8_heaviestIn_0 : decode cX8_heaviestIn 0 = .ok (.aload_n 0, 1) := by decide +kernel
theorem dX8_heaviestIn_1 : decode cX8_heaviestIn 1 = .ok (.iload_n 1, 1) := by decide +kernel
theorem dX8_heaviestIn_2 : decode cX8_heaviestIn 2 = .ok (.iconst 0, 1) := by decide +kernel
theorem dX8_heaviestIn_3 : decode cX8_heaviestIn 3 = .ok (.invokevirtual 21, 3) := by decide +kernel
theorem dX8_heaviestIn_6 : decode cX8_heaviestIn 6 = .ok (.istore_n 2, 1) := by decide +kernel
theorem dX8_heaviestIn_7 : decode cX8_heaviestIn 7 = .ok (.iconst 1, 1) := by decide +kernel
theorem dX8_heaviestIn_8 : decode cX8_heaviestIn 8 = .ok (.istore_n 3, 1) := by decide +kernel
theorem dX8_heaviestIn_9 : decode cX8_heaviestIn 9 = .ok (.iload_n 3, 1) := by decide +kernel
theorem dX8_heaviestIn_10 : decode cX8_heaviestIn 10 = .ok (.aload_n 0, 1) := by decide +kernel
theorem dX8_heaviestIn_11 : decode cX8_heaviestIn 11 = .ok (.getfield 9, 3) := by decide +kernel
theorem dX8_heaviestIn_14 : decode cX8_heaviestIn 14 = .ok (.iload_n 1, 1) := by decide +kernel
theorem dX8_heaviestIn_15 : decode cX8_heaviestIn 15 = .ok (.invokevirtual 15, 3) := by decide +kernel
theorem dX8_heaviestIn_18 : decode cX8_heaviestIn 18 = .ok (.if_icmp .ge 36, 3) := by decide +kernel
theorem dX8_heaviestIn_21 : decode cX8_heaviestIn 21 = .ok (.aload_n 0, 1) := by decide +kernel
theorem dX8_heaviestIn_22 : decode cX8_heaviestIn 22 = .ok (.iload_n 1, 1) := by decide +kernel
theorem dX8_heaviestIn_23 : decode cX8_heaviestIn 23 = .ok (.iload_n 3, 1) := by decide +kernel
theorem dX8_heaviestIn_24 : decode cX8_heaviestIn 24 = .ok (.invokevirtual 21, 3) := by decide +kernel
theorem dX8_heaviestIn_27 : decode cX8_heaviestIn 27 = .ok (.istore 4, 2) := by decide +kernel
theorem dX8_heaviestIn_29 : decode cX8_heaviestIn 29 = .ok (.aload_n 0, 1) := by decide +kernel
theorem dX8_heaviestIn_30 : decode cX8_heaviestIn 30 = .ok (.iload_n 1, 1) := by decide +kernel
theorem dX8_heaviestIn_31 : decode cX8_heaviestIn 31 = .ok (.iload 4, 2) := by decide +kernel
theorem dX8_heaviestIn_33 : decode cX8_heaviestIn 33 = .ok (.invokevirtual 28, 3) := by decide +kernel
theorem dX8_heaviestIn_36 : decode cX8_heaviestIn 36 = .ok (.aload_n 0, 1) := by decide +kernel
theorem dX8_heaviestIn_37 : decode cX8_heaviestIn 37 = .ok (.iload_n 1, 1) := by decide +kernel
theorem dX8_heaviestIn_38 : decode cX8_heaviestIn 38 = .ok (.iload_n 2, 1) := by decide +kernel
theorem dX8_heaviestIn_39 : decode cX8_heaviestIn 39 = .ok (.invokevirtual 28, 3) := by decide +kernel
theorem dX8_heaviestIn_42 : decode cX8_heaviestIn 42 = .ok (.if_icmp .le 6, 3) := by decide +kernel
theorem dX8_heaviestIn_45 : decode cX8_heaviestIn 45 = .ok (.iload 4, 2) := by decide +kernel
theorem dX8_heaviestIn_47 : decode cX8_heaviestIn 47 = .ok (.istore_n 2, 1) := by decide +kernel
theorem dX8_heaviestIn_48 : decode cX8_heaviestIn 48 = .ok (.iinc 3 1, 3) := by decide +kernel
theorem dX8_heaviestIn_51 : decode cX8_heaviestIn 51 = .ok (.goto (-42), 3) := by decide +kernel
theorem dX8_heaviestIn_54 : decode cX8_heaviestIn 54 = .ok (.iload_n 2, 1) := by decide +kernel
theorem dX8_heaviestIn_55 : decode cX8_heaviestIn 55 = .ok (.ireturn, 1) := by decide +kernel
theorem dX8_firmAnswersNeeded_0 : decode cX8_firmAnswersNeeded 0 = .ok (.aload_n 0, 1) := by decide +kernel
theorem dX8_firmAnswersNeeded_1 : decode cX8_firmAnswersNeeded 1 = .ok (.iload_n 1, 1) := by decide +kernel
theorem dX8_firmAnswersNeeded_2 : decode cX8_firmAnswersNeeded 2 = .ok (.iload_n 2, 1) := by decide +kernel
theorem dX8_firmAnswersNeeded_3 : decode cX8_firmAnswersNeeded 3 = .ok (.invokevirtual 25, 3) := by decide +kernel
theorem dX8_firmAnswersNeeded_6 : decode cX8_firmAnswersNeeded 6 = .ok (.aload_n 0, 1) := by decide +kernel
theorem dX8_firmAnswersNeeded_7 : decode cX8_firmAnswersNeeded 7 = .ok (.iload_n 1, 1) := by decide +kernel
theorem dX8_firmAnswersNeeded_8 : decode cX8_firmAnswersNeeded 8 = .ok (.iload_n 2, 1) := by decide +kernel
theorem dX8_firmAnswersNeeded_9 : decode cX8_firmAnswersNeeded 9 = .ok (.invokevirtual 43, 3) := by decide +kernel
theorem dX8_firmAnswersNeeded_12 : decode cX8_firmAnswersNeeded 12 = .ok (.imul, 1) := by decide +kernel
theorem dX8_firmAnswersNeeded_13 : decode cX8_firmAnswersNeeded 13 = .ok (.istore_n 3, 1) := by decide +kernel
theorem dX8_firmAnswersNeeded_14 : decode cX8_firmAnswersNeeded 14 = .ok (.bipush 9, 2) := by decide +kernel
theorem dX8_firmAnswersNeeded_16 : decode cX8_firmAnswersNeeded 16 = .ok (.aload_n 0, 1) := by decide +kernel
theorem dX8_firmAnswersNeeded_17 : decode cX8_firmAnswersNeeded 17 = .ok (.getfield 40, 3) := by decide +kernel
theorem dX8_firmAnswersNeeded_20 : decode cX8_firmAnswersNeeded 20 = .ok (.iload_n 2, 1) := by decide +kernel
theorem dX8_firmAnswersNeeded_21 : decode cX8_firmAnswersNeeded 21 = .ok (.invokevirtual 15, 3) := by decide +kernel
theorem dX8_firmAnswersNeeded_24 : decode cX8_firmAnswersNeeded 24 = .ok (.isub, 1) := by decide +kernel
theorem dX8_firmAnswersNeeded_25 : decode cX8_firmAnswersNeeded 25 = .ok (.istore 4, 2) := by decide +kernel
theorem dX8_firmAnswersNeeded_27 : decode cX8_firmAnswersNeeded 27 = .ok (.aload_n 0, 1) := by decide +kernel
theorem dX8_firmAnswersNeeded_28 : decode cX8_firmAnswersNeeded 28 = .ok (.iload_n 1, 1) := by decide +kernel
theorem dX8_firmAnswersNeeded_29 : decode cX8_firmAnswersNeeded 29 = .ok (.invokestatic 46, 3) := by decide +kernel
theorem dX8_firmAnswersNeeded_32 : decode cX8_firmAnswersNeeded 32 = .ok (.istore 5, 2) := by decide +kernel
theorem dX8_firmAnswersNeeded_34 : decode cX8_firmAnswersNeeded 34 = .ok (.iconst 0, 1) := by decide +kernel
theorem dX8_firmAnswersNeeded_35 : decode cX8_firmAnswersNeeded 35 = .ok (.istore 6, 2) := by decide +kernel
theorem dX8_firmAnswersNeeded_37 : decode cX8_firmAnswersNeeded 37 = .ok (.iload 6, 2) := by decide +kernel
theorem dX8_firmAnswersNeeded_39 : decode cX8_firmAnswersNeeded 39 = .ok (.iload 4, 2) := by decide +kernel
theorem dX8_firmAnswersNeeded_41 : decode cX8_firmAnswersNeeded 41 = .ok (.if_icmp .gt 22, 3) := by decide +kernel
theorem dX8_firmAnswersNeeded_44 : decode cX8_firmAnswersNeeded 44 = .ok (.iload 5, 2) := by decide +kernel
theorem dX8_firmAnswersNeeded_46 : decode cX8_firmAnswersNeeded 46 = .ok (.iload 6, 2) := by decide +kernel
theorem dX8_firmAnswersNeeded_48 : decode cX8_firmAnswersNeeded 48 = .ok (.iload_n 3, 1) := by decide +kernel
theorem dX8_firmAnswersNeeded_49 : decode cX8_firmAnswersNeeded 49 = .ok (.imul, 1) := by decide +kernel
theorem dX8_firmAnswersNeeded_50 : decode cX8_firmAnswersNeeded 50 = .ok (.iadd, 1) := by decide +kernel
theorem dX8_firmAnswersNeeded_51 : decode cX8_firmAnswersNeeded 51 = .ok (.ifCond .le 6, 3) := by decide +kernel
theorem dX8_firmAnswersNeeded_54 : decode cX8_firmAnswersNeeded 54 = .ok (.iload 6, 2) := by decide +kernel
theorem dX8_firmAnswersNeeded_56 : decode cX8_firmAnswersNeeded 56 = .ok (.ireturn, 1) := by decide +kernel
theorem dX8_firmAnswersNeeded_57 : decode cX8_firmAnswersNeeded 57 = .ok (.iinc 6 1, 3) := by decide +kernel
theorem dX8_firmAnswersNeeded_60 : decode cX8_firmAnswersNeeded 60 = .ok (.goto (-23), 3) := by decide +kernel
theorem dX8_firmAnswersNeeded_63 : decode cX8_firmAnswersNeeded 63 = .ok (.iconst (-1), 1) := by decide +kernel
theorem dX8_firmAnswersNeeded_64 : decode cX8_firmAnswersNeeded 64 = .ok (.ireturn, 1) := by decide +kernel
theorem dX9_init_0 : decode cX9_init 0 = .ok (.aload_n 0, 1) := by decide +kernel
theorem dX9_init_1 : decode cX9_init 1 = .ok (.invokespecial 1, 3) := by decide +kernel
theorem dX9_init_4 : decode cX9_init 4 = .ok (.aload_n 0, 1) := by decide +kernel
theorem dX9_init_5 : decode cX9_init 5 = .ok (.new 7, 3) := by decide +kernel
theorem dX9_init_8 : decode cX9_init 8 = .ok (.dup, 1) := by decide +kernel
theorem dX9_init_9 : decode cX9_init 9 = .ok (.invokespecial 9, 3) := by decide +kernel
theorem dX9_init_12 : decode cX9_init 12 = .ok (.putfield 10, 3) := by decide +kernel
theorem dX9_init_15 : decode cX9_init 15 = .ok (.aload_n 0, 1) := by decide +kernel
theorem dX9_init_16 : decode cX9_init 16 = .ok (.new 7, 3) := by decide +kernel
theorem dX9_init_19 : decode cX9_init 19 = .ok (.dup, 1) := by decide +kernel
theorem dX9_init_20 : decode cX9_init 20 = .ok (.invokespecial 9, 3) := by decide +kernel
theorem dX9_init_23 : decode cX9_init 23 = .ok (.putfield 16, 3) := by decide +kernel
theorem dX9_init_26 : decode cX9_init 26 = .ok (.aload_n 0, 1) := by decide +kernel
theorem dX9_init_27 : decode cX9_init 27 = .ok (.new 7, 3) := by decide +kernel
theorem dX9_init_30 : decode cX9_init 30 = .ok (.dup, 1) := by decide +kernel
theorem dX9_init_31 : decode cX9_init 31 = .ok (.invokespecial 9, 3) := by decide +kernel
theorem dX9_init_34 : decode cX9_init 34 = .ok (.putfield 19, 3) := by decide +kernel
theorem dX9_init_37 : decode cX9_init 37 = .ok (.aload_n 0, 1) := by decide +kernel
theorem dX9_init_38 : decode cX9_init 38 = .ok (.new 22, 3) := by decide +kernel
theorem dX9_init_41 : decode cX9_init 41 = .ok (.dup, 1) := by decide +kernel
theorem dX9_init_42 : decode cX9_init 42 = .ok (.invokespecial 24, 3) := by decide +kernel
theorem dX9_init_45 : decode cX9_init 45 = .ok (.putfield 25, 3) := by decide +kernel
theorem dX9_init_48 : decode cX9_init 48 = .ok (.aload_n 0, 1) := by decide +kernel
theorem dX9_init_49 : decode cX9_init 49 = .ok (.new 29, 3) := by decide +kernel
theorem dX9_init_52 : decode cX9_init 52 = .ok (.dup, 1) := by decide +kernel
theorem dX9_init_53 : decode cX9_init 53 = .ok (.invokespecial 31, 3) := by decide +kernel
theorem dX9_init_56 : decode cX9_init 56 = .ok (.putfield 32, 3) := by decide +kernel
theorem dX9_init_59 : decode cX9_init 59 = .ok (.aload_n 0, 1) := by decide +kernel
theorem dX9_init_60 : decode cX9_init 60 = .ok (.new 36, 3) := by decide +kernel
theorem dX9_init_63 : decode cX9_init 63 = .ok (.dup, 1) := by decide +kernel
theorem dX9_init_64 : decode cX9_init 64 = .ok (.invokespecial 38, 3) := by decide +kernel
theorem dX9_init_67 : decode cX9_init 67 = .ok (.putfield 39, 3) := by decide +kernel
theorem dX9_init_70 : decode cX9_init 70 = .ok (.aload_n 0, 1) := by decide +kernel
theorem dX9_init_71 : decode cX9_init 71 = .ok (.new 43, 3) := by decide +kernel
theorem dX9_init_74 : decode cX9_init 74 = .ok (.dup, 1) := by decide +kernel
theorem dX9_init_75 : decode cX9_init 75 = .ok (.invokespecial 45, 3) := by decide +kernel
theorem dX9_init_78 : decode cX9_init 78 = .ok (.putfield 46, 3) := by decide +kernel
theorem dX9_init_81 : decode cX9_init 81 = .ok (.aload_n 0, 1) := by decide +kernel
theorem dX9_init_82 : decode cX9_init 82 = .ok (.new 50, 3) := by decide +kernel
theorem dX9_init_85 : decode cX9_init 85 = .ok (.dup, 1) := by decide +kernel
theorem dX9_init_86 : decode cX9_init 86 = .ok (.invokespecial 52, 3) := by decide +kernel
theorem dX9_init_89 : decode cX9_init 89 = .ok (.putfield 53, 3) := by decide +kernel
theorem dX9_init_92 : decode cX9_init 92 = .ok (.aload_n 0, 1) := by decide +kernel
theorem dX9_init_93 : decode cX9_init 93 = .ok (.iconst 0, 1) := by decide +kernel
theorem dX9_init_94 : decode cX9_init 94 = .ok (.putfield 57, 3) := by decide +kernel
theorem dX9_init_97 : decode cX9_init 97 = .ok (.aload_n 0, 1) := by decide +kernel
theorem dX9_init_98 : decode cX9_init 98 = .ok (.iconst (-1), 1) := by decide +kernel
theorem dX9_init_99 : decode cX9_init 99 = .ok (.putfield 61, 3) := by decide +kernel
theorem dX9_init_102 : decode cX9_init 102 = .ok (.aload_n 0, 1) := by decide +kernel
theorem dX9_init_103 : decode cX9_init 103 = .ok (.iconst (-1), 1) := by decide +kernel
theorem dX9_init_104 : decode cX9_init 104 = .ok (.putfield 65, 3) := by decide +kernel
theorem dX9_init_107 : decode cX9_init 107 = .ok (.aload_n 0, 1) := by decide +kernel
theorem dX9_init_108 : decode cX9_init 108 = .ok (.iconst 0, 1) := by decide +kernel
theorem dX9_init_109 : decode cX9_init 109 = .ok (.putfield 68, 3) := by decide +kernel
theorem dX9_init_112 : decode cX9_init 112 = .ok (.return_, 1) := by decide +kernel
theorem dX9_charge_0 : decode cX9_charge 0 = .ok (.aload_n 0, 1) := by decide +kernel
theorem dX9_charge_1 : decode cX9_charge 1 = .ok (.iconst 0, 1) := by decide +kernel
theorem dX9_charge_2 : decode cX9_charge 2 = .ok (.iload_n 1, 1) := by decide +kernel
theorem dX9_charge_3 : decode cX9_charge 3 = .ok (.iload_n 2, 1) := by decide +kernel
theorem dX9_charge_4 : decode cX9_charge 4 = .ok (.iconst 0, 1) := by decide +kernel
theorem dX9_charge_5 : decode cX9_charge 5 = .ok (.iconst 0, 1) := by decide +kernel
theorem dX9_charge_6 : decode cX9_charge 6 = .ok (.invokevirtual 71, 3) := by decide +kernel
theorem dX9_charge_9 : decode cX9_charge 9 = .ok (.ireturn, 1) := by decide +kernel
theorem dX9_addWitness_0 : decode cX9_addWitness 0 = .ok (.aload_n 0, 1) := by decide +kernel
theorem dX9_addWitness_1 : decode cX9_addWitness 1 = .ok (.iconst 1, 1) := by decide +kernel
theorem dX9_addWitness_2 : decode cX9_addWitness 2 = .ok (.iload_n 1, 1) := by decide +kernel
theorem dX9_addWitness_3 : decode cX9_addWitness 3 = .ok (.iconst 0, 1) := by decide +kernel
theorem dX9_addWitness_4 : decode cX9_addWitness 4 = .ok (.iconst 0, 1) := by decide +kernel
theorem dX9_addWitness_5 : decode cX9_addWitness 5 = .ok (.iconst 0, 1) := by decide +kernel
theorem dX9_addWitness_6 : decode cX9_addWitness 6 = .ok (.invokevirtual 71, 3) := by decide +kernel
theorem dX9_addWitness_9 : decode cX9_addWitness 9 = .ok (.ireturn, 1) := by decide +kernel
theorem dX9_testify_0 : decode cX9_testify 0 = .ok (.aload_n 0, 1) := by decide +kernel
theorem dX9_testify_1 : decode cX9_testify 1 = .ok (.iconst 2, 1) := by decide +kernel
theorem dX9_testify_2 : decode cX9_testify 2 = .ok (.iload_n 1, 1) := by decide +kernel
theorem dX9_testify_3 : decode cX9_testify 3 = .ok (.iload_n 2, 1) := by decide +kernel
theorem dX9_testify_4 : decode cX9_testify 4 = .ok (.iload_n 3, 1) := by decide +kernel
theorem dX9_testify_5 : decode cX9_testify 5 = .ok (.iload 4, 2) := by decide +kernel
theorem dX9_testify_7 : decode cX9_testify 7 = .ok (.invokevirtual 71, 3) := by decide +kernel
theorem dX9_testify_10 : decode cX9_testify 10 = .ok (.ireturn, 1) := by decide +kernel
theorem dX9_question_0 : decode cX9_question 0 = .ok (.aload_n 0, 1) := by decide +kernel
theorem dX9_question_1 : decode cX9_question 1 = .ok (.iconst 3, 1) := by decide +kernel
theorem dX9_question_2 : decode cX9_question 2 = .ok (.iload_n 1, 1) := by decide +kernel
theorem dX9_question_3 : decode cX9_question 3 = .ok (.iload_n 2, 1) := by decide +kernel
theorem dX9_question_4 : decode cX9_question 4 = .ok (.iload_n 3, 1) := by decide +kernel
theorem dX9_question_5 : decode cX9_question 5 = .ok (.iconst 0, 1) := by decide +kernel
theorem dX9_question_6 : decode cX9_question 6 = .ok (.invokevirtual 71, 3) := by decide +kernel
theorem dX9_question_9 : decode cX9_question 9 = .ok (.ireturn, 1) := by decide +kernel
theorem dX9_decide_0 : decode cX9_decide 0 = .ok (.aload_n 0, 1) := by decide +kernel
theorem dX9_decide_1 : decode cX9_decide 1 = .ok (.iconst 4, 1) := by decide +kernel
theorem dX9_decide_2 : decode cX9_decide 2 = .ok (.iload_n 1, 1) := by decide +kernel
theorem dX9_decide_3 : decode cX9_decide 3 = .ok (.iconst 0, 1) := by decide +kernel
theorem dX9_decide_4 : decode cX9_decide 4 = .ok (.iconst 0, 1) := by decide +kernel
theorem dX9_decide_5 : decode cX9_decide 5 = .ok (.iconst 0, 1) := by decide +kernel
theorem dX9_decide_6 : decode cX9_decide 6 = .ok (.invokevirtual 71, 3) := by decide +kernel
theorem dX9_decide_9 : decode cX9_decide 9 = .ok (.ifCond .eq 7, 3) := by decide +kernel
theorem dX9_decide_12 : decode cX9_decide 12 = .ok (.iconst 1, 1) := by decide +kernel
theorem dX9_decide_13 : decode cX9_decide 13 = .ok (.goto 4, 3) := by decide +kernel
theorem dX9_decide_16 : decode cX9_decide 16 = .ok (.iconst 0, 1) := by decide +kernel
theorem dX9_decide_17 : decode cX9_decide 17 = .ok (.ireturn, 1) := by decide +kernel
theorem dX9_appeal_0 : decode cX9_appeal 0 = .ok (.aload_n 0, 1) := by decide +kernel
theorem dX9_appeal_1 : decode cX9_appeal 1 = .ok (.iconst 5, 1) := by decide +kernel
theorem dX9_appeal_2 : decode cX9_appeal 2 = .ok (.iload_n 1, 1) := by decide +kernel
theorem dX9_appeal_3 : decode cX9_appeal 3 = .ok (.iconst 0, 1) := by decide +kernel
theorem dX9_appeal_4 : decode cX9_appeal 4 = .ok (.iconst 0, 1) := by decide +kernel
theorem dX9_appeal_5 : decode cX9_appeal 5 = .ok (.iconst 0, 1) := by decide +kernel
theorem dX9_appeal_6 : decode cX9_appeal 6 = .ok (.invokevirtual 71, 3) := by decide +kernel
theorem dX9_appeal_9 : decode cX9_appeal 9 = .ok (.ireturn, 1) := by decide +kernel
theorem dX9_close_0 : decode cX9_close 0 = .ok (.aload_n 0, 1) := by decide +kernel
theorem dX9_close_1 : decode cX9_close 1 = .ok (.bipush 6, 2) := by decide +kernel
theorem dX9_close_3 : decode cX9_close 3 = .ok (.iload_n 1, 1) := by decide +kernel
theorem dX9_close_4 : decode cX9_close 4 = .ok (.iconst 0, 1) := by decide +kernel
theorem dX9_close_5 : decode cX9_close 5 = .ok (.iconst 0, 1) := by decide +kernel
theorem dX9_close_6 : decode cX9_close 6 = .ok (.iconst 0, 1) := by decide +kernel
theorem dX9_close_7 : decode cX9_close 7 = .ok (.invokevirtual 71, 3) := by decide +kernel
theorem dX9_close_10 : decode cX9_close 10 = .ok (.ireturn, 1) := by decide +kernel
theorem dX9_caseCount_0 : decode cX9_caseCount 0 = .ok (.aload_n 0, 1) := by decide +kernel
theorem dX9_caseCount_1 : decode cX9_caseCount 1 = .ok (.getfield 10, 3) := by decide +kernel
theorem dX9_caseCount_4 : decode cX9_caseCount 4 = .ok (.getfield 75, 3) := by decide +kernel
theorem dX9_caseCount_7 : decode cX9_caseCount 7 = .ok (.ireturn, 1) := by decide +kernel
theorem dX9_caseOf_0 : decode cX9_caseOf 0 = .ok (.iload_n 1, 1) := by decide +kernel
theorem dX9_caseOf_1 : decode cX9_caseOf 1 = .ok (.invokestatic 78, 3) := by decide +kernel
theorem dX9_caseOf_4 : decode cX9_caseOf 4 = .ok (.ifCond .eq 10, 3) := by decide +kernel
theorem dX9_caseOf_7 : decode cX9_caseOf 7 = .ok (.iload_n 2, 1) := by decide +kernel
theorem dX9_caseOf_8 : decode cX9_caseOf 8 = .ok (.invokestatic 82, 3) := by decide +kernel
theorem dX9_caseOf_11 : decode cX9_caseOf 11 = .ok (.ifCond .ne 13, 3) := by decide +kernel
theorem dX9_caseOf_14 : decode cX9_caseOf 14 = .ok (.new 85, 3) := by decide +kernel
theorem dX9_caseOf_17 : decode cX9_caseOf 17 = .ok (.dup, 1) := by decide +kernel
theorem dX9_caseOf_18 : decode cX9_caseOf 18 = .ok (.ldc 87, 2) := by decide +kernel
theorem dX9_caseOf_20 : decode cX9_caseOf 20 = .ok (.invokespecial 89, 3) := by decide +kernel
theorem dX9_caseOf_23 : decode cX9_caseOf 23 = .ok (.athrow, 1) := by decide +kernel
theorem dX9_caseOf_24 : decode cX9_caseOf 24 = .ok (.aload_n 0, 1) := by decide +kernel
theorem dX9_caseOf_25 : decode cX9_caseOf 25 = .ok (.getfield 10, 3) := by decide +kernel
theorem dX9_caseOf_28 : decode cX9_caseOf 28 = .ok (.iload_n 1, 1) := by decide +kernel
theorem dX9_caseOf_29 : decode cX9_caseOf 29 = .ok (.iload_n 2, 1) := by decide +kernel
theorem dX9_caseOf_30 : decode cX9_caseOf 30 = .ok (.invokevirtual 92, 3) := by decide +kernel
theorem dX9_caseOf_33 : decode cX9_caseOf 33 = .ok (.istore_n 3, 1) := by decide +kernel
theorem dX9_caseOf_34 : decode cX9_caseOf 34 = .ok (.iload_n 3, 1) := by decide +kernel
theorem dX9_caseOf_35 : decode cX9_caseOf 35 = .ok (.iconst (-1), 1) := by decide +kernel
theorem dX9_caseOf_36 : decode cX9_caseOf 36 = .ok (.if_icmp .ne 13, 3) := by decide +kernel
theorem dX9_caseOf_39 : decode cX9_caseOf 39 = .ok (.new 96, 3) := by decide +kernel
theorem dX9_caseOf_42 : decode cX9_caseOf 42 = .ok (.dup, 1) := by decide +kernel
theorem dX9_caseOf_43 : decode cX9_caseOf 43 = .ok (.ldc 98, 2) := by decide +kernel
theorem dX9_caseOf_45 : decode cX9_caseOf 45 = .ok (.invokespecial 100, 3) := by decide +kernel
theorem dX9_caseOf_48 : decode cX9_caseOf 48 = .ok (.athrow, 1) := by decide +kernel
theorem dX9_caseOf_49 : decode cX9_caseOf 49 = .ok (.iload_n 3, 1) := by decide +kernel
theorem dX9_caseOf_50 : decode cX9_caseOf 50 = .ok (.ireturn, 1) := by decide +kernel
theorem dX9_defendantOf_0 : decode cX9_defendantOf 0 = .ok (.aload_n 0, 1) := by decide +kernel
theorem dX9_defendantOf_1 : decode cX9_defendantOf 1 = .ok (.iload_n 1, 1) := by decide +kernel
theorem dX9_defendantOf_2 : decode cX9_defendantOf 2 = .ok (.invokevirtual 101, 3) := by decide +kernel
theorem dX9_defendantOf_5 : decode cX9_defendantOf 5 = .ok (.aload_n 0, 1) := by decide +kernel
theorem dX9_defendantOf_6 : decode cX9_defendantOf 6 = .ok (.getfield 10, 3) := by decide +kernel
theorem dX9_defendantOf_9 : decode cX9_defendantOf 9 = .ok (.getfield 105, 3) := by decide +kernel
theorem dX9_defendantOf_12 : decode cX9_defendantOf 12 = .ok (.iload_n 1, 1) := by decide +kernel
theorem dX9_defendantOf_13 : decode cX9_defendantOf 13 = .ok (.invokevirtual 109, 3) := by decide +kernel
theorem dX9_defendantOf_16 : decode cX9_defendantOf 16 = .ok (.ireturn, 1) := by decide +kernel
theorem dX9_offenceOf_0 : decode cX9_offenceOf 0 = .ok (.aload_n 0, 1) := by decide +kernel
theorem dX9_offenceOf_1 : decode cX9_offenceOf 1 = .ok (.iload_n 1, 1) := by decide +kernel
theorem dX9_offenceOf_2 : decode cX9_offenceOf 2 = .ok (.invokevirtual 101, 3) := by decide +kernel
theorem dX9_offenceOf_5 : decode cX9_offenceOf 5 = .ok (.aload_n 0, 1) := by decide +kernel
theorem dX9_offenceOf_6 : decode cX9_offenceOf 6 = .ok (.getfield 10, 3) := by decide +kernel
theorem dX9_offenceOf_9 : decode cX9_offenceOf 9 = .ok (.getfield 115, 3) := by decide +kernel
theorem dX9_offenceOf_12 : decode cX9_offenceOf 12 = .ok (.iload_n 1, 1) := by decide +kernel
theorem dX9_offenceOf_13 : decode cX9_offenceOf 13 = .ok (.invokevirtual 109, 3) := by decide +kernel
theorem dX9_offenceOf_16 : decode cX9_offenceOf 16 = .ok (.ireturn, 1) := by decide +kernel
theorem dX9_isOpen_0 : decode cX9_isOpen 0 = .ok (.aload_n 0, 1) := by decide +kernel
theorem dX9_isOpen_1 : decode cX9_isOpen 1 = .ok (.iload_n 1, 1) := by decide +kernel
theorem dX9_isOpen_2 : decode cX9_isOpen 2 = .ok (.invokevirtual 101, 3) := by decide +kernel
theorem dX9_isOpen_5 : decode cX9_isOpen 5 = .ok (.aload_n 0, 1) := by decide +kernel
theorem dX9_isOpen_6 : decode cX9_isOpen 6 = .ok (.getfield 10, 3) := by decide +kernel
theorem dX9_isOpen_9 : decode cX9_isOpen 9 = .ok (.iconst 0, 1) := by decide +kernel
theorem dX9_isOpen_10 : decode cX9_isOpen 10 = .ok (.iload_n 1, 1) := by decide +kernel
theorem dX9_isOpen_11 : decode cX9_isOpen 11 = .ok (.invokevirtual 118, 3) := by decide +kernel
theorem dX9_isOpen_14 : decode cX9_isOpen 14 = .ok (.ireturn, 1) := by decide +kernel
theorem dX9_isDecided_0 : decode cX9_isDecided 0 = .ok (.aload_n 0, 1) := by decide +kernel
theorem dX9_isDecided_1 : decode cX9_isDecided 1 = .ok (.iload_n 1, 1) := by decide +kernel
theorem dX9_isDecided_2 : decode cX9_isDecided 2 = .ok (.invokevirtual 101, 3) := by decide +kernel
theorem dX9_isDecided_5 : decode cX9_isDecided 5 = .ok (.aload_n 0, 1) := by decide +kernel
theorem dX9_isDecided_6 : decode cX9_isDecided 6 = .ok (.getfield 10, 3) := by decide +kernel
theorem dX9_isDecided_9 : decode cX9_isDecided 9 = .ok (.iconst 1, 1) := by decide +kernel
theorem dX9_isDecided_10 : decode cX9_isDecided 10 = .ok (.iload_n 1, 1) := by decide +kernel
theorem dX9_isDecided_11 : decode cX9_isDecided 11 = .ok (.invokevirtual 118, 3) := by decide +kernel
theorem dX9_isDecided_14 : decode cX9_isDecided 14 = .ok (.ireturn, 1) := by decide +kernel
theorem dX9_isClosed_0 : decode cX9_isClosed 0 = .ok (.aload_n 0, 1) := by decide +kernel
theorem dX9_isClosed_1 : decode cX9_isClosed 1 = .ok (.iload_n 1, 1) := by decide +kernel
theorem dX9_isClosed_2 : decode cX9_isClosed 2 = .ok (.invokevirtual 101, 3) := by decide +kernel
theorem dX9_isClosed_5 : decode cX9_isClosed 5 = .ok (.aload_n 0, 1) := by decide +kernel
theorem dX9_isClosed_6 : decode cX9_isClosed 6 = .ok (.getfield 10, 3) := by decide +kernel
theorem dX9_isClosed_9 : decode cX9_isClosed 9 = .ok (.iconst 2, 1) := by decide +kernel
theorem dX9_isClosed_10 : decode cX9_isClosed 10 = .ok (.iload_n 1, 1) := by decide +kernel
theorem dX9_isClosed_11 : decode cX9_isClosed 11 = .ok (.invokevirtual 118, 3) := by decide +kernel
theorem dX9_isClosed_14 : decode cX9_isClosed 14 = .ok (.ireturn, 1) := by decide +kernel
theorem dX9_isGuilty_0 : decode cX9_isGuilty 0 = .ok (.aload_n 0, 1) := by decide +kernel
theorem dX9_isGuilty_1 : decode cX9_isGuilty 1 = .ok (.iload_n 1, 1) := by decide +kernel
theorem dX9_isGuilty_2 : decode cX9_isGuilty 2 = .ok (.invokevirtual 101, 3) := by decide +kernel
theorem dX9_isGuilty_5 : decode cX9_isGuilty 5 = .ok (.aload_n 0, 1) := by decide +kernel
theorem dX9_isGuilty_6 : decode cX9_isGuilty 6 = .ok (.getfield 10, 3) := by decide +kernel
theorem dX9_isGuilty_9 : decode cX9_isGuilty 9 = .ok (.iconst 0, 1) := by decide +kernel
theorem dX9_isGuilty_10 : decode cX9_isGuilty 10 = .ok (.iload_n 1, 1) := by decide +kernel
theorem dX9_isGuilty_11 : decode cX9_isGuilty 11 = .ok (.invokevirtual 118, 3) := by decide +kernel
theorem dX9_isGuilty_14 : decode cX9_isGuilty 14 = .ok (.ifCond .eq 13, 3) := by decide +kernel
theorem dX9_isGuilty_17 : decode cX9_isGuilty 17 = .ok (.new 122, 3) := by decide +kernel
theorem dX9_isGuilty_20 : decode cX9_isGuilty 20 = .ok (.dup, 1) := by decide +kernel
theorem dX9_isGuilty_21 : decode cX9_isGuilty 21 = .ok (.ldc 124, 2) := by decide +kernel
theorem dX9_isGuilty_23 : decode cX9_isGuilty 23 = .ok (.invokespecial 126, 3) := by decide +kernel
theorem dX9_isGuilty_26 : decode cX9_isGuilty 26 = .ok (.athrow, 1) := by decide +kernel
theorem dX9_isGuilty_27 : decode cX9_isGuilty 27 = .ok (.aload_n 0, 1) := by decide +kernel
theorem dX9_isGuilty_28 : decode cX9_isGuilty 28 = .ok (.getfield 10, 3) := by decide +kernel
theorem dX9_isGuilty_31 : decode cX9_isGuilty 31 = .ok (.iload_n 1, 1) := by decide +kernel
theorem dX9_isGuilty_32 : decode cX9_isGuilty 32 = .ok (.invokevirtual 127, 3) := by decide +kernel
theorem dX9_isGuilty_35 : decode cX9_isGuilty 35 = .ok (.ireturn, 1) := by decide +kernel
theorem dX9_appealCount_0 : decode cX9_appealCount 0 = .ok (.aload_n 0, 1) := by decide +kernel
theorem dX9_appealCount_1 : decode cX9_appealCount 1 = .ok (.iload_n 1, 1) := by decide +kernel
theorem dX9_appealCount_2 : decode cX9_appealCount 2 = .ok (.invokevirtual 101, 3) := by decide +kernel
theorem dX9_appealCount_5 : decode cX9_appealCount 5 = .ok (.aload_n 0, 1) := by decide +kernel
theorem dX9_appealCount_6 : decode cX9_appealCount 6 = .ok (.getfield 10, 3) := by decide +kernel
theorem dX9_appealCount_9 : decode cX9_appealCount 9 = .ok (.getfield 130, 3) := by decide +kernel
theorem dX9_appealCount_12 : decode cX9_appealCount 12 = .ok (.iload_n 1, 1) := by decide +kernel
theorem dX9_appealCount_13 : decode cX9_appealCount 13 = .ok (.invokevirtual 109, 3) := by decide +kernel
theorem dX9_appealCount_16 : decode cX9_appealCount 16 = .ok (.ireturn, 1) := by decide +kernel
theorem dX9_testimonyCount_0 : decode cX9_testimonyCount 0 = .ok (.aload_n 0, 1) := by decide +kernel
theorem dX9_testimonyCount_1 : decode cX9_testimonyCount 1 = .ok (.iload_n 1, 1) := by decide +kernel
theorem dX9_testimonyCount_2 : decode cX9_testimonyCount 2 = .ok (.invokevirtual 101, 3) := by decide +kernel
theorem dX9_testimonyCount_5 : decode cX9_testimonyCount 5 = .ok (.aload_n 0, 1) := by decide +kernel
theorem dX9_testimonyCount_6 : decode cX9_testimonyCount 6 = .ok (.getfield 10, 3) := by decide +kernel
theorem dX9_testimonyCount_9 : decode cX9_testimonyCount 9 = .ok (.getfield 133, 3) := by decide +kernel
theorem dX9_testimonyCount_12 : decode cX9_testimonyCount 12 = .ok (.iload_n 1, 1) := by decide +kernel
theorem dX9_testimonyCount_13 : decode cX9_testimonyCount 13 = .ok (.invokevirtual 109, 3) := by decide +kernel
theorem dX9_testimonyCount_16 : decode cX9_testimonyCount 16 = .ok (.ireturn, 1) := by decide +kernel
theorem dX9_witnessAt_0 : decode cX9_witnessAt 0 = .ok (.aload_n 0, 1) := by decide +kernel
theorem dX9_witnessAt_1 : decode cX9_witnessAt 1 = .ok (.iload_n 1, 1) := by decide +kernel
theorem dX9_witnessAt_2 : decode cX9_witnessAt 2 = .ok (.invokevirtual 101, 3) := by decide +kernel
theorem dX9_witnessAt_5 : decode cX9_witnessAt 5 = .ok (.iload_n 2, 1) := by decide +kernel
theorem dX9_witnessAt_6 : decode cX9_witnessAt 6 = .ok (.ifCond .lt 18, 3) := by decide +kernel
theorem dX9_witnessAt_9 : decode cX9_witnessAt 9 = .ok (.iload_n 2, 1) := by decide +kernel
theorem dX9_witnessAt_10 : decode cX9_witnessAt 10 = .ok (.aload_n 0, 1) := by decide +kernel
theorem dX9_witnessAt_11 : decode cX9_witnessAt 11 = .ok (.getfield 10, 3) := by decide +kernel
theorem dX9_witnessAt_14 : decode cX9_witnessAt 14 = .ok (.getfield 133, 3) := by decide +kernel
theorem dX9_witnessAt_17 : decode cX9_witnessAt 17 = .ok (.iload_n 1, 1) := by decide +kernel
theorem dX9_witnessAt_18 : decode cX9_witnessAt 18 = .ok (.invokevirtual 109, 3) := by decide +kernel
theorem dX9_witnessAt_21 : decode cX9_witnessAt 21 = .ok (.if_icmp .lt 13, 3) := by decide +kernel
theorem dX9_witnessAt_24 : decode cX9_witnessAt 24 = .ok (.new 96, 3) := by decide +kernel
theorem dX9_witnessAt_27 : decode cX9_witnessAt 27 = .ok (.dup, 1) := by decide +kernel
theorem dX9_witnessAt_28 : decode cX9_witnessAt 28 = .ok (.ldc 136, 2) := by decide +kernel
theorem dX9_witnessAt_30 : decode cX9_witnessAt 30 = .ok (.invokespecial 100, 3) := by decide +kernel
theorem dX9_witnessAt_33 : decode cX9_witnessAt 33 = .ok (.athrow, 1) := by decide +kernel
theorem dX9_witnessAt_34 : decode cX9_witnessAt 34 = .ok (.aload_n 0, 1) := by decide +kernel
theorem dX9_witnessAt_35 : decode cX9_witnessAt 35 = .ok (.getfield 10, 3) := by decide +kernel
theorem dX9_witnessAt_38 : decode cX9_witnessAt 38 = .ok (.iload_n 1, 1) := by decide +kernel
theorem dX9_witnessAt_39 : decode cX9_witnessAt 39 = .ok (.iload_n 2, 1) := by decide +kernel
theorem dX9_witnessAt_40 : decode cX9_witnessAt 40 = .ok (.invokevirtual 138, 3) := by decide +kernel
theorem dX9_witnessAt_43 : decode cX9_witnessAt 43 = .ok (.ireturn, 1) := by decide +kernel
theorem dX9_hasTestified_0 : decode cX9_hasTestified 0 = .ok (.aload_n 0, 1) := by decide +kernel
theorem dX9_hasTestified_1 : decode cX9_hasTestified 1 = .ok (.iload_n 1, 1) := by decide +kernel
theorem dX9_hasTestified_2 : decode cX9_hasTestified 2 = .ok (.invokevirtual 101, 3) := by decide +kernel
theorem dX9_hasTestified_5 : decode cX9_hasTestified 5 = .ok (.aload_n 0, 1) := by decide +kernel
theorem dX9_hasTestified_6 : decode cX9_hasTestified 6 = .ok (.iload_n 2, 1) := by decide +kernel
theorem dX9_hasTestified_7 : decode cX9_hasTestified 7 = .ok (.invokevirtual 141, 3) := by decide +kernel
theorem dX9_hasTestified_10 : decode cX9_hasTestified 10 = .ok (.aload_n 0, 1) := by decide +kernel
theorem dX9_hasTestified_11 : decode cX9_hasTestified 11 = .ok (.getfield 10, 3) := by decide +kernel
theorem dX9_hasTestified_14 : decode cX9_hasTestified 14 = .ok (.iload_n 1, 1) := by decide +kernel
theorem dX9_hasTestified_15 : decode cX9_hasTestified 15 = .ok (.iload_n 2, 1) := by decide +kernel
theorem dX9_hasTestified_16 : decode cX9_hasTestified 16 = .ok (.invokevirtual 144, 3) := by decide +kernel
theorem dX9_hasTestified_19 : decode cX9_hasTestified 19 = .ok (.ireturn, 1) := by decide +kernel
theorem dX9_isForProsecution_0 : decode cX9_isForProsecution 0 = .ok (.aload_n 0, 1) := by decide +kernel
theorem dX9_isForProsecution_1 : decode cX9_isForProsecution 1 = .ok (.iload_n 1, 1) := by decide +kernel
theorem dX9_isForProsecution_2 : decode cX9_isForProsecution 2 = .ok (.iload_n 2, 1) := by decide +kernel
theorem dX9_isForProsecution_3 : decode cX9_isForProsecution 3 = .ok (.invokevirtual 147, 3) := by decide +kernel
theorem dX9_isForProsecution_6 : decode cX9_isForProsecution 6 = .ok (.aload_n 0, 1) := by decide +kernel
theorem dX9_isForProsecution_7 : decode cX9_isForProsecution 7 = .ok (.getfield 10, 3) := by decide +kernel
theorem dX9_isForProsecution_10 : decode cX9_isForProsecution 10 = .ok (.iload_n 1, 1) := by decide +kernel
theorem dX9_isForProsecution_11 : decode cX9_isForProsecution 11 = .ok (.iload_n 2, 1) := by decide +kernel
theorem dX9_isForProsecution_12 : decode cX9_isForProsecution 12 = .ok (.invokevirtual 151, 3) := by decide +kernel
theorem dX9_isForProsecution_15 : decode cX9_isForProsecution 15 = .ok (.ifCond .le 7, 3) := by decide +kernel
theorem dX9_isForProsecution_18 : decode cX9_isForProsecution 18 = .ok (.iconst 1, 1) := by decide +kernel
theorem dX9_isForProsecution_19 : decode cX9_isForProsecution 19 = .ok (.goto 4, 3) := by decide +kernel
theorem dX9_isForProsecution_22 : decode cX9_isForProsecution 22 = .ok (.iconst 0, 1) := by decide +kernel
theorem dX9_isForProsecution_23 : decode cX9_isForProsecution 23 = .ok (.ireturn, 1) := by decide +kernel
theorem dX9_strength_0 : decode cX9_strength 0 = .ok (.aload_n 0, 1) := by decide +kernel
theorem dX9_strength_1 : decode cX9_strength 1 = .ok (.iload_n 1, 1) := by decide +kernel
theorem dX9_strength_2 : decode cX9_strength 2 = .ok (.iload_n 2, 1) := by decide +kernel
theorem dX9_strength_3 : decode cX9_strength 3 = .ok (.invokevirtual 147, 3) := by decide +kernel
theorem dX9_strength_6 : decode cX9_strength 6 = .ok (.aload_n 0, 1) := by decide +kernel
theorem dX9_strength_7 : decode cX9_strength 7 = .ok (.getfield 10, 3) := by decide +kernel
theorem dX9_strength_10 : decode cX9_strength 10 = .ok (.iload_n 1, 1) := by decide +kernel
theorem dX9_strength_11 : decode cX9_strength 11 = .ok (.iload_n 2, 1) := by decide +kernel
theorem dX9_strength_12 : decode cX9_strength 12 = .ok (.invokevirtual 154, 3) := by decide +kernel
theorem dX9_strength_15 : decode cX9_strength 15 = .ok (.ireturn, 1) := by decide +kernel
theorem dX9_questionCount_0 : decode cX9_questionCount 0 = .ok (.aload_n 0, 1) := by decide +kernel
theorem dX9_questionCount_1 : decode cX9_questionCount 1 = .ok (.iload_n 1, 1) := by decide +kernel
theorem dX9_questionCount_2 : decode cX9_questionCount 2 = .ok (.iload_n 2, 1) := by decide +kernel
theorem dX9_questionCount_3 : decode cX9_questionCount 3 = .ok (.invokevirtual 147, 3) := by decide +kernel
theorem dX9_questionCount_6 : decode cX9_questionCount 6 = .ok (.aload_n 0, 1) := by decide +kernel
theorem dX9_questionCount_7 : decode cX9_questionCount 7 = .ok (.getfield 10, 3) := by decide +kernel
theorem dX9_questionCount_10 : decode cX9_questionCount 10 = .ok (.iload_n 1, 1) := by decide +kernel
theorem dX9_questionCount_11 : decode cX9_questionCount 11 = .ok (.iload_n 2, 1) := by decide +kernel
theorem dX9_questionCount_12 : decode cX9_questionCount 12 = .ok (.invokevirtual 157, 3) := by decide +kernel
theorem dX9_questionCount_15 : decode cX9_questionCount 15 = .ok (.ireturn, 1) := by decide +kernel
theorem dX9_witnessCount_0 : decode cX9_witnessCount 0 = .ok (.aload_n 0, 1) := by decide +kernel
theorem dX9_witnessCount_1 : decode cX9_witnessCount 1 = .ok (.getfield 10, 3) := by decide +kernel
theorem dX9_witnessCount_4 : decode cX9_witnessCount 4 = .ok (.getfield 160, 3) := by decide +kernel
theorem dX9_witnessCount_7 : decode cX9_witnessCount 7 = .ok (.ireturn, 1) := by decide +kernel
theorem dX9_credibility_0 : decode cX9_credibility 0 = .ok (.aload_n 0, 1) := by decide +kernel
theorem dX9_credibility_1 : decode cX9_credibility 1 = .ok (.iload_n 1, 1) := by decide +kernel
theorem dX9_credibility_2 : decode cX9_credibility 2 = .ok (.invokevirtual 141, 3) := by decide +kernel
theorem dX9_credibility_5 : decode cX9_credibility 5 = .ok (.aload_n 0, 1) := by decide +kernel
theorem dX9_credibility_6 : decode cX9_credibility 6 = .ok (.getfield 10, 3) := by decide +kernel
theorem dX9_credibility_9 : decode cX9_credibility 9 = .ok (.getfield 163, 3) := by decide +kernel
theorem dX9_credibility_12 : decode cX9_credibility 12 = .ok (.iload_n 1, 1) := by decide +kernel
theorem dX9_credibility_13 : decode cX9_credibility 13 = .ok (.invokevirtual 109, 3) := by decide +kernel
theorem dX9_credibility_16 : decode cX9_credibility 16 = .ok (.ireturn, 1) := by decide +kernel
theorem dX9_casesOfWitness_0 : decode cX9_casesOfWitness 0 = .ok (.aload_n 0, 1) := by decide +kernel
theorem dX9_casesOfWitness_1 : decode cX9_casesOfWitness 1 = .ok (.iload_n 1, 1) := by decide +kernel
theorem dX9_casesOfWitness_2 : decode cX9_casesOfWitness 2 = .ok (.invokevirtual 141, 3) := by decide +kernel
theorem dX9_casesOfWitness_5 : decode cX9_casesOfWitness 5 = .ok (.aload_n 0, 1) := by decide +kernel
theorem dX9_casesOfWitness_6 : decode cX9_casesOfWitness 6 = .ok (.getfield 10, 3) := by decide +kernel
theorem dX9_casesOfWitness_9 : decode cX9_casesOfWitness 9 = .ok (.iload_n 1, 1) := by decide +kernel
theorem dX9_casesOfWitness_10 : decode cX9_casesOfWitness 10 = .ok (.invokevirtual 166, 3) := by decide +kernel
theorem dX9_casesOfWitness_13 : decode cX9_casesOfWitness 13 = .ok (.ireturn, 1) := by decide +kernel
theorem dX9_mostCredible_0 : decode cX9_mostCredible 0 = .ok (.aload_n 0, 1) := by decide +kernel
theorem dX9_mostCredible_1 : decode cX9_mostCredible 1 = .ok (.getfield 10, 3) := by decide +kernel
theorem dX9_mostCredible_4 : decode cX9_mostCredible 4 = .ok (.iload_n 1, 1) := by decide +kernel
theorem dX9_mostCredible_5 : decode cX9_mostCredible 5 = .ok (.invokevirtual 169, 3) := by decide +kernel
theorem dX9_mostCredible_8 : decode cX9_mostCredible 8 = .ok (.istore_n 2, 1) := by decide +kernel
theorem dX9_mostCredible_9 : decode cX9_mostCredible 9 = .ok (.iload_n 2, 1) := by decide +kernel
theorem dX9_mostCredible_10 : decode cX9_mostCredible 10 = .ok (.iconst (-1), 1) := by decide +kernel
theorem dX9_mostCredible_11 : decode cX9_mostCredible 11 = .ok (.if_icmp .ne 13, 3) := by decide +kernel
theorem dX9_mostCredible_14 : decode cX9_mostCredible 14 = .ok (.new 96, 3) := by decide +kernel
theorem dX9_mostCredible_17 : decode cX9_mostCredible 17 = .ok (.dup, 1) := by decide +kernel
theorem dX9_mostCredible_18 : decode cX9_mostCredible 18 = .ok (.ldc 172, 2) := by decide +kernel
theorem dX9_mostCredible_20 : decode cX9_mostCredible 20 = .ok (.invokespecial 100, 3) := by decide +kernel
theorem dX9_mostCredible_23 : decode cX9_mostCredible 23 = .ok (.athrow, 1) := by decide +kernel
theorem dX9_mostCredible_24 : decode cX9_mostCredible 24 = .ok (.iload_n 2, 1) := by decide +kernel
theorem dX9_mostCredible_25 : decode cX9_mostCredible 25 = .ok (.ireturn, 1) := by decide +kernel
theorem dX9_agreement_0 : decode cX9_agreement 0 = .ok (.aload_n 0, 1) := by decide +kernel
theorem dX9_agreement_1 : decode cX9_agreement 1 = .ok (.iload_n 1, 1) := by decide +kernel
theorem dX9_agreement_2 : decode cX9_agreement 2 = .ok (.invokevirtual 141, 3) := by decide +kernel
theorem dX9_agreement_5 : decode cX9_agreement 5 = .ok (.aload_n 0, 1) := by decide +kernel
theorem dX9_agreement_6 : decode cX9_agreement 6 = .ok (.iload_n 2, 1) := by decide +kernel
theorem dX9_agreement_7 : decode cX9_agreement 7 = .ok (.invokevirtual 141, 3) := by decide +kernel
theorem dX9_agreement_10 : decode cX9_agreement 10 = .ok (.aload_n 0, 1) := by decide +kernel
theorem dX9_agreement_11 : decode cX9_agreement 11 = .ok (.getfield 10, 3) := by decide +kernel
theorem dX9_agreement_14 : decode cX9_agreement 14 = .ok (.iload_n 1, 1) := by decide +kernel
theorem dX9_agreement_15 : decode cX9_agreement 15 = .ok (.iload_n 2, 1) := by decide +kernel
theorem dX9_agreement_16 : decode cX9_agreement 16 = .ok (.invokevirtual 174, 3) := by decide +kernel
theorem dX9_agreement_19 : decode cX9_agreement 19 = .ok (.ireturn, 1) := by decide +kernel
theorem dX9_areConnected_0 : decode cX9_areConnected 0 = .ok (.aload_n 0, 1) := by decide +kernel
theorem dX9_areConnected_1 : decode cX9_areConnected 1 = .ok (.iload_n 1, 1) := by decide +kernel
theorem dX9_areConnected_2 : decode cX9_areConnected 2 = .ok (.invokevirtual 141, 3) := by decide +kernel
theorem dX9_areConnected_5 : decode cX9_areConnected 5 = .ok (.aload_n 0, 1) := by decide +kernel
theorem dX9_areConnected_6 : decode cX9_areConnected 6 = .ok (.iload_n 2, 1) := by decide +kernel
theorem dX9_areConnected_7 : decode cX9_areConnected 7 = .ok (.invokevirtual 141, 3) := by decide +kernel
theorem dX9_areConnected_10 : decode cX9_areConnected 10 = .ok (.aload_n 0, 1) := by decide +kernel
theorem dX9_areConnected_11 : decode cX9_areConnected 11 = .ok (.getfield 10, 3) := by decide +kernel
theorem dX9_areConnected_14 : decode cX9_areConnected 14 = .ok (.getfield 177, 3) := by decide +kernel
theorem dX9_areConnected_17 : decode cX9_areConnected 17 = .ok (.iload_n 1, 1) := by decide +kernel
theorem dX9_areConnected_18 : decode cX9_areConnected 18 = .ok (.iload_n 2, 1) := by decide +kernel
theorem dX9_areConnected_19 : decode cX9_areConnected 19 = .ok (.invokevirtual 181, 3) := by decide +kernel
theorem dX9_areConnected_22 : decode cX9_areConnected 22 = .ok (.ireturn, 1) := by decide +kernel
theorem dX9_areConnectedBySearch_0 : decode cX9_areConnectedBySearch 0 = .ok (.aload_n 0, 1) := by decide +kernel
theorem dX9_areConnectedBySearch_1 : decode cX9_areConnectedBySearch 1 = .ok (.iload_n 1, 1) := by decide +kernel
theorem dX9_areConnectedBySearch_2 : decode cX9_areConnectedBySearch 2 = .ok (.invokevirtual 141, 3) := by decide +kernel
theorem dX9_areConnectedBySearch_5 : decode cX9_areConnectedBySearch 5 = .ok (.aload_n 0, 1) := by decide +kernel
theorem dX9_areConnectedBySearch_6 : decode cX9_areConnectedBySearch 6 = .ok (.iload_n 2, 1) := by decide +kernel
theorem dX9_areConnectedBySearch_7 : decode cX9_areConnectedBySearch 7 = .ok (.invokevirtual 141, 3) := by decide +kernel
theorem dX9_areConnectedBySearch_10 : decode cX9_areConnectedBySearch 10 = .ok (.aload_n 0, 1) := by decide +kernel
theorem dX9_areConnectedBySearch_11 : decode cX9_areConnectedBySearch 11 = .ok (.getfield 39, 3) := by decide +kernel
theorem dX9_areConnectedBySearch_14 : decode cX9_areConnectedBySearch 14 = .ok (.iload_n 1, 1) := by decide +kernel
theorem dX9_areConnectedBySearch_15 : decode cX9_areConnectedBySearch 15 = .ok (.aload_n 0, 1) := by decide +kernel
theorem dX9_areConnectedBySearch_16 : decode cX9_areConnectedBySearch 16 = .ok (.getfield 10, 3) := by decide +kernel
theorem dX9_areConnectedBySearch_19 : decode cX9_areConnectedBySearch 19 = .ok (.invokevirtual 186, 3) := by decide +kernel
theorem dX9_areConnectedBySearch_22 : decode cX9_areConnectedBySearch 22 = .ok (.aload_n 0, 1) := by decide +kernel
theorem dX9_areConnectedBySearch_23 : decode cX9_areConnectedBySearch 23 = .ok (.getfield 39, 3) := by decide +kernel
theorem dX9_areConnectedBySearch_26 : decode cX9_areConnectedBySearch 26 = .ok (.iload_n 2, 1) := by decide +kernel
theorem dX9_areConnectedBySearch_27 : decode cX9_areConnectedBySearch 27 = .ok (.invokevirtual 190, 3) := by decide +kernel
theorem dX9_areConnectedBySearch_30 : decode cX9_areConnectedBySearch 30 = .ok (.ireturn, 1) := by decide +kernel
theorem dX9_groupSize_0 : decode cX9_groupSize 0 = .ok (.aload_n 0, 1) := by decide +kernel
theorem dX9_groupSize_1 : decode cX9_groupSize 1 = .ok (.iload_n 1, 1) := by decide +kernel
theorem dX9_groupSize_2 : decode cX9_groupSize 2 = .ok (.invokevirtual 141, 3) := by decide +kernel
theorem dX9_groupSize_5 : decode cX9_groupSize 5 = .ok (.aload_n 0, 1) := by decide +kernel
theorem dX9_groupSize_6 : decode cX9_groupSize 6 = .ok (.getfield 10, 3) := by decide +kernel
theorem dX9_groupSize_9 : decode cX9_groupSize 9 = .ok (.getfield 177, 3) := by decide +kernel
theorem dX9_groupSize_12 : decode cX9_groupSize 12 = .ok (.iload_n 1, 1) := by decide +kernel
theorem dX9_groupSize_13 : decode cX9_groupSize 13 = .ok (.aload_n 0, 1) := by decide +kernel
theorem dX9_groupSize_14 : decode cX9_groupSize 14 = .ok (.getfield 10, 3) := by decide +kernel
theorem dX9_groupSize_17 : decode cX9_groupSize 17 = .ok (.getfield 160, 3) := by decide +kernel
theorem dX9_groupSize_20 : decode cX9_groupSize 20 = .ok (.invokevirtual 193, 3) := by decide +kernel
theorem dX9_groupSize_23 : decode cX9_groupSize 23 = .ok (.ireturn, 1) := by decide +kernel
theorem dX9_groupCount_0 : decode cX9_groupCount 0 = .ok (.aload_n 0, 1) := by decide +kernel
theorem dX9_groupCount_1 : decode cX9_groupCount 1 = .ok (.getfield 10, 3) := by decide +kernel
theorem dX9_groupCount_4 : decode cX9_groupCount 4 = .ok (.getfield 177, 3) := by decide +kernel
theorem dX9_groupCount_7 : decode cX9_groupCount 7 = .ok (.aload_n 0, 1) := by decide +kernel
theorem dX9_groupCount_8 : decode cX9_groupCount 8 = .ok (.getfield 10, 3) := by decide +kernel
theorem dX9_groupCount_11 : decode cX9_groupCount 11 = .ok (.getfield 160, 3) := by decide +kernel
theorem dX9_groupCount_14 : decode cX9_groupCount 14 = .ok (.invokevirtual 196, 3) := by decide +kernel
theorem dX9_groupCount_17 : decode cX9_groupCount 17 = .ok (.ireturn, 1) := by decide +kernel
theorem dX9_heaviestWitness_0 : decode cX9_heaviestWitness 0 = .ok (.aload_n 0, 1) := by decide +kernel
theorem dX9_heaviestWitness_1 : decode cX9_heaviestWitness 1 = .ok (.iload_n 1, 1) := by decide +kernel
theorem dX9_heaviestWitness_2 : decode cX9_heaviestWitness 2 = .ok (.invokevirtual 101, 3) := by decide +kernel
theorem dX9_heaviestWitness_5 : decode cX9_heaviestWitness 5 = .ok (.aload_n 0, 1) := by decide +kernel
theorem dX9_heaviestWitness_6 : decode cX9_heaviestWitness 6 = .ok (.getfield 10, 3) := by decide +kernel
theorem dX9_heaviestWitness_9 : decode cX9_heaviestWitness 9 = .ok (.getfield 133, 3) := by decide +kernel
theorem dX9_heaviestWitness_12 : decode cX9_heaviestWitness 12 = .ok (.iload_n 1, 1) := by decide +kernel
theorem dX9_heaviestWitness_13 : decode cX9_heaviestWitness 13 = .ok (.invokevirtual 109, 3) := by decide +kernel
theorem dX9_heaviestWitness_16 : decode cX9_heaviestWitness 16 = .ok (.ifCond .ne 13, 3) := by decide +kernel
theorem dX9_heaviestWitness_19 : decode cX9_heaviestWitness 19 = .ok (.new 96, 3) := by decide +kernel
theorem dX9_heaviestWitness_22 : decode cX9_heaviestWitness 22 = .ok (.dup, 1) := by decide +kernel
theorem dX9_heaviestWitness_23 : decode cX9_heaviestWitness 23 = .ok (.ldc 199, 2) := by decide +kernel
theorem dX9_heaviestWitness_25 : decode cX9_heaviestWitness 25 = .ok (.invokespecial 100, 3) := by decide +kernel
theorem dX9_heaviestWitness_28 : decode cX9_heaviestWitness 28 = .ok (.athrow, 1) := by decide +kernel
theorem dX9_heaviestWitness_29 : decode cX9_heaviestWitness 29 = .ok (.aload_n 0, 1) := by decide +kernel
theorem dX9_heaviestWitness_30 : decode cX9_heaviestWitness 30 = .ok (.getfield 10, 3) := by decide +kernel
theorem dX9_heaviestWitness_33 : decode cX9_heaviestWitness 33 = .ok (.iload_n 1, 1) := by decide +kernel
theorem dX9_heaviestWitness_34 : decode cX9_heaviestWitness 34 = .ok (.invokestatic 201, 3) := by decide +kernel
theorem dX9_heaviestWitness_37 : decode cX9_heaviestWitness 37 = .ok (.ireturn, 1) := by decide +kernel
theorem dX9_nextToDecide_0 : decode cX9_nextToDecide 0 = .ok (.aload_n 0, 1) := by decide +kernel
theorem dX9_nextToDecide_1 : decode cX9_nextToDecide 1 = .ok (.getfield 32, 3) := by decide +kernel
theorem dX9_nextToDecide_4 : decode cX9_nextToDecide 4 = .ok (.aload_n 0, 1) := by decide +kernel
theorem dX9_nextToDecide_5 : decode cX9_nextToDecide 5 = .ok (.getfield 10, 3) := by decide +kernel
theorem dX9_nextToDecide_8 : decode cX9_nextToDecide 8 = .ok (.invokevirtual 207, 3) := by decide +kernel
theorem dX9_nextToDecide_11 : decode cX9_nextToDecide 11 = .ok (.aload_n 0, 1) := by decide +kernel
theorem dX9_nextToDecide_12 : decode cX9_nextToDecide 12 = .ok (.getfield 32, 3) := by decide +kernel
theorem dX9_nextToDecide_15 : decode cX9_nextToDecide 15 = .ok (.aload_n 0, 1) := by decide +kernel
theorem dX9_nextToDecide_16 : decode cX9_nextToDecide 16 = .ok (.getfield 10, 3) := by decide +kernel
theorem dX9_nextToDecide_19 : decode cX9_nextToDecide 19 = .ok (.invokevirtual 211, 3) := by decide +kernel
theorem dX9_nextToDecide_22 : decode cX9_nextToDecide 22 = .ok (.istore_n 1, 1) := by decide +kernel
theorem dX9_nextToDecide_23 : decode cX9_nextToDecide 23 = .ok (.iload_n 1, 1) := by decide +kernel
theorem dX9_nextToDecide_24 : decode cX9_nextToDecide 24 = .ok (.iconst (-1), 1) := by decide +kernel
theorem dX9_nextToDecide_25 : decode cX9_nextToDecide 25 = .ok (.if_icmp .ne 13, 3) := by decide +kernel
theorem dX9_nextToDecide_28 : decode cX9_nextToDecide 28 = .ok (.new 96, 3) := by decide +kernel
theorem dX9_nextToDecide_31 : decode cX9_nextToDecide 31 = .ok (.dup, 1) := by decide +kernel
theorem dX9_nextToDecide_32 : decode cX9_nextToDecide 32 = .ok (.ldc 215, 2) := by decide +kernel
theorem dX9_nextToDecide_34 : decode cX9_nextToDecide 34 = .ok (.invokespecial 100, 3) := by decide +kernel
theorem dX9_nextToDecide_37 : decode cX9_nextToDecide 37 = .ok (.athrow, 1) := by decide +kernel
theorem dX9_nextToDecide_38 : decode cX9_nextToDecide 38 = .ok (.iload_n 1, 1) := by decide +kernel
theorem dX9_nextToDecide_39 : decode cX9_nextToDecide 39 = .ok (.ireturn, 1) := by decide +kernel
theorem dX9_prosecutionWeight_0 : decode cX9_prosecutionWeight 0 = .ok (.aload_n 0, 1) := by decide +kernel
theorem dX9_prosecutionWeight_1 : decode cX9_prosecutionWeight 1 = .ok (.iload_n 1, 1) := by decide +kernel
theorem dX9_prosecutionWeight_2 : decode cX9_prosecutionWeight 2 = .ok (.invokevirtual 101, 3) := by decide +kernel
theorem dX9_prosecutionWeight_5 : decode cX9_prosecutionWeight 5 = .ok (.aload_n 0, 1) := by decide +kernel
theorem dX9_prosecutionWeight_6 : decode cX9_prosecutionWeight 6 = .ok (.getfield 10, 3) := by decide +kernel
theorem dX9_prosecutionWeight_9 : decode cX9_prosecutionWeight 9 = .ok (.iload_n 1, 1) := by decide +kernel
theorem dX9_prosecutionWeight_10 : decode cX9_prosecutionWeight 10 = .ok (.iconst 1, 1) := by decide +kernel
theorem dX9_prosecutionWeight_11 : decode cX9_prosecutionWeight 11 = .ok (.invokestatic 217, 3) := by decide +kernel
theorem dX9_prosecutionWeight_14 : decode cX9_prosecutionWeight 14 = .ok (.ireturn, 1) := by decide +kernel
theorem dX9_defenceWeight_0 : decode cX9_defenceWeight 0 = .ok (.aload_n 0, 1) := by decide +kernel
theorem dX9_defenceWeight_1 : decode cX9_defenceWeight 1 = .ok (.iload_n 1, 1) := by decide +kernel
theorem dX9_defenceWeight_2 : decode cX9_defenceWeight 2 = .ok (.invokevirtual 101, 3) := by decide +kernel
theorem dX9_defenceWeight_5 : decode cX9_defenceWeight 5 = .ok (.aload_n 0, 1) := by decide +kernel
theorem dX9_defenceWeight_6 : decode cX9_defenceWeight 6 = .ok (.getfield 10, 3) := by decide +kernel
theorem dX9_defenceWeight_9 : decode cX9_defenceWeight 9 = .ok (.iload_n 1, 1) := by decide +kernel
theorem dX9_defenceWeight_10 : decode cX9_defenceWeight 10 = .ok (.iconst (-1), 1) := by decide +kernel
theorem dX9_defenceWeight_11 : decode cX9_defenceWeight 11 = .ok (.invokestatic 217, 3) := by decide +kernel
theorem dX9_defenceWeight_14 : decode cX9_defenceWeight 14 = .ok (.ireturn, 1) := by decide +kernel
theorem dX9_margin_0 : decode cX9_margin 0 = .ok (.aload_n 0, 1) := by decide +kernel
theorem dX9_margin_1 : decode cX9_margin 1 = .ok (.iload_n 1, 1) := by decide +kernel
theorem dX9_margin_2 : decode cX9_margin 2 = .ok (.invokevirtual 101, 3) := by decide +kernel
theorem dX9_margin_5 : decode cX9_margin 5 = .ok (.aload_n 0, 1) := by decide +kernel
theorem dX9_margin_6 : decode cX9_margin 6 = .ok (.getfield 10, 3) := by decide +kernel
theorem dX9_margin_9 : decode cX9_margin 9 = .ok (.iload_n 1, 1) := by decide +kernel
theorem dX9_margin_10 : decode cX9_margin 10 = .ok (.invokestatic 221, 3) := by decide +kernel
theorem dX9_margin_13 : decode cX9_margin 13 = .ok (.ireturn, 1) := by decide +kernel
theorem dX9_marginByCredibility_0 : decode cX9_marginByCredibility 0 = .ok (.aload_n 0, 1) := by decide +kernel
theorem dX9_marginByCredibility_1 : decode cX9_marginByCredibility 1 = .ok (.iload_n 1, 1) := by decide +kernel
theorem dX9_marginByCredibility_2 : decode cX9_marginByCredibility 2 = .ok (.invokevirtual 101, 3) := by decide +kernel
theorem dX9_marginByCredibility_5 : decode cX9_marginByCredibility 5 = .ok (.aload_n 0, 1) := by decide +kernel
theorem dX9_marginByCredibility_6 : decode cX9_marginByCredibility 6 = .ok (.getfield 10, 3) := by decide +kernel
theorem dX9_marginByCredibility_9 : decode cX9_marginByCredibility 9 = .ok (.iload_n 1, 1) := by decide +kernel
theorem dX9_marginByCredibility_10 : decode cX9_marginByCredibility 10 = .ok (.invokestatic 224, 3) := by decide +kernel
theorem dX9_marginByCredibility_13 : decode cX9_marginByCredibility 13 = .ok (.ireturn, 1) := by decide +kernel
theorem dX9_firmAnswersToGuilty_0 : decode cX9_firmAnswersToGuilty 0 = .ok (.aload_n 0, 1) := by decide +kernel
theorem dX9_firmAnswersToGuilty_1 : decode cX9_firmAnswersToGuilty 1 = .ok (.iload_n 1, 1) := by decide +kernel
theorem dX9_firmAnswersToGuilty_2 : decode cX9_firmAnswersToGuilty 2 = .ok (.iload_n 2, 1) := by decide +kernel
theorem dX9_firmAnswersToGuilty_3 : decode cX9_firmAnswersToGuilty 3 = .ok (.invokevirtual 147, 3) := by decide +kernel
theorem dX9_firmAnswersToGuilty_6 : decode cX9_firmAnswersToGuilty 6 = .ok (.aload_n 0, 1) := by decide +kernel
theorem dX9_firmAnswersToGuilty_7 : decode cX9_firmAnswersToGuilty 7 = .ok (.getfield 10, 3) := by decide +kernel
theorem dX9_firmAnswersToGuilty_10 : decode cX9_firmAnswersToGuilty 10 = .ok (.iload_n 1, 1) := by decide +kernel
theorem dX9_firmAnswersToGuilty_11 : decode cX9_firmAnswersToGuilty 11 = .ok (.iload_n 2, 1) := by decide +kernel
theorem dX9_firmAnswersToGuilty_12 : decode cX9_firmAnswersToGuilty 12 = .ok (.invokestatic 227, 3) := by decide +kernel
theorem dX9_firmAnswersToGuilty_15 : decode cX9_firmAnswersToGuilty 15 = .ok (.istore_n 3, 1) := by decide +kernel
theorem dX9_firmAnswersToGuilty_16 : decode cX9_firmAnswersToGuilty 16 = .ok (.iload_n 3, 1) := by decide +kernel
theorem dX9_firmAnswersToGuilty_17 : decode cX9_firmAnswersToGuilty 17 = .ok (.iconst (-1), 1) := by decide +kernel
theorem dX9_firmAnswersToGuilty_18 : decode cX9_firmAnswersToGuilty 18 = .ok (.if_icmp .ne 13, 3) := by decide +kernel
theorem dX9_firmAnswersToGuilty_21 : decode cX9_firmAnswersToGuilty 21 = .ok (.new 96, 3) := by decide +kernel
theorem dX9_firmAnswersToGuilty_24 : decode cX9_firmAnswersToGuilty 24 = .ok (.dup, 1) := by decide +kernel
theorem dX9_firmAnswersToGuilty_25 : decode cX9_firmAnswersToGuilty 25 = .ok (.ldc 230, 2) := by decide +kernel
theorem dX9_firmAnswersToGuilty_27 : decode cX9_firmAnswersToGuilty 27 = .ok (.invokespecial 100, 3) := by decide +kernel
theorem dX9_firmAnswersToGuilty_30 : decode cX9_firmAnswersToGuilty 30 = .ok (.athrow, 1) := by decide +kernel
theorem dX9_firmAnswersToGuilty_31 : decode cX9_firmAnswersToGuilty 31 = .ok (.iload_n 3, 1) := by decide +kernel
theorem dX9_firmAnswersToGuilty_32 : decode cX9_firmAnswersToGuilty 32 = .ok (.ireturn, 1) := by decide +kernel
theorem dX9_sentence_0 : decode cX9_sentence 0 = .ok (.iload_n 1, 1) := by decide +kernel
theorem dX9_sentence_1 : decode cX9_sentence 1 = .ok (.invokestatic 232, 3) := by decide +kernel
theorem dX9_sentence_4 : decode cX9_sentence 4 = .ok (.aload_n 0, 1) := by decide +kernel
theorem dX9_sentence_5 : decode cX9_sentence 5 = .ok (.getfield 10, 3) := by decide +kernel
theorem dX9_sentence_8 : decode cX9_sentence 8 = .ok (.getfield 235, 3) := by decide +kernel
theorem dX9_sentence_11 : decode cX9_sentence 11 = .ok (.iload_n 1, 1) := by decide +kernel
theorem dX9_sentence_12 : decode cX9_sentence 12 = .ok (.invokevirtual 109, 3) := by decide +kernel
theorem dX9_sentence_15 : decode cX9_sentence 15 = .ok (.ireturn, 1) := by decide +kernel
theorem dX9_sentenceByCases_0 : decode cX9_sentenceByCases 0 = .ok (.iload_n 1, 1) := by decide +kernel
theorem dX9_sentenceByCases_1 : decode cX9_sentenceByCases 1 = .ok (.invokestatic 232, 3) := by decide +kernel
theorem dX9_sentenceByCases_4 : decode cX9_sentenceByCases 4 = .ok (.aload_n 0, 1) := by decide +kernel
theorem dX9_sentenceByCases_5 : decode cX9_sentenceByCases 5 = .ok (.getfield 10, 3) := by decide +kernel
theorem dX9_sentenceByCases_8 : decode cX9_sentenceByCases 8 = .ok (.iload_n 1, 1) := by decide +kernel
theorem dX9_sentenceByCases_9 : decode cX9_sentenceByCases 9 = .ok (.invokevirtual 238, 3) := by decide +kernel
theorem dX9_sentenceByCases_12 : decode cX9_sentenceByCases 12 = .ok (.ireturn, 1) := by decide +kernel
theorem dX9_mostSentenced_0 : decode cX9_mostSentenced 0 = .ok (.iconst 0, 1) := by decide +kernel
theorem dX9_mostSentenced_1 : decode cX9_mostSentenced 1 = .ok (.istore_n 1, 1) := by decide +kernel
theorem dX9_mostSentenced_2 : decode cX9_mostSentenced 2 = .ok (.iconst 1, 1) := by decide +kernel
theorem dX9_mostSentenced_3 : decode cX9_mostSentenced 3 = .ok (.istore_n 2, 1) := by decide +kernel
theorem dX9_mostSentenced_4 : decode cX9_mostSentenced 4 = .ok (.iload_n 2, 1) := by decide +kernel
theorem dX9_mostSentenced_5 : decode cX9_mostSentenced 5 = .ok (.bipush 6, 2) := by decide +kernel
theorem dX9_mostSentenced_7 : decode cX9_mostSentenced 7 = .ok (.if_icmp .ge 36, 3) := by decide +kernel
theorem dX9_mostSentenced_10 : decode cX9_mostSentenced 10 = .ok (.aload_n 0, 1) := by decide +kernel
theorem dX9_mostSentenced_11 : decode cX9_mostSentenced 11 = .ok (.getfield 10, 3) := by decide +kernel
theorem dX9_mostSentenced_14 : decode cX9_mostSentenced 14 = .ok (.getfield 235, 3) := by decide +kernel
theorem dX9_mostSentenced_17 : decode cX9_mostSentenced 17 = .ok (.iload_n 2, 1) := by decide +kernel
theorem dX9_mostSentenced_18 : decode cX9_mostSentenced 18 = .ok (.invokevirtual 109, 3) := by decide +kernel
theorem dX9_mostSentenced_21 : decode cX9_mostSentenced 21 = .ok (.aload_n 0, 1) := by decide +kernel
theorem dX9_mostSentenced_22 : decode cX9_mostSentenced 22 = .ok (.getfield 10, 3) := by decide +kernel
theorem dX9_mostSentenced_25 : decode cX9_mostSentenced 25 = .ok (.getfield 235, 3) := by decide +kernel
theorem dX9_mostSentenced_28 : decode cX9_mostSentenced 28 = .ok (.iload_n 1, 1) := by decide +kernel
theorem dX9_mostSentenced_29 : decode cX9_mostSentenced 29 = .ok (.invokevirtual 109, 3) := by decide +kernel
theorem dX9_mostSentenced_32 : decode cX9_mostSentenced 32 = .ok (.if_icmp .le 5, 3) := by decide +kernel
theorem dX9_mostSentenced_35 : decode cX9_mostSentenced 35 = .ok (.iload_n 2, 1) := by decide +kernel
theorem dX9_mostSentenced_36 : decode cX9_mostSentenced 36 = .ok (.istore_n 1, 1) := by decide +kernel
theorem dX9_mostSentenced_37 : decode cX9_mostSentenced 37 = .ok (.iinc 2 1, 3) := by decide +kernel
theorem dX9_mostSentenced_40 : decode cX9_mostSentenced 40 = .ok (.goto (-36), 3) := by decide +kernel
theorem dX9_mostSentenced_43 : decode cX9_mostSentenced 43 = .ok (.iload_n 1, 1) := by decide +kernel
theorem dX9_mostSentenced_44 : decode cX9_mostSentenced 44 = .ok (.ireturn, 1) := by decide +kernel
theorem dX9_docketLength_0 : decode cX9_docketLength 0 = .ok (.aload_n 0, 1) := by decide +kernel
theorem dX9_docketLength_1 : decode cX9_docketLength 1 = .ok (.getfield 10, 3) := by decide +kernel
theorem dX9_docketLength_4 : decode cX9_docketLength 4 = .ok (.iconst 0, 1) := by decide +kernel
theorem dX9_docketLength_5 : decode cX9_docketLength 5 = .ok (.invokevirtual 241, 3) := by decide +kernel
theorem dX9_docketLength_8 : decode cX9_docketLength 8 = .ok (.ireturn, 1) := by decide +kernel
theorem dX9_docketAt_0 : decode cX9_docketAt 0 = .ok (.aload_n 0, 1) := by decide +kernel
theorem dX9_docketAt_1 : decode cX9_docketAt 1 = .ok (.getfield 32, 3) := by decide +kernel
theorem dX9_docketAt_4 : decode cX9_docketAt 4 = .ok (.aload_n 0, 1) := by decide +kernel
theorem dX9_docketAt_5 : decode cX9_docketAt 5 = .ok (.getfield 10, 3) := by decide +kernel
theorem dX9_docketAt_8 : decode cX9_docketAt 8 = .ok (.invokevirtual 207, 3) := by decide +kernel
theorem dX9_docketAt_11 : decode cX9_docketAt 11 = .ok (.iload_n 1, 1) := by decide +kernel
theorem dX9_docketAt_12 : decode cX9_docketAt 12 = .ok (.ifCond .lt 14, 3) := by decide +kernel
theorem dX9_docketAt_15 : decode cX9_docketAt 15 = .ok (.iload_n 1, 1) := by decide +kernel
theorem dX9_docketAt_16 : decode cX9_docketAt 16 = .ok (.aload_n 0, 1) := by decide +kernel
theorem dX9_docketAt_17 : decode cX9_docketAt 17 = .ok (.getfield 32, 3) := by decide +kernel
theorem dX9_docketAt_20 : decode cX9_docketAt 20 = .ok (.getfield 244, 3) := by decide +kernel
theorem dX9_docketAt_23 : decode cX9_docketAt 23 = .ok (.if_icmp .lt 13, 3) := by decide +kernel
theorem dX9_docketAt_26 : decode cX9_docketAt 26 = .ok (.new 96, 3) := by decide +kernel
theorem dX9_docketAt_29 : decode cX9_docketAt 29 = .ok (.dup, 1) := by decide +kernel
theorem dX9_docketAt_30 : decode cX9_docketAt 30 = .ok (.ldc 247, 2) := by decide +kernel
theorem dX9_docketAt_32 : decode cX9_docketAt 32 = .ok (.invokespecial 100, 3) := by decide +kernel
theorem dX9_docketAt_35 : decode cX9_docketAt 35 = .ok (.athrow, 1) := by decide +kernel
theorem dX9_docketAt_36 : decode cX9_docketAt 36 = .ok (.aload_n 0, 1) := by decide +kernel
theorem dX9_docketAt_37 : decode cX9_docketAt 37 = .ok (.getfield 32, 3) := by decide +kernel
theorem dX9_docketAt_40 : decode cX9_docketAt 40 = .ok (.getfield 249, 3) := by decide +kernel
theorem dX9_docketAt_43 : decode cX9_docketAt 43 = .ok (.iload_n 1, 1) := by decide +kernel
theorem dX9_docketAt_44 : decode cX9_docketAt 44 = .ok (.invokevirtual 109, 3) := by decide +kernel
theorem dX9_docketAt_47 : decode cX9_docketAt 47 = .ok (.ireturn, 1) := by decide +kernel
theorem dX9_docketPosition_0 : decode cX9_docketPosition 0 = .ok (.aload_n 0, 1) := by decide +kernel
theorem dX9_docketPosition_1 : decode cX9_docketPosition 1 = .ok (.iload_n 1, 1) := by decide +kernel
theorem dX9_docketPosition_2 : decode cX9_docketPosition 2 = .ok (.invokevirtual 101, 3) := by decide +kernel
theorem dX9_docketPosition_5 : decode cX9_docketPosition 5 = .ok (.aload_n 0, 1) := by decide +kernel
theorem dX9_docketPosition_6 : decode cX9_docketPosition 6 = .ok (.getfield 10, 3) := by decide +kernel
theorem dX9_docketPosition_9 : decode cX9_docketPosition 9 = .ok (.iconst 0, 1) := by decide +kernel
theorem dX9_docketPosition_10 : decode cX9_docketPosition 10 = .ok (.iload_n 1, 1) := by decide +kernel
theorem dX9_docketPosition_11 : decode cX9_docketPosition 11 = .ok (.invokevirtual 118, 3) := by decide +kernel
theorem dX9_docketPosition_14 : decode cX9_docketPosition 14 = .ok (.ifCond .ne 13, 3) := by decide +kernel
theorem dX9_docketPosition_17 : decode cX9_docketPosition 17 = .ok (.new 122, 3) := by decide +kernel
theorem dX9_docketPosition_20 : decode cX9_docketPosition 20 = .ok (.dup, 1) := by decide +kernel
theorem dX9_docketPosition_21 : decode cX9_docketPosition 21 = .ok (.ldc 252, 2) := by decide +kernel
theorem dX9_docketPosition_23 : decode cX9_docketPosition 23 = .ok (.invokespecial 126, 3) := by decide +kernel
theorem dX9_docketPosition_26 : decode cX9_docketPosition 26 = .ok (.athrow, 1) := by decide +kernel
theorem dX9_docketPosition_27 : decode cX9_docketPosition 27 = .ok (.aload_n 0, 1) := by decide +kernel
theorem dX9_docketPosition_28 : decode cX9_docketPosition 28 = .ok (.getfield 10, 3) := by decide +kernel
theorem dX9_docketPosition_31 : decode cX9_docketPosition 31 = .ok (.iload_n 1, 1) := by decide +kernel
theorem dX9_docketPosition_32 : decode cX9_docketPosition 32 = .ok (.invokevirtual 254, 3) := by decide +kernel
theorem dX9_docketPosition_35 : decode cX9_docketPosition 35 = .ok (.ireturn, 1) := by decide +kernel
theorem dX9_closedCount_0 : decode cX9_closedCount 0 = .ok (.aload_n 0, 1) := by decide +kernel
theorem dX9_closedCount_1 : decode cX9_closedCount 1 = .ok (.getfield 10, 3) := by decide +kernel
theorem dX9_closedCount_4 : decode cX9_closedCount 4 = .ok (.iconst 2, 1) := by decide +kernel
theorem dX9_closedCount_5 : decode cX9_closedCount 5 = .ok (.invokevirtual 241, 3) := by decide +kernel
theorem dX9_closedCount_8 : decode cX9_closedCount 8 = .ok (.ireturn, 1) := by decide +kernel
theorem dX9_guiltyCount_0 : decode cX9_guiltyCount 0 = .ok (.aload_n 0, 1) := by decide +kernel
theorem dX9_guiltyCount_1 : decode cX9_guiltyCount 1 = .ok (.getfield 10, 3) := by decide +kernel
theorem dX9_guiltyCount_4 : decode cX9_guiltyCount 4 = .ok (.invokevirtual 257, 3) := by decide +kernel
theorem dX9_guiltyCount_7 : decode cX9_guiltyCount 7 = .ok (.ireturn, 1) := by decide +kernel
theorem dX9_decisionCount_0 : decode cX9_decisionCount 0 = .ok (.aload_n 0, 1) := by decide +kernel
theorem dX9_decisionCount_1 : decode cX9_decisionCount 1 = .ok (.getfield 10, 3) := by decide +kernel
theorem dX9_decisionCount_4 : decode cX9_decisionCount 4 = .ok (.getfield 261, 3) := by decide +kernel
theorem dX9_decisionCount_7 : decode cX9_decisionCount 7 = .ok (.ireturn, 1) := by decide +kernel
theorem dX9_meanCredibility_0 : decode cX9_meanCredibility 0 = .ok (.aload_n 0, 1) := by decide +kernel
theorem dX9_meanCredibility_1 : decode cX9_meanCredibility 1 = .ok (.getfield 10, 3) := by decide +kernel
theorem dX9_meanCredibility_4 : decode cX9_meanCredibility 4 = .ok (.getfield 160, 3) := by decide +kernel
theorem dX9_meanCredibility_7 : decode cX9_meanCredibility 7 = .ok (.ifCond .ne 14, 3) := by decide +kernel
theorem dX9_meanCredibility_10 : decode cX9_meanCredibility 10 = .ok (.new 267, 3) := by decide +kernel
theorem dX9_meanCredibility_13 : decode cX9_meanCredibility 13 = .ok (.dup, 1) := by decide +kernel
theorem dX9_meanCredibility_14 : decode cX9_meanCredibility 14 = .ok (.ldc_w 269, 3) := by decide +kernel
theorem dX9_meanCredibility_17 : decode cX9_meanCredibility 17 = .ok (.invokespecial 271, 3) := by decide +kernel
theorem dX9_meanCredibility_20 : decode cX9_meanCredibility 20 = .ok (.athrow, 1) := by decide +kernel
theorem dX9_meanCredibility_21 : decode cX9_meanCredibility 21 = .ok (.aload_n 0, 1) := by decide +kernel
theorem dX9_meanCredibility_22 : decode cX9_meanCredibility 22 = .ok (.getfield 10, 3) := by decide +kernel
theorem dX9_meanCredibility_25 : decode cX9_meanCredibility 25 = .ok (.invokevirtual 272, 3) := by decide +kernel
theorem dX9_meanCredibility_28 : decode cX9_meanCredibility 28 = .ok (.i2d, 1) := by decide +kernel
theorem dX9_meanCredibility_29 : decode cX9_meanCredibility 29 = .ok (.aload_n 0, 1) := by decide +kernel
theorem dX9_meanCredibility_30 : decode cX9_meanCredibility 30 = .ok (.getfield 10, 3) := by decide +kernel
theorem dX9_meanCredibility_33 : decode cX9_meanCredibility 33 = .ok (.getfield 160, 3) := by decide +kernel
theorem dX9_meanCredibility_36 : decode cX9_meanCredibility 36 = .ok (.i2d, 1) := by decide +kernel
theorem dX9_meanCredibility_37 : decode cX9_meanCredibility 37 = .ok (.ddiv, 1) := by decide +kernel
theorem dX9_meanCredibility_38 : decode cX9_meanCredibility 38 = .ok (.dreturn, 1) := by decide +kernel
theorem dX9_guiltyShare_0 : decode cX9_guiltyShare 0 = .ok (.aload_n 0, 1) := by decide +kernel
theorem dX9_guiltyShare_1 : decode cX9_guiltyShare 1 = .ok (.getfield 10, 3) := by decide +kernel
theorem dX9_guiltyShare_4 : decode cX9_guiltyShare 4 = .ok (.iconst 1, 1) := by decide +kernel
theorem dX9_guiltyShare_5 : decode cX9_guiltyShare 5 = .ok (.invokevirtual 241, 3) := by decide +kernel
theorem dX9_guiltyShare_8 : decode cX9_guiltyShare 8 = .ok (.aload_n 0, 1) := by decide +kernel
theorem dX9_guiltyShare_9 : decode cX9_guiltyShare 9 = .ok (.getfield 10, 3) := by decide +kernel
theorem dX9_guiltyShare_12 : decode cX9_guiltyShare 12 = .ok (.iconst 2, 1) := by decide +kernel
theorem dX9_guiltyShare_13 : decode cX9_guiltyShare 13 = .ok (.invokevirtual 241, 3) := by decide +kernel
theorem dX9_guiltyShare_16 : decode cX9_guiltyShare 16 = .ok (.iadd, 1) := by decide +kernel
theorem dX9_guiltyShare_17 : decode cX9_guiltyShare 17 = .ok (.istore_n 1, 1) := by decide +kernel
theorem dX9_guiltyShare_18 : decode cX9_guiltyShare 18 = .ok (.iload_n 1, 1) := by decide +kernel
theorem dX9_guiltyShare_19 : decode cX9_guiltyShare 19 = .ok (.ifCond .ne 14, 3) := by decide +kernel
theorem dX9_guiltyShare_22 : decode cX9_guiltyShare 22 = .ok (.new 267, 3) := by decide +kernel
theorem dX9_guiltyShare_25 : decode cX9_guiltyShare 25 = .ok (.dup, 1) := by decide +kernel
theorem dX9_guiltyShare_26 : decode cX9_guiltyShare 26 = .ok (.ldc_w 275, 3) := by decide +kernel
theorem dX9_guiltyShare_29 : decode cX9_guiltyShare 29 = .ok (.invokespecial 271, 3) := by decide +kernel
theorem dX9_guiltyShare_32 : decode cX9_guiltyShare 32 = .ok (.athrow, 1) := by decide +kernel
theorem dX9_guiltyShare_33 : decode cX9_guiltyShare 33 = .ok (.aload_n 0, 1) := by decide +kernel
theorem dX9_guiltyShare_34 : decode cX9_guiltyShare 34 = .ok (.getfield 10, 3) := by decide +kernel
theorem dX9_guiltyShare_37 : decode cX9_guiltyShare 37 = .ok (.invokevirtual 257, 3) := by decide +kernel
theorem dX9_guiltyShare_40 : decode cX9_guiltyShare 40 = .ok (.i2f, 1) := by decide +kernel
theorem dX9_guiltyShare_41 : decode cX9_guiltyShare 41 = .ok (.iload_n 1, 1) := by decide +kernel
theorem dX9_guiltyShare_42 : decode cX9_guiltyShare 42 = .ok (.i2f, 1) := by decide +kernel
theorem dX9_guiltyShare_43 : decode cX9_guiltyShare 43 = .ok (.fdiv, 1) := by decide +kernel
theorem dX9_guiltyShare_44 : decode cX9_guiltyShare 44 = .ok (.freturn, 1) := by decide +kernel
theorem dX9_isConsistent_0 : decode cX9_isConsistent 0 = .ok (.aload_n 0, 1) := by decide +kernel
theorem dX9_isConsistent_1 : decode cX9_isConsistent 1 = .ok (.invokevirtual 277, 3) := by decide +kernel
theorem dX9_isConsistent_4 : decode cX9_isConsistent 4 = .ok (.ifCond .eq 28, 3) := by decide +kernel
theorem dX9_isConsistent_7 : decode cX9_isConsistent 7 = .ok (.aload_n 0, 1) := by decide +kernel
theorem dX9_isConsistent_8 : decode cX9_isConsistent 8 = .ok (.invokevirtual 281, 3) := by decide +kernel
theorem dX9_isConsistent_11 : decode cX9_isConsistent 11 = .ok (.ifCond .eq 21, 3) := by decide +kernel
theorem dX9_isConsistent_14 : decode cX9_isConsistent 14 = .ok (.aload_n 0, 1) := by decide +kernel
theorem dX9_isConsistent_15 : decode cX9_isConsistent 15 = .ok (.invokevirtual 284, 3) := by decide +kernel
theorem dX9_isConsistent_18 : decode cX9_isConsistent 18 = .ok (.ifCond .eq 14, 3) := by decide +kernel
theorem dX9_isConsistent_21 : decode cX9_isConsistent 21 = .ok (.aload_n 0, 1) := by decide +kernel
theorem dX9_isConsistent_22 : decode cX9_isConsistent 22 = .ok (.invokevirtual 287, 3) := by decide +kernel
theorem dX9_isConsistent_25 : decode cX9_isConsistent 25 = .ok (.ifCond .eq 7, 3) := by decide +kernel
theorem dX9_isConsistent_28 : decode cX9_isConsistent 28 = .ok (.iconst 1, 1) := by decide +kernel
theorem dX9_isConsistent_29 : decode cX9_isConsistent 29 = .ok (.goto 4, 3) := by decide +kernel
theorem dX9_isConsistent_32 : decode cX9_isConsistent 32 = .ok (.iconst 0, 1) := by decide +kernel
theorem dX9_isConsistent_33 : decode cX9_isConsistent 33 = .ok (.ireturn, 1) := by decide +kernel
theorem dX9_formatCase_0 : decode cX9_formatCase 0 = .ok (.aload_n 0, 1) := by decide +kernel
theorem dX9_formatCase_1 : decode cX9_formatCase 1 = .ok (.iload_n 1, 1) := by decide +kernel
theorem dX9_formatCase_2 : decode cX9_formatCase 2 = .ok (.invokevirtual 101, 3) := by decide +kernel
theorem dX9_formatCase_5 : decode cX9_formatCase 5 = .ok (.aload_n 0, 1) := by decide +kernel
theorem dX9_formatCase_6 : decode cX9_formatCase 6 = .ok (.getfield 53, 3) := by decide +kernel
theorem dX9_formatCase_9 : decode cX9_formatCase 9 = .ok (.iconst 0, 1) := by decide +kernel
theorem dX9_formatCase_10 : decode cX9_formatCase 10 = .ok (.invokevirtual 290, 3) := by decide +kernel
theorem dX9_formatCase_13 : decode cX9_formatCase 13 = .ok (.aload_n 0, 1) := by decide +kernel
theorem dX9_formatCase_14 : decode cX9_formatCase 14 = .ok (.iload_n 1, 1) := by decide +kernel
theorem dX9_formatCase_15 : decode cX9_formatCase 15 = .ok (.invokevirtual 293, 3) := by decide +kernel
theorem dX9_formatCase_18 : decode cX9_formatCase 18 = .ok (.iconst 0, 1) := by decide +kernel
theorem dX9_formatCase_19 : decode cX9_formatCase 19 = .ok (.istore_n 2, 1) := by decide +kernel
theorem dX9_formatCase_20 : decode cX9_formatCase 20 = .ok (.iload_n 2, 1) := by decide +kernel
theorem dX9_formatCase_21 : decode cX9_formatCase 21 = .ok (.aload_n 0, 1) := by decide +kernel
theorem dX9_formatCase_22 : decode cX9_formatCase 22 = .ok (.getfield 10, 3) := by decide +kernel
theorem dX9_formatCase_25 : decode cX9_formatCase 25 = .ok (.getfield 133, 3) := by decide +kernel
theorem dX9_formatCase_28 : decode cX9_formatCase 28 = .ok (.iload_n 1, 1) := by decide +kernel
theorem dX9_formatCase_29 : decode cX9_formatCase 29 = .ok (.invokevirtual 109, 3) := by decide +kernel
theorem dX9_formatCase_32 : decode cX9_formatCase 32 = .ok (.if_icmp .ge 23, 3) := by decide +kernel
theorem dX9_formatCase_35 : decode cX9_formatCase 35 = .ok (.aload_n 0, 1) := by decide +kernel
theorem dX9_formatCase_36 : decode cX9_formatCase 36 = .ok (.iload_n 1, 1) := by decide +kernel
theorem dX9_formatCase_37 : decode cX9_formatCase 37 = .ok (.aload_n 0, 1) := by decide +kernel
theorem dX9_formatCase_38 : decode cX9_formatCase 38 = .ok (.getfield 10, 3) := by decide +kernel
theorem dX9_formatCase_41 : decode cX9_formatCase 41 = .ok (.iload_n 1, 1) := by decide +kernel
theorem dX9_formatCase_42 : decode cX9_formatCase 42 = .ok (.iload_n 2, 1) := by decide +kernel
theorem dX9_formatCase_43 : decode cX9_formatCase 43 = .ok (.invokevirtual 138, 3) := by decide +kernel
theorem dX9_formatCase_46 : decode cX9_formatCase 46 = .ok (.invokevirtual 296, 3) := by decide +kernel
theorem dX9_formatCase_49 : decode cX9_formatCase 49 = .ok (.iinc 2 1, 3) := by decide +kernel
theorem dX9_formatCase_52 : decode cX9_formatCase 52 = .ok (.goto (-32), 3) := by decide +kernel
theorem dX9_formatCase_55 : decode cX9_formatCase 55 = .ok (.aload_n 0, 1) := by decide +kernel
theorem dX9_formatCase_56 : decode cX9_formatCase 56 = .ok (.getfield 53, 3) := by decide +kernel
theorem dX9_formatCase_59 : decode cX9_formatCase 59 = .ok (.invokevirtual 299, 3) := by decide +kernel
theorem dX9_formatCase_62 : decode cX9_formatCase 62 = .ok (.ireturn, 1) := by decide +kernel
theorem dX9_formatWitness_0 : decode cX9_formatWitness 0 = .ok (.aload_n 0, 1) := by decide +kernel
theorem dX9_formatWitness_1 : decode cX9_formatWitness 1 = .ok (.iload_n 1, 1) := by decide +kernel
theorem dX9_formatWitness_2 : decode cX9_formatWitness 2 = .ok (.invokevirtual 141, 3) := by decide +kernel
theorem dX9_formatWitness_5 : decode cX9_formatWitness 5 = .ok (.aload_n 0, 1) := by decide +kernel
theorem dX9_formatWitness_6 : decode cX9_formatWitness 6 = .ok (.getfield 53, 3) := by decide +kernel
theorem dX9_formatWitness_9 : decode cX9_formatWitness 9 = .ok (.iconst 0, 1) := by decide +kernel
theorem dX9_formatWitness_10 : decode cX9_formatWitness 10 = .ok (.invokevirtual 290, 3) := by decide +kernel
theorem dX9_formatWitness_13 : decode cX9_formatWitness 13 = .ok (.aload_n 0, 1) := by decide +kernel
theorem dX9_formatWitness_14 : decode cX9_formatWitness 14 = .ok (.getfield 53, 3) := by decide +kernel
theorem dX9_formatWitness_17 : decode cX9_formatWitness 17 = .ok (.bipush 119, 2) := by decide +kernel
theorem dX9_formatWitness_19 : decode cX9_formatWitness 19 = .ok (.invokevirtual 301, 3) := by decide +kernel
theorem dX9_formatWitness_22 : decode cX9_formatWitness 22 = .ok (.pop, 1) := by decide +kernel
theorem dX9_formatWitness_23 : decode cX9_formatWitness 23 = .ok (.aload_n 0, 1) := by decide +kernel
theorem dX9_formatWitness_24 : decode cX9_formatWitness 24 = .ok (.getfield 53, 3) := by decide +kernel
theorem dX9_formatWitness_27 : decode cX9_formatWitness 27 = .ok (.iload_n 1, 1) := by decide +kernel
theorem dX9_formatWitness_28 : decode cX9_formatWitness 28 = .ok (.invokevirtual 305, 3) := by decide +kernel
theorem dX9_formatWitness_31 : decode cX9_formatWitness 31 = .ok (.pop, 1) := by decide +kernel
theorem dX9_formatWitness_32 : decode cX9_formatWitness 32 = .ok (.aload_n 0, 1) := by decide +kernel
theorem dX9_formatWitness_33 : decode cX9_formatWitness 33 = .ok (.getfield 53, 3) := by decide +kernel
theorem dX9_formatWitness_36 : decode cX9_formatWitness 36 = .ok (.bipush 61, 2) := by decide +kernel
theorem dX9_formatWitness_38 : decode cX9_formatWitness 38 = .ok (.invokevirtual 301, 3) := by decide +kernel
theorem dX9_formatWitness_41 : decode cX9_formatWitness 41 = .ok (.pop, 1) := by decide +kernel
theorem dX9_formatWitness_42 : decode cX9_formatWitness 42 = .ok (.aload_n 0, 1) := by decide +kernel
theorem dX9_formatWitness_43 : decode cX9_formatWitness 43 = .ok (.getfield 53, 3) := by decide +kernel
theorem dX9_formatWitness_46 : decode cX9_formatWitness 46 = .ok (.aload_n 0, 1) := by decide +kernel
theorem dX9_formatWitness_47 : decode cX9_formatWitness 47 = .ok (.getfield 10, 3) := by decide +kernel
theorem dX9_formatWitness_50 : decode cX9_formatWitness 50 = .ok (.getfield 163, 3) := by decide +kernel
theorem dX9_formatWitness_53 : decode cX9_formatWitness 53 = .ok (.iload_n 1, 1) := by decide +kernel
theorem dX9_formatWitness_54 : decode cX9_formatWitness 54 = .ok (.invokevirtual 109, 3) := by decide +kernel
theorem dX9_formatWitness_57 : decode cX9_formatWitness 57 = .ok (.invokevirtual 305, 3) := by decide +kernel
theorem dX9_formatWitness_60 : decode cX9_formatWitness 60 = .ok (.pop, 1) := by decide +kernel
theorem dX9_formatWitness_61 : decode cX9_formatWitness 61 = .ok (.aload_n 0, 1) := by decide +kernel
theorem dX9_formatWitness_62 : decode cX9_formatWitness 62 = .ok (.getfield 53, 3) := by decide +kernel
theorem dX9_formatWitness_65 : decode cX9_formatWitness 65 = .ok (.invokevirtual 299, 3) := by decide +kernel
theorem dX9_formatWitness_68 : decode cX9_formatWitness 68 = .ok (.ireturn, 1) := by decide +kernel
theorem dX9_lineChar_0 : decode cX9_lineChar 0 = .ok (.iload_n 1, 1) := by decide +kernel
theorem dX9_lineChar_1 : decode cX9_lineChar 1 = .ok (.ifCond .lt 14, 3) := by decide +kernel
theorem dX9_lineChar_4 : decode cX9_lineChar 4 = .ok (.iload_n 1, 1) := by decide +kernel
theorem dX9_lineChar_5 : decode cX9_lineChar 5 = .ok (.aload_n 0, 1) := by decide +kernel
theorem dX9_lineChar_6 : decode cX9_lineChar 6 = .ok (.getfield 53, 3) := by decide +kernel
theorem dX9_lineChar_9 : decode cX9_lineChar 9 = .ok (.invokevirtual 299, 3) := by decide +kernel
theorem dX9_lineChar_12 : decode cX9_lineChar 12 = .ok (.if_icmp .lt 14, 3) := by decide +kernel
theorem dX9_lineChar_15 : decode cX9_lineChar 15 = .ok (.new 308, 3) := by decide +kernel
theorem dX9_lineChar_18 : decode cX9_lineChar 18 = .ok (.dup, 1) := by decide +kernel
theorem dX9_lineChar_19 : decode cX9_lineChar 19 = .ok (.ldc_w 310, 3) := by decide +kernel
theorem dX9_lineChar_22 : decode cX9_lineChar 22 = .ok (.invokespecial 312, 3) := by decide +kernel
theorem dX9_lineChar_25 : decode cX9_lineChar 25 = .ok (.athrow, 1) := by decide +kernel
theorem dX9_lineChar_26 : decode cX9_lineChar 26 = .ok (.aload_n 0, 1) := by decide +kernel
theorem dX9_lineChar_27 : decode cX9_lineChar 27 = .ok (.getfield 53, 3) := by decide +kernel
theorem dX9_lineChar_30 : decode cX9_lineChar 30 = .ok (.iload_n 1, 1) := by decide +kernel
theorem dX9_lineChar_31 : decode cX9_lineChar 31 = .ok (.invokevirtual 313, 3) := by decide +kernel
theorem dX9_lineChar_34 : decode cX9_lineChar 34 = .ok (.ireturn, 1) := by decide +kernel
theorem dX9_change_0 : decode cX9_change 0 = .ok (.aload_n 0, 1) := by decide +kernel
theorem dX9_change_1 : decode cX9_change 1 = .ok (.getfield 10, 3) := by decide +kernel
theorem dX9_change_4 : decode cX9_change 4 = .ok (.iload_n 1, 1) := by decide +kernel
theorem dX9_change_5 : decode cX9_change 5 = .ok (.iload_n 2, 1) := by decide +kernel
theorem dX9_change_6 : decode cX9_change 6 = .ok (.iload_n 3, 1) := by decide +kernel
theorem dX9_change_7 : decode cX9_change 7 = .ok (.iload 5, 2) := by decide +kernel
theorem dX9_change_9 : decode cX9_change 9 = .ok (.invokevirtual 362, 3) := by decide +kernel
theorem dX9_change_12 : decode cX9_change 12 = .ok (.invokestatic 366, 3) := by decide +kernel
theorem dX9_change_15 : decode cX9_change 15 = .ok (.aload_n 0, 1) := by decide +kernel
theorem dX9_change_16 : decode cX9_change 16 = .ok (.getfield 25, 3) := by decide +kernel
theorem dX9_change_19 : decode cX9_change 19 = .ok (.aload_n 0, 1) := by decide +kernel
theorem dX9_change_20 : decode cX9_change 20 = .ok (.getfield 10, 3) := by decide +kernel
theorem dX9_change_23 : decode cX9_change 23 = .ok (.invokevirtual 370, 3) := by decide +kernel
theorem dX9_change_26 : decode cX9_change 26 = .ok (.aload_n 0, 1) := by decide +kernel
theorem dX9_change_27 : decode cX9_change 27 = .ok (.getfield 10, 3) := by decide +kernel
theorem dX9_change_30 : decode cX9_change 30 = .ok (.iload_n 1, 1) := by decide +kernel
theorem dX9_change_31 : decode cX9_change 31 = .ok (.iload_n 2, 1) := by decide +kernel
theorem dX9_change_32 : decode cX9_change 32 = .ok (.iload_n 3, 1) := by decide +kernel
theorem dX9_change_33 : decode cX9_change 33 = .ok (.iload 4, 2) := by decide +kernel
theorem dX9_change_35 : decode cX9_change 35 = .ok (.iload 5, 2) := by decide +kernel
theorem dX9_change_37 : decode cX9_change 37 = .ok (.invokevirtual 373, 3) := by decide +kernel
theorem dX9_change_40 : decode cX9_change 40 = .ok (.ireturn, 1) := by decide +kernel
theorem dX9_refuse_0 : decode cX9_refuse 0 = .ok (.aload_n 0, 1) := by decide +kernel
theorem dX9_refuse_1 : decode cX9_refuse 1 = .ok (.getstatic 376, 3) := by decide +kernel
theorem dX9_refuse_4 : decode cX9_refuse 4 = .ok (.if_acmp .ne 14, 3) := by decide +kernel
theorem dX9_refuse_7 : decode cX9_refuse 7 = .ok (.new 308, 3) := by decide +kernel
theorem dX9_refuse_10 : decode cX9_refuse 10 = .ok (.dup, 1) := by decide +kernel
theorem dX9_refuse_11 : decode cX9_refuse 11 = .ok (.ldc_w 382, 3) := by decide +kernel
theorem dX9_refuse_14 : decode cX9_refuse 14 = .ok (.invokespecial 312, 3) := by decide +kernel
theorem dX9_refuse_17 : decode cX9_refuse 17 = .ok (.athrow, 1) := by decide +kernel
theorem dX9_refuse_18 : decode cX9_refuse 18 = .ok (.aload_n 0, 1) := by decide +kernel
theorem dX9_refuse_19 : decode cX9_refuse 19 = .ok (.getstatic 384, 3) := by decide +kernel
theorem dX9_refuse_22 : decode cX9_refuse 22 = .ok (.if_acmp .ne 14, 3) := by decide +kernel
theorem dX9_refuse_25 : decode cX9_refuse 25 = .ok (.new 85, 3) := by decide +kernel
theorem dX9_refuse_28 : decode cX9_refuse 28 = .ok (.dup, 1) := by decide +kernel
theorem dX9_refuse_29 : decode cX9_refuse 29 = .ok (.ldc_w 387, 3) := by decide +kernel
theorem dX9_refuse_32 : decode cX9_refuse 32 = .ok (.invokespecial 89, 3) := by decide +kernel
theorem dX9_refuse_35 : decode cX9_refuse 35 = .ok (.athrow, 1) := by decide +kernel
theorem dX9_refuse_36 : decode cX9_refuse 36 = .ok (.aload_n 0, 1) := by decide +kernel
theorem dX9_refuse_37 : decode cX9_refuse 37 = .ok (.getstatic 389, 3) := by decide +kernel
theorem dX9_refuse_40 : decode cX9_refuse 40 = .ok (.if_acmp .ne 14, 3) := by decide +kernel
theorem dX9_refuse_43 : decode cX9_refuse 43 = .ok (.new 96, 3) := by decide +kernel
theorem dX9_refuse_46 : decode cX9_refuse 46 = .ok (.dup, 1) := by decide +kernel
theorem dX9_refuse_47 : decode cX9_refuse 47 = .ok (.ldc_w 392, 3) := by decide +kernel
theorem dX9_refuse_50 : decode cX9_refuse 50 = .ok (.invokespecial 100, 3) := by decide +kernel
theorem dX9_refuse_53 : decode cX9_refuse 53 = .ok (.athrow, 1) := by decide +kernel
theorem dX9_refuse_54 : decode cX9_refuse 54 = .ok (.aload_n 0, 1) := by decide +kernel
theorem dX9_refuse_55 : decode cX9_refuse 55 = .ok (.getstatic 394, 3) := by decide +kernel
theorem dX9_refuse_58 : decode cX9_refuse 58 = .ok (.if_acmp .ne 14, 3) := by decide +kernel
theorem dX9_refuse_61 : decode cX9_refuse 61 = .ok (.new 122, 3) := by decide +kernel
theorem dX9_refuse_64 : decode cX9_refuse 64 = .ok (.dup, 1) := by decide +kernel
theorem dX9_refuse_65 : decode cX9_refuse 65 = .ok (.ldc_w 397, 3) := by decide +kernel
theorem dX9_refuse_68 : decode cX9_refuse 68 = .ok (.invokespecial 126, 3) := by decide +kernel
theorem dX9_refuse_71 : decode cX9_refuse 71 = .ok (.athrow, 1) := by decide +kernel
theorem dX9_refuse_72 : decode cX9_refuse 72 = .ok (.return_, 1) := by decide +kernel
theorem dX9_needCase_0 : decode cX9_needCase 0 = .ok (.aload_n 0, 1) := by decide +kernel
theorem dX9_needCase_1 : decode cX9_needCase 1 = .ok (.getfield 10, 3) := by decide +kernel
theorem dX9_needCase_4 : decode cX9_needCase 4 = .ok (.iload_n 1, 1) := by decide +kernel
theorem dX9_needCase_5 : decode cX9_needCase 5 = .ok (.invokevirtual 417, 3) := by decide +kernel
theorem dX9_needCase_8 : decode cX9_needCase 8 = .ok (.ifCond .ne 14, 3) := by decide +kernel
theorem dX9_needCase_11 : decode cX9_needCase 11 = .ok (.new 308, 3) := by decide +kernel
theorem dX9_needCase_14 : decode cX9_needCase 14 = .ok (.dup, 1) := by decide +kernel
theorem dX9_needCase_15 : decode cX9_needCase 15 = .ok (.ldc_w 420, 3) := by decide +kernel
theorem dX9_needCase_18 : decode cX9_needCase 18 = .ok (.invokespecial 312, 3) := by decide +kernel
theorem dX9_needCase_21 : decode cX9_needCase 21 = .ok (.athrow, 1) := by decide +kernel
theorem dX9_needCase_22 : decode cX9_needCase 22 = .ok (.return_, 1) := by decide +kernel
theorem dX9_needWitness_0 : decode cX9_needWitness 0 = .ok (.aload_n 0, 1) := by decide +kernel
theorem dX9_needWitness_1 : decode cX9_needWitness 1 = .ok (.getfield 10, 3) := by decide +kernel
theorem dX9_needWitness_4 : decode cX9_needWitness 4 = .ok (.iload_n 1, 1) := by decide +kernel
theorem dX9_needWitness_5 : decode cX9_needWitness 5 = .ok (.invokevirtual 422, 3) := by decide +kernel
theorem dX9_needWitness_8 : decode cX9_needWitness 8 = .ok (.ifCond .ne 14, 3) := by decide +kernel
theorem dX9_needWitness_11 : decode cX9_needWitness 11 = .ok (.new 308, 3) := by decide +kernel
theorem dX9_needWitness_14 : decode cX9_needWitness 14 = .ok (.dup, 1) := by decide +kernel
theorem dX9_needWitness_15 : decode cX9_needWitness 15 = .ok (.ldc_w 425, 3) := by decide +kernel
theorem dX9_needWitness_18 : decode cX9_needWitness 18 = .ok (.invokespecial 312, 3) := by decide +kernel
theorem dX9_needWitness_21 : decode cX9_needWitness 21 = .ok (.athrow, 1) := by decide +kernel
theorem dX9_needWitness_22 : decode cX9_needWitness 22 = .ok (.return_, 1) := by decide +kernel
theorem dX9_needTestimony_0 : decode cX9_needTestimony 0 = .ok (.aload_n 0, 1) := by decide +kernel
theorem dX9_needTestimony_1 : decode cX9_needTestimony 1 = .ok (.iload_n 1, 1) := by decide +kernel
theorem dX9_needTestimony_2 : decode cX9_needTestimony 2 = .ok (.invokevirtual 101, 3) := by decide +kernel
theorem dX9_needTestimony_5 : decode cX9_needTestimony 5 = .ok (.aload_n 0, 1) := by decide +kernel
theorem dX9_needTestimony_6 : decode cX9_needTestimony 6 = .ok (.iload_n 2, 1) := by decide +kernel
theorem dX9_needTestimony_7 : decode cX9_needTestimony 7 = .ok (.invokevirtual 141, 3) := by decide +kernel
theorem dX9_needTestimony_10 : decode cX9_needTestimony 10 = .ok (.aload_n 0, 1) := by decide +kernel
theorem dX9_needTestimony_11 : decode cX9_needTestimony 11 = .ok (.getfield 10, 3) := by decide +kernel
theorem dX9_needTestimony_14 : decode cX9_needTestimony 14 = .ok (.iload_n 1, 1) := by decide +kernel
theorem dX9_needTestimony_15 : decode cX9_needTestimony 15 = .ok (.iload_n 2, 1) := by decide +kernel
theorem dX9_needTestimony_16 : decode cX9_needTestimony 16 = .ok (.invokevirtual 144, 3) := by decide +kernel
theorem dX9_needTestimony_19 : decode cX9_needTestimony 19 = .ok (.ifCond .ne 14, 3) := by decide +kernel
theorem dX9_needTestimony_22 : decode cX9_needTestimony 22 = .ok (.new 96, 3) := by decide +kernel
theorem dX9_needTestimony_25 : decode cX9_needTestimony 25 = .ok (.dup, 1) := by decide +kernel
theorem dX9_needTestimony_26 : decode cX9_needTestimony 26 = .ok (.ldc_w 392, 3) := by decide +kernel
theorem dX9_needTestimony_29 : decode cX9_needTestimony 29 = .ok (.invokespecial 100, 3) := by decide +kernel
theorem dX9_needTestimony_32 : decode cX9_needTestimony 32 = .ok (.athrow, 1) := by decide +kernel
theorem dX9_needTestimony_33 : decode cX9_needTestimony 33 = .ok (.return_, 1) := by decide +kernel
theorem dX9_needDefendant_0 : decode cX9_needDefendant 0 = .ok (.iload_n 0, 1) := by decide +kernel
theorem dX9_needDefendant_1 : decode cX9_needDefendant 1 = .ok (.invokestatic 78, 3) := by decide +kernel
theorem dX9_needDefendant_4 : decode cX9_needDefendant 4 = .ok (.ifCond .ne 14, 3) := by decide +kernel
theorem dX9_needDefendant_7 : decode cX9_needDefendant 7 = .ok (.new 85, 3) := by decide +kernel
theorem dX9_needDefendant_10 : decode cX9_needDefendant 10 = .ok (.dup, 1) := by decide +kernel
theorem dX9_needDefendant_11 : decode cX9_needDefendant 11 = .ok (.ldc_w 429, 3) := by decide +kernel
theorem dX9_needDefendant_14 : decode cX9_needDefendant 14 = .ok (.invokespecial 89, 3) := by decide +kernel
theorem dX9_needDefendant_17 : decode cX9_needDefendant 17 = .ok (.athrow, 1) := by decide +kernel
theorem dX9_needDefendant_18 : decode cX9_needDefendant 18 = .ok (.return_, 1) := by decide +kernel
theorem dX9_isDefendant_0 : decode cX9_isDefendant 0 = .ok (.iload_n 0, 1) := by decide +kernel
theorem dX9_isDefendant_1 : decode cX9_isDefendant 1 = .ok (.ifCond .lt 13, 3) := by decide +kernel
theorem dX9_isDefendant_4 : decode cX9_isDefendant 4 = .ok (.iload_n 0, 1) := by decide +kernel
theorem dX9_isDefendant_5 : decode cX9_isDefendant 5 = .ok (.bipush 6, 2) := by decide +kernel
theorem dX9_isDefendant_7 : decode cX9_isDefendant 7 = .ok (.if_icmp .ge 7, 3) := by decide +kernel
theorem dX9_isDefendant_10 : decode cX9_isDefendant 10 = .ok (.iconst 1, 1) := by decide +kernel
theorem dX9_isDefendant_11 : decode cX9_isDefendant 11 = .ok (.goto 4, 3) := by decide +kernel
theorem dX9_isDefendant_14 : decode cX9_isDefendant 14 = .ok (.iconst 0, 1) := by decide +kernel
theorem dX9_isDefendant_15 : decode cX9_isDefendant 15 = .ok (.ireturn, 1) := by decide +kernel
theorem dX9_isOffence_0 : decode cX9_isOffence 0 = .ok (.iload_n 0, 1) := by decide +kernel
theorem dX9_isOffence_1 : decode cX9_isOffence 1 = .ok (.ifCond .lt 12, 3) := by decide +kernel
theorem dX9_isOffence_4 : decode cX9_isOffence 4 = .ok (.iload_n 0, 1) := by decide +kernel
theorem dX9_isOffence_5 : decode cX9_isOffence 5 = .ok (.iconst 5, 1) := by decide +kernel
theorem dX9_isOffence_6 : decode cX9_isOffence 6 = .ok (.if_icmp .ge 7, 3) := by decide +kernel
theorem dX9_isOffence_9 : decode cX9_isOffence 9 = .ok (.iconst 1, 1) := by decide +kernel
theorem dX9_isOffence_10 : decode cX9_isOffence 10 = .ok (.goto 4, 3) := by decide +kernel
theorem dX9_isOffence_13 : decode cX9_isOffence 13 = .ok (.iconst 0, 1) := by decide +kernel
theorem dX9_isOffence_14 : decode cX9_isOffence 14 = .ok (.ireturn, 1) := by decide +kernel
theorem dX9_writeHead_0 : decode cX9_writeHead 0 = .ok (.aload_n 0, 1) := by decide +kernel
theorem dX9_writeHead_1 : decode cX9_writeHead 1 = .ok (.getfield 53, 3) := by decide +kernel
theorem dX9_writeHead_4 : decode cX9_writeHead 4 = .ok (.iload_n 1, 1) := by decide +kernel
theorem dX9_writeHead_5 : decode cX9_writeHead 5 = .ok (.invokevirtual 305, 3) := by decide +kernel
theorem dX9_writeHead_8 : decode cX9_writeHead 8 = .ok (.pop, 1) := by decide +kernel
theorem dX9_writeHead_9 : decode cX9_writeHead 9 = .ok (.aload_n 0, 1) := by decide +kernel
theorem dX9_writeHead_10 : decode cX9_writeHead 10 = .ok (.getfield 53, 3) := by decide +kernel
theorem dX9_writeHead_13 : decode cX9_writeHead 13 = .ok (.bipush 58, 2) := by decide +kernel
theorem dX9_writeHead_15 : decode cX9_writeHead 15 = .ok (.invokevirtual 301, 3) := by decide +kernel
theorem dX9_writeHead_18 : decode cX9_writeHead 18 = .ok (.pop, 1) := by decide +kernel
theorem dX9_writeHead_19 : decode cX9_writeHead 19 = .ok (.aload_n 0, 1) := by decide +kernel
theorem dX9_writeHead_20 : decode cX9_writeHead 20 = .ok (.getfield 53, 3) := by decide +kernel
theorem dX9_writeHead_23 : decode cX9_writeHead 23 = .ok (.aload_n 0, 1) := by decide +kernel
theorem dX9_writeHead_24 : decode cX9_writeHead 24 = .ok (.getfield 10, 3) := by decide +kernel
theorem dX9_writeHead_27 : decode cX9_writeHead 27 = .ok (.getfield 105, 3) := by decide +kernel
theorem dX9_writeHead_30 : decode cX9_writeHead 30 = .ok (.iload_n 1, 1) := by decide +kernel
theorem dX9_writeHead_31 : decode cX9_writeHead 31 = .ok (.invokevirtual 109, 3) := by decide +kernel
theorem dX9_writeHead_34 : decode cX9_writeHead 34 = .ok (.invokevirtual 305, 3) := by decide +kernel
theorem dX9_writeHead_37 : decode cX9_writeHead 37 = .ok (.pop, 1) := by decide +kernel
theorem dX9_writeHead_38 : decode cX9_writeHead 38 = .ok (.aload_n 0, 1) := by decide +kernel
theorem dX9_writeHead_39 : decode cX9_writeHead 39 = .ok (.getfield 53, 3) := by decide +kernel
theorem dX9_writeHead_42 : decode cX9_writeHead 42 = .ok (.bipush 47, 2) := by decide +kernel
theorem dX9_writeHead_44 : decode cX9_writeHead 44 = .ok (.invokevirtual 301, 3) := by decide +kernel
theorem dX9_writeHead_47 : decode cX9_writeHead 47 = .ok (.pop, 1) := by decide +kernel
theorem dX9_writeHead_48 : decode cX9_writeHead 48 = .ok (.aload_n 0, 1) := by decide +kernel
theorem dX9_writeHead_49 : decode cX9_writeHead 49 = .ok (.getfield 53, 3) := by decide +kernel
theorem dX9_writeHead_52 : decode cX9_writeHead 52 = .ok (.aload_n 0, 1) := by decide +kernel
theorem dX9_writeHead_53 : decode cX9_writeHead 53 = .ok (.getfield 10, 3) := by decide +kernel
theorem dX9_writeHead_56 : decode cX9_writeHead 56 = .ok (.getfield 115, 3) := by decide +kernel
theorem dX9_writeHead_59 : decode cX9_writeHead 59 = .ok (.iload_n 1, 1) := by decide +kernel
theorem dX9_writeHead_60 : decode cX9_writeHead 60 = .ok (.invokevirtual 109, 3) := by decide +kernel
theorem dX9_writeHead_63 : decode cX9_writeHead 63 = .ok (.invokevirtual 305, 3) := by decide +kernel
theorem dX9_writeHead_66 : decode cX9_writeHead 66 = .ok (.pop, 1) := by decide +kernel
theorem dX9_writeHead_67 : decode cX9_writeHead 67 = .ok (.aload_n 0, 1) := by decide +kernel
theorem dX9_writeHead_68 : decode cX9_writeHead 68 = .ok (.getfield 10, 3) := by decide +kernel
theorem dX9_writeHead_71 : decode cX9_writeHead 71 = .ok (.iconst 0, 1) := by decide +kernel
theorem dX9_writeHead_72 : decode cX9_writeHead 72 = .ok (.iload_n 1, 1) := by decide +kernel
theorem dX9_writeHead_73 : decode cX9_writeHead 73 = .ok (.invokevirtual 118, 3) := by decide +kernel
theorem dX9_writeHead_76 : decode cX9_writeHead 76 = .ok (.ifCond .eq 16, 3) := by decide +kernel
theorem dX9_writeHead_79 : decode cX9_writeHead 79 = .ok (.aload_n 0, 1) := by decide +kernel
theorem dX9_writeHead_80 : decode cX9_writeHead 80 = .ok (.getfield 53, 3) := by decide +kernel
theorem dX9_writeHead_83 : decode cX9_writeHead 83 = .ok (.bipush 111, 2) := by decide +kernel
theorem dX9_writeHead_85 : decode cX9_writeHead 85 = .ok (.invokevirtual 301, 3) := by decide +kernel
theorem dX9_writeHead_88 : decode cX9_writeHead 88 = .ok (.pop, 1) := by decide +kernel
theorem dX9_writeHead_89 : decode cX9_writeHead 89 = .ok (.goto 29, 3) := by decide +kernel
theorem dX9_writeHead_92 : decode cX9_writeHead 92 = .ok (.aload_n 0, 1) := by decide +kernel
theorem dX9_writeHead_93 : decode cX9_writeHead 93 = .ok (.getfield 53, 3) := by decide +kernel
theorem dX9_writeHead_96 : decode cX9_writeHead 96 = .ok (.aload_n 0, 1) := by decide +kernel
theorem dX9_writeHead_97 : decode cX9_writeHead 97 = .ok (.getfield 10, 3) := by decide +kernel
theorem dX9_writeHead_100 : decode cX9_writeHead 100 = .ok (.iload_n 1, 1) := by decide +kernel
theorem dX9_writeHead_101 : decode cX9_writeHead 101 = .ok (.invokevirtual 127, 3) := by decide +kernel
theorem dX9_writeHead_104 : decode cX9_writeHead 104 = .ok (.ifCond .eq 8, 3) := by decide +kernel
theorem dX9_writeHead_107 : decode cX9_writeHead 107 = .ok (.bipush 103, 2) := by decide +kernel
theorem dX9_writeHead_109 : decode cX9_writeHead 109 = .ok (.goto 5, 3) := by decide +kernel
theorem dX9_writeHead_112 : decode cX9_writeHead 112 = .ok (.bipush 110, 2) := by decide +kernel
theorem dX9_writeHead_114 : decode cX9_writeHead 114 = .ok (.invokevirtual 301, 3) := by decide +kernel
theorem dX9_writeHead_117 : decode cX9_writeHead 117 = .ok (.pop, 1) := by decide +kernel
theorem dX9_writeHead_118 : decode cX9_writeHead 118 = .ok (.aload_n 0, 1) := by decide +kernel
theorem dX9_writeHead_119 : decode cX9_writeHead 119 = .ok (.getfield 10, 3) := by decide +kernel
theorem dX9_writeHead_122 : decode cX9_writeHead 122 = .ok (.iconst 2, 1) := by decide +kernel
theorem dX9_writeHead_123 : decode cX9_writeHead 123 = .ok (.iload_n 1, 1) := by decide +kernel
theorem dX9_writeHead_124 : decode cX9_writeHead 124 = .ok (.invokevirtual 118, 3) := by decide +kernel
theorem dX9_writeHead_127 : decode cX9_writeHead 127 = .ok (.ifCond .eq 13, 3) := by decide +kernel
theorem dX9_writeHead_130 : decode cX9_writeHead 130 = .ok (.aload_n 0, 1) := by decide +kernel
theorem dX9_writeHead_131 : decode cX9_writeHead 131 = .ok (.getfield 53, 3) := by decide +kernel
theorem dX9_writeHead_134 : decode cX9_writeHead 134 = .ok (.bipush 46, 2) := by decide +kernel
theorem dX9_writeHead_136 : decode cX9_writeHead 136 = .ok (.invokevirtual 301, 3) := by decide +kernel
theorem dX9_writeHead_139 : decode cX9_writeHead 139 = .ok (.pop, 1) := by decide +kernel
theorem dX9_writeHead_140 : decode cX9_writeHead 140 = .ok (.return_, 1) := by decide +kernel
theorem dX9_writeTestimony_0 : decode cX9_writeTestimony 0 = .ok (.aload_n 0, 1) := by decide +kernel
theorem dX9_writeTestimony_1 : decode cX9_writeTestimony 1 = .ok (.getfield 53, 3) := by decide +kernel
theorem dX9_writeTestimony_4 : decode cX9_writeTestimony 4 = .ok (.bipush 32, 2) := by decide +kernel
theorem dX9_writeTestimony_6 : decode cX9_writeTestimony 6 = .ok (.invokevirtual 301, 3) := by decide +kernel
theorem dX9_writeTestimony_9 : decode cX9_writeTestimony 9 = .ok (.pop, 1) := by decide +kernel
theorem dX9_writeTestimony_10 : decode cX9_writeTestimony 10 = .ok (.aload_n 0, 1) := by decide +kernel
theorem dX9_writeTestimony_11 : decode cX9_writeTestimony 11 = .ok (.getfield 53, 3) := by decide +kernel
theorem dX9_writeTestimony_14 : decode cX9_writeTestimony 14 = .ok (.aload_n 0, 1) := by decide +kernel
theorem dX9_writeTestimony_15 : decode cX9_writeTestimony 15 = .ok (.getfield 10, 3) := by decide +kernel
theorem dX9_writeTestimony_18 : decode cX9_writeTestimony 18 = .ok (.iload_n 1, 1) := by decide +kernel
theorem dX9_writeTestimony_19 : decode cX9_writeTestimony 19 = .ok (.iload_n 2, 1) := by decide +kernel
theorem dX9_writeTestimony_20 : decode cX9_writeTestimony 20 = .ok (.invokevirtual 151, 3) := by decide +kernel
theorem dX9_writeTestimony_23 : decode cX9_writeTestimony 23 = .ok (.ifCond .le 8, 3) := by decide +kernel
theorem dX9_writeTestimony_26 : decode cX9_writeTestimony 26 = .ok (.bipush 43, 2) := by decide +kernel
theorem dX9_writeTestimony_28 : decode cX9_writeTestimony 28 = .ok (.goto 5, 3) := by decide +kernel
theorem dX9_writeTestimony_31 : decode cX9_writeTestimony 31 = .ok (.bipush 45, 2) := by decide +kernel
theorem dX9_writeTestimony_33 : decode cX9_writeTestimony 33 = .ok (.invokevirtual 301, 3) := by decide +kernel
theorem dX9_writeTestimony_36 : decode cX9_writeTestimony 36 = .ok (.pop, 1) := by decide +kernel
theorem dX9_writeTestimony_37 : decode cX9_writeTestimony 37 = .ok (.aload_n 0, 1) := by decide +kernel
theorem dX9_writeTestimony_38 : decode cX9_writeTestimony 38 = .ok (.getfield 53, 3) := by decide +kernel
theorem dX9_writeTestimony_41 : decode cX9_writeTestimony 41 = .ok (.iload_n 2, 1) := by decide +kernel
theorem dX9_writeTestimony_42 : decode cX9_writeTestimony 42 = .ok (.invokevirtual 305, 3) := by decide +kernel
theorem dX9_writeTestimony_45 : decode cX9_writeTestimony 45 = .ok (.pop, 1) := by decide +kernel
theorem dX9_writeTestimony_46 : decode cX9_writeTestimony 46 = .ok (.aload_n 0, 1) := by decide +kernel
theorem dX9_writeTestimony_47 : decode cX9_writeTestimony 47 = .ok (.getfield 53, 3) := by decide +kernel
theorem dX9_writeTestimony_50 : decode cX9_writeTestimony 50 = .ok (.bipush 42, 2) := by decide +kernel
theorem dX9_writeTestimony_52 : decode cX9_writeTestimony 52 = .ok (.invokevirtual 301, 3) := by decide +kernel
theorem dX9_writeTestimony_55 : decode cX9_writeTestimony 55 = .ok (.pop, 1) := by decide +kernel
theorem dX9_writeTestimony_56 : decode cX9_writeTestimony 56 = .ok (.aload_n 0, 1) := by decide +kernel
theorem dX9_writeTestimony_57 : decode cX9_writeTestimony 57 = .ok (.getfield 53, 3) := by decide +kernel
theorem dX9_writeTestimony_60 : decode cX9_writeTestimony 60 = .ok (.aload_n 0, 1) := by decide +kernel
theorem dX9_writeTestimony_61 : decode cX9_writeTestimony 61 = .ok (.getfield 10, 3) := by decide +kernel
theorem dX9_writeTestimony_64 : decode cX9_writeTestimony 64 = .ok (.iload_n 1, 1) := by decide +kernel
theorem dX9_writeTestimony_65 : decode cX9_writeTestimony 65 = .ok (.iload_n 2, 1) := by decide +kernel
theorem dX9_writeTestimony_66 : decode cX9_writeTestimony 66 = .ok (.invokevirtual 154, 3) := by decide +kernel
theorem dX9_writeTestimony_69 : decode cX9_writeTestimony 69 = .ok (.invokevirtual 305, 3) := by decide +kernel
theorem dX9_writeTestimony_72 : decode cX9_writeTestimony 72 = .ok (.pop, 1) := by decide +kernel
theorem dX9_writeTestimony_73 : decode cX9_writeTestimony 73 = .ok (.return_, 1) := by decide +kernel
theorem dX9_doMarginsAgree_0 : decode cX9_doMarginsAgree 0 = .ok (.iconst 0, 1) := by decide +kernel
theorem dX9_doMarginsAgree_1 : decode cX9_doMarginsAgree 1 = .ok (.istore_n 1, 1) := by decide +kernel
theorem dX9_doMarginsAgree_2 : decode cX9_doMarginsAgree 2 = .ok (.iload_n 1, 1) := by decide +kernel
theorem dX9_doMarginsAgree_3 : decode cX9_doMarginsAgree 3 = .ok (.aload_n 0, 1) := by decide +kernel
theorem dX9_doMarginsAgree_4 : decode cX9_doMarginsAgree 4 = .ok (.getfield 10, 3) := by decide +kernel
theorem dX9_doMarginsAgree_7 : decode cX9_doMarginsAgree 7 = .ok (.getfield 75, 3) := by decide +kernel
theorem dX9_doMarginsAgree_10 : decode cX9_doMarginsAgree 10 = .ok (.if_icmp .ge 30, 3) := by decide +kernel
theorem dX9_doMarginsAgree_13 : decode cX9_doMarginsAgree 13 = .ok (.aload_n 0, 1) := by decide +kernel
theorem dX9_doMarginsAgree_14 : decode cX9_doMarginsAgree 14 = .ok (.getfield 10, 3) := by decide +kernel
theorem dX9_doMarginsAgree_17 : decode cX9_doMarginsAgree 17 = .ok (.iload_n 1, 1) := by decide +kernel
theorem dX9_doMarginsAgree_18 : decode cX9_doMarginsAgree 18 = .ok (.invokestatic 221, 3) := by decide +kernel
theorem dX9_doMarginsAgree_21 : decode cX9_doMarginsAgree 21 = .ok (.aload_n 0, 1) := by decide +kernel
theorem dX9_doMarginsAgree_22 : decode cX9_doMarginsAgree 22 = .ok (.getfield 10, 3) := by decide +kernel
theorem dX9_doMarginsAgree_25 : decode cX9_doMarginsAgree 25 = .ok (.iload_n 1, 1) := by decide +kernel
theorem dX9_doMarginsAgree_26 : decode cX9_doMarginsAgree 26 = .ok (.invokestatic 224, 3) := by decide +kernel
theorem dX9_doMarginsAgree_29 : decode cX9_doMarginsAgree 29 = .ok (.if_icmp .eq 5, 3) := by decide +kernel
theorem dX9_doMarginsAgree_32 : decode cX9_doMarginsAgree 32 = .ok (.iconst 0, 1) := by decide +kernel
theorem dX9_doMarginsAgree_33 : decode cX9_doMarginsAgree 33 = .ok (.ireturn, 1) := by decide +kernel
theorem dX9_doMarginsAgree_34 : decode cX9_doMarginsAgree 34 = .ok (.iinc 1 1, 3) := by decide +kernel
theorem dX9_doMarginsAgree_37 : decode cX9_doMarginsAgree 37 = .ok (.goto (-35), 3) := by decide +kernel
theorem dX9_doMarginsAgree_40 : decode cX9_doMarginsAgree 40 = .ok (.iconst 1, 1) := by decide +kernel
theorem dX9_doMarginsAgree_41 : decode cX9_doMarginsAgree 41 = .ok (.ireturn, 1) := by decide +kernel
theorem dX9_doSentencesAgree_0 : decode cX9_doSentencesAgree 0 = .ok (.iconst 0, 1) := by decide +kernel
theorem dX9_doSentencesAgree_1 : decode cX9_doSentencesAgree 1 = .ok (.istore_n 1, 1) := by decide +kernel
theorem dX9_doSentencesAgree_2 : decode cX9_doSentencesAgree 2 = .ok (.iload_n 1, 1) := by decide +kernel
theorem dX9_doSentencesAgree_3 : decode cX9_doSentencesAgree 3 = .ok (.bipush 6, 2) := by decide +kernel
theorem dX9_doSentencesAgree_5 : decode cX9_doSentencesAgree 5 = .ok (.if_icmp .ge 33, 3) := by decide +kernel
theorem dX9_doSentencesAgree_8 : decode cX9_doSentencesAgree 8 = .ok (.aload_n 0, 1) := by decide +kernel
theorem dX9_doSentencesAgree_9 : decode cX9_doSentencesAgree 9 = .ok (.getfield 10, 3) := by decide +kernel
theorem dX9_doSentencesAgree_12 : decode cX9_doSentencesAgree 12 = .ok (.getfield 235, 3) := by decide +kernel
theorem dX9_doSentencesAgree_15 : decode cX9_doSentencesAgree 15 = .ok (.iload_n 1, 1) := by decide +kernel
theorem dX9_doSentencesAgree_16 : decode cX9_doSentencesAgree 16 = .ok (.invokevirtual 109, 3) := by decide +kernel
theorem dX9_doSentencesAgree_19 : decode cX9_doSentencesAgree 19 = .ok (.aload_n 0, 1) := by decide +kernel
theorem dX9_doSentencesAgree_20 : decode cX9_doSentencesAgree 20 = .ok (.getfield 10, 3) := by decide +kernel
theorem dX9_doSentencesAgree_23 : decode cX9_doSentencesAgree 23 = .ok (.iload_n 1, 1) := by decide +kernel
theorem dX9_doSentencesAgree_24 : decode cX9_doSentencesAgree 24 = .ok (.invokevirtual 238, 3) := by decide +kernel
theorem dX9_doSentencesAgree_27 : decode cX9_doSentencesAgree 27 = .ok (.if_icmp .eq 5, 3) := by decide +kernel
theorem dX9_doSentencesAgree_30 : decode cX9_doSentencesAgree 30 = .ok (.iconst 0, 1) := by decide +kernel
theorem dX9_doSentencesAgree_31 : decode cX9_doSentencesAgree 31 = .ok (.ireturn, 1) := by decide +kernel
theorem dX9_doSentencesAgree_32 : decode cX9_doSentencesAgree 32 = .ok (.iinc 1 1, 3) := by decide +kernel
theorem dX9_doSentencesAgree_35 : decode cX9_doSentencesAgree 35 = .ok (.goto (-33), 3) := by decide +kernel
theorem dX9_doSentencesAgree_38 : decode cX9_doSentencesAgree 38 = .ok (.iconst 1, 1) := by decide +kernel
theorem dX9_doSentencesAgree_39 : decode cX9_doSentencesAgree 39 = .ok (.ireturn, 1) := by decide +kernel
theorem dX9_doConnectionsAgree_0 : decode cX9_doConnectionsAgree 0 = .ok (.iconst 0, 1) := by decide +kernel
theorem dX9_doConnectionsAgree_1 : decode cX9_doConnectionsAgree 1 = .ok (.istore_n 1, 1) := by decide +kernel
theorem dX9_doConnectionsAgree_2 : decode cX9_doConnectionsAgree 2 = .ok (.iload_n 1, 1) := by decide +kernel
theorem dX9_doConnectionsAgree_3 : decode cX9_doConnectionsAgree 3 = .ok (.aload_n 0, 1) := by decide +kernel
theorem dX9_doConnectionsAgree_4 : decode cX9_doConnectionsAgree 4 = .ok (.getfield 10, 3) := by decide +kernel
theorem dX9_doConnectionsAgree_7 : decode cX9_doConnectionsAgree 7 = .ok (.getfield 160, 3) := by decide +kernel
theorem dX9_doConnectionsAgree_10 : decode cX9_doConnectionsAgree 10 = .ok (.if_icmp .ge 65, 3) := by decide +kernel
theorem dX9_doConnectionsAgree_13 : decode cX9_doConnectionsAgree 13 = .ok (.aload_n 0, 1) := by decide +kernel
theorem dX9_doConnectionsAgree_14 : decode cX9_doConnectionsAgree 14 = .ok (.getfield 39, 3) := by decide +kernel
theorem dX9_doConnectionsAgree_17 : decode cX9_doConnectionsAgree 17 = .ok (.iload_n 1, 1) := by decide +kernel
theorem dX9_doConnectionsAgree_18 : decode cX9_doConnectionsAgree 18 = .ok (.aload_n 0, 1) := by decide +kernel
theorem dX9_doConnectionsAgree_19 : decode cX9_doConnectionsAgree 19 = .ok (.getfield 10, 3) := by decide +kernel
theorem dX9_doConnectionsAgree_22 : decode cX9_doConnectionsAgree 22 = .ok (.invokevirtual 186, 3) := by decide +kernel
theorem dX9_doConnectionsAgree_25 : decode cX9_doConnectionsAgree 25 = .ok (.iconst 0, 1) := by decide +kernel
theorem dX9_doConnectionsAgree_26 : decode cX9_doConnectionsAgree 26 = .ok (.istore_n 2, 1) := by decide +kernel
theorem dX9_doConnectionsAgree_27 : decode cX9_doConnectionsAgree 27 = .ok (.iload_n 2, 1) := by decide +kernel
theorem dX9_doConnectionsAgree_28 : decode cX9_doConnectionsAgree 28 = .ok (.aload_n 0, 1) := by decide +kernel
theorem dX9_doConnectionsAgree_29 : decode cX9_doConnectionsAgree 29 = .ok (.getfield 10, 3) := by decide +kernel
theorem dX9_doConnectionsAgree_32 : decode cX9_doConnectionsAgree 32 = .ok (.getfield 160, 3) := by decide +kernel
theorem dX9_doConnectionsAgree_35 : decode cX9_doConnectionsAgree 35 = .ok (.if_icmp .ge 34, 3) := by decide +kernel
theorem dX9_doConnectionsAgree_38 : decode cX9_doConnectionsAgree 38 = .ok (.aload_n 0, 1) := by decide +kernel
theorem dX9_doConnectionsAgree_39 : decode cX9_doConnectionsAgree 39 = .ok (.getfield 10, 3) := by decide +kernel
theorem dX9_doConnectionsAgree_42 : decode cX9_doConnectionsAgree 42 = .ok (.getfield 177, 3) := by decide +kernel
theorem dX9_doConnectionsAgree_45 : decode cX9_doConnectionsAgree 45 = .ok (.iload_n 1, 1) := by decide +kernel
theorem dX9_doConnectionsAgree_46 : decode cX9_doConnectionsAgree 46 = .ok (.iload_n 2, 1) := by decide +kernel
theorem dX9_doConnectionsAgree_47 : decode cX9_doConnectionsAgree 47 = .ok (.invokevirtual 181, 3) := by decide +kernel
theorem dX9_doConnectionsAgree_50 : decode cX9_doConnectionsAgree 50 = .ok (.aload_n 0, 1) := by decide +kernel
theorem dX9_doConnectionsAgree_51 : decode cX9_doConnectionsAgree 51 = .ok (.getfield 39, 3) := by decide +kernel
theorem dX9_doConnectionsAgree_54 : decode cX9_doConnectionsAgree 54 = .ok (.iload_n 2, 1) := by decide +kernel
theorem dX9_doConnectionsAgree_55 : decode cX9_doConnectionsAgree 55 = .ok (.invokevirtual 190, 3) := by decide +kernel
theorem dX9_doConnectionsAgree_58 : decode cX9_doConnectionsAgree 58 = .ok (.if_icmp .eq 5, 3) := by decide +kernel
theorem dX9_doConnectionsAgree_61 : decode cX9_doConnectionsAgree 61 = .ok (.iconst 0, 1) := by decide +kernel
theorem dX9_doConnectionsAgree_62 : decode cX9_doConnectionsAgree 62 = .ok (.ireturn, 1) := by decide +kernel
theorem dX9_doConnectionsAgree_63 : decode cX9_doConnectionsAgree 63 = .ok (.iinc 2 1, 3) := by decide +kernel
theorem dX9_doConnectionsAgree_66 : decode cX9_doConnectionsAgree 66 = .ok (.goto (-39), 3) := by decide +kernel
theorem dX9_doConnectionsAgree_69 : decode cX9_doConnectionsAgree 69 = .ok (.iinc 1 1, 3) := by decide +kernel
theorem dX9_doConnectionsAgree_72 : decode cX9_doConnectionsAgree 72 = .ok (.goto (-70), 3) := by decide +kernel
theorem dX9_doConnectionsAgree_75 : decode cX9_doConnectionsAgree 75 = .ok (.iconst 1, 1) := by decide +kernel
theorem dX9_doConnectionsAgree_76 : decode cX9_doConnectionsAgree 76 = .ok (.ireturn, 1) := by decide +kernel
theorem dX9_doesDocketAgree_0 : decode cX9_doesDocketAgree 0 = .ok (.aload_n 0, 1) := by decide +kernel
theorem dX9_doesDocketAgree_1 : decode cX9_doesDocketAgree 1 = .ok (.getfield 32, 3) := by decide +kernel
theorem dX9_doesDocketAgree_4 : decode cX9_doesDocketAgree 4 = .ok (.aload_n 0, 1) := by decide +kernel
theorem dX9_doesDocketAgree_5 : decode cX9_doesDocketAgree 5 = .ok (.getfield 10, 3) := by decide +kernel
theorem dX9_doesDocketAgree_8 : decode cX9_doesDocketAgree 8 = .ok (.invokevirtual 207, 3) := by decide +kernel
theorem dX9_doesDocketAgree_11 : decode cX9_doesDocketAgree 11 = .ok (.iconst 0, 1) := by decide +kernel
theorem dX9_doesDocketAgree_12 : decode cX9_doesDocketAgree 12 = .ok (.istore_n 1, 1) := by decide +kernel
theorem dX9_doesDocketAgree_13 : decode cX9_doesDocketAgree 13 = .ok (.iload_n 1, 1) := by decide +kernel
theorem dX9_doesDocketAgree_14 : decode cX9_doesDocketAgree 14 = .ok (.aload_n 0, 1) := by decide +kernel
theorem dX9_doesDocketAgree_15 : decode cX9_doesDocketAgree 15 = .ok (.getfield 10, 3) := by decide +kernel
theorem dX9_doesDocketAgree_18 : decode cX9_doesDocketAgree 18 = .ok (.getfield 75, 3) := by decide +kernel
theorem dX9_doesDocketAgree_21 : decode cX9_doesDocketAgree 21 = .ok (.if_icmp .ge 42, 3) := by decide +kernel
theorem dX9_doesDocketAgree_24 : decode cX9_doesDocketAgree 24 = .ok (.aload_n 0, 1) := by decide +kernel
theorem dX9_doesDocketAgree_25 : decode cX9_doesDocketAgree 25 = .ok (.getfield 10, 3) := by decide +kernel
theorem dX9_doesDocketAgree_28 : decode cX9_doesDocketAgree 28 = .ok (.iconst 0, 1) := by decide +kernel
theorem dX9_doesDocketAgree_29 : decode cX9_doesDocketAgree 29 = .ok (.iload_n 1, 1) := by decide +kernel
theorem dX9_doesDocketAgree_30 : decode cX9_doesDocketAgree 30 = .ok (.invokevirtual 118, 3) := by decide +kernel
theorem dX9_doesDocketAgree_33 : decode cX9_doesDocketAgree 33 = .ok (.ifCond .eq 24, 3) := by decide +kernel
theorem dX9_doesDocketAgree_36 : decode cX9_doesDocketAgree 36 = .ok (.aload_n 0, 1) := by decide +kernel
theorem dX9_doesDocketAgree_37 : decode cX9_doesDocketAgree 37 = .ok (.getfield 32, 3) := by decide +kernel
theorem dX9_doesDocketAgree_40 : decode cX9_doesDocketAgree 40 = .ok (.aload_n 0, 1) := by decide +kernel
theorem dX9_doesDocketAgree_41 : decode cX9_doesDocketAgree 41 = .ok (.getfield 10, 3) := by decide +kernel
theorem dX9_doesDocketAgree_44 : decode cX9_doesDocketAgree 44 = .ok (.iload_n 1, 1) := by decide +kernel
theorem dX9_doesDocketAgree_45 : decode cX9_doesDocketAgree 45 = .ok (.invokevirtual 254, 3) := by decide +kernel
theorem dX9_doesDocketAgree_48 : decode cX9_doesDocketAgree 48 = .ok (.iload_n 1, 1) := by decide +kernel
theorem dX9_doesDocketAgree_49 : decode cX9_doesDocketAgree 49 = .ok (.invokevirtual 431, 3) := by decide +kernel
theorem dX9_doesDocketAgree_52 : decode cX9_doesDocketAgree 52 = .ok (.ifCond .ne 5, 3) := by decide +kernel
theorem dX9_doesDocketAgree_55 : decode cX9_doesDocketAgree 55 = .ok (.iconst 0, 1) := by decide +kernel
theorem dX9_doesDocketAgree_56 : decode cX9_doesDocketAgree 56 = .ok (.ireturn, 1) := by decide +kernel
theorem dX9_doesDocketAgree_57 : decode cX9_doesDocketAgree 57 = .ok (.iinc 1 1, 3) := by decide +kernel
theorem dX9_doesDocketAgree_60 : decode cX9_doesDocketAgree 60 = .ok (.goto (-47), 3) := by decide +kernel
theorem dX9_doesDocketAgree_63 : decode cX9_doesDocketAgree 63 = .ok (.iconst 1, 1) := by decide +kernel
theorem dX9_doesDocketAgree_64 : decode cX9_doesDocketAgree 64 = .ok (.ireturn, 1) := by decide +kernel
end
section
theorem dL_cell_0 : decode cL_cell 0 = .ok (.iload_n 1, 1) := by decide +kernel
theorem dL_cell_1 : decode cL_cell 1 = .ok (.aload_n 0, 1) := by decide +kernel
theorem dL_cell_2 : decode cL_cell 2 = .ok (.arraylength, 1) := by decide +kernel
theorem dL_cell_3 : decode cL_cell 3 = .ok (.if_icmp .ge 9, 3) := by decide +kernel
theorem dL_cell_6 : decode cL_cell 6 = .ok (.aload_n 0, 1) := by decide +kernel
theorem dL_cell_7 : decode cL_cell 7 = .ok (.iload_n 1, 1) := by decide +kernel
theorem dL_cell_8 : decode cL_cell 8 = .ok (.iaload, 1) := by decide +kernel
theorem dL_cell_9 : decode cL_cell 9 = .ok (.goto 11, 3) := by decide +kernel
theorem dL_cell_12 : decode cL_cell 12 = .ok (.sipush 7919, 3) := by decide +kernel
theorem dL_cell_15 : decode cL_cell 15 = .ok (.iload_n 1, 1) := by decide +kernel
theorem dL_cell_16 : decode cL_cell 16 = .ok (.imul, 1) := by decide +kernel
theorem dL_cell_17 : decode cL_cell 17 = .ok (.bipush 12, 2) := by decide +kernel
theorem dL_cell_19 : decode cL_cell 19 = .ok (.iadd, 1) := by decide +kernel
theorem dL_cell_20 : decode cL_cell 20 = .ok (.ireturn, 1) := by decide +kernel
theorem dL_some_0 : decode cL_some 0 = .ok (.aload_n 0, 1) := by decide +kernel
theorem dL_some_1 : decode cL_some 1 = .ok (.iload_n 1, 1) := by decide +kernel
theorem dL_some_2 : decode cL_some 2 = .ok (.invokestatic 7, 3) := by decide +kernel
theorem dL_some_5 : decode cL_some 5 = .ok (.iconst 3, 1) := by decide +kernel
theorem dL_some_6 : decode cL_some 6 = .ok (.iushr, 1) := by decide +kernel
theorem dL_some_7 : decode cL_some 7 = .ok (.iload_n 2, 1) := by decide +kernel
theorem dL_some_8 : decode cL_some 8 = .ok (.irem, 1) := by decide +kernel
theorem dL_some_9 : decode cL_some 9 = .ok (.ireturn, 1) := by decide +kernel
theorem dL_charge_0 : decode cL_charge 0 = .ok (.aload_n 0, 1) := by decide +kernel
theorem dL_charge_1 : decode cL_charge 1 = .ok (.iload_n 1, 1) := by decide +kernel
theorem dL_charge_2 : decode cL_charge 2 = .ok (.iload_n 2, 1) := by decide +kernel
theorem dL_charge_3 : decode cL_charge 3 = .ok (.invokevirtual 13, 3) := by decide +kernel
theorem dL_charge_6 : decode cL_charge 6 = .ok (.ireturn, 1) := by decide +kernel
theorem dL_charge_7 : decode cL_charge 7 = .ok (.astore_n 3, 1) := by decide +kernel
theorem dL_charge_8 : decode cL_charge 8 = .ok (.sipush (-20000), 3) := by decide +kernel
theorem dL_charge_11 : decode cL_charge 11 = .ok (.ireturn, 1) := by decide +kernel
theorem dL_charge_12 : decode cL_charge 12 = .ok (.astore_n 3, 1) := by decide +kernel
theorem dL_charge_13 : decode cL_charge 13 = .ok (.sipush (-10000), 3) := by decide +kernel
theorem dL_charge_16 : decode cL_charge 16 = .ok (.ireturn, 1) := by decide +kernel
theorem dL_addWitness_0 : decode cL_addWitness 0 = .ok (.aload_n 0, 1) := by decide +kernel
theorem dL_addWitness_1 : decode cL_addWitness 1 = .ok (.iload_n 1, 1) := by decide +kernel
theorem dL_addWitness_2 : decode cL_addWitness 2 = .ok (.invokevirtual 23, 3) := by decide +kernel
theorem dL_addWitness_5 : decode cL_addWitness 5 = .ok (.ireturn, 1) := by decide +kernel
theorem dL_addWitness_6 : decode cL_addWitness 6 = .ok (.astore_n 2, 1) := by decide +kernel
theorem dL_addWitness_7 : decode cL_addWitness 7 = .ok (.sipush (-20000), 3) := by decide +kernel
theorem dL_addWitness_10 : decode cL_addWitness 10 = .ok (.ireturn, 1) := by decide +kernel
theorem dL_addWitness_11 : decode cL_addWitness 11 = .ok (.astore_n 2, 1) := by decide +kernel
theorem dL_addWitness_12 : decode cL_addWitness 12 = .ok (.sipush (-10000), 3) := by decide +kernel
theorem dL_addWitness_15 : decode cL_addWitness 15 = .ok (.ireturn, 1) := by decide +kernel
theorem dL_testify_0 : decode cL_testify 0 = .ok (.aload_n 0, 1) := by decide +kernel
theorem dL_testify_1 : decode cL_testify 1 = .ok (.iload_n 1, 1) := by decide +kernel
theorem dL_testify_2 : decode cL_testify 2 = .ok (.iload_n 2, 1) := by decide +kernel
theorem dL_testify_3 : decode cL_testify 3 = .ok (.iload_n 3, 1) := by decide +kernel
theorem dL_testify_4 : decode cL_testify 4 = .ok (.iload 4, 2) := by decide +kernel
theorem dL_testify_6 : decode cL_testify 6 = .ok (.invokevirtual 27, 3) := by decide +kernel
theorem dL_testify_9 : decode cL_testify 9 = .ok (.ireturn, 1) := by decide +kernel
theorem dL_testify_10 : decode cL_testify 10 = .ok (.astore 5, 2) := by decide +kernel
theorem dL_testify_12 : decode cL_testify 12 = .ok (.sipush (-25000), 3) := by decide +kernel
theorem dL_testify_15 : decode cL_testify 15 = .ok (.ireturn, 1) := by decide +kernel
theorem dL_testify_16 : decode cL_testify 16 = .ok (.astore 5, 2) := by decide +kernel
theorem dL_testify_18 : decode cL_testify 18 = .ok (.sipush (-20000), 3) := by decide +kernel
theorem dL_testify_21 : decode cL_testify 21 = .ok (.ireturn, 1) := by decide +kernel
theorem dL_testify_22 : decode cL_testify 22 = .ok (.astore 5, 2) := by decide +kernel
theorem dL_testify_24 : decode cL_testify 24 = .ok (.sipush (-10000), 3) := by decide +kernel
theorem dL_testify_27 : decode cL_testify 27 = .ok (.ireturn, 1) := by decide +kernel
theorem dL_question_0 : decode cL_question 0 = .ok (.aload_n 0, 1) := by decide +kernel
theorem dL_question_1 : decode cL_question 1 = .ok (.iload_n 1, 1) := by decide +kernel
theorem dL_question_2 : decode cL_question 2 = .ok (.iload_n 2, 1) := by decide +kernel
theorem dL_question_3 : decode cL_question 3 = .ok (.iload_n 3, 1) := by decide +kernel
theorem dL_question_4 : decode cL_question 4 = .ok (.invokevirtual 33, 3) := by decide +kernel
theorem dL_question_7 : decode cL_question 7 = .ok (.ireturn, 1) := by decide +kernel
theorem dL_question_8 : decode cL_question 8 = .ok (.astore 4, 2) := by decide +kernel
theorem dL_question_10 : decode cL_question 10 = .ok (.sipush (-25000), 3) := by decide +kernel
theorem dL_question_13 : decode cL_question 13 = .ok (.ireturn, 1) := by decide +kernel
theorem dL_question_14 : decode cL_question 14 = .ok (.astore 4, 2) := by decide +kernel
theorem dL_question_16 : decode cL_question 16 = .ok (.sipush (-30000), 3) := by decide +kernel
theorem dL_question_19 : decode cL_question 19 = .ok (.ireturn, 1) := by decide +kernel
theorem dL_question_20 : decode cL_question 20 = .ok (.astore 4, 2) := by decide +kernel
theorem dL_question_22 : decode cL_question 22 = .ok (.sipush (-10000), 3) := by decide +kernel
theorem dL_question_25 : decode cL_question 25 = .ok (.ireturn, 1) := by decide +kernel
theorem dL_appeal_0 : decode cL_appeal 0 = .ok (.aload_n 0, 1) := by decide +kernel
theorem dL_appeal_1 : decode cL_appeal 1 = .ok (.iload_n 1, 1) := by decide +kernel
theorem dL_appeal_2 : decode cL_appeal 2 = .ok (.invokevirtual 39, 3) := by decide +kernel
theorem dL_appeal_5 : decode cL_appeal 5 = .ok (.ireturn, 1) := by decide +kernel
theorem dL_appeal_6 : decode cL_appeal 6 = .ok (.astore_n 2, 1) := by decide +kernel
theorem dL_appeal_7 : decode cL_appeal 7 = .ok (.sipush (-25000), 3) := by decide +kernel
theorem dL_appeal_10 : decode cL_appeal 10 = .ok (.ireturn, 1) := by decide +kernel
theorem dL_appeal_11 : decode cL_appeal 11 = .ok (.astore_n 2, 1) := by decide +kernel
theorem dL_appeal_12 : decode cL_appeal 12 = .ok (.sipush (-10000), 3) := by decide +kernel
theorem dL_appeal_15 : decode cL_appeal 15 = .ok (.ireturn, 1) := by decide +kernel
theorem dL_close_0 : decode cL_close 0 = .ok (.aload_n 0, 1) := by decide +kernel
theorem dL_close_1 : decode cL_close 1 = .ok (.iload_n 1, 1) := by decide +kernel
theorem dL_close_2 : decode cL_close 2 = .ok (.invokevirtual 42, 3) := by decide +kernel
theorem dL_close_5 : decode cL_close 5 = .ok (.ireturn, 1) := by decide +kernel
theorem dL_close_6 : decode cL_close 6 = .ok (.astore_n 2, 1) := by decide +kernel
theorem dL_close_7 : decode cL_close 7 = .ok (.sipush (-25000), 3) := by decide +kernel
theorem dL_close_10 : decode cL_close 10 = .ok (.ireturn, 1) := by decide +kernel
theorem dL_close_11 : decode cL_close 11 = .ok (.astore_n 2, 1) := by decide +kernel
theorem dL_close_12 : decode cL_close 12 = .ok (.sipush (-10000), 3) := by decide +kernel
theorem dL_close_15 : decode cL_close 15 = .ok (.ireturn, 1) := by decide +kernel
theorem dL_witnessAt_0 : decode cL_witnessAt 0 = .ok (.aload_n 0, 1) := by decide +kernel
theorem dL_witnessAt_1 : decode cL_witnessAt 1 = .ok (.iload_n 1, 1) := by decide +kernel
theorem dL_witnessAt_2 : decode cL_witnessAt 2 = .ok (.iload_n 2, 1) := by decide +kernel
theorem dL_witnessAt_3 : decode cL_witnessAt 3 = .ok (.invokevirtual 45, 3) := by decide +kernel
theorem dL_witnessAt_6 : decode cL_witnessAt 6 = .ok (.ireturn, 1) := by decide +kernel
theorem dL_witnessAt_7 : decode cL_witnessAt 7 = .ok (.astore_n 3, 1) := by decide +kernel
theorem dL_witnessAt_8 : decode cL_witnessAt 8 = .ok (.sipush (-25000), 3) := by decide +kernel
theorem dL_witnessAt_11 : decode cL_witnessAt 11 = .ok (.ireturn, 1) := by decide +kernel
theorem dL_witnessAt_12 : decode cL_witnessAt 12 = .ok (.astore_n 3, 1) := by decide +kernel
theorem dL_witnessAt_13 : decode cL_witnessAt 13 = .ok (.sipush (-30000), 3) := by decide +kernel
theorem dL_witnessAt_16 : decode cL_witnessAt 16 = .ok (.ireturn, 1) := by decide +kernel
theorem dL_mostCredible_0 : decode cL_mostCredible 0 = .ok (.aload_n 0, 1) := by decide +kernel
theorem dL_mostCredible_1 : decode cL_mostCredible 1 = .ok (.iload_n 1, 1) := by decide +kernel
theorem dL_mostCredible_2 : decode cL_mostCredible 2 = .ok (.invokevirtual 48, 3) := by decide +kernel
theorem dL_mostCredible_5 : decode cL_mostCredible 5 = .ok (.ireturn, 1) := by decide +kernel
theorem dL_mostCredible_6 : decode cL_mostCredible 6 = .ok (.astore_n 2, 1) := by decide +kernel
theorem dL_mostCredible_7 : decode cL_mostCredible 7 = .ok (.sipush (-30000), 3) := by decide +kernel
theorem dL_mostCredible_10 : decode cL_mostCredible 10 = .ok (.ireturn, 1) := by decide +kernel
theorem dL_heaviestWitness_0 : decode cL_heaviestWitness 0 = .ok (.aload_n 0, 1) := by decide +kernel
theorem dL_heaviestWitness_1 : decode cL_heaviestWitness 1 = .ok (.iload_n 1, 1) := by decide +kernel
theorem dL_heaviestWitness_2 : decode cL_heaviestWitness 2 = .ok (.invokevirtual 51, 3) := by decide +kernel
theorem dL_heaviestWitness_5 : decode cL_heaviestWitness 5 = .ok (.ireturn, 1) := by decide +kernel
theorem dL_heaviestWitness_6 : decode cL_heaviestWitness 6 = .ok (.astore_n 2, 1) := by decide +kernel
theorem dL_heaviestWitness_7 : decode cL_heaviestWitness 7 = .ok (.sipush (-25000), 3) := by decide +kernel
theorem dL_heaviestWitness_10 : decode cL_heaviestWitness 10 = .ok (.ireturn, 1) := by decide +kernel
theorem dL_heaviestWitness_11 : decode cL_heaviestWitness 11 = .ok (.astore_n 2, 1) := by decide +kernel
theorem dL_heaviestWitness_12 : decode cL_heaviestWitness 12 = .ok (.sipush (-30000), 3) := by decide +kernel
theorem dL_heaviestWitness_15 : decode cL_heaviestWitness 15 = .ok (.ireturn, 1) := by decide +kernel
theorem dL_nextToDecide_0 : decode cL_nextToDecide 0 = .ok (.aload_n 0, 1) := by decide +kernel
theorem dL_nextToDecide_1 : decode cL_nextToDecide 1 = .ok (.invokevirtual 54, 3) := by decide +kernel
theorem dL_nextToDecide_4 : decode cL_nextToDecide 4 = .ok (.ireturn, 1) := by decide +kernel
theorem dL_nextToDecide_5 : decode cL_nextToDecide 5 = .ok (.astore_n 1, 1) := by decide +kernel
theorem dL_nextToDecide_6 : decode cL_nextToDecide 6 = .ok (.sipush (-30000), 3) := by decide +kernel
theorem dL_nextToDecide_9 : decode cL_nextToDecide 9 = .ok (.ireturn, 1) := by decide +kernel
theorem dL_firmAnswersToGuilty_0 : decode cL_firmAnswersToGuilty 0 = .ok (.aload_n 0, 1) := by decide +kernel
theorem dL_firmAnswersToGuilty_1 : decode cL_firmAnswersToGuilty 1 = .ok (.iload_n 1, 1) := by decide +kernel
theorem dL_firmAnswersToGuilty_2 : decode cL_firmAnswersToGuilty 2 = .ok (.iload_n 2, 1) := by decide +kernel
theorem dL_firmAnswersToGuilty_3 : decode cL_firmAnswersToGuilty 3 = .ok (.invokevirtual 58, 3) := by decide +kernel
theorem dL_firmAnswersToGuilty_6 : decode cL_firmAnswersToGuilty 6 = .ok (.ireturn, 1) := by decide +kernel
theorem dL_firmAnswersToGuilty_7 : decode cL_firmAnswersToGuilty 7 = .ok (.astore_n 3, 1) := by decide +kernel
theorem dL_firmAnswersToGuilty_8 : decode cL_firmAnswersToGuilty 8 = .ok (.sipush (-25000), 3) := by decide +kernel
theorem dL_firmAnswersToGuilty_11 : decode cL_firmAnswersToGuilty 11 = .ok (.ireturn, 1) := by decide +kernel
theorem dL_firmAnswersToGuilty_12 : decode cL_firmAnswersToGuilty 12 = .ok (.astore_n 3, 1) := by decide +kernel
theorem dL_firmAnswersToGuilty_13 : decode cL_firmAnswersToGuilty 13 = .ok (.sipush (-30000), 3) := by decide +kernel
theorem dL_firmAnswersToGuilty_16 : decode cL_firmAnswersToGuilty 16 = .ok (.ireturn, 1) := by decide +kernel
theorem dL_docketAt_0 : decode cL_docketAt 0 = .ok (.aload_n 0, 1) := by decide +kernel
theorem dL_docketAt_1 : decode cL_docketAt 1 = .ok (.iload_n 1, 1) := by decide +kernel
theorem dL_docketAt_2 : decode cL_docketAt 2 = .ok (.invokevirtual 61, 3) := by decide +kernel
theorem dL_docketAt_5 : decode cL_docketAt 5 = .ok (.ireturn, 1) := by decide +kernel
theorem dL_docketAt_6 : decode cL_docketAt 6 = .ok (.astore_n 2, 1) := by decide +kernel
theorem dL_docketAt_7 : decode cL_docketAt 7 = .ok (.sipush (-30000), 3) := by decide +kernel
theorem dL_docketAt_10 : decode cL_docketAt 10 = .ok (.ireturn, 1) := by decide +kernel
theorem dL_docketPosition_0 : decode cL_docketPosition 0 = .ok (.aload_n 0, 1) := by decide +kernel
theorem dL_docketPosition_1 : decode cL_docketPosition 1 = .ok (.iload_n 1, 1) := by decide +kernel
theorem dL_docketPosition_2 : decode cL_docketPosition 2 = .ok (.invokevirtual 64, 3) := by decide +kernel
theorem dL_docketPosition_5 : decode cL_docketPosition 5 = .ok (.ireturn, 1) := by decide +kernel
theorem dL_docketPosition_6 : decode cL_docketPosition 6 = .ok (.astore_n 2, 1) := by decide +kernel
theorem dL_docketPosition_7 : decode cL_docketPosition 7 = .ok (.sipush (-25000), 3) := by decide +kernel
theorem dL_docketPosition_10 : decode cL_docketPosition 10 = .ok (.ireturn, 1) := by decide +kernel
theorem dL_docketPosition_11 : decode cL_docketPosition 11 = .ok (.astore_n 2, 1) := by decide +kernel
theorem dL_docketPosition_12 : decode cL_docketPosition 12 = .ok (.sipush (-10000), 3) := by decide +kernel
theorem dL_docketPosition_15 : decode cL_docketPosition 15 = .ok (.ireturn, 1) := by decide +kernel
theorem dL_decide_0 : decode cL_decide 0 = .ok (.aload_n 0, 1) := by decide +kernel
theorem dL_decide_1 : decode cL_decide 1 = .ok (.iload_n 1, 1) := by decide +kernel
theorem dL_decide_2 : decode cL_decide 2 = .ok (.invokevirtual 67, 3) := by decide +kernel
theorem dL_decide_5 : decode cL_decide 5 = .ok (.ifCond .eq 7, 3) := by decide +kernel
theorem dL_decide_8 : decode cL_decide 8 = .ok (.iconst 1, 1) := by decide +kernel
theorem dL_decide_9 : decode cL_decide 9 = .ok (.goto 4, 3) := by decide +kernel
theorem dL_decide_12 : decode cL_decide 12 = .ok (.iconst 0, 1) := by decide +kernel
theorem dL_decide_13 : decode cL_decide 13 = .ok (.ireturn, 1) := by decide +kernel
theorem dL_decide_14 : decode cL_decide 14 = .ok (.astore_n 2, 1) := by decide +kernel
theorem dL_decide_15 : decode cL_decide 15 = .ok (.sipush (-25000), 3) := by decide +kernel
theorem dL_decide_18 : decode cL_decide 18 = .ok (.ireturn, 1) := by decide +kernel
theorem dL_decide_19 : decode cL_decide 19 = .ok (.astore_n 2, 1) := by decide +kernel
theorem dL_decide_20 : decode cL_decide 20 = .ok (.sipush (-10000), 3) := by decide +kernel
theorem dL_decide_23 : decode cL_decide 23 = .ok (.ireturn, 1) := by decide +kernel
theorem dL_verdict_0 : decode cL_verdict 0 = .ok (.aload_n 0, 1) := by decide +kernel
theorem dL_verdict_1 : decode cL_verdict 1 = .ok (.iload_n 1, 1) := by decide +kernel
theorem dL_verdict_2 : decode cL_verdict 2 = .ok (.invokevirtual 71, 3) := by decide +kernel
theorem dL_verdict_5 : decode cL_verdict 5 = .ok (.ifCond .eq 7, 3) := by decide +kernel
theorem dL_verdict_8 : decode cL_verdict 8 = .ok (.iconst 1, 1) := by decide +kernel
theorem dL_verdict_9 : decode cL_verdict 9 = .ok (.goto 4, 3) := by decide +kernel
theorem dL_verdict_12 : decode cL_verdict 12 = .ok (.iconst 0, 1) := by decide +kernel
theorem dL_verdict_13 : decode cL_verdict 13 = .ok (.ireturn, 1) := by decide +kernel
theorem dL_verdict_14 : decode cL_verdict 14 = .ok (.astore_n 2, 1) := by decide +kernel
theorem dL_verdict_15 : decode cL_verdict 15 = .ok (.sipush (-10000), 3) := by decide +kernel
theorem dL_verdict_18 : decode cL_verdict 18 = .ok (.ireturn, 1) := by decide +kernel
theorem dL_build_0 : decode cL_build 0 = .ok (.iconst 0, 1) := by decide +kernel
theorem dL_build_1 : decode cL_build 1 = .ok (.istore_n 3, 1) := by decide +kernel
theorem dL_build_2 : decode cL_build 2 = .ok (.iload_n 3, 1) := by decide +kernel
theorem dL_build_3 : decode cL_build 3 = .ok (.iconst 4, 1) := by decide +kernel
theorem dL_build_4 : decode cL_build 4 = .ok (.if_icmp .ge 21, 3) := by decide +kernel
theorem dL_build_7 : decode cL_build 7 = .ok (.aload_n 0, 1) := by decide +kernel
theorem dL_build_8 : decode cL_build 8 = .ok (.aload_n 1, 1) := by decide +kernel
theorem dL_build_9 : decode cL_build 9 = .ok (.iload_n 3, 1) := by decide +kernel
theorem dL_build_10 : decode cL_build 10 = .ok (.bipush 10, 2) := by decide +kernel
theorem dL_build_12 : decode cL_build 12 = .ok (.invokestatic 74, 3) := by decide +kernel
theorem dL_build_15 : decode cL_build 15 = .ok (.invokestatic 78, 3) := by decide +kernel
theorem dL_build_18 : decode cL_build 18 = .ok (.istore_n 2, 1) := by decide +kernel
theorem dL_build_19 : decode cL_build 19 = .ok (.iinc 3 1, 3) := by decide +kernel
theorem dL_build_22 : decode cL_build 22 = .ok (.goto (-20), 3) := by decide +kernel
theorem dL_build_25 : decode cL_build 25 = .ok (.iconst 0, 1) := by decide +kernel
theorem dL_build_26 : decode cL_build 26 = .ok (.istore_n 3, 1) := by decide +kernel
theorem dL_build_27 : decode cL_build 27 = .ok (.iload_n 3, 1) := by decide +kernel
theorem dL_build_28 : decode cL_build 28 = .ok (.iconst 4, 1) := by decide +kernel
theorem dL_build_29 : decode cL_build 29 = .ok (.if_icmp .ge 32, 3) := by decide +kernel
theorem dL_build_32 : decode cL_build 32 = .ok (.aload_n 0, 1) := by decide +kernel
theorem dL_build_33 : decode cL_build 33 = .ok (.aload_n 1, 1) := by decide +kernel
theorem dL_build_34 : decode cL_build 34 = .ok (.iconst 5, 1) := by decide +kernel
theorem dL_build_35 : decode cL_build 35 = .ok (.iload_n 3, 1) := by decide +kernel
theorem dL_build_36 : decode cL_build 36 = .ok (.iadd, 1) := by decide +kernel
theorem dL_build_37 : decode cL_build 37 = .ok (.bipush 6, 2) := by decide +kernel
theorem dL_build_39 : decode cL_build 39 = .ok (.invokestatic 74, 3) := by decide +kernel
theorem dL_build_42 : decode cL_build 42 = .ok (.aload_n 1, 1) := by decide +kernel
theorem dL_build_43 : decode cL_build 43 = .ok (.bipush 10, 2) := by decide +kernel
theorem dL_build_45 : decode cL_build 45 = .ok (.iload_n 3, 1) := by decide +kernel
theorem dL_build_46 : decode cL_build 46 = .ok (.iadd, 1) := by decide +kernel
theorem dL_build_47 : decode cL_build 47 = .ok (.iconst 5, 1) := by decide +kernel
theorem dL_build_48 : decode cL_build 48 = .ok (.invokestatic 74, 3) := by decide +kernel
theorem dL_build_51 : decode cL_build 51 = .ok (.invokestatic 81, 3) := by decide +kernel
theorem dL_build_54 : decode cL_build 54 = .ok (.istore_n 2, 1) := by decide +kernel
theorem dL_build_55 : decode cL_build 55 = .ok (.iinc 3 1, 3) := by decide +kernel
theorem dL_build_58 : decode cL_build 58 = .ok (.goto (-31), 3) := by decide +kernel
theorem dL_build_61 : decode cL_build 61 = .ok (.iconst 0, 1) := by decide +kernel
theorem dL_build_62 : decode cL_build 62 = .ok (.istore_n 3, 1) := by decide +kernel
theorem dL_build_63 : decode cL_build 63 = .ok (.iload_n 3, 1) := by decide +kernel
theorem dL_build_64 : decode cL_build 64 = .ok (.bipush 20, 2) := by decide +kernel
theorem dL_build_66 : decode cL_build 66 = .ok (.if_icmp .ge 20, 3) := by decide +kernel
theorem dL_build_69 : decode cL_build 69 = .ok (.aload_n 0, 1) := by decide +kernel
theorem dL_build_70 : decode cL_build 70 = .ok (.aload_n 1, 1) := by decide +kernel
theorem dL_build_71 : decode cL_build 71 = .ok (.bipush 15, 2) := by decide +kernel
theorem dL_build_73 : decode cL_build 73 = .ok (.iconst 4, 1) := by decide +kernel
theorem dL_build_74 : decode cL_build 74 = .ok (.iload_n 3, 1) := by decide +kernel
theorem dL_build_75 : decode cL_build 75 = .ok (.imul, 1) := by decide +kernel
theorem dL_build_76 : decode cL_build 76 = .ok (.iadd, 1) := by decide +kernel
theorem dL_build_77 : decode cL_build 77 = .ok (.invokestatic 84, 3) := by decide +kernel
theorem dL_build_80 : decode cL_build 80 = .ok (.iinc 3 1, 3) := by decide +kernel
theorem dL_build_83 : decode cL_build 83 = .ok (.goto (-20), 3) := by decide +kernel
theorem dL_build_86 : decode cL_build 86 = .ok (.return_, 1) := by decide +kernel
theorem dL_acts_0 : decode cL_acts 0 = .ok (.aload_n 1, 1) := by decide +kernel
theorem dL_acts_1 : decode cL_acts 1 = .ok (.iload_n 2, 1) := by decide +kernel
theorem dL_acts_2 : decode cL_acts 2 = .ok (.iconst 1, 1) := by decide +kernel
theorem dL_acts_3 : decode cL_acts 3 = .ok (.iadd, 1) := by decide +kernel
theorem dL_acts_4 : decode cL_acts 4 = .ok (.bipush 60, 2) := by decide +kernel
theorem dL_acts_6 : decode cL_acts 6 = .ok (.invokestatic 74, 3) := by decide +kernel
theorem dL_acts_9 : decode cL_acts 9 = .ok (.istore_n 3, 1) := by decide +kernel
theorem dL_acts_10 : decode cL_acts 10 = .ok (.aload_n 1, 1) := by decide +kernel
theorem dL_acts_11 : decode cL_acts 11 = .ok (.iload_n 2, 1) := by decide +kernel
theorem dL_acts_12 : decode cL_acts 12 = .ok (.iconst 2, 1) := by decide +kernel
theorem dL_acts_13 : decode cL_acts 13 = .ok (.iadd, 1) := by decide +kernel
theorem dL_acts_14 : decode cL_acts 14 = .ok (.aload_n 0, 1) := by decide +kernel
theorem dL_acts_15 : decode cL_acts 15 = .ok (.invokevirtual 88, 3) := by decide +kernel
theorem dL_acts_18 : decode cL_acts 18 = .ok (.invokestatic 74, 3) := by decide +kernel
theorem dL_acts_21 : decode cL_acts 21 = .ok (.istore 4, 2) := by decide +kernel
theorem dL_acts_23 : decode cL_acts 23 = .ok (.aload_n 1, 1) := by decide +kernel
theorem dL_acts_24 : decode cL_acts 24 = .ok (.iload_n 2, 1) := by decide +kernel
theorem dL_acts_25 : decode cL_acts 25 = .ok (.iconst 3, 1) := by decide +kernel
theorem dL_acts_26 : decode cL_acts 26 = .ok (.iadd, 1) := by decide +kernel
theorem dL_acts_27 : decode cL_acts 27 = .ok (.aload_n 0, 1) := by decide +kernel
theorem dL_acts_28 : decode cL_acts 28 = .ok (.invokevirtual 91, 3) := by decide +kernel
theorem dL_acts_31 : decode cL_acts 31 = .ok (.invokestatic 74, 3) := by decide +kernel
theorem dL_acts_34 : decode cL_acts 34 = .ok (.istore 5, 2) := by decide +kernel
theorem dL_acts_36 : decode cL_acts 36 = .ok (.aload_n 1, 1) := by decide +kernel
theorem dL_acts_37 : decode cL_acts 37 = .ok (.iload_n 2, 1) := by decide +kernel
theorem dL_acts_38 : decode cL_acts 38 = .ok (.bipush 16, 2) := by decide +kernel
theorem dL_acts_40 : decode cL_acts 40 = .ok (.invokestatic 74, 3) := by decide +kernel
theorem dL_acts_43 : decode cL_acts 43 = .ok (.tableswitch 214 0 14 #[73, 102, 128, 128, 128, 128, 128, 128, 157, 157, 181, 181, 192, 192, 203], 73) := by decide +kernel
theorem dL_acts_116 : decode cL_acts 116 = .ok (.aload_n 0, 1) := by decide +kernel
theorem dL_acts_117 : decode cL_acts 117 = .ok (.invokevirtual 88, 3) := by decide +kernel
theorem dL_acts_120 : decode cL_acts 120 = .ok (.bipush 9, 2) := by decide +kernel
theorem dL_acts_122 : decode cL_acts 122 = .ok (.if_icmp .ge 17, 3) := by decide +kernel
theorem dL_acts_125 : decode cL_acts 125 = .ok (.aload_n 0, 1) := by decide +kernel
theorem dL_acts_126 : decode cL_acts 126 = .ok (.iload_n 3, 1) := by decide +kernel
theorem dL_acts_127 : decode cL_acts 127 = .ok (.bipush 6, 2) := by decide +kernel
theorem dL_acts_129 : decode cL_acts 129 = .ok (.irem, 1) := by decide +kernel
theorem dL_acts_130 : decode cL_acts 130 = .ok (.iload_n 3, 1) := by decide +kernel
theorem dL_acts_131 : decode cL_acts 131 = .ok (.iconst 5, 1) := by decide +kernel
theorem dL_acts_132 : decode cL_acts 132 = .ok (.irem, 1) := by decide +kernel
theorem dL_acts_133 : decode cL_acts 133 = .ok (.invokestatic 81, 3) := by decide +kernel
theorem dL_acts_136 : decode cL_acts 136 = .ok (.goto 4, 3) := by decide +kernel
theorem dL_acts_139 : decode cL_acts 139 = .ok (.iconst 0, 1) := by decide +kernel
theorem dL_acts_140 : decode cL_acts 140 = .ok (.istore 6, 2) := by decide +kernel
theorem dL_acts_142 : decode cL_acts 142 = .ok (.goto 138, 3) := by decide +kernel
theorem dL_acts_145 : decode cL_acts 145 = .ok (.aload_n 0, 1) := by decide +kernel
theorem dL_acts_146 : decode cL_acts 146 = .ok (.invokevirtual 91, 3) := by decide +kernel
theorem dL_acts_149 : decode cL_acts 149 = .ok (.bipush 7, 2) := by decide +kernel
theorem dL_acts_151 : decode cL_acts 151 = .ok (.if_icmp .ge 14, 3) := by decide +kernel
theorem dL_acts_154 : decode cL_acts 154 = .ok (.aload_n 0, 1) := by decide +kernel
theorem dL_acts_155 : decode cL_acts 155 = .ok (.iload_n 3, 1) := by decide +kernel
theorem dL_acts_156 : decode cL_acts 156 = .ok (.bipush 10, 2) := by decide +kernel
theorem dL_acts_158 : decode cL_acts 158 = .ok (.irem, 1) := by decide +kernel
theorem dL_acts_159 : decode cL_acts 159 = .ok (.invokestatic 78, 3) := by decide +kernel
theorem dL_acts_162 : decode cL_acts 162 = .ok (.goto 4, 3) := by decide +kernel
theorem dL_acts_165 : decode cL_acts 165 = .ok (.iconst 0, 1) := by decide +kernel
theorem dL_acts_166 : decode cL_acts 166 = .ok (.istore 6, 2) := by decide +kernel
theorem dL_acts_168 : decode cL_acts 168 = .ok (.goto 112, 3) := by decide +kernel
theorem dL_acts_171 : decode cL_acts 171 = .ok (.aload_n 0, 1) := by decide +kernel
theorem dL_acts_172 : decode cL_acts 172 = .ok (.iload 4, 2) := by decide +kernel
theorem dL_acts_174 : decode cL_acts 174 = .ok (.iload 5, 2) := by decide +kernel
theorem dL_acts_176 : decode cL_acts 176 = .ok (.iload_n 3, 1) := by decide +kernel
theorem dL_acts_177 : decode cL_acts 177 = .ok (.iconst 3, 1) := by decide +kernel
theorem dL_acts_178 : decode cL_acts 178 = .ok (.irem, 1) := by decide +kernel
theorem dL_acts_179 : decode cL_acts 179 = .ok (.ifCond .le 7, 3) := by decide +kernel
theorem dL_acts_182 : decode cL_acts 182 = .ok (.iconst 1, 1) := by decide +kernel
theorem dL_acts_183 : decode cL_acts 183 = .ok (.goto 4, 3) := by decide +kernel
theorem dL_acts_186 : decode cL_acts 186 = .ok (.iconst 0, 1) := by decide +kernel
theorem dL_acts_187 : decode cL_acts 187 = .ok (.iconst 1, 1) := by decide +kernel
theorem dL_acts_188 : decode cL_acts 188 = .ok (.iload_n 3, 1) := by decide +kernel
theorem dL_acts_189 : decode cL_acts 189 = .ok (.iconst 5, 1) := by decide +kernel
theorem dL_acts_190 : decode cL_acts 190 = .ok (.irem, 1) := by decide +kernel
theorem dL_acts_191 : decode cL_acts 191 = .ok (.iadd, 1) := by decide +kernel
theorem dL_acts_192 : decode cL_acts 192 = .ok (.invokestatic 94, 3) := by decide +kernel
theorem dL_acts_195 : decode cL_acts 195 = .ok (.istore 6, 2) := by decide +kernel
theorem dL_acts_197 : decode cL_acts 197 = .ok (.goto 83, 3) := by decide +kernel
theorem dL_acts_200 : decode cL_acts 200 = .ok (.aload_n 0, 1) := by decide +kernel
theorem dL_acts_201 : decode cL_acts 201 = .ok (.iload 4, 2) := by decide +kernel
theorem dL_acts_203 : decode cL_acts 203 = .ok (.iload 5, 2) := by decide +kernel
theorem dL_acts_205 : decode cL_acts 205 = .ok (.iload_n 3, 1) := by decide +kernel
theorem dL_acts_206 : decode cL_acts 206 = .ok (.iconst 2, 1) := by decide +kernel
theorem dL_acts_207 : decode cL_acts 207 = .ok (.irem, 1) := by decide +kernel
theorem dL_acts_208 : decode cL_acts 208 = .ok (.ifCond .ne 7, 3) := by decide +kernel
theorem dL_acts_211 : decode cL_acts 211 = .ok (.iconst 1, 1) := by decide +kernel
theorem dL_acts_212 : decode cL_acts 212 = .ok (.goto 4, 3) := by decide +kernel
theorem dL_acts_215 : decode cL_acts 215 = .ok (.iconst 0, 1) := by decide +kernel
theorem dL_acts_216 : decode cL_acts 216 = .ok (.invokestatic 97, 3) := by decide +kernel
theorem dL_acts_219 : decode cL_acts 219 = .ok (.istore 6, 2) := by decide +kernel
theorem dL_acts_221 : decode cL_acts 221 = .ok (.goto 59, 3) := by decide +kernel
theorem dL_acts_224 : decode cL_acts 224 = .ok (.aload_n 0, 1) := by decide +kernel
theorem dL_acts_225 : decode cL_acts 225 = .ok (.iload 4, 2) := by decide +kernel
theorem dL_acts_227 : decode cL_acts 227 = .ok (.invokestatic 100, 3) := by decide +kernel
theorem dL_acts_230 : decode cL_acts 230 = .ok (.istore 6, 2) := by decide +kernel
theorem dL_acts_232 : decode cL_acts 232 = .ok (.goto 48, 3) := by decide +kernel
theorem dL_acts_235 : decode cL_acts 235 = .ok (.aload_n 0, 1) := by decide +kernel
theorem dL_acts_236 : decode cL_acts 236 = .ok (.iload 4, 2) := by decide +kernel
theorem dL_acts_238 : decode cL_acts 238 = .ok (.invokestatic 102, 3) := by decide +kernel
theorem dL_acts_241 : decode cL_acts 241 = .ok (.istore 6, 2) := by decide +kernel
theorem dL_acts_243 : decode cL_acts 243 = .ok (.goto 37, 3) := by decide +kernel
theorem dL_acts_246 : decode cL_acts 246 = .ok (.aload_n 0, 1) := by decide +kernel
theorem dL_acts_247 : decode cL_acts 247 = .ok (.iload 4, 2) := by decide +kernel
theorem dL_acts_249 : decode cL_acts 249 = .ok (.invokestatic 104, 3) := by decide +kernel
theorem dL_acts_252 : decode cL_acts 252 = .ok (.istore 6, 2) := by decide +kernel
theorem dL_acts_254 : decode cL_acts 254 = .ok (.goto 26, 3) := by decide +kernel
theorem dL_acts_257 : decode cL_acts 257 = .ok (.aload_n 0, 1) := by decide +kernel
theorem dL_acts_258 : decode cL_acts 258 = .ok (.aload_n 0, 1) := by decide +kernel
theorem dL_acts_259 : decode cL_acts 259 = .ok (.invokevirtual 106, 3) := by decide +kernel
theorem dL_acts_262 : decode cL_acts 262 = .ok (.ifCond .le 11, 3) := by decide +kernel
theorem dL_acts_265 : decode cL_acts 265 = .ok (.aload_n 0, 1) := by decide +kernel
theorem dL_acts_266 : decode cL_acts 266 = .ok (.iconst 0, 1) := by decide +kernel
theorem dL_acts_267 : decode cL_acts 267 = .ok (.invokevirtual 61, 3) := by decide +kernel
theorem dL_acts_270 : decode cL_acts 270 = .ok (.goto 5, 3) := by decide +kernel
theorem dL_acts_273 : decode cL_acts 273 = .ok (.iload 4, 2) := by decide +kernel
theorem dL_acts_275 : decode cL_acts 275 = .ok (.invokestatic 100, 3) := by decide +kernel
theorem dL_acts_278 : decode cL_acts 278 = .ok (.istore 6, 2) := by decide +kernel
theorem dL_acts_280 : decode cL_acts 280 = .ok (.return_, 1) := by decide +kernel
theorem dL_weight_0 : decode cL_weight 0 = .ok (.iconst 0, 1) := by decide +kernel
theorem dL_weight_1 : decode cL_weight 1 = .ok (.istore_n 3, 1) := by decide +kernel
theorem dL_weight_2 : decode cL_weight 2 = .ok (.iconst 0, 1) := by decide +kernel
theorem dL_weight_3 : decode cL_weight 3 = .ok (.istore 4, 2) := by decide +kernel
theorem dL_weight_5 : decode cL_weight 5 = .ok (.iload 4, 2) := by decide +kernel
theorem dL_weight_7 : decode cL_weight 7 = .ok (.aload_n 0, 1) := by decide +kernel
theorem dL_weight_8 : decode cL_weight 8 = .ok (.iload_n 1, 1) := by decide +kernel
theorem dL_weight_9 : decode cL_weight 9 = .ok (.invokevirtual 109, 3) := by decide +kernel
theorem dL_weight_12 : decode cL_weight 12 = .ok (.if_icmp .ge 50, 3) := by decide +kernel
theorem dL_weight_15 : decode cL_weight 15 = .ok (.aload_n 0, 1) := by decide +kernel
theorem dL_weight_16 : decode cL_weight 16 = .ok (.iload_n 1, 1) := by decide +kernel
theorem dL_weight_17 : decode cL_weight 17 = .ok (.iload 4, 2) := by decide +kernel
theorem dL_weight_19 : decode cL_weight 19 = .ok (.invokevirtual 45, 3) := by decide +kernel
theorem dL_weight_22 : decode cL_weight 22 = .ok (.istore 5, 2) := by decide +kernel
theorem dL_weight_24 : decode cL_weight 24 = .ok (.iload_n 3, 1) := by decide +kernel
theorem dL_weight_25 : decode cL_weight 25 = .ok (.aload_n 0, 1) := by decide +kernel
theorem dL_weight_26 : decode cL_weight 26 = .ok (.iload_n 1, 1) := by decide +kernel
theorem dL_weight_27 : decode cL_weight 27 = .ok (.iload 5, 2) := by decide +kernel
theorem dL_weight_29 : decode cL_weight 29 = .ok (.invokevirtual 112, 3) := by decide +kernel
theorem dL_weight_32 : decode cL_weight 32 = .ok (.iload_n 2, 1) := by decide +kernel
theorem dL_weight_33 : decode cL_weight 33 = .ok (.if_icmp .ne 20, 3) := by decide +kernel
theorem dL_weight_36 : decode cL_weight 36 = .ok (.aload_n 0, 1) := by decide +kernel
theorem dL_weight_37 : decode cL_weight 37 = .ok (.iload_n 1, 1) := by decide +kernel
theorem dL_weight_38 : decode cL_weight 38 = .ok (.iload 5, 2) := by decide +kernel
theorem dL_weight_40 : decode cL_weight 40 = .ok (.invokevirtual 116, 3) := by decide +kernel
theorem dL_weight_43 : decode cL_weight 43 = .ok (.aload_n 0, 1) := by decide +kernel
theorem dL_weight_44 : decode cL_weight 44 = .ok (.iload 5, 2) := by decide +kernel
theorem dL_weight_46 : decode cL_weight 46 = .ok (.invokevirtual 119, 3) := by decide +kernel
theorem dL_weight_49 : decode cL_weight 49 = .ok (.imul, 1) := by decide +kernel
theorem dL_weight_50 : decode cL_weight 50 = .ok (.goto 4, 3) := by decide +kernel
theorem dL_weight_53 : decode cL_weight 53 = .ok (.iconst 0, 1) := by decide +kernel
theorem dL_weight_54 : decode cL_weight 54 = .ok (.iadd, 1) := by decide +kernel
theorem dL_weight_55 : decode cL_weight 55 = .ok (.istore_n 3, 1) := by decide +kernel
theorem dL_weight_56 : decode cL_weight 56 = .ok (.iinc 4 1, 3) := by decide +kernel
theorem dL_weight_59 : decode cL_weight 59 = .ok (.goto (-54), 3) := by decide +kernel
theorem dL_weight_62 : decode cL_weight 62 = .ok (.iload_n 3, 1) := by decide +kernel
theorem dL_weight_63 : decode cL_weight 63 = .ok (.ireturn, 1) := by decide +kernel
theorem dL_isLine_0 : decode cL_isLine 0 = .ok (.iload_n 1, 1) := by decide +kernel
theorem dL_isLine_1 : decode cL_isLine 1 = .ok (.aload_n 2, 1) := by decide +kernel
theorem dL_isLine_2 : decode cL_isLine 2 = .ok (.invokevirtual 122, 3) := by decide +kernel
theorem dL_isLine_5 : decode cL_isLine 5 = .ok (.if_icmp .eq 5, 3) := by decide +kernel
theorem dL_isLine_8 : decode cL_isLine 8 = .ok (.iconst 0, 1) := by decide +kernel
theorem dL_isLine_9 : decode cL_isLine 9 = .ok (.ireturn, 1) := by decide +kernel
theorem dL_isLine_10 : decode cL_isLine 10 = .ok (.iconst 0, 1) := by decide +kernel
theorem dL_isLine_11 : decode cL_isLine 11 = .ok (.istore_n 3, 1) := by decide +kernel
theorem dL_isLine_12 : decode cL_isLine 12 = .ok (.iload_n 3, 1) := by decide +kernel
theorem dL_isLine_13 : decode cL_isLine 13 = .ok (.iload_n 1, 1) := by decide +kernel
theorem dL_isLine_14 : decode cL_isLine 14 = .ok (.if_icmp .ge 24, 3) := by decide +kernel
theorem dL_isLine_17 : decode cL_isLine 17 = .ok (.aload_n 0, 1) := by decide +kernel
theorem dL_isLine_18 : decode cL_isLine 18 = .ok (.iload_n 3, 1) := by decide +kernel
theorem dL_isLine_19 : decode cL_isLine 19 = .ok (.invokevirtual 127, 3) := by decide +kernel
theorem dL_isLine_22 : decode cL_isLine 22 = .ok (.aload_n 2, 1) := by decide +kernel
theorem dL_isLine_23 : decode cL_isLine 23 = .ok (.iload_n 3, 1) := by decide +kernel
theorem dL_isLine_24 : decode cL_isLine 24 = .ok (.invokevirtual 131, 3) := by decide +kernel
theorem dL_isLine_27 : decode cL_isLine 27 = .ok (.if_icmp .eq 5, 3) := by decide +kernel
theorem dL_isLine_30 : decode cL_isLine 30 = .ok (.iconst 0, 1) := by decide +kernel
theorem dL_isLine_31 : decode cL_isLine 31 = .ok (.ireturn, 1) := by decide +kernel
theorem dL_isLine_32 : decode cL_isLine 32 = .ok (.iinc 3 1, 3) := by decide +kernel
theorem dL_isLine_35 : decode cL_isLine 35 = .ok (.goto (-23), 3) := by decide +kernel
theorem dL_isLine_38 : decode cL_isLine 38 = .ok (.iconst 1, 1) := by decide +kernel
theorem dL_isLine_39 : decode cL_isLine 39 = .ok (.ireturn, 1) := by decide +kernel
theorem dL_law_0 : decode cL_law 0 = .ok (.new 14, 3) := by decide +kernel
theorem dL_law_3 : decode cL_law 3 = .ok (.dup, 1) := by decide +kernel
theorem dL_law_4 : decode cL_law 4 = .ok (.invokespecial 134, 3) := by decide +kernel
theorem dL_law_7 : decode cL_law 7 = .ok (.astore_n 1, 1) := by decide +kernel
theorem dL_law_8 : decode cL_law 8 = .ok (.aload_n 1, 1) := by decide +kernel
theorem dL_law_9 : decode cL_law 9 = .ok (.aload_n 0, 1) := by decide +kernel
theorem dL_law_10 : decode cL_law 10 = .ok (.invokestatic 135, 3) := by decide +kernel
theorem dL_law_13 : decode cL_law 13 = .ok (.iconst 0, 1) := by decide +kernel
theorem dL_law_14 : decode cL_law 14 = .ok (.istore_n 2, 1) := by decide +kernel
theorem dL_law_15 : decode cL_law 15 = .ok (.iload_n 2, 1) := by decide +kernel
theorem dL_law_16 : decode cL_law 16 = .ok (.iconst 4, 1) := by decide +kernel
theorem dL_law_17 : decode cL_law 17 = .ok (.if_icmp .ge 1763, 3) := by decide +kernel
theorem dL_law_20 : decode cL_law 20 = .ok (.aload_n 1, 1) := by decide +kernel
theorem dL_law_21 : decode cL_law 21 = .ok (.invokevirtual 88, 3) := by decide +kernel
theorem dL_law_24 : decode cL_law 24 = .ok (.istore_n 3, 1) := by decide +kernel
theorem dL_law_25 : decode cL_law 25 = .ok (.aload_n 1, 1) := by decide +kernel
theorem dL_law_26 : decode cL_law 26 = .ok (.invokevirtual 91, 3) := by decide +kernel
theorem dL_law_29 : decode cL_law 29 = .ok (.istore 4, 2) := by decide +kernel
theorem dL_law_31 : decode cL_law 31 = .ok (.iconst 0, 1) := by decide +kernel
theorem dL_law_32 : decode cL_law 32 = .ok (.istore 5, 2) := by decide +kernel
theorem dL_law_34 : decode cL_law 34 = .ok (.iconst 0, 1) := by decide +kernel
theorem dL_law_35 : decode cL_law 35 = .ok (.istore 6, 2) := by decide +kernel
theorem dL_law_37 : decode cL_law 37 = .ok (.iconst 0, 1) := by decide +kernel
theorem dL_law_38 : decode cL_law 38 = .ok (.istore 7, 2) := by decide +kernel
theorem dL_law_40 : decode cL_law 40 = .ok (.iconst 0, 1) := by decide +kernel
theorem dL_law_41 : decode cL_law 41 = .ok (.istore 8, 2) := by decide +kernel
theorem dL_law_43 : decode cL_law 43 = .ok (.sipush (-30000), 3) := by decide +kernel
theorem dL_law_46 : decode cL_law 46 = .ok (.istore 9, 2) := by decide +kernel
theorem dL_law_48 : decode cL_law 48 = .ok (.iconst 0, 1) := by decide +kernel
theorem dL_law_49 : decode cL_law 49 = .ok (.istore 10, 2) := by decide +kernel
theorem dL_law_51 : decode cL_law 51 = .ok (.bipush 6, 2) := by decide +kernel
theorem dL_law_53 : decode cL_law 53 = .ok (.newarray .int, 2) := by decide +kernel
theorem dL_law_55 : decode cL_law 55 = .ok (.astore 11, 2) := by decide +kernel
theorem dL_law_57 : decode cL_law 57 = .ok (.bipush 8, 2) := by decide +kernel
theorem dL_law_59 : decode cL_law 59 = .ok (.newarray .int, 2) := by decide +kernel
theorem dL_law_61 : decode cL_law 61 = .ok (.astore 12, 2) := by decide +kernel
theorem dL_law_63 : decode cL_law 63 = .ok (.bipush 8, 2) := by decide +kernel
theorem dL_law_65 : decode cL_law 65 = .ok (.newarray .int, 2) := by decide +kernel
theorem dL_law_67 : decode cL_law 67 = .ok (.astore 13, 2) := by decide +kernel
theorem dL_law_69 : decode cL_law 69 = .ok (.iconst 0, 1) := by decide +kernel
theorem dL_law_70 : decode cL_law 70 = .ok (.istore 14, 2) := by decide +kernel
theorem dL_law_72 : decode cL_law 72 = .ok (.iload 14, 2) := by decide +kernel
theorem dL_law_74 : decode cL_law 74 = .ok (.iload 4, 2) := by decide +kernel
theorem dL_law_76 : decode cL_law 76 = .ok (.if_icmp .ge 18, 3) := by decide +kernel
theorem dL_law_79 : decode cL_law 79 = .ok (.aload 12, 2) := by decide +kernel
theorem dL_law_81 : decode cL_law 81 = .ok (.iload 14, 2) := by decide +kernel
theorem dL_law_83 : decode cL_law 83 = .ok (.iconst 1, 1) := by decide +kernel
theorem dL_law_84 : decode cL_law 84 = .ok (.iload 14, 2) := by decide +kernel
theorem dL_law_86 : decode cL_law 86 = .ok (.ishl, 1) := by decide +kernel
theorem dL_law_87 : decode cL_law 87 = .ok (.iastore, 1) := by decide +kernel
theorem dL_law_88 : decode cL_law 88 = .ok (.iinc 14 1, 3) := by decide +kernel
theorem dL_law_91 : decode cL_law 91 = .ok (.goto (-19), 3) := by decide +kernel
theorem dL_law_94 : decode cL_law 94 = .ok (.iconst 0, 1) := by decide +kernel
theorem dL_law_95 : decode cL_law 95 = .ok (.istore 14, 2) := by decide +kernel
theorem dL_law_97 : decode cL_law 97 = .ok (.iload 14, 2) := by decide +kernel
theorem dL_law_99 : decode cL_law 99 = .ok (.iload_n 3, 1) := by decide +kernel
theorem dL_law_100 : decode cL_law 100 = .ok (.if_icmp .ge 989, 3) := by decide +kernel
theorem dL_law_103 : decode cL_law 103 = .ok (.aload_n 1, 1) := by decide +kernel
theorem dL_law_104 : decode cL_law 104 = .ok (.iload 14, 2) := by decide +kernel
theorem dL_law_106 : decode cL_law 106 = .ok (.invokevirtual 139, 3) := by decide +kernel
theorem dL_law_109 : decode cL_law 109 = .ok (.istore 15, 2) := by decide +kernel
theorem dL_law_111 : decode cL_law 111 = .ok (.aload_n 1, 1) := by decide +kernel
theorem dL_law_112 : decode cL_law 112 = .ok (.iload 14, 2) := by decide +kernel
theorem dL_law_114 : decode cL_law 114 = .ok (.invokevirtual 142, 3) := by decide +kernel
theorem dL_law_117 : decode cL_law 117 = .ok (.istore 16, 2) := by decide +kernel
theorem dL_law_119 : decode cL_law 119 = .ok (.aload_n 1, 1) := by decide +kernel
theorem dL_law_120 : decode cL_law 120 = .ok (.iload 14, 2) := by decide +kernel
theorem dL_law_122 : decode cL_law 122 = .ok (.invokevirtual 109, 3) := by decide +kernel
theorem dL_law_125 : decode cL_law 125 = .ok (.istore 17, 2) := by decide +kernel
theorem dL_law_127 : decode cL_law 127 = .ok (.aload_n 1, 1) := by decide +kernel
theorem dL_law_128 : decode cL_law 128 = .ok (.iload 14, 2) := by decide +kernel
theorem dL_law_130 : decode cL_law 130 = .ok (.invokestatic 145, 3) := by decide +kernel
theorem dL_law_133 : decode cL_law 133 = .ok (.istore 18, 2) := by decide +kernel
theorem dL_law_135 : decode cL_law 135 = .ok (.aload_n 1, 1) := by decide +kernel
theorem dL_law_136 : decode cL_law 136 = .ok (.iload 14, 2) := by decide +kernel
theorem dL_law_138 : decode cL_law 138 = .ok (.iconst 1, 1) := by decide +kernel
theorem dL_law_139 : decode cL_law 139 = .ok (.invokestatic 148, 3) := by decide +kernel
theorem dL_law_142 : decode cL_law 142 = .ok (.istore 19, 2) := by decide +kernel
theorem dL_law_144 : decode cL_law 144 = .ok (.aload_n 1, 1) := by decide +kernel
theorem dL_law_145 : decode cL_law 145 = .ok (.iload 14, 2) := by decide +kernel
theorem dL_law_147 : decode cL_law 147 = .ok (.iconst 0, 1) := by decide +kernel
theorem dL_law_148 : decode cL_law 148 = .ok (.invokestatic 148, 3) := by decide +kernel
theorem dL_law_151 : decode cL_law 151 = .ok (.istore 20, 2) := by decide +kernel
theorem dL_law_153 : decode cL_law 153 = .ok (.iload 19, 2) := by decide +kernel
theorem dL_law_155 : decode cL_law 155 = .ok (.iload 20, 2) := by decide +kernel
theorem dL_law_157 : decode cL_law 157 = .ok (.isub, 1) := by decide +kernel
theorem dL_law_158 : decode cL_law 158 = .ok (.iconst 2, 1) := by decide +kernel
theorem dL_law_159 : decode cL_law 159 = .ok (.iload 16, 2) := by decide +kernel
theorem dL_law_161 : decode cL_law 161 = .ok (.iconst 1, 1) := by decide +kernel
theorem dL_law_162 : decode cL_law 162 = .ok (.iadd, 1) := by decide +kernel
theorem dL_law_163 : decode cL_law 163 = .ok (.imul, 1) := by decide +kernel
theorem dL_law_164 : decode cL_law 164 = .ok (.isub, 1) := by decide +kernel
theorem dL_law_165 : decode cL_law 165 = .ok (.istore 21, 2) := by decide +kernel
theorem dL_law_167 : decode cL_law 167 = .ok (.iconst 0, 1) := by decide +kernel
theorem dL_law_168 : decode cL_law 168 = .ok (.istore 22, 2) := by decide +kernel
theorem dL_law_170 : decode cL_law 170 = .ok (.sipush (-30000), 3) := by decide +kernel
theorem dL_law_173 : decode cL_law 173 = .ok (.istore 23, 2) := by decide +kernel
theorem dL_law_175 : decode cL_law 175 = .ok (.iconst 0, 1) := by decide +kernel
theorem dL_law_176 : decode cL_law 176 = .ok (.istore 24, 2) := by decide +kernel
theorem dL_law_178 : decode cL_law 178 = .ok (.new 152, 3) := by decide +kernel
theorem dL_law_181 : decode cL_law 181 = .ok (.dup, 1) := by decide +kernel
theorem dL_law_182 : decode cL_law 182 = .ok (.invokespecial 154, 3) := by decide +kernel
theorem dL_law_185 : decode cL_law 185 = .ok (.iload 14, 2) := by decide +kernel
theorem dL_law_187 : decode cL_law 187 = .ok (.invokevirtual 155, 3) := by decide +kernel
theorem dL_law_190 : decode cL_law 190 = .ok (.ldc 159, 2) := by decide +kernel
theorem dL_law_192 : decode cL_law 192 = .ok (.invokevirtual 161, 3) := by decide +kernel
theorem dL_law_195 : decode cL_law 195 = .ok (.iload 15, 2) := by decide +kernel
theorem dL_law_197 : decode cL_law 197 = .ok (.invokevirtual 155, 3) := by decide +kernel
theorem dL_law_200 : decode cL_law 200 = .ok (.ldc 164, 2) := by decide +kernel
theorem dL_law_202 : decode cL_law 202 = .ok (.invokevirtual 161, 3) := by decide +kernel
theorem dL_law_205 : decode cL_law 205 = .ok (.iload 16, 2) := by decide +kernel
theorem dL_law_207 : decode cL_law 207 = .ok (.invokevirtual 155, 3) := by decide +kernel
theorem dL_law_210 : decode cL_law 210 = .ok (.iload 18, 2) := by decide +kernel
theorem dL_law_212 : decode cL_law 212 = .ok (.sipush (-10000), 3) := by decide +kernel
theorem dL_law_215 : decode cL_law 215 = .ok (.if_icmp .ne 8, 3) := by decide +kernel
theorem dL_law_218 : decode cL_law 218 = .ok (.ldc 166, 2) := by decide +kernel
theorem dL_law_220 : decode cL_law 220 = .ok (.goto 16, 3) := by decide +kernel
theorem dL_law_223 : decode cL_law 223 = .ok (.iload 18, 2) := by decide +kernel
theorem dL_law_225 : decode cL_law 225 = .ok (.iconst 1, 1) := by decide +kernel
theorem dL_law_226 : decode cL_law 226 = .ok (.if_icmp .ne 8, 3) := by decide +kernel
theorem dL_law_229 : decode cL_law 229 = .ok (.ldc 168, 2) := by decide +kernel
theorem dL_law_231 : decode cL_law 231 = .ok (.goto 5, 3) := by decide +kernel
theorem dL_law_234 : decode cL_law 234 = .ok (.ldc 170, 2) := by decide +kernel
theorem dL_law_236 : decode cL_law 236 = .ok (.invokevirtual 161, 3) := by decide +kernel
theorem dL_law_239 : decode cL_law 239 = .ok (.aload_n 1, 1) := by decide +kernel
theorem dL_law_240 : decode cL_law 240 = .ok (.iload 14, 2) := by decide +kernel
theorem dL_law_242 : decode cL_law 242 = .ok (.invokevirtual 172, 3) := by decide +kernel
theorem dL_law_245 : decode cL_law 245 = .ok (.ifCond .eq 8, 3) := by decide +kernel
theorem dL_law_248 : decode cL_law 248 = .ok (.ldc 175, 2) := by decide +kernel
theorem dL_law_250 : decode cL_law 250 = .ok (.goto 5, 3) := by decide +kernel
theorem dL_law_253 : decode cL_law 253 = .ok (.ldc 177, 2) := by decide +kernel
theorem dL_law_255 : decode cL_law 255 = .ok (.invokevirtual 161, 3) := by decide +kernel
theorem dL_law_258 : decode cL_law 258 = .ok (.invokevirtual 179, 3) := by decide +kernel
theorem dL_law_261 : decode cL_law 261 = .ok (.astore 25, 2) := by decide +kernel
theorem dL_law_263 : decode cL_law 263 = .ok (.iconst 0, 1) := by decide +kernel
theorem dL_law_264 : decode cL_law 264 = .ok (.istore 26, 2) := by decide +kernel
theorem dL_law_266 : decode cL_law 266 = .ok (.iload 26, 2) := by decide +kernel
theorem dL_law_268 : decode cL_law 268 = .ok (.iload 14, 2) := by decide +kernel
theorem dL_law_270 : decode cL_law 270 = .ok (.if_icmp .ge 33, 3) := by decide +kernel
theorem dL_law_273 : decode cL_law 273 = .ok (.aload_n 1, 1) := by decide +kernel
theorem dL_law_274 : decode cL_law 274 = .ok (.iload 26, 2) := by decide +kernel
theorem dL_law_276 : decode cL_law 276 = .ok (.invokevirtual 139, 3) := by decide +kernel
theorem dL_law_279 : decode cL_law 279 = .ok (.iload 15, 2) := by decide +kernel
theorem dL_law_281 : decode cL_law 281 = .ok (.if_icmp .ne 16, 3) := by decide +kernel
theorem dL_law_284 : decode cL_law 284 = .ok (.aload_n 1, 1) := by decide +kernel
theorem dL_law_285 : decode cL_law 285 = .ok (.iload 26, 2) := by decide +kernel
theorem dL_law_287 : decode cL_law 287 = .ok (.invokevirtual 142, 3) := by decide +kernel
theorem dL_law_290 : decode cL_law 290 = .ok (.iload 16, 2) := by decide +kernel
theorem dL_law_292 : decode cL_law 292 = .ok (.if_icmp .ne 5, 3) := by decide +kernel
theorem dL_law_295 : decode cL_law 295 = .ok (.iconst 0, 1) := by decide +kernel
theorem dL_law_296 : decode cL_law 296 = .ok (.ireturn, 1) := by decide +kernel
theorem dL_law_297 : decode cL_law 297 = .ok (.iinc 26 1, 3) := by decide +kernel
theorem dL_law_300 : decode cL_law 300 = .ok (.goto (-34), 3) := by decide +kernel
theorem dL_law_303 : decode cL_law 303 = .ok (.aload_n 1, 1) := by decide +kernel
theorem dL_law_304 : decode cL_law 304 = .ok (.iload 15, 2) := by decide +kernel
theorem dL_law_306 : decode cL_law 306 = .ok (.iload 16, 2) := by decide +kernel
theorem dL_law_308 : decode cL_law 308 = .ok (.invokevirtual 183, 3) := by decide +kernel
theorem dL_law_311 : decode cL_law 311 = .ok (.iload 14, 2) := by decide +kernel
theorem dL_law_313 : decode cL_law 313 = .ok (.if_icmp .ne 167, 3) := by decide +kernel
theorem dL_law_316 : decode cL_law 316 = .ok (.aload_n 1, 1) := by decide +kernel
theorem dL_law_317 : decode cL_law 317 = .ok (.iload 14, 2) := by decide +kernel
theorem dL_law_319 : decode cL_law 319 = .ok (.invokevirtual 186, 3) := by decide +kernel
theorem dL_law_322 : decode cL_law 322 = .ok (.ifCond .eq 7, 3) := by decide +kernel
theorem dL_law_325 : decode cL_law 325 = .ok (.iconst 1, 1) := by decide +kernel
theorem dL_law_326 : decode cL_law 326 = .ok (.goto 4, 3) := by decide +kernel
theorem dL_law_329 : decode cL_law 329 = .ok (.iconst 0, 1) := by decide +kernel
theorem dL_law_330 : decode cL_law 330 = .ok (.aload_n 1, 1) := by decide +kernel
theorem dL_law_331 : decode cL_law 331 = .ok (.iload 14, 2) := by decide +kernel
theorem dL_law_333 : decode cL_law 333 = .ok (.invokevirtual 189, 3) := by decide +kernel
theorem dL_law_336 : decode cL_law 336 = .ok (.ifCond .eq 7, 3) := by decide +kernel
theorem dL_law_339 : decode cL_law 339 = .ok (.iconst 1, 1) := by decide +kernel
theorem dL_law_340 : decode cL_law 340 = .ok (.goto 4, 3) := by decide +kernel
theorem dL_law_343 : decode cL_law 343 = .ok (.iconst 0, 1) := by decide +kernel
theorem dL_law_344 : decode cL_law 344 = .ok (.iadd, 1) := by decide +kernel
theorem dL_law_345 : decode cL_law 345 = .ok (.aload_n 1, 1) := by decide +kernel
theorem dL_law_346 : decode cL_law 346 = .ok (.iload 14, 2) := by decide +kernel
theorem dL_law_348 : decode cL_law 348 = .ok (.invokevirtual 172, 3) := by decide +kernel
theorem dL_law_351 : decode cL_law 351 = .ok (.ifCond .eq 7, 3) := by decide +kernel
theorem dL_law_354 : decode cL_law 354 = .ok (.iconst 1, 1) := by decide +kernel
theorem dL_law_355 : decode cL_law 355 = .ok (.goto 4, 3) := by decide +kernel
theorem dL_law_358 : decode cL_law 358 = .ok (.iconst 0, 1) := by decide +kernel
theorem dL_law_359 : decode cL_law 359 = .ok (.iadd, 1) := by decide +kernel
theorem dL_law_360 : decode cL_law 360 = .ok (.iconst 1, 1) := by decide +kernel
theorem dL_law_361 : decode cL_law 361 = .ok (.if_icmp .ne 119, 3) := by decide +kernel
theorem dL_law_364 : decode cL_law 364 = .ok (.aload_n 1, 1) := by decide +kernel
theorem dL_law_365 : decode cL_law 365 = .ok (.iload 14, 2) := by decide +kernel
theorem dL_law_367 : decode cL_law 367 = .ok (.invokevirtual 186, 3) := by decide +kernel
theorem dL_law_370 : decode cL_law 370 = .ok (.iload 18, 2) := by decide +kernel
theorem dL_law_372 : decode cL_law 372 = .ok (.sipush (-10000), 3) := by decide +kernel
theorem dL_law_375 : decode cL_law 375 = .ok (.if_icmp .ne 7, 3) := by decide +kernel
theorem dL_law_378 : decode cL_law 378 = .ok (.iconst 1, 1) := by decide +kernel
theorem dL_law_379 : decode cL_law 379 = .ok (.goto 4, 3) := by decide +kernel
theorem dL_law_382 : decode cL_law 382 = .ok (.iconst 0, 1) := by decide +kernel
theorem dL_law_383 : decode cL_law 383 = .ok (.if_icmp .ne 97, 3) := by decide +kernel
theorem dL_law_386 : decode cL_law 386 = .ok (.iload 17, 2) := by decide +kernel
theorem dL_law_388 : decode cL_law 388 = .ok (.bipush 6, 2) := by decide +kernel
theorem dL_law_390 : decode cL_law 390 = .ok (.if_icmp .gt 90, 3) := by decide +kernel
theorem dL_law_393 : decode cL_law 393 = .ok (.aload_n 1, 1) := by decide +kernel
theorem dL_law_394 : decode cL_law 394 = .ok (.iload 14, 2) := by decide +kernel
theorem dL_law_396 : decode cL_law 396 = .ok (.invokevirtual 192, 3) := by decide +kernel
theorem dL_law_399 : decode cL_law 399 = .ok (.iconst 2, 1) := by decide +kernel
theorem dL_law_400 : decode cL_law 400 = .ok (.if_icmp .gt 80, 3) := by decide +kernel
theorem dL_law_403 : decode cL_law 403 = .ok (.aload_n 1, 1) := by decide +kernel
theorem dL_law_404 : decode cL_law 404 = .ok (.iload 14, 2) := by decide +kernel
theorem dL_law_406 : decode cL_law 406 = .ok (.invokevirtual 192, 3) := by decide +kernel
theorem dL_law_409 : decode cL_law 409 = .ok (.iconst 2, 1) := by decide +kernel
theorem dL_law_410 : decode cL_law 410 = .ok (.if_icmp .ne 12, 3) := by decide +kernel
theorem dL_law_413 : decode cL_law 413 = .ok (.aload_n 1, 1) := by decide +kernel
theorem dL_law_414 : decode cL_law 414 = .ok (.iload 14, 2) := by decide +kernel
theorem dL_law_416 : decode cL_law 416 = .ok (.invokevirtual 189, 3) := by decide +kernel
theorem dL_law_419 : decode cL_law 419 = .ok (.ifCond .ne 61, 3) := by decide +kernel
theorem dL_law_422 : decode cL_law 422 = .ok (.aload_n 1, 1) := by decide +kernel
theorem dL_law_423 : decode cL_law 423 = .ok (.iload 14, 2) := by decide +kernel
theorem dL_law_425 : decode cL_law 425 = .ok (.iload 17, 2) := by decide +kernel
theorem dL_law_427 : decode cL_law 427 = .ok (.invokestatic 195, 3) := by decide +kernel
theorem dL_law_430 : decode cL_law 430 = .ok (.sipush (-30000), 3) := by decide +kernel
theorem dL_law_433 : decode cL_law 433 = .ok (.if_icmp .ne 47, 3) := by decide +kernel
theorem dL_law_436 : decode cL_law 436 = .ok (.aload_n 1, 1) := by decide +kernel
theorem dL_law_437 : decode cL_law 437 = .ok (.iload 14, 2) := by decide +kernel
theorem dL_law_439 : decode cL_law 439 = .ok (.invokevirtual 197, 3) := by decide +kernel
theorem dL_law_442 : decode cL_law 442 = .ok (.iload 19, 2) := by decide +kernel
theorem dL_law_444 : decode cL_law 444 = .ok (.if_icmp .ne 36, 3) := by decide +kernel
theorem dL_law_447 : decode cL_law 447 = .ok (.aload_n 1, 1) := by decide +kernel
theorem dL_law_448 : decode cL_law 448 = .ok (.iload 14, 2) := by decide +kernel
theorem dL_law_450 : decode cL_law 450 = .ok (.invokevirtual 200, 3) := by decide +kernel
theorem dL_law_453 : decode cL_law 453 = .ok (.iload 20, 2) := by decide +kernel
theorem dL_law_455 : decode cL_law 455 = .ok (.if_icmp .ne 25, 3) := by decide +kernel
theorem dL_law_458 : decode cL_law 458 = .ok (.aload_n 1, 1) := by decide +kernel
theorem dL_law_459 : decode cL_law 459 = .ok (.iload 14, 2) := by decide +kernel
theorem dL_law_461 : decode cL_law 461 = .ok (.invokevirtual 203, 3) := by decide +kernel
theorem dL_law_464 : decode cL_law 464 = .ok (.iload 21, 2) := by decide +kernel
theorem dL_law_466 : decode cL_law 466 = .ok (.if_icmp .ne 14, 3) := by decide +kernel
theorem dL_law_469 : decode cL_law 469 = .ok (.aload_n 1, 1) := by decide +kernel
theorem dL_law_470 : decode cL_law 470 = .ok (.iload 14, 2) := by decide +kernel
theorem dL_law_472 : decode cL_law 472 = .ok (.invokevirtual 206, 3) := by decide +kernel
theorem dL_law_475 : decode cL_law 475 = .ok (.iload 21, 2) := by decide +kernel
theorem dL_law_477 : decode cL_law 477 = .ok (.if_icmp .eq 5, 3) := by decide +kernel
theorem dL_law_480 : decode cL_law 480 = .ok (.iconst 0, 1) := by decide +kernel
theorem dL_law_481 : decode cL_law 481 = .ok (.ireturn, 1) := by decide +kernel
theorem dL_law_482 : decode cL_law 482 = .ok (.iconst 0, 1) := by decide +kernel
theorem dL_law_483 : decode cL_law 483 = .ok (.istore 26, 2) := by decide +kernel
theorem dL_law_485 : decode cL_law 485 = .ok (.iload 26, 2) := by decide +kernel
theorem dL_law_487 : decode cL_law 487 = .ok (.iload 17, 2) := by decide +kernel
theorem dL_law_489 : decode cL_law 489 = .ok (.if_icmp .ge 273, 3) := by decide +kernel
theorem dL_law_492 : decode cL_law 492 = .ok (.aload_n 1, 1) := by decide +kernel
theorem dL_law_493 : decode cL_law 493 = .ok (.iload 14, 2) := by decide +kernel
theorem dL_law_495 : decode cL_law 495 = .ok (.iload 26, 2) := by decide +kernel
theorem dL_law_497 : decode cL_law 497 = .ok (.invokevirtual 45, 3) := by decide +kernel
theorem dL_law_500 : decode cL_law 500 = .ok (.istore 27, 2) := by decide +kernel
theorem dL_law_502 : decode cL_law 502 = .ok (.aload_n 1, 1) := by decide +kernel
theorem dL_law_503 : decode cL_law 503 = .ok (.iload 14, 2) := by decide +kernel
theorem dL_law_505 : decode cL_law 505 = .ok (.iload 27, 2) := by decide +kernel
theorem dL_law_507 : decode cL_law 507 = .ok (.invokevirtual 116, 3) := by decide +kernel
theorem dL_law_510 : decode cL_law 510 = .ok (.istore 28, 2) := by decide +kernel
theorem dL_law_512 : decode cL_law 512 = .ok (.aload_n 1, 1) := by decide +kernel
theorem dL_law_513 : decode cL_law 513 = .ok (.iload 14, 2) := by decide +kernel
theorem dL_law_515 : decode cL_law 515 = .ok (.iload 27, 2) := by decide +kernel
theorem dL_law_517 : decode cL_law 517 = .ok (.invokevirtual 112, 3) := by decide +kernel
theorem dL_law_520 : decode cL_law 520 = .ok (.ifCond .eq 7, 3) := by decide +kernel
theorem dL_law_523 : decode cL_law 523 = .ok (.iconst 1, 1) := by decide +kernel
theorem dL_law_524 : decode cL_law 524 = .ok (.goto 4, 3) := by decide +kernel
theorem dL_law_527 : decode cL_law 527 = .ok (.iconst (-1), 1) := by decide +kernel
theorem dL_law_528 : decode cL_law 528 = .ok (.istore 29, 2) := by decide +kernel
theorem dL_law_530 : decode cL_law 530 = .ok (.sipush (-30000), 3) := by decide +kernel
theorem dL_law_533 : decode cL_law 533 = .ok (.istore 30, 2) := by decide +kernel
theorem dL_law_535 : decode cL_law 535 = .ok (.bipush 9, 2) := by decide +kernel
theorem dL_law_537 : decode cL_law 537 = .ok (.aload_n 1, 1) := by decide +kernel
theorem dL_law_538 : decode cL_law 538 = .ok (.iload 27, 2) := by decide +kernel
theorem dL_law_540 : decode cL_law 540 = .ok (.invokevirtual 119, 3) := by decide +kernel
theorem dL_law_543 : decode cL_law 543 = .ok (.isub, 1) := by decide +kernel
theorem dL_law_544 : decode cL_law 544 = .ok (.istore 31, 2) := by decide +kernel
theorem dL_law_546 : decode cL_law 546 = .ok (.iload 31, 2) := by decide +kernel
theorem dL_law_548 : decode cL_law 548 = .ok (.ifCond .lt 32, 3) := by decide +kernel
theorem dL_law_551 : decode cL_law 551 = .ok (.iload 21, 2) := by decide +kernel
theorem dL_law_553 : decode cL_law 553 = .ok (.iload 31, 2) := by decide +kernel
theorem dL_law_555 : decode cL_law 555 = .ok (.iload 28, 2) := by decide +kernel
theorem dL_law_557 : decode cL_law 557 = .ok (.imul, 1) := by decide +kernel
theorem dL_law_558 : decode cL_law 558 = .ok (.iload 29, 2) := by decide +kernel
theorem dL_law_560 : decode cL_law 560 = .ok (.imul, 1) := by decide +kernel
theorem dL_law_561 : decode cL_law 561 = .ok (.iadd, 1) := by decide +kernel
theorem dL_law_562 : decode cL_law 562 = .ok (.ifCond .le 8, 3) := by decide +kernel
theorem dL_law_565 : decode cL_law 565 = .ok (.iload 31, 2) := by decide +kernel
theorem dL_law_567 : decode cL_law 567 = .ok (.goto 5, 3) := by decide +kernel
theorem dL_law_570 : decode cL_law 570 = .ok (.iload 30, 2) := by decide +kernel
theorem dL_law_572 : decode cL_law 572 = .ok (.istore 30, 2) := by decide +kernel
theorem dL_law_574 : decode cL_law 574 = .ok (.iinc 31 (-1), 3) := by decide +kernel
theorem dL_law_577 : decode cL_law 577 = .ok (.goto (-31), 3) := by decide +kernel
theorem dL_law_580 : decode cL_law 580 = .ok (.aload_n 1, 1) := by decide +kernel
theorem dL_law_581 : decode cL_law 581 = .ok (.iload 14, 2) := by decide +kernel
theorem dL_law_583 : decode cL_law 583 = .ok (.iload 27, 2) := by decide +kernel
theorem dL_law_585 : decode cL_law 585 = .ok (.invokevirtual 209, 3) := by decide +kernel
theorem dL_law_588 : decode cL_law 588 = .ok (.ifCond .eq 51, 3) := by decide +kernel
theorem dL_law_591 : decode cL_law 591 = .ok (.iload 22, 2) := by decide +kernel
theorem dL_law_593 : decode cL_law 593 = .ok (.iload 27, 2) := by decide +kernel
theorem dL_law_595 : decode cL_law 595 = .ok (.ishr, 1) := by decide +kernel
theorem dL_law_596 : decode cL_law 596 = .ok (.iconst 1, 1) := by decide +kernel
theorem dL_law_597 : decode cL_law 597 = .ok (.iand, 1) := by decide +kernel
end
section
theorem dL_law_598 : decode cL_law 598 = .ok (.iconst 1, 1) := by decide +kernel
theorem dL_law_599 : decode cL_law 599 = .ok (.if_icmp .eq 40, 3) := by decide +kernel
theorem dL_law_602 : decode cL_law 602 = .ok (.iload 28, 2) := by decide +kernel
theorem dL_law_604 : decode cL_law 604 = .ok (.iconst 1, 1) := by decide +kernel
theorem dL_law_605 : decode cL_law 605 = .ok (.if_icmp .lt 34, 3) := by decide +kernel
theorem dL_law_608 : decode cL_law 608 = .ok (.iload 28, 2) := by decide +kernel
theorem dL_law_610 : decode cL_law 610 = .ok (.iconst 5, 1) := by decide +kernel
theorem dL_law_611 : decode cL_law 611 = .ok (.if_icmp .gt 28, 3) := by decide +kernel
theorem dL_law_614 : decode cL_law 614 = .ok (.aload_n 1, 1) := by decide +kernel
theorem dL_law_615 : decode cL_law 615 = .ok (.iload 14, 2) := by decide +kernel
theorem dL_law_617 : decode cL_law 617 = .ok (.iload 27, 2) := by decide +kernel
theorem dL_law_619 : decode cL_law 619 = .ok (.invokevirtual 212, 3) := by decide +kernel
theorem dL_law_622 : decode cL_law 622 = .ok (.iconst 2, 1) := by decide +kernel
theorem dL_law_623 : decode cL_law 623 = .ok (.if_icmp .gt 16, 3) := by decide +kernel
theorem dL_law_626 : decode cL_law 626 = .ok (.aload_n 1, 1) := by decide +kernel
theorem dL_law_627 : decode cL_law 627 = .ok (.iload 14, 2) := by decide +kernel
theorem dL_law_629 : decode cL_law 629 = .ok (.iload 27, 2) := by decide +kernel
theorem dL_law_631 : decode cL_law 631 = .ok (.invokestatic 215, 3) := by decide +kernel
theorem dL_law_634 : decode cL_law 634 = .ok (.iload 30, 2) := by decide +kernel
theorem dL_law_636 : decode cL_law 636 = .ok (.if_icmp .eq 5, 3) := by decide +kernel
theorem dL_law_639 : decode cL_law 639 = .ok (.iconst 0, 1) := by decide +kernel
theorem dL_law_640 : decode cL_law 640 = .ok (.ireturn, 1) := by decide +kernel
theorem dL_law_641 : decode cL_law 641 = .ok (.iload 22, 2) := by decide +kernel
theorem dL_law_643 : decode cL_law 643 = .ok (.iconst 1, 1) := by decide +kernel
theorem dL_law_644 : decode cL_law 644 = .ok (.iload 27, 2) := by decide +kernel
theorem dL_law_646 : decode cL_law 646 = .ok (.ishl, 1) := by decide +kernel
theorem dL_law_647 : decode cL_law 647 = .ok (.ior, 1) := by decide +kernel
theorem dL_law_648 : decode cL_law 648 = .ok (.istore 22, 2) := by decide +kernel
theorem dL_law_650 : decode cL_law 650 = .ok (.aload 13, 2) := by decide +kernel
theorem dL_law_652 : decode cL_law 652 = .ok (.iload 27, 2) := by decide +kernel
theorem dL_law_654 : decode cL_law 654 = .ok (.dup2, 1) := by decide +kernel
theorem dL_law_655 : decode cL_law 655 = .ok (.iaload, 1) := by decide +kernel
theorem dL_law_656 : decode cL_law 656 = .ok (.iconst 1, 1) := by decide +kernel
theorem dL_law_657 : decode cL_law 657 = .ok (.iadd, 1) := by decide +kernel
theorem dL_law_658 : decode cL_law 658 = .ok (.iastore, 1) := by decide +kernel
theorem dL_law_659 : decode cL_law 659 = .ok (.iload 23, 2) := by decide +kernel
theorem dL_law_661 : decode cL_law 661 = .ok (.sipush (-30000), 3) := by decide +kernel
theorem dL_law_664 : decode cL_law 664 = .ok (.if_icmp .eq 30, 3) := by decide +kernel
theorem dL_law_667 : decode cL_law 667 = .ok (.iload 28, 2) := by decide +kernel
theorem dL_law_669 : decode cL_law 669 = .ok (.aload_n 1, 1) := by decide +kernel
theorem dL_law_670 : decode cL_law 670 = .ok (.iload 27, 2) := by decide +kernel
theorem dL_law_672 : decode cL_law 672 = .ok (.invokevirtual 119, 3) := by decide +kernel
theorem dL_law_675 : decode cL_law 675 = .ok (.imul, 1) := by decide +kernel
theorem dL_law_676 : decode cL_law 676 = .ok (.aload_n 1, 1) := by decide +kernel
theorem dL_law_677 : decode cL_law 677 = .ok (.iload 14, 2) := by decide +kernel
theorem dL_law_679 : decode cL_law 679 = .ok (.iload 23, 2) := by decide +kernel
theorem dL_law_681 : decode cL_law 681 = .ok (.invokevirtual 116, 3) := by decide +kernel
theorem dL_law_684 : decode cL_law 684 = .ok (.aload_n 1, 1) := by decide +kernel
theorem dL_law_685 : decode cL_law 685 = .ok (.iload 23, 2) := by decide +kernel
theorem dL_law_687 : decode cL_law 687 = .ok (.invokevirtual 119, 3) := by decide +kernel
theorem dL_law_690 : decode cL_law 690 = .ok (.imul, 1) := by decide +kernel
theorem dL_law_691 : decode cL_law 691 = .ok (.if_icmp .le 8, 3) := by decide +kernel
theorem dL_law_694 : decode cL_law 694 = .ok (.iload 27, 2) := by decide +kernel
theorem dL_law_696 : decode cL_law 696 = .ok (.goto 5, 3) := by decide +kernel
theorem dL_law_699 : decode cL_law 699 = .ok (.iload 23, 2) := by decide +kernel
theorem dL_law_701 : decode cL_law 701 = .ok (.istore 23, 2) := by decide +kernel
theorem dL_law_703 : decode cL_law 703 = .ok (.new 152, 3) := by decide +kernel
theorem dL_law_706 : decode cL_law 706 = .ok (.dup, 1) := by decide +kernel
theorem dL_law_707 : decode cL_law 707 = .ok (.invokespecial 154, 3) := by decide +kernel
theorem dL_law_710 : decode cL_law 710 = .ok (.aload 25, 2) := by decide +kernel
theorem dL_law_712 : decode cL_law 712 = .ok (.invokevirtual 161, 3) := by decide +kernel
theorem dL_law_715 : decode cL_law 715 = .ok (.ldc 217, 2) := by decide +kernel
theorem dL_law_717 : decode cL_law 717 = .ok (.invokevirtual 161, 3) := by decide +kernel
theorem dL_law_720 : decode cL_law 720 = .ok (.iload 29, 2) := by decide +kernel
theorem dL_law_722 : decode cL_law 722 = .ok (.iconst 1, 1) := by decide +kernel
theorem dL_law_723 : decode cL_law 723 = .ok (.if_icmp .ne 8, 3) := by decide +kernel
theorem dL_law_726 : decode cL_law 726 = .ok (.ldc 219, 2) := by decide +kernel
theorem dL_law_728 : decode cL_law 728 = .ok (.goto 5, 3) := by decide +kernel
theorem dL_law_731 : decode cL_law 731 = .ok (.ldc 221, 2) := by decide +kernel
theorem dL_law_733 : decode cL_law 733 = .ok (.invokevirtual 161, 3) := by decide +kernel
theorem dL_law_736 : decode cL_law 736 = .ok (.iload 27, 2) := by decide +kernel
theorem dL_law_738 : decode cL_law 738 = .ok (.invokevirtual 155, 3) := by decide +kernel
theorem dL_law_741 : decode cL_law 741 = .ok (.ldc 223, 2) := by decide +kernel
theorem dL_law_743 : decode cL_law 743 = .ok (.invokevirtual 161, 3) := by decide +kernel
theorem dL_law_746 : decode cL_law 746 = .ok (.iload 28, 2) := by decide +kernel
theorem dL_law_748 : decode cL_law 748 = .ok (.invokevirtual 155, 3) := by decide +kernel
theorem dL_law_751 : decode cL_law 751 = .ok (.invokevirtual 179, 3) := by decide +kernel
theorem dL_law_754 : decode cL_law 754 = .ok (.astore 25, 2) := by decide +kernel
theorem dL_law_756 : decode cL_law 756 = .ok (.iinc 26 1, 3) := by decide +kernel
theorem dL_law_759 : decode cL_law 759 = .ok (.goto (-274), 3) := by decide +kernel
theorem dL_law_762 : decode cL_law 762 = .ok (.iconst 0, 1) := by decide +kernel
theorem dL_law_763 : decode cL_law 763 = .ok (.istore 26, 2) := by decide +kernel
theorem dL_law_765 : decode cL_law 765 = .ok (.iload 26, 2) := by decide +kernel
theorem dL_law_767 : decode cL_law 767 = .ok (.iload 4, 2) := by decide +kernel
theorem dL_law_769 : decode cL_law 769 = .ok (.if_icmp .ge 63, 3) := by decide +kernel
theorem dL_law_772 : decode cL_law 772 = .ok (.aload 12, 2) := by decide +kernel
theorem dL_law_774 : decode cL_law 774 = .ok (.iload 26, 2) := by decide +kernel
theorem dL_law_776 : decode cL_law 776 = .ok (.dup2, 1) := by decide +kernel
theorem dL_law_777 : decode cL_law 777 = .ok (.iaload, 1) := by decide +kernel
theorem dL_law_778 : decode cL_law 778 = .ok (.iload 22, 2) := by decide +kernel
theorem dL_law_780 : decode cL_law 780 = .ok (.iload 26, 2) := by decide +kernel
theorem dL_law_782 : decode cL_law 782 = .ok (.ishr, 1) := by decide +kernel
theorem dL_law_783 : decode cL_law 783 = .ok (.iconst 1, 1) := by decide +kernel
theorem dL_law_784 : decode cL_law 784 = .ok (.iand, 1) := by decide +kernel
theorem dL_law_785 : decode cL_law 785 = .ok (.iconst 1, 1) := by decide +kernel
theorem dL_law_786 : decode cL_law 786 = .ok (.if_icmp .ne 8, 3) := by decide +kernel
theorem dL_law_789 : decode cL_law 789 = .ok (.iload 22, 2) := by decide +kernel
theorem dL_law_791 : decode cL_law 791 = .ok (.goto 4, 3) := by decide +kernel
theorem dL_law_794 : decode cL_law 794 = .ok (.iconst 0, 1) := by decide +kernel
theorem dL_law_795 : decode cL_law 795 = .ok (.ior, 1) := by decide +kernel
theorem dL_law_796 : decode cL_law 796 = .ok (.iastore, 1) := by decide +kernel
theorem dL_law_797 : decode cL_law 797 = .ok (.aload_n 1, 1) := by decide +kernel
theorem dL_law_798 : decode cL_law 798 = .ok (.iload 14, 2) := by decide +kernel
theorem dL_law_800 : decode cL_law 800 = .ok (.iload 26, 2) := by decide +kernel
theorem dL_law_802 : decode cL_law 802 = .ok (.invokevirtual 209, 3) := by decide +kernel
theorem dL_law_805 : decode cL_law 805 = .ok (.iload 22, 2) := by decide +kernel
theorem dL_law_807 : decode cL_law 807 = .ok (.iload 26, 2) := by decide +kernel
theorem dL_law_809 : decode cL_law 809 = .ok (.ishr, 1) := by decide +kernel
theorem dL_law_810 : decode cL_law 810 = .ok (.iconst 1, 1) := by decide +kernel
theorem dL_law_811 : decode cL_law 811 = .ok (.iand, 1) := by decide +kernel
theorem dL_law_812 : decode cL_law 812 = .ok (.iconst 1, 1) := by decide +kernel
theorem dL_law_813 : decode cL_law 813 = .ok (.if_icmp .ne 7, 3) := by decide +kernel
theorem dL_law_816 : decode cL_law 816 = .ok (.iconst 1, 1) := by decide +kernel
theorem dL_law_817 : decode cL_law 817 = .ok (.goto 4, 3) := by decide +kernel
theorem dL_law_820 : decode cL_law 820 = .ok (.iconst 0, 1) := by decide +kernel
theorem dL_law_821 : decode cL_law 821 = .ok (.if_icmp .eq 5, 3) := by decide +kernel
theorem dL_law_824 : decode cL_law 824 = .ok (.iconst 0, 1) := by decide +kernel
theorem dL_law_825 : decode cL_law 825 = .ok (.ireturn, 1) := by decide +kernel
theorem dL_law_826 : decode cL_law 826 = .ok (.iinc 26 1, 3) := by decide +kernel
theorem dL_law_829 : decode cL_law 829 = .ok (.goto (-64), 3) := by decide +kernel
theorem dL_law_832 : decode cL_law 832 = .ok (.aload_n 1, 1) := by decide +kernel
theorem dL_law_833 : decode cL_law 833 = .ok (.aload_n 1, 1) := by decide +kernel
theorem dL_law_834 : decode cL_law 834 = .ok (.iload 14, 2) := by decide +kernel
theorem dL_law_836 : decode cL_law 836 = .ok (.invokevirtual 225, 3) := by decide +kernel
theorem dL_law_839 : decode cL_law 839 = .ok (.aload 25, 2) := by decide +kernel
theorem dL_law_841 : decode cL_law 841 = .ok (.invokestatic 228, 3) := by decide +kernel
theorem dL_law_844 : decode cL_law 844 = .ok (.ifCond .eq 14, 3) := by decide +kernel
theorem dL_law_847 : decode cL_law 847 = .ok (.aload_n 1, 1) := by decide +kernel
theorem dL_law_848 : decode cL_law 848 = .ok (.iload 14, 2) := by decide +kernel
theorem dL_law_850 : decode cL_law 850 = .ok (.invokestatic 232, 3) := by decide +kernel
theorem dL_law_853 : decode cL_law 853 = .ok (.iload 23, 2) := by decide +kernel
theorem dL_law_855 : decode cL_law 855 = .ok (.if_icmp .eq 5, 3) := by decide +kernel
theorem dL_law_858 : decode cL_law 858 = .ok (.iconst 0, 1) := by decide +kernel
theorem dL_law_859 : decode cL_law 859 = .ok (.ireturn, 1) := by decide +kernel
theorem dL_law_860 : decode cL_law 860 = .ok (.iload 6, 2) := by decide +kernel
theorem dL_law_862 : decode cL_law 862 = .ok (.aload_n 1, 1) := by decide +kernel
theorem dL_law_863 : decode cL_law 863 = .ok (.iload 14, 2) := by decide +kernel
theorem dL_law_865 : decode cL_law 865 = .ok (.invokevirtual 172, 3) := by decide +kernel
theorem dL_law_868 : decode cL_law 868 = .ok (.ifCond .eq 7, 3) := by decide +kernel
theorem dL_law_871 : decode cL_law 871 = .ok (.iconst 1, 1) := by decide +kernel
theorem dL_law_872 : decode cL_law 872 = .ok (.goto 4, 3) := by decide +kernel
theorem dL_law_875 : decode cL_law 875 = .ok (.iconst 0, 1) := by decide +kernel
theorem dL_law_876 : decode cL_law 876 = .ok (.iadd, 1) := by decide +kernel
theorem dL_law_877 : decode cL_law 877 = .ok (.istore 6, 2) := by decide +kernel
theorem dL_law_879 : decode cL_law 879 = .ok (.iload 7, 2) := by decide +kernel
theorem dL_law_881 : decode cL_law 881 = .ok (.iload 18, 2) := by decide +kernel
theorem dL_law_883 : decode cL_law 883 = .ok (.iconst 1, 1) := by decide +kernel
theorem dL_law_884 : decode cL_law 884 = .ok (.if_icmp .ne 7, 3) := by decide +kernel
theorem dL_law_887 : decode cL_law 887 = .ok (.iconst 1, 1) := by decide +kernel
theorem dL_law_888 : decode cL_law 888 = .ok (.goto 4, 3) := by decide +kernel
theorem dL_law_891 : decode cL_law 891 = .ok (.iconst 0, 1) := by decide +kernel
theorem dL_law_892 : decode cL_law 892 = .ok (.iadd, 1) := by decide +kernel
theorem dL_law_893 : decode cL_law 893 = .ok (.istore 7, 2) := by decide +kernel
theorem dL_law_895 : decode cL_law 895 = .ok (.aload 11, 2) := by decide +kernel
theorem dL_law_897 : decode cL_law 897 = .ok (.iload 15, 2) := by decide +kernel
theorem dL_law_899 : decode cL_law 899 = .ok (.dup2, 1) := by decide +kernel
theorem dL_law_900 : decode cL_law 900 = .ok (.iaload, 1) := by decide +kernel
theorem dL_law_901 : decode cL_law 901 = .ok (.iload 18, 2) := by decide +kernel
theorem dL_law_903 : decode cL_law 903 = .ok (.iconst 1, 1) := by decide +kernel
theorem dL_law_904 : decode cL_law 904 = .ok (.if_icmp .ne 10, 3) := by decide +kernel
theorem dL_law_907 : decode cL_law 907 = .ok (.iload 16, 2) := by decide +kernel
theorem dL_law_909 : decode cL_law 909 = .ok (.iconst 1, 1) := by decide +kernel
theorem dL_law_910 : decode cL_law 910 = .ok (.iadd, 1) := by decide +kernel
theorem dL_law_911 : decode cL_law 911 = .ok (.goto 4, 3) := by decide +kernel
theorem dL_law_914 : decode cL_law 914 = .ok (.iconst 0, 1) := by decide +kernel
theorem dL_law_915 : decode cL_law 915 = .ok (.iadd, 1) := by decide +kernel
theorem dL_law_916 : decode cL_law 916 = .ok (.iastore, 1) := by decide +kernel
theorem dL_law_917 : decode cL_law 917 = .ok (.aload_n 1, 1) := by decide +kernel
theorem dL_law_918 : decode cL_law 918 = .ok (.iload 14, 2) := by decide +kernel
theorem dL_law_920 : decode cL_law 920 = .ok (.invokevirtual 186, 3) := by decide +kernel
theorem dL_law_923 : decode cL_law 923 = .ok (.ifCond .ne 17, 3) := by decide +kernel
theorem dL_law_926 : decode cL_law 926 = .ok (.aload_n 1, 1) := by decide +kernel
theorem dL_law_927 : decode cL_law 927 = .ok (.iload 14, 2) := by decide +kernel
theorem dL_law_929 : decode cL_law 929 = .ok (.invokestatic 234, 3) := by decide +kernel
theorem dL_law_932 : decode cL_law 932 = .ok (.sipush (-10000), 3) := by decide +kernel
theorem dL_law_935 : decode cL_law 935 = .ok (.if_icmp .eq 148, 3) := by decide +kernel
theorem dL_law_938 : decode cL_law 938 = .ok (.iconst 0, 1) := by decide +kernel
theorem dL_law_939 : decode cL_law 939 = .ok (.ireturn, 1) := by decide +kernel
theorem dL_law_940 : decode cL_law 940 = .ok (.iinc 5 1, 3) := by decide +kernel
theorem dL_law_943 : decode cL_law 943 = .ok (.iconst 0, 1) := by decide +kernel
theorem dL_law_944 : decode cL_law 944 = .ok (.istore 26, 2) := by decide +kernel
theorem dL_law_946 : decode cL_law 946 = .ok (.iload 26, 2) := by decide +kernel
theorem dL_law_948 : decode cL_law 948 = .ok (.iload_n 3, 1) := by decide +kernel
theorem dL_law_949 : decode cL_law 949 = .ok (.if_icmp .ge 77, 3) := by decide +kernel
theorem dL_law_952 : decode cL_law 952 = .ok (.aload_n 1, 1) := by decide +kernel
theorem dL_law_953 : decode cL_law 953 = .ok (.iload 26, 2) := by decide +kernel
theorem dL_law_955 : decode cL_law 955 = .ok (.invokevirtual 142, 3) := by decide +kernel
theorem dL_law_958 : decode cL_law 958 = .ok (.iload 16, 2) := by decide +kernel
theorem dL_law_960 : decode cL_law 960 = .ok (.isub, 1) := by decide +kernel
theorem dL_law_961 : decode cL_law 961 = .ok (.istore 27, 2) := by decide +kernel
theorem dL_law_963 : decode cL_law 963 = .ok (.aload_n 1, 1) := by decide +kernel
theorem dL_law_964 : decode cL_law 964 = .ok (.iload 26, 2) := by decide +kernel
theorem dL_law_966 : decode cL_law 966 = .ok (.invokevirtual 109, 3) := by decide +kernel
theorem dL_law_969 : decode cL_law 969 = .ok (.iload 17, 2) := by decide +kernel
theorem dL_law_971 : decode cL_law 971 = .ok (.isub, 1) := by decide +kernel
theorem dL_law_972 : decode cL_law 972 = .ok (.istore 28, 2) := by decide +kernel
theorem dL_law_974 : decode cL_law 974 = .ok (.iload 24, 2) := by decide +kernel
theorem dL_law_976 : decode cL_law 976 = .ok (.aload_n 1, 1) := by decide +kernel
theorem dL_law_977 : decode cL_law 977 = .ok (.iload 26, 2) := by decide +kernel
theorem dL_law_979 : decode cL_law 979 = .ok (.invokevirtual 186, 3) := by decide +kernel
theorem dL_law_982 : decode cL_law 982 = .ok (.ifCond .eq 34, 3) := by decide +kernel
theorem dL_law_985 : decode cL_law 985 = .ok (.iload 27, 2) := by decide +kernel
theorem dL_law_987 : decode cL_law 987 = .ok (.ifCond .gt 25, 3) := by decide +kernel
theorem dL_law_990 : decode cL_law 990 = .ok (.iload 27, 2) := by decide +kernel
theorem dL_law_992 : decode cL_law 992 = .ok (.ifCond .ne 24, 3) := by decide +kernel
theorem dL_law_995 : decode cL_law 995 = .ok (.iload 28, 2) := by decide +kernel
theorem dL_law_997 : decode cL_law 997 = .ok (.ifCond .gt 15, 3) := by decide +kernel
theorem dL_law_1000 : decode cL_law 1000 = .ok (.iload 28, 2) := by decide +kernel
theorem dL_law_1002 : decode cL_law 1002 = .ok (.ifCond .ne 14, 3) := by decide +kernel
theorem dL_law_1005 : decode cL_law 1005 = .ok (.iload 26, 2) := by decide +kernel
theorem dL_law_1007 : decode cL_law 1007 = .ok (.iload 14, 2) := by decide +kernel
theorem dL_law_1009 : decode cL_law 1009 = .ok (.if_icmp .ge 7, 3) := by decide +kernel
theorem dL_law_1012 : decode cL_law 1012 = .ok (.iconst 1, 1) := by decide +kernel
theorem dL_law_1013 : decode cL_law 1013 = .ok (.goto 4, 3) := by decide +kernel
theorem dL_law_1016 : decode cL_law 1016 = .ok (.iconst 0, 1) := by decide +kernel
theorem dL_law_1017 : decode cL_law 1017 = .ok (.iadd, 1) := by decide +kernel
theorem dL_law_1018 : decode cL_law 1018 = .ok (.istore 24, 2) := by decide +kernel
theorem dL_law_1020 : decode cL_law 1020 = .ok (.iinc 26 1, 3) := by decide +kernel
theorem dL_law_1023 : decode cL_law 1023 = .ok (.goto (-77), 3) := by decide +kernel
theorem dL_law_1026 : decode cL_law 1026 = .ok (.aload_n 1, 1) := by decide +kernel
theorem dL_law_1027 : decode cL_law 1027 = .ok (.iload 14, 2) := by decide +kernel
theorem dL_law_1029 : decode cL_law 1029 = .ok (.invokevirtual 64, 3) := by decide +kernel
theorem dL_law_1032 : decode cL_law 1032 = .ok (.iload 24, 2) := by decide +kernel
theorem dL_law_1034 : decode cL_law 1034 = .ok (.if_icmp .ne 14, 3) := by decide +kernel
theorem dL_law_1037 : decode cL_law 1037 = .ok (.aload_n 1, 1) := by decide +kernel
theorem dL_law_1038 : decode cL_law 1038 = .ok (.iload 24, 2) := by decide +kernel
theorem dL_law_1040 : decode cL_law 1040 = .ok (.invokevirtual 61, 3) := by decide +kernel
theorem dL_law_1043 : decode cL_law 1043 = .ok (.iload 14, 2) := by decide +kernel
theorem dL_law_1045 : decode cL_law 1045 = .ok (.if_icmp .eq 5, 3) := by decide +kernel
theorem dL_law_1048 : decode cL_law 1048 = .ok (.iconst 0, 1) := by decide +kernel
theorem dL_law_1049 : decode cL_law 1049 = .ok (.ireturn, 1) := by decide +kernel
theorem dL_law_1050 : decode cL_law 1050 = .ok (.iload 17, 2) := by decide +kernel
theorem dL_law_1052 : decode cL_law 1052 = .ok (.ifCond .le 27, 3) := by decide +kernel
theorem dL_law_1055 : decode cL_law 1055 = .ok (.iload 9, 2) := by decide +kernel
theorem dL_law_1057 : decode cL_law 1057 = .ok (.sipush (-30000), 3) := by decide +kernel
theorem dL_law_1060 : decode cL_law 1060 = .ok (.if_icmp .eq 14, 3) := by decide +kernel
theorem dL_law_1063 : decode cL_law 1063 = .ok (.iload 24, 2) := by decide +kernel
theorem dL_law_1065 : decode cL_law 1065 = .ok (.aload_n 1, 1) := by decide +kernel
theorem dL_law_1066 : decode cL_law 1066 = .ok (.iload 9, 2) := by decide +kernel
theorem dL_law_1068 : decode cL_law 1068 = .ok (.invokevirtual 64, 3) := by decide +kernel
theorem dL_law_1071 : decode cL_law 1071 = .ok (.if_icmp .ge 8, 3) := by decide +kernel
theorem dL_law_1074 : decode cL_law 1074 = .ok (.iload 14, 2) := by decide +kernel
theorem dL_law_1076 : decode cL_law 1076 = .ok (.goto 5, 3) := by decide +kernel
theorem dL_law_1079 : decode cL_law 1079 = .ok (.iload 9, 2) := by decide +kernel
theorem dL_law_1081 : decode cL_law 1081 = .ok (.istore 9, 2) := by decide +kernel
theorem dL_law_1083 : decode cL_law 1083 = .ok (.iinc 14 1, 3) := by decide +kernel
theorem dL_law_1086 : decode cL_law 1086 = .ok (.goto (-989), 3) := by decide +kernel
theorem dL_law_1089 : decode cL_law 1089 = .ok (.iconst 0, 1) := by decide +kernel
theorem dL_law_1090 : decode cL_law 1090 = .ok (.istore 14, 2) := by decide +kernel
theorem dL_law_1092 : decode cL_law 1092 = .ok (.iload 14, 2) := by decide +kernel
theorem dL_law_1094 : decode cL_law 1094 = .ok (.bipush 8, 2) := by decide +kernel
theorem dL_law_1096 : decode cL_law 1096 = .ok (.if_icmp .ge 72, 3) := by decide +kernel
theorem dL_law_1099 : decode cL_law 1099 = .ok (.iconst 0, 1) := by decide +kernel
theorem dL_law_1100 : decode cL_law 1100 = .ok (.istore 15, 2) := by decide +kernel
theorem dL_law_1102 : decode cL_law 1102 = .ok (.iload 15, 2) := by decide +kernel
theorem dL_law_1104 : decode cL_law 1104 = .ok (.iload 4, 2) := by decide +kernel
theorem dL_law_1106 : decode cL_law 1106 = .ok (.if_icmp .ge 56, 3) := by decide +kernel
theorem dL_law_1109 : decode cL_law 1109 = .ok (.iconst 0, 1) := by decide +kernel
theorem dL_law_1110 : decode cL_law 1110 = .ok (.istore 16, 2) := by decide +kernel
theorem dL_law_1112 : decode cL_law 1112 = .ok (.iload 16, 2) := by decide +kernel
theorem dL_law_1114 : decode cL_law 1114 = .ok (.iload 4, 2) := by decide +kernel
theorem dL_law_1116 : decode cL_law 1116 = .ok (.if_icmp .ge 40, 3) := by decide +kernel
theorem dL_law_1119 : decode cL_law 1119 = .ok (.aload 12, 2) := by decide +kernel
theorem dL_law_1121 : decode cL_law 1121 = .ok (.iload 15, 2) := by decide +kernel
theorem dL_law_1123 : decode cL_law 1123 = .ok (.dup2, 1) := by decide +kernel
theorem dL_law_1124 : decode cL_law 1124 = .ok (.iaload, 1) := by decide +kernel
theorem dL_law_1125 : decode cL_law 1125 = .ok (.aload 12, 2) := by decide +kernel
theorem dL_law_1127 : decode cL_law 1127 = .ok (.iload 15, 2) := by decide +kernel
theorem dL_law_1129 : decode cL_law 1129 = .ok (.iaload, 1) := by decide +kernel
theorem dL_law_1130 : decode cL_law 1130 = .ok (.iload 16, 2) := by decide +kernel
theorem dL_law_1132 : decode cL_law 1132 = .ok (.ishr, 1) := by decide +kernel
theorem dL_law_1133 : decode cL_law 1133 = .ok (.iconst 1, 1) := by decide +kernel
theorem dL_law_1134 : decode cL_law 1134 = .ok (.iand, 1) := by decide +kernel
theorem dL_law_1135 : decode cL_law 1135 = .ok (.iconst 1, 1) := by decide +kernel
theorem dL_law_1136 : decode cL_law 1136 = .ok (.if_icmp .ne 11, 3) := by decide +kernel
theorem dL_law_1139 : decode cL_law 1139 = .ok (.aload 12, 2) := by decide +kernel
theorem dL_law_1141 : decode cL_law 1141 = .ok (.iload 16, 2) := by decide +kernel
theorem dL_law_1143 : decode cL_law 1143 = .ok (.iaload, 1) := by decide +kernel
theorem dL_law_1144 : decode cL_law 1144 = .ok (.goto 4, 3) := by decide +kernel
theorem dL_law_1147 : decode cL_law 1147 = .ok (.iconst 0, 1) := by decide +kernel
theorem dL_law_1148 : decode cL_law 1148 = .ok (.ior, 1) := by decide +kernel
theorem dL_law_1149 : decode cL_law 1149 = .ok (.iastore, 1) := by decide +kernel
theorem dL_law_1150 : decode cL_law 1150 = .ok (.iinc 16 1, 3) := by decide +kernel
theorem dL_law_1153 : decode cL_law 1153 = .ok (.goto (-41), 3) := by decide +kernel
theorem dL_law_1156 : decode cL_law 1156 = .ok (.iinc 15 1, 3) := by decide +kernel
theorem dL_law_1159 : decode cL_law 1159 = .ok (.goto (-57), 3) := by decide +kernel
theorem dL_law_1162 : decode cL_law 1162 = .ok (.iinc 14 1, 3) := by decide +kernel
theorem dL_law_1165 : decode cL_law 1165 = .ok (.goto (-73), 3) := by decide +kernel
theorem dL_law_1168 : decode cL_law 1168 = .ok (.iconst 0, 1) := by decide +kernel
theorem dL_law_1169 : decode cL_law 1169 = .ok (.istore 14, 2) := by decide +kernel
theorem dL_law_1171 : decode cL_law 1171 = .ok (.iload 14, 2) := by decide +kernel
theorem dL_law_1173 : decode cL_law 1173 = .ok (.iload 4, 2) := by decide +kernel
theorem dL_law_1175 : decode cL_law 1175 = .ok (.if_icmp .ge 290, 3) := by decide +kernel
theorem dL_law_1178 : decode cL_law 1178 = .ok (.iload 8, 2) := by decide +kernel
theorem dL_law_1180 : decode cL_law 1180 = .ok (.aload_n 1, 1) := by decide +kernel
theorem dL_law_1181 : decode cL_law 1181 = .ok (.iload 14, 2) := by decide +kernel
theorem dL_law_1183 : decode cL_law 1183 = .ok (.invokevirtual 119, 3) := by decide +kernel
end
section
theorem dL_law_1186 : decode cL_law 1186 = .ok (.iadd, 1) := by decide +kernel
theorem dL_law_1187 : decode cL_law 1187 = .ok (.istore 8, 2) := by decide +kernel
theorem dL_law_1189 : decode cL_law 1189 = .ok (.iload 10, 2) := by decide +kernel
theorem dL_law_1191 : decode cL_law 1191 = .ok (.aload 12, 2) := by decide +kernel
theorem dL_law_1193 : decode cL_law 1193 = .ok (.iload 14, 2) := by decide +kernel
theorem dL_law_1195 : decode cL_law 1195 = .ok (.iaload, 1) := by decide +kernel
theorem dL_law_1196 : decode cL_law 1196 = .ok (.invokestatic 236, 3) := by decide +kernel
theorem dL_law_1199 : decode cL_law 1199 = .ok (.iload 14, 2) := by decide +kernel
theorem dL_law_1201 : decode cL_law 1201 = .ok (.if_icmp .ne 7, 3) := by decide +kernel
theorem dL_law_1204 : decode cL_law 1204 = .ok (.iconst 1, 1) := by decide +kernel
theorem dL_law_1205 : decode cL_law 1205 = .ok (.goto 4, 3) := by decide +kernel
theorem dL_law_1208 : decode cL_law 1208 = .ok (.iconst 0, 1) := by decide +kernel
theorem dL_law_1209 : decode cL_law 1209 = .ok (.iadd, 1) := by decide +kernel
theorem dL_law_1210 : decode cL_law 1210 = .ok (.istore 10, 2) := by decide +kernel
theorem dL_law_1212 : decode cL_law 1212 = .ok (.aload_n 1, 1) := by decide +kernel
theorem dL_law_1213 : decode cL_law 1213 = .ok (.iload 14, 2) := by decide +kernel
theorem dL_law_1215 : decode cL_law 1215 = .ok (.invokevirtual 241, 3) := by decide +kernel
theorem dL_law_1218 : decode cL_law 1218 = .ok (.aload 12, 2) := by decide +kernel
theorem dL_law_1220 : decode cL_law 1220 = .ok (.iload 14, 2) := by decide +kernel
theorem dL_law_1222 : decode cL_law 1222 = .ok (.iaload, 1) := by decide +kernel
theorem dL_law_1223 : decode cL_law 1223 = .ok (.invokestatic 244, 3) := by decide +kernel
theorem dL_law_1226 : decode cL_law 1226 = .ok (.if_icmp .ne 84, 3) := by decide +kernel
theorem dL_law_1229 : decode cL_law 1229 = .ok (.aload_n 1, 1) := by decide +kernel
theorem dL_law_1230 : decode cL_law 1230 = .ok (.iload 14, 2) := by decide +kernel
theorem dL_law_1232 : decode cL_law 1232 = .ok (.invokevirtual 247, 3) := by decide +kernel
theorem dL_law_1235 : decode cL_law 1235 = .ok (.aload 13, 2) := by decide +kernel
theorem dL_law_1237 : decode cL_law 1237 = .ok (.iload 14, 2) := by decide +kernel
theorem dL_law_1239 : decode cL_law 1239 = .ok (.iaload, 1) := by decide +kernel
theorem dL_law_1240 : decode cL_law 1240 = .ok (.if_icmp .ne 70, 3) := by decide +kernel
theorem dL_law_1243 : decode cL_law 1243 = .ok (.aload_n 1, 1) := by decide +kernel
theorem dL_law_1244 : decode cL_law 1244 = .ok (.iload 14, 2) := by decide +kernel
theorem dL_law_1246 : decode cL_law 1246 = .ok (.invokevirtual 119, 3) := by decide +kernel
theorem dL_law_1249 : decode cL_law 1249 = .ok (.ifCond .lt 61, 3) := by decide +kernel
theorem dL_law_1252 : decode cL_law 1252 = .ok (.aload_n 1, 1) := by decide +kernel
theorem dL_law_1253 : decode cL_law 1253 = .ok (.iload 14, 2) := by decide +kernel
theorem dL_law_1255 : decode cL_law 1255 = .ok (.invokevirtual 119, 3) := by decide +kernel
theorem dL_law_1258 : decode cL_law 1258 = .ok (.bipush 9, 2) := by decide +kernel
theorem dL_law_1260 : decode cL_law 1260 = .ok (.if_icmp .gt 50, 3) := by decide +kernel
theorem dL_law_1263 : decode cL_law 1263 = .ok (.aload_n 1, 1) := by decide +kernel
theorem dL_law_1264 : decode cL_law 1264 = .ok (.aload_n 1, 1) := by decide +kernel
theorem dL_law_1265 : decode cL_law 1265 = .ok (.iload 14, 2) := by decide +kernel
theorem dL_law_1267 : decode cL_law 1267 = .ok (.invokevirtual 250, 3) := by decide +kernel
theorem dL_law_1270 : decode cL_law 1270 = .ok (.new 152, 3) := by decide +kernel
theorem dL_law_1273 : decode cL_law 1273 = .ok (.dup, 1) := by decide +kernel
theorem dL_law_1274 : decode cL_law 1274 = .ok (.invokespecial 154, 3) := by decide +kernel
theorem dL_law_1277 : decode cL_law 1277 = .ok (.ldc 253, 2) := by decide +kernel
theorem dL_law_1279 : decode cL_law 1279 = .ok (.invokevirtual 161, 3) := by decide +kernel
theorem dL_law_1282 : decode cL_law 1282 = .ok (.iload 14, 2) := by decide +kernel
theorem dL_law_1284 : decode cL_law 1284 = .ok (.invokevirtual 155, 3) := by decide +kernel
theorem dL_law_1287 : decode cL_law 1287 = .ok (.ldc 255, 2) := by decide +kernel
theorem dL_law_1289 : decode cL_law 1289 = .ok (.invokevirtual 161, 3) := by decide +kernel
theorem dL_law_1292 : decode cL_law 1292 = .ok (.aload_n 1, 1) := by decide +kernel
theorem dL_law_1293 : decode cL_law 1293 = .ok (.iload 14, 2) := by decide +kernel
theorem dL_law_1295 : decode cL_law 1295 = .ok (.invokevirtual 119, 3) := by decide +kernel
theorem dL_law_1298 : decode cL_law 1298 = .ok (.invokevirtual 155, 3) := by decide +kernel
theorem dL_law_1301 : decode cL_law 1301 = .ok (.invokevirtual 179, 3) := by decide +kernel
theorem dL_law_1304 : decode cL_law 1304 = .ok (.invokestatic 228, 3) := by decide +kernel
theorem dL_law_1307 : decode cL_law 1307 = .ok (.ifCond .ne 5, 3) := by decide +kernel
theorem dL_law_1310 : decode cL_law 1310 = .ok (.iconst 0, 1) := by decide +kernel
theorem dL_law_1311 : decode cL_law 1311 = .ok (.ireturn, 1) := by decide +kernel
theorem dL_law_1312 : decode cL_law 1312 = .ok (.iconst 0, 1) := by decide +kernel
theorem dL_law_1313 : decode cL_law 1313 = .ok (.istore 15, 2) := by decide +kernel
theorem dL_law_1315 : decode cL_law 1315 = .ok (.iload 15, 2) := by decide +kernel
theorem dL_law_1317 : decode cL_law 1317 = .ok (.iload 4, 2) := by decide +kernel
theorem dL_law_1319 : decode cL_law 1319 = .ok (.if_icmp .ge 140, 3) := by decide +kernel
theorem dL_law_1322 : decode cL_law 1322 = .ok (.iconst 0, 1) := by decide +kernel
theorem dL_law_1323 : decode cL_law 1323 = .ok (.istore 16, 2) := by decide +kernel
theorem dL_law_1325 : decode cL_law 1325 = .ok (.iconst 0, 1) := by decide +kernel
theorem dL_law_1326 : decode cL_law 1326 = .ok (.istore 17, 2) := by decide +kernel
theorem dL_law_1328 : decode cL_law 1328 = .ok (.iload 17, 2) := by decide +kernel
theorem dL_law_1330 : decode cL_law 1330 = .ok (.iload_n 3, 1) := by decide +kernel
theorem dL_law_1331 : decode cL_law 1331 = .ok (.if_icmp .ge 60, 3) := by decide +kernel
theorem dL_law_1334 : decode cL_law 1334 = .ok (.aload_n 1, 1) := by decide +kernel
theorem dL_law_1335 : decode cL_law 1335 = .ok (.iload 17, 2) := by decide +kernel
theorem dL_law_1337 : decode cL_law 1337 = .ok (.iload 14, 2) := by decide +kernel
theorem dL_law_1339 : decode cL_law 1339 = .ok (.invokevirtual 209, 3) := by decide +kernel
theorem dL_law_1342 : decode cL_law 1342 = .ok (.ifCond .eq 43, 3) := by decide +kernel
theorem dL_law_1345 : decode cL_law 1345 = .ok (.aload_n 1, 1) := by decide +kernel
theorem dL_law_1346 : decode cL_law 1346 = .ok (.iload 17, 2) := by decide +kernel
theorem dL_law_1348 : decode cL_law 1348 = .ok (.iload 15, 2) := by decide +kernel
theorem dL_law_1350 : decode cL_law 1350 = .ok (.invokevirtual 209, 3) := by decide +kernel
theorem dL_law_1353 : decode cL_law 1353 = .ok (.ifCond .eq 32, 3) := by decide +kernel
theorem dL_law_1356 : decode cL_law 1356 = .ok (.iload 16, 2) := by decide +kernel
theorem dL_law_1358 : decode cL_law 1358 = .ok (.aload_n 1, 1) := by decide +kernel
theorem dL_law_1359 : decode cL_law 1359 = .ok (.iload 17, 2) := by decide +kernel
theorem dL_law_1361 : decode cL_law 1361 = .ok (.iload 14, 2) := by decide +kernel
theorem dL_law_1363 : decode cL_law 1363 = .ok (.invokevirtual 112, 3) := by decide +kernel
theorem dL_law_1366 : decode cL_law 1366 = .ok (.aload_n 1, 1) := by decide +kernel
theorem dL_law_1367 : decode cL_law 1367 = .ok (.iload 17, 2) := by decide +kernel
theorem dL_law_1369 : decode cL_law 1369 = .ok (.iload 15, 2) := by decide +kernel
theorem dL_law_1371 : decode cL_law 1371 = .ok (.invokevirtual 112, 3) := by decide +kernel
theorem dL_law_1374 : decode cL_law 1374 = .ok (.if_icmp .ne 7, 3) := by decide +kernel
theorem dL_law_1377 : decode cL_law 1377 = .ok (.iconst 1, 1) := by decide +kernel
theorem dL_law_1378 : decode cL_law 1378 = .ok (.goto 4, 3) := by decide +kernel
theorem dL_law_1381 : decode cL_law 1381 = .ok (.iconst (-1), 1) := by decide +kernel
theorem dL_law_1382 : decode cL_law 1382 = .ok (.iadd, 1) := by decide +kernel
theorem dL_law_1383 : decode cL_law 1383 = .ok (.istore 16, 2) := by decide +kernel
theorem dL_law_1385 : decode cL_law 1385 = .ok (.iinc 17 1, 3) := by decide +kernel
theorem dL_law_1388 : decode cL_law 1388 = .ok (.goto (-60), 3) := by decide +kernel
theorem dL_law_1391 : decode cL_law 1391 = .ok (.aload 12, 2) := by decide +kernel
theorem dL_law_1393 : decode cL_law 1393 = .ok (.iload 14, 2) := by decide +kernel
theorem dL_law_1395 : decode cL_law 1395 = .ok (.iaload, 1) := by decide +kernel
theorem dL_law_1396 : decode cL_law 1396 = .ok (.iload 15, 2) := by decide +kernel
theorem dL_law_1398 : decode cL_law 1398 = .ok (.ishr, 1) := by decide +kernel
theorem dL_law_1399 : decode cL_law 1399 = .ok (.iconst 1, 1) := by decide +kernel
theorem dL_law_1400 : decode cL_law 1400 = .ok (.iand, 1) := by decide +kernel
theorem dL_law_1401 : decode cL_law 1401 = .ok (.iconst 1, 1) := by decide +kernel
theorem dL_law_1402 : decode cL_law 1402 = .ok (.if_icmp .ne 7, 3) := by decide +kernel
theorem dL_law_1405 : decode cL_law 1405 = .ok (.iconst 1, 1) := by decide +kernel
theorem dL_law_1406 : decode cL_law 1406 = .ok (.goto 4, 3) := by decide +kernel
theorem dL_law_1409 : decode cL_law 1409 = .ok (.iconst 0, 1) := by decide +kernel
theorem dL_law_1410 : decode cL_law 1410 = .ok (.istore 17, 2) := by decide +kernel
theorem dL_law_1412 : decode cL_law 1412 = .ok (.aload_n 1, 1) := by decide +kernel
theorem dL_law_1413 : decode cL_law 1413 = .ok (.iload 14, 2) := by decide +kernel
theorem dL_law_1415 : decode cL_law 1415 = .ok (.iload 15, 2) := by decide +kernel
theorem dL_law_1417 : decode cL_law 1417 = .ok (.invokevirtual 257, 3) := by decide +kernel
theorem dL_law_1420 : decode cL_law 1420 = .ok (.iload 16, 2) := by decide +kernel
theorem dL_law_1422 : decode cL_law 1422 = .ok (.if_icmp .ne 29, 3) := by decide +kernel
theorem dL_law_1425 : decode cL_law 1425 = .ok (.aload_n 1, 1) := by decide +kernel
theorem dL_law_1426 : decode cL_law 1426 = .ok (.iload 14, 2) := by decide +kernel
theorem dL_law_1428 : decode cL_law 1428 = .ok (.iload 15, 2) := by decide +kernel
theorem dL_law_1430 : decode cL_law 1430 = .ok (.invokevirtual 260, 3) := by decide +kernel
theorem dL_law_1433 : decode cL_law 1433 = .ok (.iload 17, 2) := by decide +kernel
theorem dL_law_1435 : decode cL_law 1435 = .ok (.if_icmp .ne 16, 3) := by decide +kernel
theorem dL_law_1438 : decode cL_law 1438 = .ok (.aload_n 1, 1) := by decide +kernel
theorem dL_law_1439 : decode cL_law 1439 = .ok (.iload 14, 2) := by decide +kernel
theorem dL_law_1441 : decode cL_law 1441 = .ok (.iload 15, 2) := by decide +kernel
theorem dL_law_1443 : decode cL_law 1443 = .ok (.invokevirtual 263, 3) := by decide +kernel
theorem dL_law_1446 : decode cL_law 1446 = .ok (.iload 17, 2) := by decide +kernel
theorem dL_law_1448 : decode cL_law 1448 = .ok (.if_icmp .eq 5, 3) := by decide +kernel
theorem dL_law_1451 : decode cL_law 1451 = .ok (.iconst 0, 1) := by decide +kernel
theorem dL_law_1452 : decode cL_law 1452 = .ok (.ireturn, 1) := by decide +kernel
theorem dL_law_1453 : decode cL_law 1453 = .ok (.iinc 15 1, 3) := by decide +kernel
theorem dL_law_1456 : decode cL_law 1456 = .ok (.goto (-141), 3) := by decide +kernel
theorem dL_law_1459 : decode cL_law 1459 = .ok (.iinc 14 1, 3) := by decide +kernel
theorem dL_law_1462 : decode cL_law 1462 = .ok (.goto (-291), 3) := by decide +kernel
theorem dL_law_1465 : decode cL_law 1465 = .ok (.iconst 0, 1) := by decide +kernel
theorem dL_law_1466 : decode cL_law 1466 = .ok (.istore 14, 2) := by decide +kernel
theorem dL_law_1468 : decode cL_law 1468 = .ok (.iconst 0, 1) := by decide +kernel
theorem dL_law_1469 : decode cL_law 1469 = .ok (.istore 15, 2) := by decide +kernel
theorem dL_law_1471 : decode cL_law 1471 = .ok (.iload 15, 2) := by decide +kernel
theorem dL_law_1473 : decode cL_law 1473 = .ok (.bipush 6, 2) := by decide +kernel
theorem dL_law_1475 : decode cL_law 1475 = .ok (.if_icmp .ge 61, 3) := by decide +kernel
theorem dL_law_1478 : decode cL_law 1478 = .ok (.aload 11, 2) := by decide +kernel
theorem dL_law_1480 : decode cL_law 1480 = .ok (.iload 15, 2) := by decide +kernel
theorem dL_law_1482 : decode cL_law 1482 = .ok (.iaload, 1) := by decide +kernel
theorem dL_law_1483 : decode cL_law 1483 = .ok (.aload 11, 2) := by decide +kernel
theorem dL_law_1485 : decode cL_law 1485 = .ok (.iload 14, 2) := by decide +kernel
theorem dL_law_1487 : decode cL_law 1487 = .ok (.iaload, 1) := by decide +kernel
theorem dL_law_1488 : decode cL_law 1488 = .ok (.if_icmp .le 8, 3) := by decide +kernel
theorem dL_law_1491 : decode cL_law 1491 = .ok (.iload 15, 2) := by decide +kernel
theorem dL_law_1493 : decode cL_law 1493 = .ok (.goto 5, 3) := by decide +kernel
theorem dL_law_1496 : decode cL_law 1496 = .ok (.iload 14, 2) := by decide +kernel
theorem dL_law_1498 : decode cL_law 1498 = .ok (.istore 14, 2) := by decide +kernel
theorem dL_law_1500 : decode cL_law 1500 = .ok (.aload_n 1, 1) := by decide +kernel
theorem dL_law_1501 : decode cL_law 1501 = .ok (.iload 15, 2) := by decide +kernel
theorem dL_law_1503 : decode cL_law 1503 = .ok (.invokevirtual 266, 3) := by decide +kernel
theorem dL_law_1506 : decode cL_law 1506 = .ok (.aload 11, 2) := by decide +kernel
theorem dL_law_1508 : decode cL_law 1508 = .ok (.iload 15, 2) := by decide +kernel
theorem dL_law_1510 : decode cL_law 1510 = .ok (.iaload, 1) := by decide +kernel
theorem dL_law_1511 : decode cL_law 1511 = .ok (.if_icmp .ne 17, 3) := by decide +kernel
theorem dL_law_1514 : decode cL_law 1514 = .ok (.aload_n 1, 1) := by decide +kernel
theorem dL_law_1515 : decode cL_law 1515 = .ok (.iload 15, 2) := by decide +kernel
theorem dL_law_1517 : decode cL_law 1517 = .ok (.invokevirtual 269, 3) := by decide +kernel
theorem dL_law_1520 : decode cL_law 1520 = .ok (.aload 11, 2) := by decide +kernel
theorem dL_law_1522 : decode cL_law 1522 = .ok (.iload 15, 2) := by decide +kernel
theorem dL_law_1524 : decode cL_law 1524 = .ok (.iaload, 1) := by decide +kernel
theorem dL_law_1525 : decode cL_law 1525 = .ok (.if_icmp .eq 5, 3) := by decide +kernel
theorem dL_law_1528 : decode cL_law 1528 = .ok (.iconst 0, 1) := by decide +kernel
theorem dL_law_1529 : decode cL_law 1529 = .ok (.ireturn, 1) := by decide +kernel
theorem dL_law_1530 : decode cL_law 1530 = .ok (.iinc 15 1, 3) := by decide +kernel
theorem dL_law_1533 : decode cL_law 1533 = .ok (.goto (-62), 3) := by decide +kernel
theorem dL_law_1536 : decode cL_law 1536 = .ok (.aload_n 1, 1) := by decide +kernel
theorem dL_law_1537 : decode cL_law 1537 = .ok (.invokevirtual 272, 3) := by decide +kernel
theorem dL_law_1540 : decode cL_law 1540 = .ok (.iload 14, 2) := by decide +kernel
theorem dL_law_1542 : decode cL_law 1542 = .ok (.if_icmp .ne 128, 3) := by decide +kernel
theorem dL_law_1545 : decode cL_law 1545 = .ok (.aload_n 1, 1) := by decide +kernel
theorem dL_law_1546 : decode cL_law 1546 = .ok (.invokevirtual 275, 3) := by decide +kernel
theorem dL_law_1549 : decode cL_law 1549 = .ok (.iload 10, 2) := by decide +kernel
theorem dL_law_1551 : decode cL_law 1551 = .ok (.if_icmp .ne 119, 3) := by decide +kernel
theorem dL_law_1554 : decode cL_law 1554 = .ok (.aload_n 1, 1) := by decide +kernel
theorem dL_law_1555 : decode cL_law 1555 = .ok (.invokestatic 278, 3) := by decide +kernel
theorem dL_law_1558 : decode cL_law 1558 = .ok (.iload 9, 2) := by decide +kernel
theorem dL_law_1560 : decode cL_law 1560 = .ok (.if_icmp .ne 110, 3) := by decide +kernel
theorem dL_law_1563 : decode cL_law 1563 = .ok (.aload_n 1, 1) := by decide +kernel
theorem dL_law_1564 : decode cL_law 1564 = .ok (.invokevirtual 106, 3) := by decide +kernel
theorem dL_law_1567 : decode cL_law 1567 = .ok (.iload 5, 2) := by decide +kernel
theorem dL_law_1569 : decode cL_law 1569 = .ok (.if_icmp .ne 101, 3) := by decide +kernel
theorem dL_law_1572 : decode cL_law 1572 = .ok (.aload_n 1, 1) := by decide +kernel
theorem dL_law_1573 : decode cL_law 1573 = .ok (.iload 5, 2) := by decide +kernel
theorem dL_law_1575 : decode cL_law 1575 = .ok (.invokestatic 281, 3) := by decide +kernel
theorem dL_law_1578 : decode cL_law 1578 = .ok (.sipush (-30000), 3) := by decide +kernel
theorem dL_law_1581 : decode cL_law 1581 = .ok (.if_icmp .ne 89, 3) := by decide +kernel
theorem dL_law_1584 : decode cL_law 1584 = .ok (.aload_n 1, 1) := by decide +kernel
theorem dL_law_1585 : decode cL_law 1585 = .ok (.invokevirtual 283, 3) := by decide +kernel
theorem dL_law_1588 : decode cL_law 1588 = .ok (.iload 6, 2) := by decide +kernel
theorem dL_law_1590 : decode cL_law 1590 = .ok (.if_icmp .ne 80, 3) := by decide +kernel
theorem dL_law_1593 : decode cL_law 1593 = .ok (.aload_n 1, 1) := by decide +kernel
theorem dL_law_1594 : decode cL_law 1594 = .ok (.invokevirtual 286, 3) := by decide +kernel
theorem dL_law_1597 : decode cL_law 1597 = .ok (.iload 7, 2) := by decide +kernel
theorem dL_law_1599 : decode cL_law 1599 = .ok (.if_icmp .ne 71, 3) := by decide +kernel
theorem dL_law_1602 : decode cL_law 1602 = .ok (.aload_n 1, 1) := by decide +kernel
theorem dL_law_1603 : decode cL_law 1603 = .ok (.invokevirtual 289, 3) := by decide +kernel
theorem dL_law_1606 : decode cL_law 1606 = .ok (.iload_n 3, 1) := by decide +kernel
theorem dL_law_1607 : decode cL_law 1607 = .ok (.iload 5, 2) := by decide +kernel
theorem dL_law_1609 : decode cL_law 1609 = .ok (.isub, 1) := by decide +kernel
theorem dL_law_1610 : decode cL_law 1610 = .ok (.if_icmp .lt 60, 3) := by decide +kernel
theorem dL_law_1613 : decode cL_law 1613 = .ok (.iload 5, 2) := by decide +kernel
theorem dL_law_1615 : decode cL_law 1615 = .ok (.iload_n 3, 1) := by decide +kernel
theorem dL_law_1616 : decode cL_law 1616 = .ok (.if_icmp .ge 20, 3) := by decide +kernel
theorem dL_law_1619 : decode cL_law 1619 = .ok (.aload_n 1, 1) := by decide +kernel
theorem dL_law_1620 : decode cL_law 1620 = .ok (.invokevirtual 292, 3) := by decide +kernel
theorem dL_law_1623 : decode cL_law 1623 = .ok (.iload 7, 2) := by decide +kernel
theorem dL_law_1625 : decode cL_law 1625 = .ok (.i2f, 1) := by decide +kernel
theorem dL_law_1626 : decode cL_law 1626 = .ok (.iload_n 3, 1) := by decide +kernel
theorem dL_law_1627 : decode cL_law 1627 = .ok (.iload 5, 2) := by decide +kernel
theorem dL_law_1629 : decode cL_law 1629 = .ok (.isub, 1) := by decide +kernel
theorem dL_law_1630 : decode cL_law 1630 = .ok (.i2f, 1) := by decide +kernel
theorem dL_law_1631 : decode cL_law 1631 = .ok (.fdiv, 1) := by decide +kernel
theorem dL_law_1632 : decode cL_law 1632 = .ok (.fcmp .l, 1) := by decide +kernel
theorem dL_law_1633 : decode cL_law 1633 = .ok (.ifCond .ne 37, 3) := by decide +kernel
theorem dL_law_1636 : decode cL_law 1636 = .ok (.aload_n 1, 1) := by decide +kernel
theorem dL_law_1637 : decode cL_law 1637 = .ok (.invokevirtual 296, 3) := by decide +kernel
theorem dL_law_1640 : decode cL_law 1640 = .ok (.iload 8, 2) := by decide +kernel
theorem dL_law_1642 : decode cL_law 1642 = .ok (.i2d, 1) := by decide +kernel
theorem dL_law_1643 : decode cL_law 1643 = .ok (.iload 4, 2) := by decide +kernel
theorem dL_law_1645 : decode cL_law 1645 = .ok (.i2d, 1) := by decide +kernel
theorem dL_law_1646 : decode cL_law 1646 = .ok (.ddiv, 1) := by decide +kernel
theorem dL_law_1647 : decode cL_law 1647 = .ok (.dcmp .l, 1) := by decide +kernel
theorem dL_law_1648 : decode cL_law 1648 = .ok (.ifCond .ne 22, 3) := by decide +kernel
theorem dL_law_1651 : decode cL_law 1651 = .ok (.aload_n 1, 1) := by decide +kernel
theorem dL_law_1652 : decode cL_law 1652 = .ok (.invokevirtual 300, 3) := by decide +kernel
theorem dL_law_1655 : decode cL_law 1655 = .ok (.ifCond .eq 15, 3) := by decide +kernel
theorem dL_law_1658 : decode cL_law 1658 = .ok (.aload_n 1, 1) := by decide +kernel
theorem dL_law_1659 : decode cL_law 1659 = .ok (.iload 4, 2) := by decide +kernel
theorem dL_law_1661 : decode cL_law 1661 = .ok (.invokestatic 304, 3) := by decide +kernel
theorem dL_law_1664 : decode cL_law 1664 = .ok (.sipush (-30000), 3) := by decide +kernel
theorem dL_law_1667 : decode cL_law 1667 = .ok (.if_icmp .eq 5, 3) := by decide +kernel
theorem dL_law_1670 : decode cL_law 1670 = .ok (.iconst 0, 1) := by decide +kernel
theorem dL_law_1671 : decode cL_law 1671 = .ok (.ireturn, 1) := by decide +kernel
theorem dL_law_1672 : decode cL_law 1672 = .ok (.iconst 1, 1) := by decide +kernel
theorem dL_law_1673 : decode cL_law 1673 = .ok (.istore 15, 2) := by decide +kernel
theorem dL_law_1675 : decode cL_law 1675 = .ok (.iload 15, 2) := by decide +kernel
theorem dL_law_1677 : decode cL_law 1677 = .ok (.iload 4, 2) := by decide +kernel
theorem dL_law_1679 : decode cL_law 1679 = .ok (.if_icmp .ge 84, 3) := by decide +kernel
theorem dL_law_1682 : decode cL_law 1682 = .ok (.aload_n 1, 1) := by decide +kernel
theorem dL_law_1683 : decode cL_law 1683 = .ok (.iload 15, 2) := by decide +kernel
theorem dL_law_1685 : decode cL_law 1685 = .ok (.iconst 1, 1) := by decide +kernel
theorem dL_law_1686 : decode cL_law 1686 = .ok (.isub, 1) := by decide +kernel
theorem dL_law_1687 : decode cL_law 1687 = .ok (.invokevirtual 48, 3) := by decide +kernel
theorem dL_law_1690 : decode cL_law 1690 = .ok (.istore 16, 2) := by decide +kernel
theorem dL_law_1692 : decode cL_law 1692 = .ok (.aload_n 1, 1) := by decide +kernel
theorem dL_law_1693 : decode cL_law 1693 = .ok (.iload 15, 2) := by decide +kernel
theorem dL_law_1695 : decode cL_law 1695 = .ok (.invokevirtual 48, 3) := by decide +kernel
theorem dL_law_1698 : decode cL_law 1698 = .ok (.istore 17, 2) := by decide +kernel
theorem dL_law_1700 : decode cL_law 1700 = .ok (.aload_n 1, 1) := by decide +kernel
theorem dL_law_1701 : decode cL_law 1701 = .ok (.iload 16, 2) := by decide +kernel
theorem dL_law_1703 : decode cL_law 1703 = .ok (.invokevirtual 119, 3) := by decide +kernel
theorem dL_law_1706 : decode cL_law 1706 = .ok (.aload_n 1, 1) := by decide +kernel
theorem dL_law_1707 : decode cL_law 1707 = .ok (.iload 17, 2) := by decide +kernel
theorem dL_law_1709 : decode cL_law 1709 = .ok (.invokevirtual 119, 3) := by decide +kernel
theorem dL_law_1712 : decode cL_law 1712 = .ok (.isub, 1) := by decide +kernel
theorem dL_law_1713 : decode cL_law 1713 = .ok (.istore 18, 2) := by decide +kernel
theorem dL_law_1715 : decode cL_law 1715 = .ok (.aload 13, 2) := by decide +kernel
theorem dL_law_1717 : decode cL_law 1717 = .ok (.iload 16, 2) := by decide +kernel
theorem dL_law_1719 : decode cL_law 1719 = .ok (.iaload, 1) := by decide +kernel
theorem dL_law_1720 : decode cL_law 1720 = .ok (.aload 13, 2) := by decide +kernel
theorem dL_law_1722 : decode cL_law 1722 = .ok (.iload 17, 2) := by decide +kernel
theorem dL_law_1724 : decode cL_law 1724 = .ok (.iaload, 1) := by decide +kernel
theorem dL_law_1725 : decode cL_law 1725 = .ok (.isub, 1) := by decide +kernel
theorem dL_law_1726 : decode cL_law 1726 = .ok (.istore 19, 2) := by decide +kernel
theorem dL_law_1728 : decode cL_law 1728 = .ok (.iload 18, 2) := by decide +kernel
theorem dL_law_1730 : decode cL_law 1730 = .ok (.ifCond .lt 25, 3) := by decide +kernel
theorem dL_law_1733 : decode cL_law 1733 = .ok (.iload 18, 2) := by decide +kernel
theorem dL_law_1735 : decode cL_law 1735 = .ok (.ifCond .ne 22, 3) := by decide +kernel
theorem dL_law_1738 : decode cL_law 1738 = .ok (.iload 19, 2) := by decide +kernel
theorem dL_law_1740 : decode cL_law 1740 = .ok (.ifCond .lt 15, 3) := by decide +kernel
theorem dL_law_1743 : decode cL_law 1743 = .ok (.iload 19, 2) := by decide +kernel
theorem dL_law_1745 : decode cL_law 1745 = .ok (.ifCond .ne 12, 3) := by decide +kernel
theorem dL_law_1748 : decode cL_law 1748 = .ok (.iload 16, 2) := by decide +kernel
theorem dL_law_1750 : decode cL_law 1750 = .ok (.iload 17, 2) := by decide +kernel
theorem dL_law_1752 : decode cL_law 1752 = .ok (.if_icmp .le 5, 3) := by decide +kernel
theorem dL_law_1755 : decode cL_law 1755 = .ok (.iconst 0, 1) := by decide +kernel
theorem dL_law_1756 : decode cL_law 1756 = .ok (.ireturn, 1) := by decide +kernel
theorem dL_law_1757 : decode cL_law 1757 = .ok (.iinc 15 1, 3) := by decide +kernel
theorem dL_law_1760 : decode cL_law 1760 = .ok (.goto (-85), 3) := by decide +kernel
theorem dL_law_1763 : decode cL_law 1763 = .ok (.aload_n 1, 1) := by decide +kernel
theorem dL_law_1764 : decode cL_law 1764 = .ok (.aload_n 0, 1) := by decide +kernel
theorem dL_law_1765 : decode cL_law 1765 = .ok (.bipush 100, 2) := by decide +kernel
theorem dL_law_1767 : decode cL_law 1767 = .ok (.iconst 4, 1) := by decide +kernel
theorem dL_law_1768 : decode cL_law 1768 = .ok (.iload_n 2, 1) := by decide +kernel
theorem dL_law_1769 : decode cL_law 1769 = .ok (.imul, 1) := by decide +kernel
theorem dL_law_1770 : decode cL_law 1770 = .ok (.iadd, 1) := by decide +kernel
theorem dL_law_1771 : decode cL_law 1771 = .ok (.invokestatic 84, 3) := by decide +kernel
theorem dL_law_1774 : decode cL_law 1774 = .ok (.iinc 2 1, 3) := by decide +kernel
theorem dL_law_1777 : decode cL_law 1777 = .ok (.goto (-1762), 3) := by decide +kernel
theorem dL_law_1780 : decode cL_law 1780 = .ok (.iconst 1, 1) := by decide +kernel
theorem dL_law_1781 : decode cL_law 1781 = .ok (.ireturn, 1) := by decide +kernel
end
section
theorem dJ5_init_d00df_0 : decode cJ5_init_d00df 0 = .ok (.aload_n 0, 1) := by decide +kernel
theorem dJ5_init_d00df_1 : decode cJ5_init_d00df 1 = .ok (.invokespecial 3, 3) := by decide +kernel
theorem dJ5_init_d00df_4 : decode cJ5_init_d00df 4 = .ok (.getstatic 18, 3) := by decide +kernel
theorem dJ5_init_d00df_7 : decode cJ5_init_d00df 7 = .ok (.ifCond .eq 18, 3) := by decide +kernel
theorem dJ5_init_d00df_10 : decode cJ5_init_d00df 10 = .ok (.aload_n 0, 1) := by decide +kernel
theorem dJ5_init_d00df_11 : decode cJ5_init_d00df 11 = .ok (.iload_n 1, 1) := by decide +kernel
theorem dJ5_init_d00df_12 : decode cJ5_init_d00df 12 = .ok (.newarray .byte, 2) := by decide +kernel
theorem dJ5_init_d00df_14 : decode cJ5_init_d00df 14 = .ok (.putfield 15, 3) := by decide +kernel
theorem dJ5_init_d00df_17 : decode cJ5_init_d00df 17 = .ok (.aload_n 0, 1) := by decide +kernel
theorem dJ5_init_d00df_18 : decode cJ5_init_d00df 18 = .ok (.iconst 0, 1) := by decide +kernel
theorem dJ5_init_d00df_19 : decode cJ5_init_d00df 19 = .ok (.putfield 22, 3) := by decide +kernel
theorem dJ5_init_d00df_22 : decode cJ5_init_d00df 22 = .ok (.goto 16, 3) := by decide +kernel
theorem dJ5_init_d00df_25 : decode cJ5_init_d00df 25 = .ok (.aload_n 0, 1) := by decide +kernel
theorem dJ5_init_d00df_26 : decode cJ5_init_d00df 26 = .ok (.iload_n 1, 1) := by decide +kernel
theorem dJ5_init_d00df_27 : decode cJ5_init_d00df 27 = .ok (.invokestatic 26, 3) := by decide +kernel
theorem dJ5_init_d00df_30 : decode cJ5_init_d00df 30 = .ok (.putfield 15, 3) := by decide +kernel
theorem dJ5_init_d00df_33 : decode cJ5_init_d00df 33 = .ok (.aload_n 0, 1) := by decide +kernel
theorem dJ5_init_d00df_34 : decode cJ5_init_d00df 34 = .ok (.iconst 1, 1) := by decide +kernel
theorem dJ5_init_d00df_35 : decode cJ5_init_d00df 35 = .ok (.putfield 22, 3) := by decide +kernel
theorem dJ5_init_d00df_38 : decode cJ5_init_d00df 38 = .ok (.return_, 1) := by decide +kernel
theorem dJ5_length_8abf5_0 : decode cJ5_length_8abf5 0 = .ok (.aload_n 0, 1) := by decide +kernel
theorem dJ5_length_8abf5_1 : decode cJ5_length_8abf5 1 = .ok (.getfield 79, 3) := by decide +kernel
theorem dJ5_length_8abf5_4 : decode cJ5_length_8abf5 4 = .ok (.ireturn, 1) := by decide +kernel
theorem dJ5_ensureCapacityInternal_d00df_0 : decode cJ5_ensureCapacityInternal_d00df 0 = .ok (.aload_n 0, 1) := by decide +kernel
theorem dJ5_ensureCapacityInternal_d00df_1 : decode cJ5_ensureCapacityInternal_d00df 1 = .ok (.getfield 15, 3) := by decide +kernel
theorem dJ5_ensureCapacityInternal_d00df_4 : decode cJ5_ensureCapacityInternal_d00df 4 = .ok (.arraylength, 1) := by decide +kernel
theorem dJ5_ensureCapacityInternal_d00df_5 : decode cJ5_ensureCapacityInternal_d00df 5 = .ok (.aload_n 0, 1) := by decide +kernel
theorem dJ5_ensureCapacityInternal_d00df_6 : decode cJ5_ensureCapacityInternal_d00df 6 = .ok (.getfield 22, 3) := by decide +kernel
theorem dJ5_ensureCapacityInternal_d00df_9 : decode cJ5_ensureCapacityInternal_d00df 9 = .ok (.ishr, 1) := by decide +kernel
theorem dJ5_ensureCapacityInternal_d00df_10 : decode cJ5_ensureCapacityInternal_d00df 10 = .ok (.istore_n 2, 1) := by decide +kernel
theorem dJ5_ensureCapacityInternal_d00df_11 : decode cJ5_ensureCapacityInternal_d00df 11 = .ok (.iload_n 1, 1) := by decide +kernel
theorem dJ5_ensureCapacityInternal_d00df_12 : decode cJ5_ensureCapacityInternal_d00df 12 = .ok (.iload_n 2, 1) := by decide +kernel
theorem dJ5_ensureCapacityInternal_d00df_13 : decode cJ5_ensureCapacityInternal_d00df 13 = .ok (.isub, 1) := by decide +kernel
theorem dJ5_ensureCapacityInternal_d00df_14 : decode cJ5_ensureCapacityInternal_d00df 14 = .ok (.ifCond .le 24, 3) := by decide +kernel
theorem dJ5_ensureCapacityInternal_d00df_17 : decode cJ5_ensureCapacityInternal_d00df 17 = .ok (.aload_n 0, 1) := by decide +kernel
theorem dJ5_ensureCapacityInternal_d00df_18 : decode cJ5_ensureCapacityInternal_d00df 18 = .ok (.aload_n 0, 1) := by decide +kernel
theorem dJ5_ensureCapacityInternal_d00df_19 : decode cJ5_ensureCapacityInternal_d00df 19 = .ok (.getfield 15, 3) := by decide +kernel
theorem dJ5_ensureCapacityInternal_d00df_22 : decode cJ5_ensureCapacityInternal_d00df 22 = .ok (.aload_n 0, 1) := by decide +kernel
theorem dJ5_ensureCapacityInternal_d00df_23 : decode cJ5_ensureCapacityInternal_d00df 23 = .ok (.iload_n 1, 1) := by decide +kernel
theorem dJ5_ensureCapacityInternal_d00df_24 : decode cJ5_ensureCapacityInternal_d00df 24 = .ok (.invokevirtual 104, 3) := by decide +kernel
theorem dJ5_ensureCapacityInternal_d00df_27 : decode cJ5_ensureCapacityInternal_d00df 27 = .ok (.aload_n 0, 1) := by decide +kernel
theorem dJ5_ensureCapacityInternal_d00df_28 : decode cJ5_ensureCapacityInternal_d00df 28 = .ok (.getfield 22, 3) := by decide +kernel
theorem dJ5_ensureCapacityInternal_d00df_31 : decode cJ5_ensureCapacityInternal_d00df 31 = .ok (.ishl, 1) := by decide +kernel
theorem dJ5_ensureCapacityInternal_d00df_32 : decode cJ5_ensureCapacityInternal_d00df 32 = .ok (.invokestatic 108, 3) := by decide +kernel
theorem dJ5_ensureCapacityInternal_d00df_35 : decode cJ5_ensureCapacityInternal_d00df 35 = .ok (.putfield 15, 3) := by decide +kernel
theorem dJ5_ensureCapacityInternal_d00df_38 : decode cJ5_ensureCapacityInternal_d00df 38 = .ok (.return_, 1) := by decide +kernel
theorem dJ5_newCapacity_0f7a4_0 : decode cJ5_newCapacity_0f7a4 0 = .ok (.aload_n 0, 1) := by decide +kernel
theorem dJ5_newCapacity_0f7a4_1 : decode cJ5_newCapacity_0f7a4 1 = .ok (.getfield 15, 3) := by decide +kernel
theorem dJ5_newCapacity_0f7a4_4 : decode cJ5_newCapacity_0f7a4 4 = .ok (.arraylength, 1) := by decide +kernel
theorem dJ5_newCapacity_0f7a4_5 : decode cJ5_newCapacity_0f7a4 5 = .ok (.istore_n 2, 1) := by decide +kernel
theorem dJ5_newCapacity_0f7a4_6 : decode cJ5_newCapacity_0f7a4 6 = .ok (.iload_n 1, 1) := by decide +kernel
theorem dJ5_newCapacity_0f7a4_7 : decode cJ5_newCapacity_0f7a4 7 = .ok (.aload_n 0, 1) := by decide +kernel
theorem dJ5_newCapacity_0f7a4_8 : decode cJ5_newCapacity_0f7a4 8 = .ok (.getfield 22, 3) := by decide +kernel
theorem dJ5_newCapacity_0f7a4_11 : decode cJ5_newCapacity_0f7a4 11 = .ok (.ishl, 1) := by decide +kernel
theorem dJ5_newCapacity_0f7a4_12 : decode cJ5_newCapacity_0f7a4 12 = .ok (.istore_n 3, 1) := by decide +kernel
theorem dJ5_newCapacity_0f7a4_13 : decode cJ5_newCapacity_0f7a4 13 = .ok (.iload_n 3, 1) := by decide +kernel
theorem dJ5_newCapacity_0f7a4_14 : decode cJ5_newCapacity_0f7a4 14 = .ok (.iload_n 2, 1) := by decide +kernel
theorem dJ5_newCapacity_0f7a4_15 : decode cJ5_newCapacity_0f7a4 15 = .ok (.isub, 1) := by decide +kernel
theorem dJ5_newCapacity_0f7a4_16 : decode cJ5_newCapacity_0f7a4 16 = .ok (.istore 4, 2) := by decide +kernel
theorem dJ5_newCapacity_0f7a4_18 : decode cJ5_newCapacity_0f7a4 18 = .ok (.iload_n 2, 1) := by decide +kernel
theorem dJ5_newCapacity_0f7a4_19 : decode cJ5_newCapacity_0f7a4 19 = .ok (.iload 4, 2) := by decide +kernel
theorem dJ5_newCapacity_0f7a4_21 : decode cJ5_newCapacity_0f7a4 21 = .ok (.iload_n 2, 1) := by decide +kernel
theorem dJ5_newCapacity_0f7a4_22 : decode cJ5_newCapacity_0f7a4 22 = .ok (.iconst 2, 1) := by decide +kernel
theorem dJ5_newCapacity_0f7a4_23 : decode cJ5_newCapacity_0f7a4 23 = .ok (.aload_n 0, 1) := by decide +kernel
theorem dJ5_newCapacity_0f7a4_24 : decode cJ5_newCapacity_0f7a4 24 = .ok (.getfield 22, 3) := by decide +kernel
theorem dJ5_newCapacity_0f7a4_27 : decode cJ5_newCapacity_0f7a4 27 = .ok (.ishl, 1) := by decide +kernel
theorem dJ5_newCapacity_0f7a4_28 : decode cJ5_newCapacity_0f7a4 28 = .ok (.iadd, 1) := by decide +kernel
theorem dJ5_newCapacity_0f7a4_29 : decode cJ5_newCapacity_0f7a4 29 = .ok (.invokestatic 114, 3) := by decide +kernel
theorem dJ5_newCapacity_0f7a4_32 : decode cJ5_newCapacity_0f7a4 32 = .ok (.istore 5, 2) := by decide +kernel
theorem dJ5_newCapacity_0f7a4_34 : decode cJ5_newCapacity_0f7a4 34 = .ok (.iload 5, 2) := by decide +kernel
theorem dJ5_newCapacity_0f7a4_36 : decode cJ5_newCapacity_0f7a4 36 = .ok (.ldc 39, 2) := by decide +kernel
theorem dJ5_newCapacity_0f7a4_38 : decode cJ5_newCapacity_0f7a4 38 = .ok (.if_icmp .ne 13, 3) := by decide +kernel
theorem dJ5_newCapacity_0f7a4_41 : decode cJ5_newCapacity_0f7a4 41 = .ok (.new 120, 3) := by decide +kernel
theorem dJ5_newCapacity_0f7a4_44 : decode cJ5_newCapacity_0f7a4 44 = .ok (.dup, 1) := by decide +kernel
theorem dJ5_newCapacity_0f7a4_45 : decode cJ5_newCapacity_0f7a4 45 = .ok (.ldc 122, 2) := by decide +kernel
theorem dJ5_newCapacity_0f7a4_47 : decode cJ5_newCapacity_0f7a4 47 = .ok (.invokespecial 124, 3) := by decide +kernel
theorem dJ5_newCapacity_0f7a4_50 : decode cJ5_newCapacity_0f7a4 50 = .ok (.athrow, 1) := by decide +kernel
theorem dJ5_newCapacity_0f7a4_51 : decode cJ5_newCapacity_0f7a4 51 = .ok (.iload 5, 2) := by decide +kernel
theorem dJ5_newCapacity_0f7a4_53 : decode cJ5_newCapacity_0f7a4 53 = .ok (.aload_n 0, 1) := by decide +kernel
theorem dJ5_newCapacity_0f7a4_54 : decode cJ5_newCapacity_0f7a4 54 = .ok (.getfield 22, 3) := by decide +kernel
theorem dJ5_newCapacity_0f7a4_57 : decode cJ5_newCapacity_0f7a4 57 = .ok (.ishr, 1) := by decide +kernel
theorem dJ5_newCapacity_0f7a4_58 : decode cJ5_newCapacity_0f7a4 58 = .ok (.ireturn, 1) := by decide +kernel
theorem dJ5_inflate_da8c8_0 : decode cJ5_inflate_da8c8 0 = .ok (.aload_n 0, 1) := by decide +kernel
theorem dJ5_inflate_da8c8_1 : decode cJ5_inflate_da8c8 1 = .ok (.invokevirtual 83, 3) := by decide +kernel
theorem dJ5_inflate_da8c8_4 : decode cJ5_inflate_da8c8 4 = .ok (.ifCond .ne 4, 3) := by decide +kernel
theorem dJ5_inflate_da8c8_7 : decode cJ5_inflate_da8c8 7 = .ok (.return_, 1) := by decide +kernel
theorem dJ5_inflate_da8c8_8 : decode cJ5_inflate_da8c8 8 = .ok (.aload_n 0, 1) := by decide +kernel
theorem dJ5_inflate_da8c8_9 : decode cJ5_inflate_da8c8 9 = .ok (.getfield 15, 3) := by decide +kernel
theorem dJ5_inflate_da8c8_12 : decode cJ5_inflate_da8c8 12 = .ok (.arraylength, 1) := by decide +kernel
theorem dJ5_inflate_da8c8_13 : decode cJ5_inflate_da8c8 13 = .ok (.invokestatic 26, 3) := by decide +kernel
theorem dJ5_inflate_da8c8_16 : decode cJ5_inflate_da8c8 16 = .ok (.astore_n 1, 1) := by decide +kernel
theorem dJ5_inflate_da8c8_17 : decode cJ5_inflate_da8c8 17 = .ok (.aload_n 0, 1) := by decide +kernel
theorem dJ5_inflate_da8c8_18 : decode cJ5_inflate_da8c8 18 = .ok (.getfield 15, 3) := by decide +kernel
theorem dJ5_inflate_da8c8_21 : decode cJ5_inflate_da8c8 21 = .ok (.iconst 0, 1) := by decide +kernel
theorem dJ5_inflate_da8c8_22 : decode cJ5_inflate_da8c8 22 = .ok (.aload_n 1, 1) := by decide +kernel
theorem dJ5_inflate_da8c8_23 : decode cJ5_inflate_da8c8 23 = .ok (.iconst 0, 1) := by decide +kernel
theorem dJ5_inflate_da8c8_24 : decode cJ5_inflate_da8c8 24 = .ok (.aload_n 0, 1) := by decide +kernel
theorem dJ5_inflate_da8c8_25 : decode cJ5_inflate_da8c8 25 = .ok (.getfield 79, 3) := by decide +kernel
theorem dJ5_inflate_da8c8_28 : decode cJ5_inflate_da8c8 28 = .ok (.invokestatic 125, 3) := by decide +kernel
theorem dJ5_inflate_da8c8_31 : decode cJ5_inflate_da8c8 31 = .ok (.aload_n 0, 1) := by decide +kernel
theorem dJ5_inflate_da8c8_32 : decode cJ5_inflate_da8c8 32 = .ok (.aload_n 1, 1) := by decide +kernel
theorem dJ5_inflate_da8c8_33 : decode cJ5_inflate_da8c8 33 = .ok (.putfield 15, 3) := by decide +kernel
theorem dJ5_inflate_da8c8_36 : decode cJ5_inflate_da8c8 36 = .ok (.aload_n 0, 1) := by decide +kernel
theorem dJ5_inflate_da8c8_37 : decode cJ5_inflate_da8c8 37 = .ok (.iconst 1, 1) := by decide +kernel
theorem dJ5_inflate_da8c8_38 : decode cJ5_inflate_da8c8 38 = .ok (.putfield 22, 3) := by decide +kernel
theorem dJ5_inflate_da8c8_41 : decode cJ5_inflate_da8c8 41 = .ok (.return_, 1) := by decide +kernel
theorem dJ5_setLength_d00df_0 : decode cJ5_setLength_d00df 0 = .ok (.iload_n 1, 1) := by decide +kernel
theorem dJ5_setLength_d00df_1 : decode cJ5_setLength_d00df 1 = .ok (.ifCond .ge 12, 3) := by decide +kernel
theorem dJ5_setLength_d00df_4 : decode cJ5_setLength_d00df 4 = .ok (.new 129, 3) := by decide +kernel
theorem dJ5_setLength_d00df_7 : decode cJ5_setLength_d00df 7 = .ok (.dup, 1) := by decide +kernel
theorem dJ5_setLength_d00df_8 : decode cJ5_setLength_d00df 8 = .ok (.iload_n 1, 1) := by decide +kernel
theorem dJ5_setLength_d00df_9 : decode cJ5_setLength_d00df 9 = .ok (.invokespecial 131, 3) := by decide +kernel
theorem dJ5_setLength_d00df_12 : decode cJ5_setLength_d00df 12 = .ok (.athrow, 1) := by decide +kernel
theorem dJ5_setLength_d00df_13 : decode cJ5_setLength_d00df 13 = .ok (.aload_n 0, 1) := by decide +kernel
theorem dJ5_setLength_d00df_14 : decode cJ5_setLength_d00df 14 = .ok (.iload_n 1, 1) := by decide +kernel
theorem dJ5_setLength_d00df_15 : decode cJ5_setLength_d00df 15 = .ok (.invokevirtual 100, 3) := by decide +kernel
theorem dJ5_setLength_d00df_18 : decode cJ5_setLength_d00df 18 = .ok (.aload_n 0, 1) := by decide +kernel
theorem dJ5_setLength_d00df_19 : decode cJ5_setLength_d00df 19 = .ok (.getfield 79, 3) := by decide +kernel
theorem dJ5_setLength_d00df_22 : decode cJ5_setLength_d00df 22 = .ok (.iload_n 1, 1) := by decide +kernel
theorem dJ5_setLength_d00df_23 : decode cJ5_setLength_d00df 23 = .ok (.if_icmp .ge 40, 3) := by decide +kernel
theorem dJ5_setLength_d00df_26 : decode cJ5_setLength_d00df 26 = .ok (.aload_n 0, 1) := by decide +kernel
theorem dJ5_setLength_d00df_27 : decode cJ5_setLength_d00df 27 = .ok (.invokevirtual 83, 3) := by decide +kernel
theorem dJ5_setLength_d00df_30 : decode cJ5_setLength_d00df 30 = .ok (.ifCond .eq 18, 3) := by decide +kernel
theorem dJ5_setLength_d00df_33 : decode cJ5_setLength_d00df 33 = .ok (.aload_n 0, 1) := by decide +kernel
theorem dJ5_setLength_d00df_34 : decode cJ5_setLength_d00df 34 = .ok (.getfield 15, 3) := by decide +kernel
theorem dJ5_setLength_d00df_37 : decode cJ5_setLength_d00df 37 = .ok (.aload_n 0, 1) := by decide +kernel
theorem dJ5_setLength_d00df_38 : decode cJ5_setLength_d00df 38 = .ok (.getfield 79, 3) := by decide +kernel
theorem dJ5_setLength_d00df_41 : decode cJ5_setLength_d00df 41 = .ok (.iload_n 1, 1) := by decide +kernel
theorem dJ5_setLength_d00df_42 : decode cJ5_setLength_d00df 42 = .ok (.invokestatic 133, 3) := by decide +kernel
theorem dJ5_setLength_d00df_45 : decode cJ5_setLength_d00df 45 = .ok (.goto 31, 3) := by decide +kernel
theorem dJ5_setLength_d00df_48 : decode cJ5_setLength_d00df 48 = .ok (.aload_n 0, 1) := by decide +kernel
theorem dJ5_setLength_d00df_49 : decode cJ5_setLength_d00df 49 = .ok (.getfield 15, 3) := by decide +kernel
theorem dJ5_setLength_d00df_52 : decode cJ5_setLength_d00df 52 = .ok (.aload_n 0, 1) := by decide +kernel
theorem dJ5_setLength_d00df_53 : decode cJ5_setLength_d00df 53 = .ok (.getfield 79, 3) := by decide +kernel
theorem dJ5_setLength_d00df_56 : decode cJ5_setLength_d00df 56 = .ok (.iload_n 1, 1) := by decide +kernel
theorem dJ5_setLength_d00df_57 : decode cJ5_setLength_d00df 57 = .ok (.invokestatic 137, 3) := by decide +kernel
theorem dJ5_setLength_d00df_60 : decode cJ5_setLength_d00df 60 = .ok (.goto 16, 3) := by decide +kernel
theorem dJ5_setLength_d00df_63 : decode cJ5_setLength_d00df 63 = .ok (.aload_n 0, 1) := by decide +kernel
theorem dJ5_setLength_d00df_64 : decode cJ5_setLength_d00df 64 = .ok (.getfield 79, 3) := by decide +kernel
theorem dJ5_setLength_d00df_67 : decode cJ5_setLength_d00df 67 = .ok (.iload_n 1, 1) := by decide +kernel
theorem dJ5_setLength_d00df_68 : decode cJ5_setLength_d00df 68 = .ok (.if_icmp .le 8, 3) := by decide +kernel
theorem dJ5_setLength_d00df_71 : decode cJ5_setLength_d00df 71 = .ok (.aload_n 0, 1) := by decide +kernel
theorem dJ5_setLength_d00df_72 : decode cJ5_setLength_d00df 72 = .ok (.iconst 1, 1) := by decide +kernel
theorem dJ5_setLength_d00df_73 : decode cJ5_setLength_d00df 73 = .ok (.putfield 73, 3) := by decide +kernel
theorem dJ5_setLength_d00df_76 : decode cJ5_setLength_d00df 76 = .ok (.aload_n 0, 1) := by decide +kernel
theorem dJ5_setLength_d00df_77 : decode cJ5_setLength_d00df 77 = .ok (.iload_n 1, 1) := by decide +kernel
theorem dJ5_setLength_d00df_78 : decode cJ5_setLength_d00df 78 = .ok (.putfield 79, 3) := by decide +kernel
theorem dJ5_setLength_d00df_81 : decode cJ5_setLength_d00df 81 = .ok (.return_, 1) := by decide +kernel
theorem dJ5_charAt_5068e_0 : decode cJ5_charAt_5068e 0 = .ok (.aload_n 0, 1) := by decide +kernel
theorem dJ5_charAt_5068e_1 : decode cJ5_charAt_5068e 1 = .ok (.getfield 22, 3) := by decide +kernel
theorem dJ5_charAt_5068e_4 : decode cJ5_charAt_5068e 4 = .ok (.istore_n 2, 1) := by decide +kernel
theorem dJ5_charAt_5068e_5 : decode cJ5_charAt_5068e 5 = .ok (.aload_n 0, 1) := by decide +kernel
theorem dJ5_charAt_5068e_6 : decode cJ5_charAt_5068e 6 = .ok (.getfield 15, 3) := by decide +kernel
theorem dJ5_charAt_5068e_9 : decode cJ5_charAt_5068e 9 = .ok (.astore_n 3, 1) := by decide +kernel
theorem dJ5_charAt_5068e_10 : decode cJ5_charAt_5068e 10 = .ok (.aload_n 0, 1) := by decide +kernel
theorem dJ5_charAt_5068e_11 : decode cJ5_charAt_5068e 11 = .ok (.getfield 79, 3) := by decide +kernel
theorem dJ5_charAt_5068e_14 : decode cJ5_charAt_5068e 14 = .ok (.aload_n 3, 1) := by decide +kernel
theorem dJ5_charAt_5068e_15 : decode cJ5_charAt_5068e 15 = .ok (.arraylength, 1) := by decide +kernel
theorem dJ5_charAt_5068e_16 : decode cJ5_charAt_5068e 16 = .ok (.iload_n 2, 1) := by decide +kernel
theorem dJ5_charAt_5068e_17 : decode cJ5_charAt_5068e 17 = .ok (.ishr, 1) := by decide +kernel
theorem dJ5_charAt_5068e_18 : decode cJ5_charAt_5068e 18 = .ok (.invokestatic 138, 3) := by decide +kernel
theorem dJ5_charAt_5068e_21 : decode cJ5_charAt_5068e 21 = .ok (.istore 4, 2) := by decide +kernel
theorem dJ5_charAt_5068e_23 : decode cJ5_charAt_5068e 23 = .ok (.iload_n 1, 1) := by decide +kernel
theorem dJ5_charAt_5068e_24 : decode cJ5_charAt_5068e 24 = .ok (.iload 4, 2) := by decide +kernel
theorem dJ5_charAt_5068e_26 : decode cJ5_charAt_5068e 26 = .ok (.invokestatic 144, 3) := by decide +kernel
theorem dJ5_charAt_5068e_29 : decode cJ5_charAt_5068e 29 = .ok (.iload_n 2, 1) := by decide +kernel
theorem dJ5_charAt_5068e_30 : decode cJ5_charAt_5068e 30 = .ok (.ifCond .ne 12, 3) := by decide +kernel
theorem dJ5_charAt_5068e_33 : decode cJ5_charAt_5068e 33 = .ok (.aload_n 3, 1) := by decide +kernel
theorem dJ5_charAt_5068e_34 : decode cJ5_charAt_5068e 34 = .ok (.iload_n 1, 1) := by decide +kernel
theorem dJ5_charAt_5068e_35 : decode cJ5_charAt_5068e 35 = .ok (.baload, 1) := by decide +kernel
theorem dJ5_charAt_5068e_36 : decode cJ5_charAt_5068e 36 = .ok (.sipush 255, 3) := by decide +kernel
theorem dJ5_charAt_5068e_39 : decode cJ5_charAt_5068e 39 = .ok (.iand, 1) := by decide +kernel
theorem dJ5_charAt_5068e_40 : decode cJ5_charAt_5068e 40 = .ok (.i2c, 1) := by decide +kernel
theorem dJ5_charAt_5068e_41 : decode cJ5_charAt_5068e 41 = .ok (.ireturn, 1) := by decide +kernel
theorem dJ5_charAt_5068e_42 : decode cJ5_charAt_5068e 42 = .ok (.aload_n 3, 1) := by decide +kernel
theorem dJ5_charAt_5068e_43 : decode cJ5_charAt_5068e 43 = .ok (.iload_n 1, 1) := by decide +kernel
theorem dJ5_charAt_5068e_44 : decode cJ5_charAt_5068e 44 = .ok (.invokestatic 148, 3) := by decide +kernel
theorem dJ5_charAt_5068e_47 : decode cJ5_charAt_5068e 47 = .ok (.ireturn, 1) := by decide +kernel
theorem dJ5_append_cf1ce_0 : decode cJ5_append_cf1ce 0 = .ok (.aload_n 1, 1) := by decide +kernel
theorem dJ5_append_cf1ce_1 : decode cJ5_append_cf1ce 1 = .ok (.ifnonnull 8, 3) := by decide +kernel
theorem dJ5_append_cf1ce_4 : decode cJ5_append_cf1ce 4 = .ok (.aload_n 0, 1) := by decide +kernel
theorem dJ5_append_cf1ce_5 : decode cJ5_append_cf1ce 5 = .ok (.invokevirtual 204, 3) := by decide +kernel
theorem dJ5_append_cf1ce_8 : decode cJ5_append_cf1ce 8 = .ok (.areturn, 1) := by decide +kernel
theorem dJ5_append_cf1ce_9 : decode cJ5_append_cf1ce 9 = .ok (.aload_n 1, 1) := by decide +kernel
theorem dJ5_append_cf1ce_10 : decode cJ5_append_cf1ce 10 = .ok (.invokevirtual 32, 3) := by decide +kernel
theorem dJ5_append_cf1ce_13 : decode cJ5_append_cf1ce 13 = .ok (.istore_n 2, 1) := by decide +kernel
theorem dJ5_append_cf1ce_14 : decode cJ5_append_cf1ce 14 = .ok (.aload_n 0, 1) := by decide +kernel
theorem dJ5_append_cf1ce_15 : decode cJ5_append_cf1ce 15 = .ok (.aload_n 0, 1) := by decide +kernel
theorem dJ5_append_cf1ce_16 : decode cJ5_append_cf1ce 16 = .ok (.getfield 79, 3) := by decide +kernel
theorem dJ5_append_cf1ce_19 : decode cJ5_append_cf1ce 19 = .ok (.iload_n 2, 1) := by decide +kernel
theorem dJ5_append_cf1ce_20 : decode cJ5_append_cf1ce 20 = .ok (.iadd, 1) := by decide +kernel
theorem dJ5_append_cf1ce_21 : decode cJ5_append_cf1ce 21 = .ok (.invokevirtual 100, 3) := by decide +kernel
theorem dJ5_append_cf1ce_24 : decode cJ5_append_cf1ce 24 = .ok (.aload_n 0, 1) := by decide +kernel
theorem dJ5_append_cf1ce_25 : decode cJ5_append_cf1ce 25 = .ok (.aload_n 0, 1) := by decide +kernel
theorem dJ5_append_cf1ce_26 : decode cJ5_append_cf1ce 26 = .ok (.getfield 79, 3) := by decide +kernel
theorem dJ5_append_cf1ce_29 : decode cJ5_append_cf1ce 29 = .ok (.aload_n 1, 1) := by decide +kernel
theorem dJ5_append_cf1ce_30 : decode cJ5_append_cf1ce 30 = .ok (.invokevirtual 208, 3) := by decide +kernel
theorem dJ5_append_cf1ce_33 : decode cJ5_append_cf1ce 33 = .ok (.aload_n 0, 1) := by decide +kernel
theorem dJ5_append_cf1ce_34 : decode cJ5_append_cf1ce 34 = .ok (.dup, 1) := by decide +kernel
theorem dJ5_append_cf1ce_35 : decode cJ5_append_cf1ce 35 = .ok (.getfield 79, 3) := by decide +kernel
theorem dJ5_append_cf1ce_38 : decode cJ5_append_cf1ce 38 = .ok (.iload_n 2, 1) := by decide +kernel
theorem dJ5_append_cf1ce_39 : decode cJ5_append_cf1ce 39 = .ok (.iadd, 1) := by decide +kernel
theorem dJ5_append_cf1ce_40 : decode cJ5_append_cf1ce 40 = .ok (.putfield 79, 3) := by decide +kernel
theorem dJ5_append_cf1ce_43 : decode cJ5_append_cf1ce 43 = .ok (.aload_n 0, 1) := by decide +kernel
theorem dJ5_append_cf1ce_44 : decode cJ5_append_cf1ce 44 = .ok (.areturn, 1) := by decide +kernel
theorem dJ5_appendNull_278bc_0 : decode cJ5_appendNull_278bc 0 = .ok (.aload_n 0, 1) := by decide +kernel
theorem dJ5_appendNull_278bc_1 : decode cJ5_appendNull_278bc 1 = .ok (.aload_n 0, 1) := by decide +kernel
theorem dJ5_appendNull_278bc_2 : decode cJ5_appendNull_278bc 2 = .ok (.getfield 79, 3) := by decide +kernel
theorem dJ5_appendNull_278bc_5 : decode cJ5_appendNull_278bc 5 = .ok (.iconst 4, 1) := by decide +kernel
theorem dJ5_appendNull_278bc_6 : decode cJ5_appendNull_278bc 6 = .ok (.iadd, 1) := by decide +kernel
theorem dJ5_appendNull_278bc_7 : decode cJ5_appendNull_278bc 7 = .ok (.invokevirtual 100, 3) := by decide +kernel
theorem dJ5_appendNull_278bc_10 : decode cJ5_appendNull_278bc 10 = .ok (.aload_n 0, 1) := by decide +kernel
theorem dJ5_appendNull_278bc_11 : decode cJ5_appendNull_278bc 11 = .ok (.getfield 79, 3) := by decide +kernel
theorem dJ5_appendNull_278bc_14 : decode cJ5_appendNull_278bc 14 = .ok (.istore_n 1, 1) := by decide +kernel
theorem dJ5_appendNull_278bc_15 : decode cJ5_appendNull_278bc 15 = .ok (.aload_n 0, 1) := by decide +kernel
theorem dJ5_appendNull_278bc_16 : decode cJ5_appendNull_278bc 16 = .ok (.getfield 15, 3) := by decide +kernel
theorem dJ5_appendNull_278bc_19 : decode cJ5_appendNull_278bc 19 = .ok (.astore_n 2, 1) := by decide +kernel
theorem dJ5_appendNull_278bc_20 : decode cJ5_appendNull_278bc 20 = .ok (.aload_n 0, 1) := by decide +kernel
theorem dJ5_appendNull_278bc_21 : decode cJ5_appendNull_278bc 21 = .ok (.invokevirtual 83, 3) := by decide +kernel
theorem dJ5_appendNull_278bc_24 : decode cJ5_appendNull_278bc 24 = .ok (.ifCond .eq 38, 3) := by decide +kernel
theorem dJ5_appendNull_278bc_27 : decode cJ5_appendNull_278bc 27 = .ok (.aload_n 2, 1) := by decide +kernel
theorem dJ5_appendNull_278bc_28 : decode cJ5_appendNull_278bc 28 = .ok (.iload_n 1, 1) := by decide +kernel
theorem dJ5_appendNull_278bc_29 : decode cJ5_appendNull_278bc 29 = .ok (.iinc 1 1, 3) := by decide +kernel
theorem dJ5_appendNull_278bc_32 : decode cJ5_appendNull_278bc 32 = .ok (.bipush 110, 2) := by decide +kernel
theorem dJ5_appendNull_278bc_34 : decode cJ5_appendNull_278bc 34 = .ok (.bastore, 1) := by decide +kernel
theorem dJ5_appendNull_278bc_35 : decode cJ5_appendNull_278bc 35 = .ok (.aload_n 2, 1) := by decide +kernel
theorem dJ5_appendNull_278bc_36 : decode cJ5_appendNull_278bc 36 = .ok (.iload_n 1, 1) := by decide +kernel
theorem dJ5_appendNull_278bc_37 : decode cJ5_appendNull_278bc 37 = .ok (.iinc 1 1, 3) := by decide +kernel
theorem dJ5_appendNull_278bc_40 : decode cJ5_appendNull_278bc 40 = .ok (.bipush 117, 2) := by decide +kernel
theorem dJ5_appendNull_278bc_42 : decode cJ5_appendNull_278bc 42 = .ok (.bastore, 1) := by decide +kernel
theorem dJ5_appendNull_278bc_43 : decode cJ5_appendNull_278bc 43 = .ok (.aload_n 2, 1) := by decide +kernel
theorem dJ5_appendNull_278bc_44 : decode cJ5_appendNull_278bc 44 = .ok (.iload_n 1, 1) := by decide +kernel
theorem dJ5_appendNull_278bc_45 : decode cJ5_appendNull_278bc 45 = .ok (.iinc 1 1, 3) := by decide +kernel
theorem dJ5_appendNull_278bc_48 : decode cJ5_appendNull_278bc 48 = .ok (.bipush 108, 2) := by decide +kernel
theorem dJ5_appendNull_278bc_50 : decode cJ5_appendNull_278bc 50 = .ok (.bastore, 1) := by decide +kernel
theorem dJ5_appendNull_278bc_51 : decode cJ5_appendNull_278bc 51 = .ok (.aload_n 2, 1) := by decide +kernel
theorem dJ5_appendNull_278bc_52 : decode cJ5_appendNull_278bc 52 = .ok (.iload_n 1, 1) := by decide +kernel
theorem dJ5_appendNull_278bc_53 : decode cJ5_appendNull_278bc 53 = .ok (.iinc 1 1, 3) := by decide +kernel
theorem dJ5_appendNull_278bc_56 : decode cJ5_appendNull_278bc 56 = .ok (.bipush 108, 2) := by decide +kernel
theorem dJ5_appendNull_278bc_58 : decode cJ5_appendNull_278bc 58 = .ok (.bastore, 1) := by decide +kernel
theorem dJ5_appendNull_278bc_59 : decode cJ5_appendNull_278bc 59 = .ok (.goto 17, 3) := by decide +kernel
theorem dJ5_appendNull_278bc_62 : decode cJ5_appendNull_278bc 62 = .ok (.aload_n 2, 1) := by decide +kernel
theorem dJ5_appendNull_278bc_63 : decode cJ5_appendNull_278bc 63 = .ok (.iload_n 1, 1) := by decide +kernel
theorem dJ5_appendNull_278bc_64 : decode cJ5_appendNull_278bc 64 = .ok (.bipush 110, 2) := by decide +kernel
theorem dJ5_appendNull_278bc_66 : decode cJ5_appendNull_278bc 66 = .ok (.bipush 117, 2) := by decide +kernel
theorem dJ5_appendNull_278bc_68 : decode cJ5_appendNull_278bc 68 = .ok (.bipush 108, 2) := by decide +kernel
theorem dJ5_appendNull_278bc_70 : decode cJ5_appendNull_278bc 70 = .ok (.bipush 108, 2) := by decide +kernel
theorem dJ5_appendNull_278bc_72 : decode cJ5_appendNull_278bc 72 = .ok (.invokestatic 226, 3) := by decide +kernel
theorem dJ5_appendNull_278bc_75 : decode cJ5_appendNull_278bc 75 = .ok (.istore_n 1, 1) := by decide +kernel
theorem dJ5_appendNull_278bc_76 : decode cJ5_appendNull_278bc 76 = .ok (.aload_n 0, 1) := by decide +kernel
theorem dJ5_appendNull_278bc_77 : decode cJ5_appendNull_278bc 77 = .ok (.iload_n 1, 1) := by decide +kernel
theorem dJ5_appendNull_278bc_78 : decode cJ5_appendNull_278bc 78 = .ok (.putfield 79, 3) := by decide +kernel
theorem dJ5_appendNull_278bc_81 : decode cJ5_appendNull_278bc 81 = .ok (.aload_n 0, 1) := by decide +kernel
theorem dJ5_appendNull_278bc_82 : decode cJ5_appendNull_278bc 82 = .ok (.areturn, 1) := by decide +kernel
theorem dJ5_append_3fe6f_0 : decode cJ5_append_3fe6f 0 = .ok (.aload_n 0, 1) := by decide +kernel
theorem dJ5_append_3fe6f_1 : decode cJ5_append_3fe6f 1 = .ok (.aload_n 0, 1) := by decide +kernel
theorem dJ5_append_3fe6f_2 : decode cJ5_append_3fe6f 2 = .ok (.getfield 79, 3) := by decide +kernel
theorem dJ5_append_3fe6f_5 : decode cJ5_append_3fe6f 5 = .ok (.iconst 1, 1) := by decide +kernel
theorem dJ5_append_3fe6f_6 : decode cJ5_append_3fe6f 6 = .ok (.iadd, 1) := by decide +kernel
theorem dJ5_append_3fe6f_7 : decode cJ5_append_3fe6f 7 = .ok (.invokevirtual 100, 3) := by decide +kernel
theorem dJ5_append_3fe6f_10 : decode cJ5_append_3fe6f 10 = .ok (.aload_n 0, 1) := by decide +kernel
theorem dJ5_append_3fe6f_11 : decode cJ5_append_3fe6f 11 = .ok (.invokevirtual 83, 3) := by decide +kernel
theorem dJ5_append_3fe6f_14 : decode cJ5_append_3fe6f 14 = .ok (.ifCond .eq 31, 3) := by decide +kernel
theorem dJ5_append_3fe6f_17 : decode cJ5_append_3fe6f 17 = .ok (.iload_n 1, 1) := by decide +kernel
theorem dJ5_append_3fe6f_18 : decode cJ5_append_3fe6f 18 = .ok (.invokestatic 191, 3) := by decide +kernel
theorem dJ5_append_3fe6f_21 : decode cJ5_append_3fe6f 21 = .ok (.ifCond .eq 24, 3) := by decide +kernel
theorem dJ5_append_3fe6f_24 : decode cJ5_append_3fe6f 24 = .ok (.aload_n 0, 1) := by decide +kernel
theorem dJ5_append_3fe6f_25 : decode cJ5_append_3fe6f 25 = .ok (.getfield 15, 3) := by decide +kernel
theorem dJ5_append_3fe6f_28 : decode cJ5_append_3fe6f 28 = .ok (.aload_n 0, 1) := by decide +kernel
theorem dJ5_append_3fe6f_29 : decode cJ5_append_3fe6f 29 = .ok (.dup, 1) := by decide +kernel
theorem dJ5_append_3fe6f_30 : decode cJ5_append_3fe6f 30 = .ok (.getfield 79, 3) := by decide +kernel
theorem dJ5_append_3fe6f_33 : decode cJ5_append_3fe6f 33 = .ok (.dup_x1, 1) := by decide +kernel
theorem dJ5_append_3fe6f_34 : decode cJ5_append_3fe6f 34 = .ok (.iconst 1, 1) := by decide +kernel
theorem dJ5_append_3fe6f_35 : decode cJ5_append_3fe6f 35 = .ok (.iadd, 1) := by decide +kernel
theorem dJ5_append_3fe6f_36 : decode cJ5_append_3fe6f 36 = .ok (.putfield 79, 3) := by decide +kernel
theorem dJ5_append_3fe6f_39 : decode cJ5_append_3fe6f 39 = .ok (.iload_n 1, 1) := by decide +kernel
theorem dJ5_append_3fe6f_40 : decode cJ5_append_3fe6f 40 = .ok (.i2b, 1) := by decide +kernel
theorem dJ5_append_3fe6f_41 : decode cJ5_append_3fe6f 41 = .ok (.bastore, 1) := by decide +kernel
theorem dJ5_append_3fe6f_42 : decode cJ5_append_3fe6f 42 = .ok (.goto 33, 3) := by decide +kernel
theorem dJ5_append_3fe6f_45 : decode cJ5_append_3fe6f 45 = .ok (.aload_n 0, 1) := by decide +kernel
theorem dJ5_append_3fe6f_46 : decode cJ5_append_3fe6f 46 = .ok (.invokevirtual 83, 3) := by decide +kernel
theorem dJ5_append_3fe6f_49 : decode cJ5_append_3fe6f 49 = .ok (.ifCond .eq 7, 3) := by decide +kernel
theorem dJ5_append_3fe6f_52 : decode cJ5_append_3fe6f 52 = .ok (.aload_n 0, 1) := by decide +kernel
theorem dJ5_append_3fe6f_53 : decode cJ5_append_3fe6f 53 = .ok (.invokevirtual 195, 3) := by decide +kernel
theorem dJ5_append_3fe6f_56 : decode cJ5_append_3fe6f 56 = .ok (.aload_n 0, 1) := by decide +kernel
theorem dJ5_append_3fe6f_57 : decode cJ5_append_3fe6f 57 = .ok (.getfield 15, 3) := by decide +kernel
theorem dJ5_append_3fe6f_60 : decode cJ5_append_3fe6f 60 = .ok (.aload_n 0, 1) := by decide +kernel
theorem dJ5_append_3fe6f_61 : decode cJ5_append_3fe6f 61 = .ok (.dup, 1) := by decide +kernel
theorem dJ5_append_3fe6f_62 : decode cJ5_append_3fe6f 62 = .ok (.getfield 79, 3) := by decide +kernel
theorem dJ5_append_3fe6f_65 : decode cJ5_append_3fe6f 65 = .ok (.dup_x1, 1) := by decide +kernel
theorem dJ5_append_3fe6f_66 : decode cJ5_append_3fe6f 66 = .ok (.iconst 1, 1) := by decide +kernel
theorem dJ5_append_3fe6f_67 : decode cJ5_append_3fe6f 67 = .ok (.iadd, 1) := by decide +kernel
theorem dJ5_append_3fe6f_68 : decode cJ5_append_3fe6f 68 = .ok (.putfield 79, 3) := by decide +kernel
theorem dJ5_append_3fe6f_71 : decode cJ5_append_3fe6f 71 = .ok (.iload_n 1, 1) := by decide +kernel
theorem dJ5_append_3fe6f_72 : decode cJ5_append_3fe6f 72 = .ok (.invokestatic 197, 3) := by decide +kernel
theorem dJ5_append_3fe6f_75 : decode cJ5_append_3fe6f 75 = .ok (.aload_n 0, 1) := by decide +kernel
theorem dJ5_append_3fe6f_76 : decode cJ5_append_3fe6f 76 = .ok (.areturn, 1) := by decide +kernel
theorem dJ5_append_c97b9_0 : decode cJ5_append_c97b9 0 = .ok (.aload_n 0, 1) := by decide +kernel
theorem dJ5_append_c97b9_1 : decode cJ5_append_c97b9 1 = .ok (.getfield 79, 3) := by decide +kernel
theorem dJ5_append_c97b9_4 : decode cJ5_append_c97b9 4 = .ok (.istore_n 2, 1) := by decide +kernel
theorem dJ5_append_c97b9_5 : decode cJ5_append_c97b9 5 = .ok (.iload_n 2, 1) := by decide +kernel
theorem dJ5_append_c97b9_6 : decode cJ5_append_c97b9 6 = .ok (.iload_n 1, 1) := by decide +kernel
theorem dJ5_append_c97b9_7 : decode cJ5_append_c97b9 7 = .ok (.invokestatic 245, 3) := by decide +kernel
theorem dJ5_append_c97b9_10 : decode cJ5_append_c97b9 10 = .ok (.iadd, 1) := by decide +kernel
theorem dJ5_append_c97b9_11 : decode cJ5_append_c97b9 11 = .ok (.istore_n 3, 1) := by decide +kernel
theorem dJ5_append_c97b9_12 : decode cJ5_append_c97b9 12 = .ok (.aload_n 0, 1) := by decide +kernel
theorem dJ5_append_c97b9_13 : decode cJ5_append_c97b9 13 = .ok (.iload_n 3, 1) := by decide +kernel
theorem dJ5_append_c97b9_14 : decode cJ5_append_c97b9 14 = .ok (.invokevirtual 100, 3) := by decide +kernel
theorem dJ5_append_c97b9_17 : decode cJ5_append_c97b9 17 = .ok (.aload_n 0, 1) := by decide +kernel
theorem dJ5_append_c97b9_18 : decode cJ5_append_c97b9 18 = .ok (.invokevirtual 83, 3) := by decide +kernel
theorem dJ5_append_c97b9_21 : decode cJ5_append_c97b9 21 = .ok (.ifCond .eq 16, 3) := by decide +kernel
theorem dJ5_append_c97b9_24 : decode cJ5_append_c97b9 24 = .ok (.iload_n 1, 1) := by decide +kernel
theorem dJ5_append_c97b9_25 : decode cJ5_append_c97b9 25 = .ok (.iload_n 3, 1) := by decide +kernel
theorem dJ5_append_c97b9_26 : decode cJ5_append_c97b9 26 = .ok (.aload_n 0, 1) := by decide +kernel
theorem dJ5_append_c97b9_27 : decode cJ5_append_c97b9 27 = .ok (.getfield 15, 3) := by decide +kernel
theorem dJ5_append_c97b9_30 : decode cJ5_append_c97b9 30 = .ok (.invokestatic 248, 3) := by decide +kernel
theorem dJ5_append_c97b9_33 : decode cJ5_append_c97b9 33 = .ok (.pop, 1) := by decide +kernel
theorem dJ5_append_c97b9_34 : decode cJ5_append_c97b9 34 = .ok (.goto 14, 3) := by decide +kernel
theorem dJ5_append_c97b9_37 : decode cJ5_append_c97b9 37 = .ok (.iload_n 1, 1) := by decide +kernel
theorem dJ5_append_c97b9_38 : decode cJ5_append_c97b9 38 = .ok (.iload_n 2, 1) := by decide +kernel
theorem dJ5_append_c97b9_39 : decode cJ5_append_c97b9 39 = .ok (.iload_n 3, 1) := by decide +kernel
theorem dJ5_append_c97b9_40 : decode cJ5_append_c97b9 40 = .ok (.aload_n 0, 1) := by decide +kernel
theorem dJ5_append_c97b9_41 : decode cJ5_append_c97b9 41 = .ok (.getfield 15, 3) := by decide +kernel
theorem dJ5_append_c97b9_44 : decode cJ5_append_c97b9 44 = .ok (.invokestatic 251, 3) := by decide +kernel
theorem dJ5_append_c97b9_47 : decode cJ5_append_c97b9 47 = .ok (.pop, 1) := by decide +kernel
theorem dJ5_append_c97b9_48 : decode cJ5_append_c97b9 48 = .ok (.aload_n 0, 1) := by decide +kernel
theorem dJ5_append_c97b9_49 : decode cJ5_append_c97b9 49 = .ok (.iload_n 3, 1) := by decide +kernel
theorem dJ5_append_c97b9_50 : decode cJ5_append_c97b9 50 = .ok (.putfield 79, 3) := by decide +kernel
theorem dJ5_append_c97b9_53 : decode cJ5_append_c97b9 53 = .ok (.aload_n 0, 1) := by decide +kernel
theorem dJ5_append_c97b9_54 : decode cJ5_append_c97b9 54 = .ok (.areturn, 1) := by decide +kernel
theorem dJ5_getValue_6d5f1_0 : decode cJ5_getValue_6d5f1 0 = .ok (.aload_n 0, 1) := by decide +kernel
theorem dJ5_getValue_6d5f1_1 : decode cJ5_getValue_6d5f1 1 = .ok (.getfield 15, 3) := by decide +kernel
theorem dJ5_getValue_6d5f1_4 : decode cJ5_getValue_6d5f1 4 = .ok (.areturn, 1) := by decide +kernel
theorem dJ5_isLatin1_aae02_0 : decode cJ5_isLatin1_aae02 0 = .ok (.getstatic 18, 3) := by decide +kernel
theorem dJ5_isLatin1_aae02_3 : decode cJ5_isLatin1_aae02 3 = .ok (.ifCond .eq 14, 3) := by decide +kernel
theorem dJ5_isLatin1_aae02_6 : decode cJ5_isLatin1_aae02 6 = .ok (.aload_n 0, 1) := by decide +kernel
theorem dJ5_isLatin1_aae02_7 : decode cJ5_isLatin1_aae02 7 = .ok (.getfield 22, 3) := by decide +kernel
theorem dJ5_isLatin1_aae02_10 : decode cJ5_isLatin1_aae02 10 = .ok (.ifCond .ne 7, 3) := by decide +kernel
theorem dJ5_isLatin1_aae02_13 : decode cJ5_isLatin1_aae02 13 = .ok (.iconst 1, 1) := by decide +kernel
theorem dJ5_isLatin1_aae02_14 : decode cJ5_isLatin1_aae02 14 = .ok (.goto 4, 3) := by decide +kernel
theorem dJ5_isLatin1_aae02_17 : decode cJ5_isLatin1_aae02 17 = .ok (.iconst 0, 1) := by decide +kernel
theorem dJ5_isLatin1_aae02_18 : decode cJ5_isLatin1_aae02 18 = .ok (.ireturn, 1) := by decide +kernel
theorem dJ5_inflateIfNeededFor_a7421_0 : decode cJ5_inflateIfNeededFor_a7421 0 = .ok (.getstatic 18, 3) := by decide +kernel
theorem dJ5_inflateIfNeededFor_a7421_3 : decode cJ5_inflateIfNeededFor_a7421 3 = .ok (.ifCond .eq 18, 3) := by decide +kernel
theorem dJ5_inflateIfNeededFor_a7421_6 : decode cJ5_inflateIfNeededFor_a7421 6 = .ok (.aload_n 0, 1) := by decide +kernel
theorem dJ5_inflateIfNeededFor_a7421_7 : decode cJ5_inflateIfNeededFor_a7421 7 = .ok (.getfield 22, 3) := by decide +kernel
theorem dJ5_inflateIfNeededFor_a7421_10 : decode cJ5_inflateIfNeededFor_a7421 10 = .ok (.aload_n 1, 1) := by decide +kernel
theorem dJ5_inflateIfNeededFor_a7421_11 : decode cJ5_inflateIfNeededFor_a7421 11 = .ok (.invokevirtual 40, 3) := by decide +kernel
theorem dJ5_inflateIfNeededFor_a7421_14 : decode cJ5_inflateIfNeededFor_a7421 14 = .ok (.if_icmp .eq 7, 3) := by decide +kernel
theorem dJ5_inflateIfNeededFor_a7421_17 : decode cJ5_inflateIfNeededFor_a7421 17 = .ok (.aload_n 0, 1) := by decide +kernel
theorem dJ5_inflateIfNeededFor_a7421_18 : decode cJ5_inflateIfNeededFor_a7421 18 = .ok (.invokevirtual 195, 3) := by decide +kernel
theorem dJ5_inflateIfNeededFor_a7421_21 : decode cJ5_inflateIfNeededFor_a7421 21 = .ok (.return_, 1) := by decide +kernel
theorem dJ5_putStringAt_47b60_0 : decode cJ5_putStringAt_47b60 0 = .ok (.aload_n 0, 1) := by decide +kernel
theorem dJ5_putStringAt_47b60_1 : decode cJ5_putStringAt_47b60 1 = .ok (.aload_n 2, 1) := by decide +kernel
theorem dJ5_putStringAt_47b60_2 : decode cJ5_putStringAt_47b60 2 = .ok (.invokevirtual 397, 3) := by decide +kernel
theorem dJ5_putStringAt_47b60_5 : decode cJ5_putStringAt_47b60 5 = .ok (.aload_n 2, 1) := by decide +kernel
theorem dJ5_putStringAt_47b60_6 : decode cJ5_putStringAt_47b60 6 = .ok (.aload_n 0, 1) := by decide +kernel
theorem dJ5_putStringAt_47b60_7 : decode cJ5_putStringAt_47b60 7 = .ok (.getfield 15, 3) := by decide +kernel
theorem dJ5_putStringAt_47b60_10 : decode cJ5_putStringAt_47b60 10 = .ok (.iload_n 1, 1) := by decide +kernel
theorem dJ5_putStringAt_47b60_11 : decode cJ5_putStringAt_47b60 11 = .ok (.aload_n 0, 1) := by decide +kernel
theorem dJ5_putStringAt_47b60_12 : decode cJ5_putStringAt_47b60 12 = .ok (.getfield 22, 3) := by decide +kernel
theorem dJ5_putStringAt_47b60_15 : decode cJ5_putStringAt_47b60 15 = .ok (.invokevirtual 399, 3) := by decide +kernel
theorem dJ5_putStringAt_47b60_18 : decode cJ5_putStringAt_47b60 18 = .ok (.return_, 1) := by decide +kernel
theorem dJx00060_init_a7421_0 : decode cJx00060_init_a7421 0 = .ok (.aload_n 0, 1) := by decide +kernel
theorem dJx00060_init_a7421_1 : decode cJx00060_init_a7421 1 = .ok (.aload_n 1, 1) := by decide +kernel
theorem dJx00060_init_a7421_2 : decode cJx00060_init_a7421 2 = .ok (.invokespecial 7, 3) := by decide +kernel
theorem dJx00060_init_a7421_5 : decode cJx00060_init_a7421 5 = .ok (.return_, 1) := by decide +kernel
theorem dJx00060_init_d00df_0 : decode cJx00060_init_d00df 0 = .ok (.aload_n 0, 1) := by decide +kernel
theorem dJx00060_init_d00df_1 : decode cJx00060_init_d00df 1 = .ok (.new 10, 3) := by decide +kernel
theorem dJx00060_init_d00df_4 : decode cJx00060_init_d00df 4 = .ok (.dup, 1) := by decide +kernel
theorem dJx00060_init_d00df_5 : decode cJx00060_init_d00df 5 = .ok (.invokespecial 12, 3) := by decide +kernel
theorem dJx00060_init_d00df_8 : decode cJx00060_init_d00df 8 = .ok (.ldc 13, 2) := by decide +kernel
theorem dJx00060_init_d00df_10 : decode cJx00060_init_d00df 10 = .ok (.invokevirtual 15, 3) := by decide +kernel
theorem dJx00060_init_d00df_13 : decode cJx00060_init_d00df 13 = .ok (.iload_n 1, 1) := by decide +kernel
theorem dJx00060_init_d00df_14 : decode cJx00060_init_d00df 14 = .ok (.invokevirtual 19, 3) := by decide +kernel
theorem dJx00060_init_d00df_17 : decode cJx00060_init_d00df 17 = .ok (.invokevirtual 22, 3) := by decide +kernel
theorem dJx00060_init_d00df_20 : decode cJx00060_init_d00df 20 = .ok (.invokespecial 7, 3) := by decide +kernel
theorem dJx00060_init_d00df_23 : decode cJx00060_init_d00df 23 = .ok (.return_, 1) := by decide +kernel
theorem dJ6_getChars_ba4f3_0 : decode cJ6_getChars_ba4f3 0 = .ok (.iload_n 1, 1) := by decide +kernel
theorem dJ6_getChars_ba4f3_1 : decode cJ6_getChars_ba4f3 1 = .ok (.istore 5, 2) := by decide +kernel
theorem dJ6_getChars_ba4f3_3 : decode cJ6_getChars_ba4f3 3 = .ok (.iload_n 0, 1) := by decide +kernel
theorem dJ6_getChars_ba4f3_4 : decode cJ6_getChars_ba4f3 4 = .ok (.ifCond .ge 7, 3) := by decide +kernel
theorem dJ6_getChars_ba4f3_7 : decode cJ6_getChars_ba4f3 7 = .ok (.iconst 1, 1) := by decide +kernel
theorem dJ6_getChars_ba4f3_8 : decode cJ6_getChars_ba4f3 8 = .ok (.goto 4, 3) := by decide +kernel
theorem dJ6_getChars_ba4f3_11 : decode cJ6_getChars_ba4f3 11 = .ok (.iconst 0, 1) := by decide +kernel
theorem dJ6_getChars_ba4f3_12 : decode cJ6_getChars_ba4f3 12 = .ok (.istore 6, 2) := by decide +kernel
theorem dJ6_getChars_ba4f3_14 : decode cJ6_getChars_ba4f3 14 = .ok (.iload 6, 2) := by decide +kernel
theorem dJ6_getChars_ba4f3_16 : decode cJ6_getChars_ba4f3 16 = .ok (.ifCond .ne 6, 3) := by decide +kernel
theorem dJ6_getChars_ba4f3_19 : decode cJ6_getChars_ba4f3 19 = .ok (.iload_n 0, 1) := by decide +kernel
theorem dJ6_getChars_ba4f3_20 : decode cJ6_getChars_ba4f3 20 = .ok (.ineg, 1) := by decide +kernel
theorem dJ6_getChars_ba4f3_21 : decode cJ6_getChars_ba4f3 21 = .ok (.istore_n 0, 1) := by decide +kernel
theorem dJ6_getChars_ba4f3_22 : decode cJ6_getChars_ba4f3 22 = .ok (.iload_n 0, 1) := by decide +kernel
theorem dJ6_getChars_ba4f3_23 : decode cJ6_getChars_ba4f3 23 = .ok (.bipush (-100), 2) := by decide +kernel
theorem dJ6_getChars_ba4f3_25 : decode cJ6_getChars_ba4f3 25 = .ok (.if_icmp .gt 47, 3) := by decide +kernel
theorem dJ6_getChars_ba4f3_28 : decode cJ6_getChars_ba4f3 28 = .ok (.iload_n 0, 1) := by decide +kernel
theorem dJ6_getChars_ba4f3_29 : decode cJ6_getChars_ba4f3 29 = .ok (.bipush 100, 2) := by decide +kernel
theorem dJ6_getChars_ba4f3_31 : decode cJ6_getChars_ba4f3 31 = .ok (.idiv, 1) := by decide +kernel
theorem dJ6_getChars_ba4f3_32 : decode cJ6_getChars_ba4f3 32 = .ok (.istore_n 3, 1) := by decide +kernel
theorem dJ6_getChars_ba4f3_33 : decode cJ6_getChars_ba4f3 33 = .ok (.iload_n 3, 1) := by decide +kernel
theorem dJ6_getChars_ba4f3_34 : decode cJ6_getChars_ba4f3 34 = .ok (.bipush 100, 2) := by decide +kernel
theorem dJ6_getChars_ba4f3_36 : decode cJ6_getChars_ba4f3 36 = .ok (.imul, 1) := by decide +kernel
theorem dJ6_getChars_ba4f3_37 : decode cJ6_getChars_ba4f3 37 = .ok (.iload_n 0, 1) := by decide +kernel
theorem dJ6_getChars_ba4f3_38 : decode cJ6_getChars_ba4f3 38 = .ok (.isub, 1) := by decide +kernel
theorem dJ6_getChars_ba4f3_39 : decode cJ6_getChars_ba4f3 39 = .ok (.istore 4, 2) := by decide +kernel
theorem dJ6_getChars_ba4f3_41 : decode cJ6_getChars_ba4f3 41 = .ok (.iload_n 3, 1) := by decide +kernel
theorem dJ6_getChars_ba4f3_42 : decode cJ6_getChars_ba4f3 42 = .ok (.istore_n 0, 1) := by decide +kernel
theorem dJ6_getChars_ba4f3_43 : decode cJ6_getChars_ba4f3 43 = .ok (.aload_n 2, 1) := by decide +kernel
theorem dJ6_getChars_ba4f3_44 : decode cJ6_getChars_ba4f3 44 = .ok (.iinc 5 (-1), 3) := by decide +kernel
theorem dJ6_getChars_ba4f3_47 : decode cJ6_getChars_ba4f3 47 = .ok (.iload 5, 2) := by decide +kernel
theorem dJ6_getChars_ba4f3_49 : decode cJ6_getChars_ba4f3 49 = .ok (.getstatic 83, 3) := by decide +kernel
theorem dJ6_getChars_ba4f3_52 : decode cJ6_getChars_ba4f3 52 = .ok (.iload 4, 2) := by decide +kernel
theorem dJ6_getChars_ba4f3_54 : decode cJ6_getChars_ba4f3 54 = .ok (.baload, 1) := by decide +kernel
theorem dJ6_getChars_ba4f3_55 : decode cJ6_getChars_ba4f3 55 = .ok (.bastore, 1) := by decide +kernel
theorem dJ6_getChars_ba4f3_56 : decode cJ6_getChars_ba4f3 56 = .ok (.aload_n 2, 1) := by decide +kernel
theorem dJ6_getChars_ba4f3_57 : decode cJ6_getChars_ba4f3 57 = .ok (.iinc 5 (-1), 3) := by decide +kernel
theorem dJ6_getChars_ba4f3_60 : decode cJ6_getChars_ba4f3 60 = .ok (.iload 5, 2) := by decide +kernel
theorem dJ6_getChars_ba4f3_62 : decode cJ6_getChars_ba4f3 62 = .ok (.getstatic 87, 3) := by decide +kernel
theorem dJ6_getChars_ba4f3_65 : decode cJ6_getChars_ba4f3 65 = .ok (.iload 4, 2) := by decide +kernel
theorem dJ6_getChars_ba4f3_67 : decode cJ6_getChars_ba4f3 67 = .ok (.baload, 1) := by decide +kernel
theorem dJ6_getChars_ba4f3_68 : decode cJ6_getChars_ba4f3 68 = .ok (.bastore, 1) := by decide +kernel
theorem dJ6_getChars_ba4f3_69 : decode cJ6_getChars_ba4f3 69 = .ok (.goto (-47), 3) := by decide +kernel
theorem dJ6_getChars_ba4f3_72 : decode cJ6_getChars_ba4f3 72 = .ok (.aload_n 2, 1) := by decide +kernel
theorem dJ6_getChars_ba4f3_73 : decode cJ6_getChars_ba4f3 73 = .ok (.iinc 5 (-1), 3) := by decide +kernel
theorem dJ6_getChars_ba4f3_76 : decode cJ6_getChars_ba4f3 76 = .ok (.iload 5, 2) := by decide +kernel
theorem dJ6_getChars_ba4f3_78 : decode cJ6_getChars_ba4f3 78 = .ok (.getstatic 83, 3) := by decide +kernel
theorem dJ6_getChars_ba4f3_81 : decode cJ6_getChars_ba4f3 81 = .ok (.iload_n 0, 1) := by decide +kernel
theorem dJ6_getChars_ba4f3_82 : decode cJ6_getChars_ba4f3 82 = .ok (.ineg, 1) := by decide +kernel
theorem dJ6_getChars_ba4f3_83 : decode cJ6_getChars_ba4f3 83 = .ok (.baload, 1) := by decide +kernel
theorem dJ6_getChars_ba4f3_84 : decode cJ6_getChars_ba4f3 84 = .ok (.bastore, 1) := by decide +kernel
theorem dJ6_getChars_ba4f3_85 : decode cJ6_getChars_ba4f3 85 = .ok (.iload_n 0, 1) := by decide +kernel
theorem dJ6_getChars_ba4f3_86 : decode cJ6_getChars_ba4f3 86 = .ok (.bipush (-9), 2) := by decide +kernel
theorem dJ6_getChars_ba4f3_88 : decode cJ6_getChars_ba4f3 88 = .ok (.if_icmp .ge 16, 3) := by decide +kernel
theorem dJ6_getChars_ba4f3_91 : decode cJ6_getChars_ba4f3 91 = .ok (.aload_n 2, 1) := by decide +kernel
theorem dJ6_getChars_ba4f3_92 : decode cJ6_getChars_ba4f3 92 = .ok (.iinc 5 (-1), 3) := by decide +kernel
theorem dJ6_getChars_ba4f3_95 : decode cJ6_getChars_ba4f3 95 = .ok (.iload 5, 2) := by decide +kernel
theorem dJ6_getChars_ba4f3_97 : decode cJ6_getChars_ba4f3 97 = .ok (.getstatic 87, 3) := by decide +kernel
theorem dJ6_getChars_ba4f3_100 : decode cJ6_getChars_ba4f3 100 = .ok (.iload_n 0, 1) := by decide +kernel
theorem dJ6_getChars_ba4f3_101 : decode cJ6_getChars_ba4f3 101 = .ok (.ineg, 1) := by decide +kernel
theorem dJ6_getChars_ba4f3_102 : decode cJ6_getChars_ba4f3 102 = .ok (.baload, 1) := by decide +kernel
theorem dJ6_getChars_ba4f3_103 : decode cJ6_getChars_ba4f3 103 = .ok (.bastore, 1) := by decide +kernel
theorem dJ6_getChars_ba4f3_104 : decode cJ6_getChars_ba4f3 104 = .ok (.iload 6, 2) := by decide +kernel
theorem dJ6_getChars_ba4f3_106 : decode cJ6_getChars_ba4f3 106 = .ok (.ifCond .eq 12, 3) := by decide +kernel
theorem dJ6_getChars_ba4f3_109 : decode cJ6_getChars_ba4f3 109 = .ok (.aload_n 2, 1) := by decide +kernel
theorem dJ6_getChars_ba4f3_110 : decode cJ6_getChars_ba4f3 110 = .ok (.iinc 5 (-1), 3) := by decide +kernel
theorem dJ6_getChars_ba4f3_113 : decode cJ6_getChars_ba4f3 113 = .ok (.iload 5, 2) := by decide +kernel
theorem dJ6_getChars_ba4f3_115 : decode cJ6_getChars_ba4f3 115 = .ok (.bipush 45, 2) := by decide +kernel
theorem dJ6_getChars_ba4f3_117 : decode cJ6_getChars_ba4f3 117 = .ok (.bastore, 1) := by decide +kernel
theorem dJ6_getChars_ba4f3_118 : decode cJ6_getChars_ba4f3 118 = .ok (.iload 5, 2) := by decide +kernel
theorem dJ6_getChars_ba4f3_120 : decode cJ6_getChars_ba4f3 120 = .ok (.ireturn, 1) := by decide +kernel
theorem dJ6_stringSize_0f7a4_0 : decode cJ6_stringSize_0f7a4 0 = .ok (.iconst 1, 1) := by decide +kernel
theorem dJ6_stringSize_0f7a4_1 : decode cJ6_stringSize_0f7a4 1 = .ok (.istore_n 1, 1) := by decide +kernel
theorem dJ6_stringSize_0f7a4_2 : decode cJ6_stringSize_0f7a4 2 = .ok (.iload_n 0, 1) := by decide +kernel
theorem dJ6_stringSize_0f7a4_3 : decode cJ6_stringSize_0f7a4 3 = .ok (.ifCond .lt 8, 3) := by decide +kernel
theorem dJ6_stringSize_0f7a4_6 : decode cJ6_stringSize_0f7a4 6 = .ok (.iconst 0, 1) := by decide +kernel
theorem dJ6_stringSize_0f7a4_7 : decode cJ6_stringSize_0f7a4 7 = .ok (.istore_n 1, 1) := by decide +kernel
theorem dJ6_stringSize_0f7a4_8 : decode cJ6_stringSize_0f7a4 8 = .ok (.iload_n 0, 1) := by decide +kernel
theorem dJ6_stringSize_0f7a4_9 : decode cJ6_stringSize_0f7a4 9 = .ok (.ineg, 1) := by decide +kernel
theorem dJ6_stringSize_0f7a4_10 : decode cJ6_stringSize_0f7a4 10 = .ok (.istore_n 0, 1) := by decide +kernel
theorem dJ6_stringSize_0f7a4_11 : decode cJ6_stringSize_0f7a4 11 = .ok (.bipush (-10), 2) := by decide +kernel
theorem dJ6_stringSize_0f7a4_13 : decode cJ6_stringSize_0f7a4 13 = .ok (.istore_n 2, 1) := by decide +kernel
theorem dJ6_stringSize_0f7a4_14 : decode cJ6_stringSize_0f7a4 14 = .ok (.iconst 1, 1) := by decide +kernel
theorem dJ6_stringSize_0f7a4_15 : decode cJ6_stringSize_0f7a4 15 = .ok (.istore_n 3, 1) := by decide +kernel
theorem dJ6_stringSize_0f7a4_16 : decode cJ6_stringSize_0f7a4 16 = .ok (.iload_n 3, 1) := by decide +kernel
theorem dJ6_stringSize_0f7a4_17 : decode cJ6_stringSize_0f7a4 17 = .ok (.bipush 10, 2) := by decide +kernel
theorem dJ6_stringSize_0f7a4_19 : decode cJ6_stringSize_0f7a4 19 = .ok (.if_icmp .ge 23, 3) := by decide +kernel
theorem dJ6_stringSize_0f7a4_22 : decode cJ6_stringSize_0f7a4 22 = .ok (.iload_n 0, 1) := by decide +kernel
theorem dJ6_stringSize_0f7a4_23 : decode cJ6_stringSize_0f7a4 23 = .ok (.iload_n 2, 1) := by decide +kernel
theorem dJ6_stringSize_0f7a4_24 : decode cJ6_stringSize_0f7a4 24 = .ok (.if_icmp .le 7, 3) := by decide +kernel
theorem dJ6_stringSize_0f7a4_27 : decode cJ6_stringSize_0f7a4 27 = .ok (.iload_n 3, 1) := by decide +kernel
theorem dJ6_stringSize_0f7a4_28 : decode cJ6_stringSize_0f7a4 28 = .ok (.iload_n 1, 1) := by decide +kernel
theorem dJ6_stringSize_0f7a4_29 : decode cJ6_stringSize_0f7a4 29 = .ok (.iadd, 1) := by decide +kernel
theorem dJ6_stringSize_0f7a4_30 : decode cJ6_stringSize_0f7a4 30 = .ok (.ireturn, 1) := by decide +kernel
theorem dJ6_stringSize_0f7a4_31 : decode cJ6_stringSize_0f7a4 31 = .ok (.bipush 10, 2) := by decide +kernel
theorem dJ6_stringSize_0f7a4_33 : decode cJ6_stringSize_0f7a4 33 = .ok (.iload_n 2, 1) := by decide +kernel
theorem dJ6_stringSize_0f7a4_34 : decode cJ6_stringSize_0f7a4 34 = .ok (.imul, 1) := by decide +kernel
theorem dJ6_stringSize_0f7a4_35 : decode cJ6_stringSize_0f7a4 35 = .ok (.istore_n 2, 1) := by decide +kernel
theorem dJ6_stringSize_0f7a4_36 : decode cJ6_stringSize_0f7a4 36 = .ok (.iinc 3 1, 3) := by decide +kernel
theorem dJ6_stringSize_0f7a4_39 : decode cJ6_stringSize_0f7a4 39 = .ok (.goto (-23), 3) := by decide +kernel
theorem dJ6_stringSize_0f7a4_42 : decode cJ6_stringSize_0f7a4 42 = .ok (.bipush 10, 2) := by decide +kernel
theorem dJ6_stringSize_0f7a4_44 : decode cJ6_stringSize_0f7a4 44 = .ok (.iload_n 1, 1) := by decide +kernel
theorem dJ6_stringSize_0f7a4_45 : decode cJ6_stringSize_0f7a4 45 = .ok (.iadd, 1) := by decide +kernel
theorem dJ6_stringSize_0f7a4_46 : decode cJ6_stringSize_0f7a4 46 = .ok (.ireturn, 1) := by decide +kernel
theorem dJ6_numberOfTrailingZeros_0f7a4_0 : decode cJ6_numberOfTrailingZeros_0f7a4 0 = .ok (.iload_n 0, 1) := by decide +kernel
theorem dJ6_numberOfTrailingZeros_0f7a4_1 : decode cJ6_numberOfTrailingZeros_0f7a4 1 = .ok (.iconst (-1), 1) := by decide +kernel
theorem dJ6_numberOfTrailingZeros_0f7a4_2 : decode cJ6_numberOfTrailingZeros_0f7a4 2 = .ok (.ixor, 1) := by decide +kernel
theorem dJ6_numberOfTrailingZeros_0f7a4_3 : decode cJ6_numberOfTrailingZeros_0f7a4 3 = .ok (.iload_n 0, 1) := by decide +kernel
theorem dJ6_numberOfTrailingZeros_0f7a4_4 : decode cJ6_numberOfTrailingZeros_0f7a4 4 = .ok (.iconst 1, 1) := by decide +kernel
theorem dJ6_numberOfTrailingZeros_0f7a4_5 : decode cJ6_numberOfTrailingZeros_0f7a4 5 = .ok (.isub, 1) := by decide +kernel
theorem dJ6_numberOfTrailingZeros_0f7a4_6 : decode cJ6_numberOfTrailingZeros_0f7a4 6 = .ok (.iand, 1) := by decide +kernel
theorem dJ6_numberOfTrailingZeros_0f7a4_7 : decode cJ6_numberOfTrailingZeros_0f7a4 7 = .ok (.istore_n 0, 1) := by decide +kernel
theorem dJ6_numberOfTrailingZeros_0f7a4_8 : decode cJ6_numberOfTrailingZeros_0f7a4 8 = .ok (.iload_n 0, 1) := by decide +kernel
theorem dJ6_numberOfTrailingZeros_0f7a4_9 : decode cJ6_numberOfTrailingZeros_0f7a4 9 = .ok (.ifCond .gt 8, 3) := by decide +kernel
theorem dJ6_numberOfTrailingZeros_0f7a4_12 : decode cJ6_numberOfTrailingZeros_0f7a4 12 = .ok (.iload_n 0, 1) := by decide +kernel
theorem dJ6_numberOfTrailingZeros_0f7a4_13 : decode cJ6_numberOfTrailingZeros_0f7a4 13 = .ok (.bipush 32, 2) := by decide +kernel
theorem dJ6_numberOfTrailingZeros_0f7a4_15 : decode cJ6_numberOfTrailingZeros_0f7a4 15 = .ok (.iand, 1) := by decide +kernel
theorem dJ6_numberOfTrailingZeros_0f7a4_16 : decode cJ6_numberOfTrailingZeros_0f7a4 16 = .ok (.ireturn, 1) := by decide +kernel
theorem dJ6_numberOfTrailingZeros_0f7a4_17 : decode cJ6_numberOfTrailingZeros_0f7a4 17 = .ok (.iconst 1, 1) := by decide +kernel
theorem dJ6_numberOfTrailingZeros_0f7a4_18 : decode cJ6_numberOfTrailingZeros_0f7a4 18 = .ok (.istore_n 1, 1) := by decide +kernel
theorem dJ6_numberOfTrailingZeros_0f7a4_19 : decode cJ6_numberOfTrailingZeros_0f7a4 19 = .ok (.iload_n 0, 1) := by decide +kernel
theorem dJ6_numberOfTrailingZeros_0f7a4_20 : decode cJ6_numberOfTrailingZeros_0f7a4 20 = .ok (.ldc_w 264, 3) := by decide +kernel
theorem dJ6_numberOfTrailingZeros_0f7a4_23 : decode cJ6_numberOfTrailingZeros_0f7a4 23 = .ok (.if_icmp .le 11, 3) := by decide +kernel
theorem dJ6_numberOfTrailingZeros_0f7a4_26 : decode cJ6_numberOfTrailingZeros_0f7a4 26 = .ok (.iinc 1 16, 3) := by decide +kernel
theorem dJ6_numberOfTrailingZeros_0f7a4_29 : decode cJ6_numberOfTrailingZeros_0f7a4 29 = .ok (.iload_n 0, 1) := by decide +kernel
theorem dJ6_numberOfTrailingZeros_0f7a4_30 : decode cJ6_numberOfTrailingZeros_0f7a4 30 = .ok (.bipush 16, 2) := by decide +kernel
theorem dJ6_numberOfTrailingZeros_0f7a4_32 : decode cJ6_numberOfTrailingZeros_0f7a4 32 = .ok (.iushr, 1) := by decide +kernel
theorem dJ6_numberOfTrailingZeros_0f7a4_33 : decode cJ6_numberOfTrailingZeros_0f7a4 33 = .ok (.istore_n 0, 1) := by decide +kernel
theorem dJ6_numberOfTrailingZeros_0f7a4_34 : decode cJ6_numberOfTrailingZeros_0f7a4 34 = .ok (.iload_n 0, 1) := by decide +kernel
theorem dJ6_numberOfTrailingZeros_0f7a4_35 : decode cJ6_numberOfTrailingZeros_0f7a4 35 = .ok (.sipush 256, 3) := by decide +kernel
theorem dJ6_numberOfTrailingZeros_0f7a4_38 : decode cJ6_numberOfTrailingZeros_0f7a4 38 = .ok (.if_icmp .le 11, 3) := by decide +kernel
theorem dJ6_numberOfTrailingZeros_0f7a4_41 : decode cJ6_numberOfTrailingZeros_0f7a4 41 = .ok (.iinc 1 8, 3) := by decide +kernel
theorem dJ6_numberOfTrailingZeros_0f7a4_44 : decode cJ6_numberOfTrailingZeros_0f7a4 44 = .ok (.iload_n 0, 1) := by decide +kernel
theorem dJ6_numberOfTrailingZeros_0f7a4_45 : decode cJ6_numberOfTrailingZeros_0f7a4 45 = .ok (.bipush 8, 2) := by decide +kernel
theorem dJ6_numberOfTrailingZeros_0f7a4_47 : decode cJ6_numberOfTrailingZeros_0f7a4 47 = .ok (.iushr, 1) := by decide +kernel
theorem dJ6_numberOfTrailingZeros_0f7a4_48 : decode cJ6_numberOfTrailingZeros_0f7a4 48 = .ok (.istore_n 0, 1) := by decide +kernel
theorem dJ6_numberOfTrailingZeros_0f7a4_49 : decode cJ6_numberOfTrailingZeros_0f7a4 49 = .ok (.iload_n 0, 1) := by decide +kernel
theorem dJ6_numberOfTrailingZeros_0f7a4_50 : decode cJ6_numberOfTrailingZeros_0f7a4 50 = .ok (.bipush 16, 2) := by decide +kernel
theorem dJ6_numberOfTrailingZeros_0f7a4_52 : decode cJ6_numberOfTrailingZeros_0f7a4 52 = .ok (.if_icmp .le 10, 3) := by decide +kernel
theorem dJ6_numberOfTrailingZeros_0f7a4_55 : decode cJ6_numberOfTrailingZeros_0f7a4 55 = .ok (.iinc 1 4, 3) := by decide +kernel
theorem dJ6_numberOfTrailingZeros_0f7a4_58 : decode cJ6_numberOfTrailingZeros_0f7a4 58 = .ok (.iload_n 0, 1) := by decide +kernel
theorem dJ6_numberOfTrailingZeros_0f7a4_59 : decode cJ6_numberOfTrailingZeros_0f7a4 59 = .ok (.iconst 4, 1) := by decide +kernel
theorem dJ6_numberOfTrailingZeros_0f7a4_60 : decode cJ6_numberOfTrailingZeros_0f7a4 60 = .ok (.iushr, 1) := by decide +kernel
theorem dJ6_numberOfTrailingZeros_0f7a4_61 : decode cJ6_numberOfTrailingZeros_0f7a4 61 = .ok (.istore_n 0, 1) := by decide +kernel
theorem dJ6_numberOfTrailingZeros_0f7a4_62 : decode cJ6_numberOfTrailingZeros_0f7a4 62 = .ok (.iload_n 0, 1) := by decide +kernel
theorem dJ6_numberOfTrailingZeros_0f7a4_63 : decode cJ6_numberOfTrailingZeros_0f7a4 63 = .ok (.iconst 4, 1) := by decide +kernel
theorem dJ6_numberOfTrailingZeros_0f7a4_64 : decode cJ6_numberOfTrailingZeros_0f7a4 64 = .ok (.if_icmp .le 10, 3) := by decide +kernel
theorem dJ6_numberOfTrailingZeros_0f7a4_67 : decode cJ6_numberOfTrailingZeros_0f7a4 67 = .ok (.iinc 1 2, 3) := by decide +kernel
theorem dJ6_numberOfTrailingZeros_0f7a4_70 : decode cJ6_numberOfTrailingZeros_0f7a4 70 = .ok (.iload_n 0, 1) := by decide +kernel
theorem dJ6_numberOfTrailingZeros_0f7a4_71 : decode cJ6_numberOfTrailingZeros_0f7a4 71 = .ok (.iconst 2, 1) := by decide +kernel
theorem dJ6_numberOfTrailingZeros_0f7a4_72 : decode cJ6_numberOfTrailingZeros_0f7a4 72 = .ok (.iushr, 1) := by decide +kernel
theorem dJ6_numberOfTrailingZeros_0f7a4_73 : decode cJ6_numberOfTrailingZeros_0f7a4 73 = .ok (.istore_n 0, 1) := by decide +kernel
theorem dJ6_numberOfTrailingZeros_0f7a4_74 : decode cJ6_numberOfTrailingZeros_0f7a4 74 = .ok (.iload_n 1, 1) := by decide +kernel
theorem dJ6_numberOfTrailingZeros_0f7a4_75 : decode cJ6_numberOfTrailingZeros_0f7a4 75 = .ok (.iload_n 0, 1) := by decide +kernel
theorem dJ6_numberOfTrailingZeros_0f7a4_76 : decode cJ6_numberOfTrailingZeros_0f7a4 76 = .ok (.iconst 1, 1) := by decide +kernel
theorem dJ6_numberOfTrailingZeros_0f7a4_77 : decode cJ6_numberOfTrailingZeros_0f7a4 77 = .ok (.iushr, 1) := by decide +kernel
theorem dJ6_numberOfTrailingZeros_0f7a4_78 : decode cJ6_numberOfTrailingZeros_0f7a4 78 = .ok (.iadd, 1) := by decide +kernel
theorem dJ6_numberOfTrailingZeros_0f7a4_79 : decode cJ6_numberOfTrailingZeros_0f7a4 79 = .ok (.ireturn, 1) := by decide +kernel
theorem dJ6_bitCount_0f7a4_0 : decode cJ6_bitCount_0f7a4 0 = .ok (.iload_n 0, 1) := by decide +kernel
theorem dJ6_bitCount_0f7a4_1 : decode cJ6_bitCount_0f7a4 1 = .ok (.iload_n 0, 1) := by decide +kernel
theorem dJ6_bitCount_0f7a4_2 : decode cJ6_bitCount_0f7a4 2 = .ok (.iconst 1, 1) := by decide +kernel
theorem dJ6_bitCount_0f7a4_3 : decode cJ6_bitCount_0f7a4 3 = .ok (.iushr, 1) := by decide +kernel
theorem dJ6_bitCount_0f7a4_4 : decode cJ6_bitCount_0f7a4 4 = .ok (.ldc_w 265, 3) := by decide +kernel
theorem dJ6_bitCount_0f7a4_7 : decode cJ6_bitCount_0f7a4 7 = .ok (.iand, 1) := by decide +kernel
theorem dJ6_bitCount_0f7a4_8 : decode cJ6_bitCount_0f7a4 8 = .ok (.isub, 1) := by decide +kernel
theorem dJ6_bitCount_0f7a4_9 : decode cJ6_bitCount_0f7a4 9 = .ok (.istore_n 0, 1) := by decide +kernel
theorem dJ6_bitCount_0f7a4_10 : decode cJ6_bitCount_0f7a4 10 = .ok (.iload_n 0, 1) := by decide +kernel
theorem dJ6_bitCount_0f7a4_11 : decode cJ6_bitCount_0f7a4 11 = .ok (.ldc_w 266, 3) := by decide +kernel
theorem dJ6_bitCount_0f7a4_14 : decode cJ6_bitCount_0f7a4 14 = .ok (.iand, 1) := by decide +kernel
theorem dJ6_bitCount_0f7a4_15 : decode cJ6_bitCount_0f7a4 15 = .ok (.iload_n 0, 1) := by decide +kernel
theorem dJ6_bitCount_0f7a4_16 : decode cJ6_bitCount_0f7a4 16 = .ok (.iconst 2, 1) := by decide +kernel
theorem dJ6_bitCount_0f7a4_17 : decode cJ6_bitCount_0f7a4 17 = .ok (.iushr, 1) := by decide +kernel
theorem dJ6_bitCount_0f7a4_18 : decode cJ6_bitCount_0f7a4 18 = .ok (.ldc_w 266, 3) := by decide +kernel
theorem dJ6_bitCount_0f7a4_21 : decode cJ6_bitCount_0f7a4 21 = .ok (.iand, 1) := by decide +kernel
theorem dJ6_bitCount_0f7a4_22 : decode cJ6_bitCount_0f7a4 22 = .ok (.iadd, 1) := by decide +kernel
theorem dJ6_bitCount_0f7a4_23 : decode cJ6_bitCount_0f7a4 23 = .ok (.istore_n 0, 1) := by decide +kernel
theorem dJ6_bitCount_0f7a4_24 : decode cJ6_bitCount_0f7a4 24 = .ok (.iload_n 0, 1) := by decide +kernel
theorem dJ6_bitCount_0f7a4_25 : decode cJ6_bitCount_0f7a4 25 = .ok (.iload_n 0, 1) := by decide +kernel
theorem dJ6_bitCount_0f7a4_26 : decode cJ6_bitCount_0f7a4 26 = .ok (.iconst 4, 1) := by decide +kernel
theorem dJ6_bitCount_0f7a4_27 : decode cJ6_bitCount_0f7a4 27 = .ok (.iushr, 1) := by decide +kernel
theorem dJ6_bitCount_0f7a4_28 : decode cJ6_bitCount_0f7a4 28 = .ok (.iadd, 1) := by decide +kernel
theorem dJ6_bitCount_0f7a4_29 : decode cJ6_bitCount_0f7a4 29 = .ok (.ldc_w 267, 3) := by decide +kernel
theorem dJ6_bitCount_0f7a4_32 : decode cJ6_bitCount_0f7a4 32 = .ok (.iand, 1) := by decide +kernel
theorem dJ6_bitCount_0f7a4_33 : decode cJ6_bitCount_0f7a4 33 = .ok (.istore_n 0, 1) := by decide +kernel
theorem dJ6_bitCount_0f7a4_34 : decode cJ6_bitCount_0f7a4 34 = .ok (.iload_n 0, 1) := by decide +kernel
theorem dJ6_bitCount_0f7a4_35 : decode cJ6_bitCount_0f7a4 35 = .ok (.iload_n 0, 1) := by decide +kernel
theorem dJ6_bitCount_0f7a4_36 : decode cJ6_bitCount_0f7a4 36 = .ok (.bipush 8, 2) := by decide +kernel
theorem dJ6_bitCount_0f7a4_38 : decode cJ6_bitCount_0f7a4 38 = .ok (.iushr, 1) := by decide +kernel
theorem dJ6_bitCount_0f7a4_39 : decode cJ6_bitCount_0f7a4 39 = .ok (.iadd, 1) := by decide +kernel
theorem dJ6_bitCount_0f7a4_40 : decode cJ6_bitCount_0f7a4 40 = .ok (.istore_n 0, 1) := by decide +kernel
theorem dJ6_bitCount_0f7a4_41 : decode cJ6_bitCount_0f7a4 41 = .ok (.iload_n 0, 1) := by decide +kernel
theorem dJ6_bitCount_0f7a4_42 : decode cJ6_bitCount_0f7a4 42 = .ok (.iload_n 0, 1) := by decide +kernel
theorem dJ6_bitCount_0f7a4_43 : decode cJ6_bitCount_0f7a4 43 = .ok (.bipush 16, 2) := by decide +kernel
theorem dJ6_bitCount_0f7a4_45 : decode cJ6_bitCount_0f7a4 45 = .ok (.iushr, 1) := by decide +kernel
theorem dJ6_bitCount_0f7a4_46 : decode cJ6_bitCount_0f7a4 46 = .ok (.iadd, 1) := by decide +kernel
theorem dJ6_bitCount_0f7a4_47 : decode cJ6_bitCount_0f7a4 47 = .ok (.istore_n 0, 1) := by decide +kernel
theorem dJ6_bitCount_0f7a4_48 : decode cJ6_bitCount_0f7a4 48 = .ok (.iload_n 0, 1) := by decide +kernel
theorem dJ6_bitCount_0f7a4_49 : decode cJ6_bitCount_0f7a4 49 = .ok (.bipush 63, 2) := by decide +kernel
theorem dJ6_bitCount_0f7a4_51 : decode cJ6_bitCount_0f7a4 51 = .ok (.iand, 1) := by decide +kernel
theorem dJ6_bitCount_0f7a4_52 : decode cJ6_bitCount_0f7a4 52 = .ok (.ireturn, 1) := by decide +kernel
theorem dJ9_max_7cf53_0 : decode cJ9_max_7cf53 0 = .ok (.iload_n 0, 1) := by decide +kernel
theorem dJ9_max_7cf53_1 : decode cJ9_max_7cf53 1 = .ok (.iload_n 1, 1) := by decide +kernel
theorem dJ9_max_7cf53_2 : decode cJ9_max_7cf53 2 = .ok (.if_icmp .lt 7, 3) := by decide +kernel
theorem dJ9_max_7cf53_5 : decode cJ9_max_7cf53 5 = .ok (.iload_n 0, 1) := by decide +kernel
theorem dJ9_max_7cf53_6 : decode cJ9_max_7cf53 6 = .ok (.goto 4, 3) := by decide +kernel
theorem dJ9_max_7cf53_9 : decode cJ9_max_7cf53 9 = .ok (.iload_n 1, 1) := by decide +kernel
theorem dJ9_max_7cf53_10 : decode cJ9_max_7cf53 10 = .ok (.ireturn, 1) := by decide +kernel
theorem dJ9_min_7cf53_0 : decode cJ9_min_7cf53 0 = .ok (.iload_n 0, 1) := by decide +kernel
theorem dJ9_min_7cf53_1 : decode cJ9_min_7cf53 1 = .ok (.iload_n 1, 1) := by decide +kernel
theorem dJ9_min_7cf53_2 : decode cJ9_min_7cf53 2 = .ok (.if_icmp .gt 7, 3) := by decide +kernel
theorem dJ9_min_7cf53_5 : decode cJ9_min_7cf53 5 = .ok (.iload_n 0, 1) := by decide +kernel
theorem dJ9_min_7cf53_6 : decode cJ9_min_7cf53 6 = .ok (.goto 4, 3) := by decide +kernel
theorem dJ9_min_7cf53_9 : decode cJ9_min_7cf53 9 = .ok (.iload_n 1, 1) := by decide +kernel
theorem dJ9_min_7cf53_10 : decode cJ9_min_7cf53 10 = .ok (.ireturn, 1) := by decide +kernel
theorem dJ0_init_81219_0 : decode cJ0_init_81219 0 = .ok (.aload_n 0, 1) := by decide +kernel
theorem dJ0_init_81219_1 : decode cJ0_init_81219 1 = .ok (.aload_n 1, 1) := by decide +kernel
theorem dJ0_init_81219_2 : decode cJ0_init_81219 2 = .ok (.aconst_null, 1) := by decide +kernel
theorem dJ0_init_81219_3 : decode cJ0_init_81219 3 = .ok (.invokespecial 489, 3) := by decide +kernel
theorem dJ0_init_81219_6 : decode cJ0_init_81219 6 = .ok (.return_, 1) := by decide +kernel
theorem dJ0_length_8abf5_0 : decode cJ0_length_8abf5 0 = .ok (.aload_n 0, 1) := by decide +kernel
theorem dJ0_length_8abf5_1 : decode cJ0_length_8abf5 1 = .ok (.getfield 9, 3) := by decide +kernel
theorem dJ0_length_8abf5_4 : decode cJ0_length_8abf5 4 = .ok (.arraylength, 1) := by decide +kernel
theorem dJ0_length_8abf5_5 : decode cJ0_length_8abf5 5 = .ok (.aload_n 0, 1) := by decide +kernel
theorem dJ0_length_8abf5_6 : decode cJ0_length_8abf5 6 = .ok (.invokevirtual 335, 3) := by decide +kernel
theorem dJ0_length_8abf5_9 : decode cJ0_length_8abf5 9 = .ok (.ishr, 1) := by decide +kernel
theorem dJ0_length_8abf5_10 : decode cJ0_length_8abf5 10 = .ok (.ireturn, 1) := by decide +kernel
theorem dJ0_charAt_5068e_0 : decode cJ0_charAt_5068e 0 = .ok (.aload_n 0, 1) := by decide +kernel
theorem dJ0_charAt_5068e_1 : decode cJ0_charAt_5068e 1 = .ok (.invokevirtual 492, 3) := by decide +kernel
theorem dJ0_charAt_5068e_4 : decode cJ0_charAt_5068e 4 = .ok (.ifCond .eq 12, 3) := by decide +kernel
theorem dJ0_charAt_5068e_7 : decode cJ0_charAt_5068e 7 = .ok (.aload_n 0, 1) := by decide +kernel
theorem dJ0_charAt_5068e_8 : decode cJ0_charAt_5068e 8 = .ok (.getfield 9, 3) := by decide +kernel
theorem dJ0_charAt_5068e_11 : decode cJ0_charAt_5068e 11 = .ok (.iload_n 1, 1) := by decide +kernel
theorem dJ0_charAt_5068e_12 : decode cJ0_charAt_5068e 12 = .ok (.invokestatic 495, 3) := by decide +kernel
theorem dJ0_charAt_5068e_15 : decode cJ0_charAt_5068e 15 = .ok (.ireturn, 1) := by decide +kernel
theorem dJ0_charAt_5068e_16 : decode cJ0_charAt_5068e 16 = .ok (.aload_n 0, 1) := by decide +kernel
theorem dJ0_charAt_5068e_17 : decode cJ0_charAt_5068e 17 = .ok (.getfield 9, 3) := by decide +kernel
theorem dJ0_charAt_5068e_20 : decode cJ0_charAt_5068e 20 = .ok (.iload_n 1, 1) := by decide +kernel
theorem dJ0_charAt_5068e_21 : decode cJ0_charAt_5068e 21 = .ok (.invokestatic 498, 3) := by decide +kernel
theorem dJ0_charAt_5068e_24 : decode cJ0_charAt_5068e 24 = .ok (.ireturn, 1) := by decide +kernel
theorem dJ0_getBytes_840e7_0 : decode cJ0_getBytes_840e7 0 = .ok (.aload_n 0, 1) := by decide +kernel
theorem dJ0_getBytes_840e7_1 : decode cJ0_getBytes_840e7 1 = .ok (.invokevirtual 335, 3) := by decide +kernel
theorem dJ0_getBytes_840e7_4 : decode cJ0_getBytes_840e7 4 = .ok (.iload_n 3, 1) := by decide +kernel
theorem dJ0_getBytes_840e7_5 : decode cJ0_getBytes_840e7 5 = .ok (.if_icmp .ne 23, 3) := by decide +kernel
theorem dJ0_getBytes_840e7_8 : decode cJ0_getBytes_840e7 8 = .ok (.aload_n 0, 1) := by decide +kernel
theorem dJ0_getBytes_840e7_9 : decode cJ0_getBytes_840e7 9 = .ok (.getfield 9, 3) := by decide +kernel
theorem dJ0_getBytes_840e7_12 : decode cJ0_getBytes_840e7 12 = .ok (.iconst 0, 1) := by decide +kernel
theorem dJ0_getBytes_840e7_13 : decode cJ0_getBytes_840e7 13 = .ok (.aload_n 1, 1) := by decide +kernel
theorem dJ0_getBytes_840e7_14 : decode cJ0_getBytes_840e7 14 = .ok (.iload_n 2, 1) := by decide +kernel
theorem dJ0_getBytes_840e7_15 : decode cJ0_getBytes_840e7 15 = .ok (.iload_n 3, 1) := by decide +kernel
theorem dJ0_getBytes_840e7_16 : decode cJ0_getBytes_840e7 16 = .ok (.ishl, 1) := by decide +kernel
theorem dJ0_getBytes_840e7_17 : decode cJ0_getBytes_840e7 17 = .ok (.aload_n 0, 1) := by decide +kernel
theorem dJ0_getBytes_840e7_18 : decode cJ0_getBytes_840e7 18 = .ok (.getfield 9, 3) := by decide +kernel
theorem dJ0_getBytes_840e7_21 : decode cJ0_getBytes_840e7 21 = .ok (.arraylength, 1) := by decide +kernel
theorem dJ0_getBytes_840e7_22 : decode cJ0_getBytes_840e7 22 = .ok (.invokestatic 212, 3) := by decide +kernel
theorem dJ0_getBytes_840e7_25 : decode cJ0_getBytes_840e7 25 = .ok (.goto 18, 3) := by decide +kernel
theorem dJ0_getBytes_840e7_28 : decode cJ0_getBytes_840e7 28 = .ok (.aload_n 0, 1) := by decide +kernel
theorem dJ0_getBytes_840e7_29 : decode cJ0_getBytes_840e7 29 = .ok (.getfield 9, 3) := by decide +kernel
theorem dJ0_getBytes_840e7_32 : decode cJ0_getBytes_840e7 32 = .ok (.iconst 0, 1) := by decide +kernel
theorem dJ0_getBytes_840e7_33 : decode cJ0_getBytes_840e7 33 = .ok (.aload_n 1, 1) := by decide +kernel
theorem dJ0_getBytes_840e7_34 : decode cJ0_getBytes_840e7 34 = .ok (.iload_n 2, 1) := by decide +kernel
theorem dJ0_getBytes_840e7_35 : decode cJ0_getBytes_840e7 35 = .ok (.aload_n 0, 1) := by decide +kernel
theorem dJ0_getBytes_840e7_36 : decode cJ0_getBytes_840e7 36 = .ok (.getfield 9, 3) := by decide +kernel
theorem dJ0_getBytes_840e7_39 : decode cJ0_getBytes_840e7 39 = .ok (.arraylength, 1) := by decide +kernel
theorem dJ0_getBytes_840e7_40 : decode cJ0_getBytes_840e7 40 = .ok (.invokestatic 106, 3) := by decide +kernel
theorem dJ0_getBytes_840e7_43 : decode cJ0_getBytes_840e7 43 = .ok (.return_, 1) := by decide +kernel
theorem dJ0_init_db425_0 : decode cJ0_init_db425 0 = .ok (.aload_n 0, 1) := by decide +kernel
theorem dJ0_init_db425_1 : decode cJ0_init_db425 1 = .ok (.invokespecial 1, 3) := by decide +kernel
theorem dJ0_init_db425_4 : decode cJ0_init_db425 4 = .ok (.aload_n 1, 1) := by decide +kernel
theorem dJ0_init_db425_5 : decode cJ0_init_db425 5 = .ok (.invokevirtual 552, 3) := by decide +kernel
theorem dJ0_init_db425_8 : decode cJ0_init_db425 8 = .ok (.astore_n 3, 1) := by decide +kernel
theorem dJ0_init_db425_9 : decode cJ0_init_db425 9 = .ok (.aload_n 1, 1) := by decide +kernel
theorem dJ0_init_db425_10 : decode cJ0_init_db425 10 = .ok (.invokevirtual 549, 3) := by decide +kernel
theorem dJ0_init_db425_13 : decode cJ0_init_db425 13 = .ok (.istore 4, 2) := by decide +kernel
theorem dJ0_init_db425_15 : decode cJ0_init_db425 15 = .ok (.aload_n 1, 1) := by decide +kernel
theorem dJ0_init_db425_16 : decode cJ0_init_db425 16 = .ok (.invokevirtual 1047, 3) := by decide +kernel
theorem dJ0_init_db425_19 : decode cJ0_init_db425 19 = .ok (.ifCond .eq 22, 3) := by decide +kernel
theorem dJ0_init_db425_22 : decode cJ0_init_db425 22 = .ok (.aload_n 0, 1) := by decide +kernel
theorem dJ0_init_db425_23 : decode cJ0_init_db425 23 = .ok (.iconst 0, 1) := by decide +kernel
theorem dJ0_init_db425_24 : decode cJ0_init_db425 24 = .ok (.putfield 15, 3) := by decide +kernel
theorem dJ0_init_db425_27 : decode cJ0_init_db425 27 = .ok (.aload_n 0, 1) := by decide +kernel
theorem dJ0_init_db425_28 : decode cJ0_init_db425 28 = .ok (.aload_n 3, 1) := by decide +kernel
theorem dJ0_init_db425_29 : decode cJ0_init_db425 29 = .ok (.iconst 0, 1) := by decide +kernel
theorem dJ0_init_db425_30 : decode cJ0_init_db425 30 = .ok (.iload 4, 2) := by decide +kernel
theorem dJ0_init_db425_32 : decode cJ0_init_db425 32 = .ok (.invokestatic 54, 3) := by decide +kernel
theorem dJ0_init_db425_35 : decode cJ0_init_db425 35 = .ok (.putfield 9, 3) := by decide +kernel
theorem dJ0_init_db425_38 : decode cJ0_init_db425 38 = .ok (.goto 59, 3) := by decide +kernel
theorem dJ0_init_db425_41 : decode cJ0_init_db425 41 = .ok (.getstatic 38, 3) := by decide +kernel
theorem dJ0_init_db425_44 : decode cJ0_init_db425 44 = .ok (.ifCond .eq 35, 3) := by decide +kernel
theorem dJ0_init_db425_47 : decode cJ0_init_db425 47 = .ok (.aload_n 1, 1) := by decide +kernel
theorem dJ0_init_db425_48 : decode cJ0_init_db425 48 = .ok (.getfield 1048, 3) := by decide +kernel
theorem dJ0_init_db425_51 : decode cJ0_init_db425 51 = .ok (.ifCond .eq 28, 3) := by decide +kernel
theorem dJ0_init_db425_54 : decode cJ0_init_db425 54 = .ok (.aload_n 0, 1) := by decide +kernel
theorem dJ0_init_db425_55 : decode cJ0_init_db425 55 = .ok (.aload_n 3, 1) := by decide +kernel
theorem dJ0_init_db425_56 : decode cJ0_init_db425 56 = .ok (.iconst 0, 1) := by decide +kernel
theorem dJ0_init_db425_57 : decode cJ0_init_db425 57 = .ok (.iload 4, 2) := by decide +kernel
theorem dJ0_init_db425_59 : decode cJ0_init_db425 59 = .ok (.invokestatic 1051, 3) := by decide +kernel
theorem dJ0_init_db425_62 : decode cJ0_init_db425 62 = .ok (.putfield 9, 3) := by decide +kernel
theorem dJ0_init_db425_65 : decode cJ0_init_db425 65 = .ok (.aload_n 0, 1) := by decide +kernel
theorem dJ0_init_db425_66 : decode cJ0_init_db425 66 = .ok (.aload_n 0, 1) := by decide +kernel
theorem dJ0_init_db425_67 : decode cJ0_init_db425 67 = .ok (.getfield 9, 3) := by decide +kernel
theorem dJ0_init_db425_70 : decode cJ0_init_db425 70 = .ok (.iload 4, 2) := by decide +kernel
theorem dJ0_init_db425_72 : decode cJ0_init_db425 72 = .ok (.invokestatic 47, 3) := by decide +kernel
theorem dJ0_init_db425_75 : decode cJ0_init_db425 75 = .ok (.putfield 15, 3) := by decide +kernel
theorem dJ0_init_db425_78 : decode cJ0_init_db425 78 = .ok (.return_, 1) := by decide +kernel
theorem dJ0_init_db425_79 : decode cJ0_init_db425 79 = .ok (.aload_n 0, 1) := by decide +kernel
theorem dJ0_init_db425_80 : decode cJ0_init_db425 80 = .ok (.iconst 1, 1) := by decide +kernel
theorem dJ0_init_db425_81 : decode cJ0_init_db425 81 = .ok (.putfield 15, 3) := by decide +kernel
theorem dJ0_init_db425_84 : decode cJ0_init_db425 84 = .ok (.aload_n 0, 1) := by decide +kernel
theorem dJ0_init_db425_85 : decode cJ0_init_db425 85 = .ok (.aload_n 3, 1) := by decide +kernel
theorem dJ0_init_db425_86 : decode cJ0_init_db425 86 = .ok (.iconst 0, 1) := by decide +kernel
theorem dJ0_init_db425_87 : decode cJ0_init_db425 87 = .ok (.iload 4, 2) := by decide +kernel
theorem dJ0_init_db425_89 : decode cJ0_init_db425 89 = .ok (.iconst 1, 1) := by decide +kernel
theorem dJ0_init_db425_90 : decode cJ0_init_db425 90 = .ok (.ishl, 1) := by decide +kernel
theorem dJ0_init_db425_91 : decode cJ0_init_db425 91 = .ok (.invokestatic 54, 3) := by decide +kernel
theorem dJ0_init_db425_94 : decode cJ0_init_db425 94 = .ok (.putfield 9, 3) := by decide +kernel
theorem dJ0_init_db425_97 : decode cJ0_init_db425 97 = .ok (.return_, 1) := by decide +kernel
theorem dJ0_coder_7d493_0 : decode cJ0_coder_7d493 0 = .ok (.getstatic 38, 3) := by decide +kernel
theorem dJ0_coder_7d493_3 : decode cJ0_coder_7d493 3 = .ok (.ifCond .eq 10, 3) := by decide +kernel
theorem dJ0_coder_7d493_6 : decode cJ0_coder_7d493 6 = .ok (.aload_n 0, 1) := by decide +kernel
theorem dJ0_coder_7d493_7 : decode cJ0_coder_7d493 7 = .ok (.getfield 15, 3) := by decide +kernel
theorem dJ0_coder_7d493_10 : decode cJ0_coder_7d493 10 = .ok (.goto 4, 3) := by decide +kernel
theorem dJ0_coder_7d493_13 : decode cJ0_coder_7d493 13 = .ok (.iconst 1, 1) := by decide +kernel
theorem dJ0_coder_7d493_14 : decode cJ0_coder_7d493 14 = .ok (.ireturn, 1) := by decide +kernel
theorem dJ0_isLatin1_aae02_0 : decode cJ0_isLatin1_aae02 0 = .ok (.getstatic 38, 3) := by decide +kernel
theorem dJ0_isLatin1_aae02_3 : decode cJ0_isLatin1_aae02 3 = .ok (.ifCond .eq 14, 3) := by decide +kernel
theorem dJ0_isLatin1_aae02_6 : decode cJ0_isLatin1_aae02 6 = .ok (.aload_n 0, 1) := by decide +kernel
theorem dJ0_isLatin1_aae02_7 : decode cJ0_isLatin1_aae02 7 = .ok (.getfield 15, 3) := by decide +kernel
theorem dJ0_isLatin1_aae02_10 : decode cJ0_isLatin1_aae02 10 = .ok (.ifCond .ne 7, 3) := by decide +kernel
theorem dJ0_isLatin1_aae02_13 : decode cJ0_isLatin1_aae02 13 = .ok (.iconst 1, 1) := by decide +kernel
theorem dJ0_isLatin1_aae02_14 : decode cJ0_isLatin1_aae02 14 = .ok (.goto 4, 3) := by decide +kernel
theorem dJ0_isLatin1_aae02_17 : decode cJ0_isLatin1_aae02 17 = .ok (.iconst 0, 1) := by decide +kernel
theorem dJ0_isLatin1_aae02_18 : decode cJ0_isLatin1_aae02 18 = .ok (.ireturn, 1) := by decide +kernel
theorem dJ0_checkIndex_df160_0 : decode cJ0_checkIndex_df160 0 = .ok (.iload_n 0, 1) := by decide +kernel
theorem dJ0_checkIndex_df160_1 : decode cJ0_checkIndex_df160 1 = .ok (.iload_n 1, 1) := by decide +kernel
theorem dJ0_checkIndex_df160_2 : decode cJ0_checkIndex_df160 2 = .ok (.getstatic 1053, 3) := by decide +kernel
theorem dJ0_checkIndex_df160_5 : decode cJ0_checkIndex_df160 5 = .ok (.invokestatic 1059, 3) := by decide +kernel
theorem dJ0_checkIndex_df160_8 : decode cJ0_checkIndex_df160 8 = .ok (.pop, 1) := by decide +kernel
theorem dJ0_checkIndex_df160_9 : decode cJ0_checkIndex_df160 9 = .ok (.return_, 1) := by decide +kernel
theorem dJ0_checkBoundsOffCount_cabcc_0 : decode cJ0_checkBoundsOffCount_cabcc 0 = .ok (.iload_n 0, 1) := by decide +kernel
theorem dJ0_checkBoundsOffCount_cabcc_1 : decode cJ0_checkBoundsOffCount_cabcc 1 = .ok (.iload_n 1, 1) := by decide +kernel
theorem dJ0_checkBoundsOffCount_cabcc_2 : decode cJ0_checkBoundsOffCount_cabcc 2 = .ok (.iload_n 2, 1) := by decide +kernel
theorem dJ0_checkBoundsOffCount_cabcc_3 : decode cJ0_checkBoundsOffCount_cabcc 3 = .ok (.getstatic 1053, 3) := by decide +kernel
theorem dJ0_checkBoundsOffCount_cabcc_6 : decode cJ0_checkBoundsOffCount_cabcc 6 = .ok (.invokestatic 1065, 3) := by decide +kernel
theorem dJ0_checkBoundsOffCount_cabcc_9 : decode cJ0_checkBoundsOffCount_cabcc 9 = .ok (.ireturn, 1) := by decide +kernel
theorem dJ0_checkBoundsBeginEnd_23922_0 : decode cJ0_checkBoundsBeginEnd_23922 0 = .ok (.iload_n 0, 1) := by decide +kernel
theorem dJ0_checkBoundsBeginEnd_23922_1 : decode cJ0_checkBoundsBeginEnd_23922 1 = .ok (.iload_n 1, 1) := by decide +kernel
theorem dJ0_checkBoundsBeginEnd_23922_2 : decode cJ0_checkBoundsBeginEnd_23922 2 = .ok (.iload_n 2, 1) := by decide +kernel
theorem dJ0_checkBoundsBeginEnd_23922_3 : decode cJ0_checkBoundsBeginEnd_23922 3 = .ok (.getstatic 1053, 3) := by decide +kernel
theorem dJ0_checkBoundsBeginEnd_23922_6 : decode cJ0_checkBoundsBeginEnd_23922 6 = .ok (.invokestatic 1062, 3) := by decide +kernel
theorem dJ0_checkBoundsBeginEnd_23922_9 : decode cJ0_checkBoundsBeginEnd_23922 9 = .ok (.pop, 1) := by decide +kernel
theorem dJ0_checkBoundsBeginEnd_23922_10 : decode cJ0_checkBoundsBeginEnd_23922 10 = .ok (.return_, 1) := by decide +kernel
theorem dJ4_init_da8c8_0 : decode cJ4_init_da8c8 0 = .ok (.aload_n 0, 1) := by decide +kernel
theorem dJ4_init_da8c8_1 : decode cJ4_init_da8c8 1 = .ok (.bipush 16, 2) := by decide +kernel
theorem dJ4_init_da8c8_3 : decode cJ4_init_da8c8 3 = .ok (.invokespecial 1, 3) := by decide +kernel
theorem dJ4_init_da8c8_6 : decode cJ4_init_da8c8 6 = .ok (.return_, 1) := by decide +kernel
theorem dJ4_append_15ec4_0 : decode cJ4_append_15ec4 0 = .ok (.aload_n 0, 1) := by decide +kernel
theorem dJ4_append_15ec4_1 : decode cJ4_append_15ec4 1 = .ok (.aload_n 1, 1) := by decide +kernel
theorem dJ4_append_15ec4_2 : decode cJ4_append_15ec4 2 = .ok (.invokespecial 29, 3) := by decide +kernel
theorem dJ4_append_15ec4_5 : decode cJ4_append_15ec4 5 = .ok (.pop, 1) := by decide +kernel
theorem dJ4_append_15ec4_6 : decode cJ4_append_15ec4 6 = .ok (.aload_n 0, 1) := by decide +kernel
theorem dJ4_append_15ec4_7 : decode cJ4_append_15ec4 7 = .ok (.areturn, 1) := by decide +kernel
theorem dJ4_append_cf468_0 : decode cJ4_append_cf468 0 = .ok (.aload_n 0, 1) := by decide +kernel
theorem dJ4_append_cf468_1 : decode cJ4_append_cf468 1 = .ok (.iload_n 1, 1) := by decide +kernel
theorem dJ4_append_cf468_2 : decode cJ4_append_cf468 2 = .ok (.invokespecial 50, 3) := by decide +kernel
theorem dJ4_append_cf468_5 : decode cJ4_append_cf468 5 = .ok (.pop, 1) := by decide +kernel
theorem dJ4_append_cf468_6 : decode cJ4_append_cf468 6 = .ok (.aload_n 0, 1) := by decide +kernel
theorem dJ4_append_cf468_7 : decode cJ4_append_cf468 7 = .ok (.areturn, 1) := by decide +kernel
theorem dJ4_append_bf812_0 : decode cJ4_append_bf812 0 = .ok (.aload_n 0, 1) := by decide +kernel
theorem dJ4_append_bf812_1 : decode cJ4_append_bf812 1 = .ok (.iload_n 1, 1) := by decide +kernel
theorem dJ4_append_bf812_2 : decode cJ4_append_bf812 2 = .ok (.invokespecial 53, 3) := by decide +kernel
theorem dJ4_append_bf812_5 : decode cJ4_append_bf812 5 = .ok (.pop, 1) := by decide +kernel
theorem dJ4_append_bf812_6 : decode cJ4_append_bf812 6 = .ok (.aload_n 0, 1) := by decide +kernel
theorem dJ4_append_bf812_7 : decode cJ4_append_bf812 7 = .ok (.areturn, 1) := by decide +kernel
theorem dJ4_toString_0e30d_0 : decode cJ4_toString_0e30d 0 = .ok (.new 18, 3) := by decide +kernel
theorem dJ4_toString_0e30d_3 : decode cJ4_toString_0e30d 3 = .ok (.dup, 1) := by decide +kernel
theorem dJ4_toString_0e30d_4 : decode cJ4_toString_0e30d 4 = .ok (.aload_n 0, 1) := by decide +kernel
theorem dJ4_toString_0e30d_5 : decode cJ4_toString_0e30d 5 = .ok (.invokespecial 137, 3) := by decide +kernel
theorem dJ4_toString_0e30d_8 : decode cJ4_toString_0e30d 8 = .ok (.areturn, 1) := by decide +kernel
theorem dJ4_charAt_5068e_0 : decode cJ4_charAt_5068e 0 = .ok (.aload_n 0, 1) := by decide +kernel
theorem dJ4_charAt_5068e_1 : decode cJ4_charAt_5068e 1 = .ok (.iload_n 1, 1) := by decide +kernel
theorem dJ4_charAt_5068e_2 : decode cJ4_charAt_5068e 2 = .ok (.invokespecial 329, 3) := by decide +kernel
theorem dJ4_charAt_5068e_5 : decode cJ4_charAt_5068e 5 = .ok (.ireturn, 1) := by decide +kernel
theorem dJ4_setLength_d00df_0 : decode cJ4_setLength_d00df 0 = .ok (.aload_n 0, 1) := by decide +kernel
theorem dJ4_setLength_d00df_1 : decode cJ4_setLength_d00df 1 = .ok (.iload_n 1, 1) := by decide +kernel
theorem dJ4_setLength_d00df_2 : decode cJ4_setLength_d00df 2 = .ok (.invokespecial 333, 3) := by decide +kernel
theorem dJ4_setLength_d00df_5 : decode cJ4_setLength_d00df 5 = .ok (.return_, 1) := by decide +kernel
theorem dJ4_length_8abf5_0 : decode cJ4_length_8abf5 0 = .ok (.aload_n 0, 1) := by decide +kernel
theorem dJ4_length_8abf5_1 : decode cJ4_length_8abf5 1 = .ok (.invokespecial 343, 3) := by decide +kernel
theorem dJ4_length_8abf5_4 : decode cJ4_length_8abf5 4 = .ok (.ireturn, 1) := by decide +kernel
theorem dJx7c733_init_d00df_0 : decode cJx7c733_init_d00df 0 = .ok (.aload_n 0, 1) := by decide +kernel
theorem dJx7c733_init_d00df_1 : decode cJx7c733_init_d00df 1 = .ok (.new 10, 3) := by decide +kernel
theorem dJx7c733_init_d00df_4 : decode cJx7c733_init_d00df 4 = .ok (.dup, 1) := by decide +kernel
theorem dJx7c733_init_d00df_5 : decode cJx7c733_init_d00df 5 = .ok (.invokespecial 12, 3) := by decide +kernel
theorem dJx7c733_init_d00df_8 : decode cJx7c733_init_d00df 8 = .ok (.ldc 13, 2) := by decide +kernel
theorem dJx7c733_init_d00df_10 : decode cJx7c733_init_d00df 10 = .ok (.invokevirtual 15, 3) := by decide +kernel
theorem dJx7c733_init_d00df_13 : decode cJx7c733_init_d00df 13 = .ok (.iload_n 1, 1) := by decide +kernel
theorem dJx7c733_init_d00df_14 : decode cJx7c733_init_d00df 14 = .ok (.invokevirtual 19, 3) := by decide +kernel
theorem dJx7c733_init_d00df_17 : decode cJx7c733_init_d00df 17 = .ok (.invokevirtual 22, 3) := by decide +kernel
theorem dJx7c733_init_d00df_20 : decode cJx7c733_init_d00df 20 = .ok (.invokespecial 7, 3) := by decide +kernel
theorem dJx7c733_init_d00df_23 : decode cJx7c733_init_d00df 23 = .ok (.return_, 1) := by decide +kernel
theorem dJ1_charAt_3b067_0 : decode cJ1_charAt_3b067 0 = .ok (.iload_n 1, 1) := by decide +kernel
theorem dJ1_charAt_3b067_1 : decode cJ1_charAt_3b067 1 = .ok (.aload_n 0, 1) := by decide +kernel
theorem dJ1_charAt_3b067_2 : decode cJ1_charAt_3b067 2 = .ok (.arraylength, 1) := by decide +kernel
theorem dJ1_charAt_3b067_3 : decode cJ1_charAt_3b067 3 = .ok (.invokestatic 9, 3) := by decide +kernel
theorem dJ1_charAt_3b067_6 : decode cJ1_charAt_3b067 6 = .ok (.aload_n 0, 1) := by decide +kernel
theorem dJ1_charAt_3b067_7 : decode cJ1_charAt_3b067 7 = .ok (.iload_n 1, 1) := by decide +kernel
theorem dJ1_charAt_3b067_8 : decode cJ1_charAt_3b067 8 = .ok (.baload, 1) := by decide +kernel
theorem dJ1_charAt_3b067_9 : decode cJ1_charAt_3b067 9 = .ok (.sipush 255, 3) := by decide +kernel
theorem dJ1_charAt_3b067_12 : decode cJ1_charAt_3b067 12 = .ok (.iand, 1) := by decide +kernel
theorem dJ1_charAt_3b067_13 : decode cJ1_charAt_3b067 13 = .ok (.i2c, 1) := by decide +kernel
theorem dJ1_charAt_3b067_14 : decode cJ1_charAt_3b067 14 = .ok (.ireturn, 1) := by decide +kernel
theorem dJ1_canEncode_fc78d_0 : decode cJ1_canEncode_fc78d 0 = .ok (.iload_n 0, 1) := by decide +kernel
theorem dJ1_canEncode_fc78d_1 : decode cJ1_canEncode_fc78d 1 = .ok (.sipush 255, 3) := by decide +kernel
theorem dJ1_canEncode_fc78d_4 : decode cJ1_canEncode_fc78d 4 = .ok (.if_icmp .gt 7, 3) := by decide +kernel
theorem dJ1_canEncode_fc78d_7 : decode cJ1_canEncode_fc78d 7 = .ok (.iconst 1, 1) := by decide +kernel
theorem dJ1_canEncode_fc78d_8 : decode cJ1_canEncode_fc78d 8 = .ok (.goto 4, 3) := by decide +kernel
theorem dJ1_canEncode_fc78d_11 : decode cJ1_canEncode_fc78d 11 = .ok (.iconst 0, 1) := by decide +kernel
theorem dJ1_canEncode_fc78d_12 : decode cJ1_canEncode_fc78d 12 = .ok (.ireturn, 1) := by decide +kernel
theorem dJ1_fillNull_b72d1_0 : decode cJ1_fillNull_b72d1 0 = .ok (.aload_n 0, 1) := by decide +kernel
theorem dJ1_fillNull_b72d1_1 : decode cJ1_fillNull_b72d1 1 = .ok (.iload_n 1, 1) := by decide +kernel
theorem dJ1_fillNull_b72d1_2 : decode cJ1_fillNull_b72d1 2 = .ok (.iload_n 2, 1) := by decide +kernel
theorem dJ1_fillNull_b72d1_3 : decode cJ1_fillNull_b72d1 3 = .ok (.iconst 0, 1) := by decide +kernel
theorem dJ1_fillNull_b72d1_4 : decode cJ1_fillNull_b72d1 4 = .ok (.invokestatic 236, 3) := by decide +kernel
theorem dJ1_fillNull_b72d1_7 : decode cJ1_fillNull_b72d1 7 = .ok (.return_, 1) := by decide +kernel
theorem dJ1_inflate_0e8fd_0 : decode cJ1_inflate_0e8fd 0 = .ok (.aload_n 0, 1) := by decide +kernel
theorem dJ1_inflate_0e8fd_1 : decode cJ1_inflate_0e8fd 1 = .ok (.iload_n 1, 1) := by decide +kernel
theorem dJ1_inflate_0e8fd_2 : decode cJ1_inflate_0e8fd 2 = .ok (.aload_n 2, 1) := by decide +kernel
theorem dJ1_inflate_0e8fd_3 : decode cJ1_inflate_0e8fd 3 = .ok (.iload_n 3, 1) := by decide +kernel
theorem dJ1_inflate_0e8fd_4 : decode cJ1_inflate_0e8fd 4 = .ok (.iload 4, 2) := by decide +kernel
theorem dJ1_inflate_0e8fd_6 : decode cJ1_inflate_0e8fd 6 = .ok (.invokestatic 240, 3) := by decide +kernel
theorem dJ1_inflate_0e8fd_9 : decode cJ1_inflate_0e8fd 9 = .ok (.return_, 1) := by decide +kernel
theorem dJ2_newBytesFor_77867_0 : decode cJ2_newBytesFor_77867 0 = .ok (.iload_n 0, 1) := by decide +kernel
theorem dJ2_newBytesFor_77867_1 : decode cJ2_newBytesFor_77867 1 = .ok (.invokestatic 11, 3) := by decide +kernel
theorem dJ2_newBytesFor_77867_4 : decode cJ2_newBytesFor_77867 4 = .ok (.newarray .byte, 2) := by decide +kernel
theorem dJ2_newBytesFor_77867_6 : decode cJ2_newBytesFor_77867 6 = .ok (.areturn, 1) := by decide +kernel
theorem dJ2_newBytesLength_0f7a4_0 : decode cJ2_newBytesLength_0f7a4 0 = .ok (.iload_n 0, 1) := by decide +kernel
theorem dJ2_newBytesLength_0f7a4_1 : decode cJ2_newBytesLength_0f7a4 1 = .ok (.ifCond .ge 11, 3) := by decide +kernel
theorem dJ2_newBytesLength_0f7a4_4 : decode cJ2_newBytesLength_0f7a4 4 = .ok (.new 17, 3) := by decide +kernel
theorem dJ2_newBytesLength_0f7a4_7 : decode cJ2_newBytesLength_0f7a4 7 = .ok (.dup, 1) := by decide +kernel
theorem dJ2_newBytesLength_0f7a4_8 : decode cJ2_newBytesLength_0f7a4 8 = .ok (.invokespecial 19, 3) := by decide +kernel
theorem dJ2_newBytesLength_0f7a4_11 : decode cJ2_newBytesLength_0f7a4 11 = .ok (.athrow, 1) := by decide +kernel
theorem dJ2_newBytesLength_0f7a4_12 : decode cJ2_newBytesLength_0f7a4 12 = .ok (.iload_n 0, 1) := by decide +kernel
theorem dJ2_newBytesLength_0f7a4_13 : decode cJ2_newBytesLength_0f7a4 13 = .ok (.ldc 20, 2) := by decide +kernel
theorem dJ2_newBytesLength_0f7a4_15 : decode cJ2_newBytesLength_0f7a4 15 = .ok (.if_icmp .lt 40, 3) := by decide +kernel
theorem dJ2_newBytesLength_0f7a4_18 : decode cJ2_newBytesLength_0f7a4 18 = .ok (.new 21, 3) := by decide +kernel
theorem dJ2_newBytesLength_0f7a4_21 : decode cJ2_newBytesLength_0f7a4 21 = .ok (.dup, 1) := by decide +kernel
theorem dJ2_newBytesLength_0f7a4_22 : decode cJ2_newBytesLength_0f7a4 22 = .ok (.new 23, 3) := by decide +kernel
theorem dJ2_newBytesLength_0f7a4_25 : decode cJ2_newBytesLength_0f7a4 25 = .ok (.dup, 1) := by decide +kernel
theorem dJ2_newBytesLength_0f7a4_26 : decode cJ2_newBytesLength_0f7a4 26 = .ok (.invokespecial 25, 3) := by decide +kernel
theorem dJ2_newBytesLength_0f7a4_29 : decode cJ2_newBytesLength_0f7a4 29 = .ok (.ldc 26, 2) := by decide +kernel
theorem dJ2_newBytesLength_0f7a4_31 : decode cJ2_newBytesLength_0f7a4 31 = .ok (.invokevirtual 28, 3) := by decide +kernel
theorem dJ2_newBytesLength_0f7a4_34 : decode cJ2_newBytesLength_0f7a4 34 = .ok (.iload_n 0, 1) := by decide +kernel
theorem dJ2_newBytesLength_0f7a4_35 : decode cJ2_newBytesLength_0f7a4 35 = .ok (.invokevirtual 32, 3) := by decide +kernel
theorem dJ2_newBytesLength_0f7a4_38 : decode cJ2_newBytesLength_0f7a4 38 = .ok (.ldc 35, 2) := by decide +kernel
theorem dJ2_newBytesLength_0f7a4_40 : decode cJ2_newBytesLength_0f7a4 40 = .ok (.invokevirtual 28, 3) := by decide +kernel
theorem dJ2_newBytesLength_0f7a4_43 : decode cJ2_newBytesLength_0f7a4 43 = .ok (.ldc 20, 2) := by decide +kernel
theorem dJ2_newBytesLength_0f7a4_45 : decode cJ2_newBytesLength_0f7a4 45 = .ok (.invokevirtual 32, 3) := by decide +kernel
theorem dJ2_newBytesLength_0f7a4_48 : decode cJ2_newBytesLength_0f7a4 48 = .ok (.invokevirtual 37, 3) := by decide +kernel
theorem dJ2_newBytesLength_0f7a4_51 : decode cJ2_newBytesLength_0f7a4 51 = .ok (.invokespecial 41, 3) := by decide +kernel
theorem dJ2_newBytesLength_0f7a4_54 : decode cJ2_newBytesLength_0f7a4 54 = .ok (.athrow, 1) := by decide +kernel
theorem dJ2_newBytesLength_0f7a4_55 : decode cJ2_newBytesLength_0f7a4 55 = .ok (.iload_n 0, 1) := by decide +kernel
theorem dJ2_newBytesLength_0f7a4_56 : decode cJ2_newBytesLength_0f7a4 56 = .ok (.iconst 1, 1) := by decide +kernel
theorem dJ2_newBytesLength_0f7a4_57 : decode cJ2_newBytesLength_0f7a4 57 = .ok (.ishl, 1) := by decide +kernel
theorem dJ2_newBytesLength_0f7a4_58 : decode cJ2_newBytesLength_0f7a4 58 = .ok (.ireturn, 1) := by decide +kernel
theorem dJ2_putChar_b72d1_0 : decode cJ2_putChar_b72d1 0 = .ok (.getstatic 44, 3) := by decide +kernel
theorem dJ2_putChar_b72d1_3 : decode cJ2_putChar_b72d1 3 = .ok (.ifCond .ne 25, 3) := by decide +kernel
theorem dJ2_putChar_b72d1_6 : decode cJ2_putChar_b72d1 6 = .ok (.iload_n 1, 1) := by decide +kernel
theorem dJ2_putChar_b72d1_7 : decode cJ2_putChar_b72d1 7 = .ok (.ifCond .lt 11, 3) := by decide +kernel
theorem dJ2_putChar_b72d1_10 : decode cJ2_putChar_b72d1 10 = .ok (.iload_n 1, 1) := by decide +kernel
theorem dJ2_putChar_b72d1_11 : decode cJ2_putChar_b72d1 11 = .ok (.aload_n 0, 1) := by decide +kernel
theorem dJ2_putChar_b72d1_12 : decode cJ2_putChar_b72d1 12 = .ok (.invokestatic 48, 3) := by decide +kernel
theorem dJ2_putChar_b72d1_15 : decode cJ2_putChar_b72d1 15 = .ok (.if_icmp .lt 13, 3) := by decide +kernel
theorem dJ2_putChar_b72d1_18 : decode cJ2_putChar_b72d1 18 = .ok (.new 52, 3) := by decide +kernel
theorem dJ2_putChar_b72d1_21 : decode cJ2_putChar_b72d1 21 = .ok (.dup, 1) := by decide +kernel
theorem dJ2_putChar_b72d1_22 : decode cJ2_putChar_b72d1 22 = .ok (.ldc 54, 2) := by decide +kernel
theorem dJ2_putChar_b72d1_24 : decode cJ2_putChar_b72d1 24 = .ok (.invokespecial 56, 3) := by decide +kernel
theorem dJ2_putChar_b72d1_27 : decode cJ2_putChar_b72d1 27 = .ok (.athrow, 1) := by decide +kernel
theorem dJ2_putChar_b72d1_28 : decode cJ2_putChar_b72d1 28 = .ok (.iload_n 1, 1) := by decide +kernel
theorem dJ2_putChar_b72d1_29 : decode cJ2_putChar_b72d1 29 = .ok (.iconst 1, 1) := by decide +kernel
theorem dJ2_putChar_b72d1_30 : decode cJ2_putChar_b72d1 30 = .ok (.ishl, 1) := by decide +kernel
theorem dJ2_putChar_b72d1_31 : decode cJ2_putChar_b72d1 31 = .ok (.istore_n 1, 1) := by decide +kernel
theorem dJ2_putChar_b72d1_32 : decode cJ2_putChar_b72d1 32 = .ok (.aload_n 0, 1) := by decide +kernel
theorem dJ2_putChar_b72d1_33 : decode cJ2_putChar_b72d1 33 = .ok (.iload_n 1, 1) := by decide +kernel
theorem dJ2_putChar_b72d1_34 : decode cJ2_putChar_b72d1 34 = .ok (.iinc 1 1, 3) := by decide +kernel
theorem dJ2_putChar_b72d1_37 : decode cJ2_putChar_b72d1 37 = .ok (.iload_n 2, 1) := by decide +kernel
theorem dJ2_putChar_b72d1_38 : decode cJ2_putChar_b72d1 38 = .ok (.getstatic 59, 3) := by decide +kernel
theorem dJ2_putChar_b72d1_41 : decode cJ2_putChar_b72d1 41 = .ok (.ishr, 1) := by decide +kernel
theorem dJ2_putChar_b72d1_42 : decode cJ2_putChar_b72d1 42 = .ok (.i2b, 1) := by decide +kernel
theorem dJ2_putChar_b72d1_43 : decode cJ2_putChar_b72d1 43 = .ok (.bastore, 1) := by decide +kernel
theorem dJ2_putChar_b72d1_44 : decode cJ2_putChar_b72d1 44 = .ok (.aload_n 0, 1) := by decide +kernel
theorem dJ2_putChar_b72d1_45 : decode cJ2_putChar_b72d1 45 = .ok (.iload_n 1, 1) := by decide +kernel
theorem dJ2_putChar_b72d1_46 : decode cJ2_putChar_b72d1 46 = .ok (.iload_n 2, 1) := by decide +kernel
theorem dJ2_putChar_b72d1_47 : decode cJ2_putChar_b72d1 47 = .ok (.getstatic 63, 3) := by decide +kernel
theorem dJ2_putChar_b72d1_50 : decode cJ2_putChar_b72d1 50 = .ok (.ishr, 1) := by decide +kernel
theorem dJ2_putChar_b72d1_51 : decode cJ2_putChar_b72d1 51 = .ok (.i2b, 1) := by decide +kernel
theorem dJ2_putChar_b72d1_52 : decode cJ2_putChar_b72d1 52 = .ok (.bastore, 1) := by decide +kernel
theorem dJ2_putChar_b72d1_53 : decode cJ2_putChar_b72d1 53 = .ok (.return_, 1) := by decide +kernel
theorem dJ2_getChar_3b067_0 : decode cJ2_getChar_3b067 0 = .ok (.getstatic 44, 3) := by decide +kernel
theorem dJ2_getChar_3b067_3 : decode cJ2_getChar_3b067 3 = .ok (.ifCond .ne 25, 3) := by decide +kernel
theorem dJ2_getChar_3b067_6 : decode cJ2_getChar_3b067 6 = .ok (.iload_n 1, 1) := by decide +kernel
theorem dJ2_getChar_3b067_7 : decode cJ2_getChar_3b067 7 = .ok (.ifCond .lt 11, 3) := by decide +kernel
theorem dJ2_getChar_3b067_10 : decode cJ2_getChar_3b067 10 = .ok (.iload_n 1, 1) := by decide +kernel
theorem dJ2_getChar_3b067_11 : decode cJ2_getChar_3b067 11 = .ok (.aload_n 0, 1) := by decide +kernel
theorem dJ2_getChar_3b067_12 : decode cJ2_getChar_3b067 12 = .ok (.invokestatic 48, 3) := by decide +kernel
theorem dJ2_getChar_3b067_15 : decode cJ2_getChar_3b067 15 = .ok (.if_icmp .lt 13, 3) := by decide +kernel
theorem dJ2_getChar_3b067_18 : decode cJ2_getChar_3b067 18 = .ok (.new 52, 3) := by decide +kernel
theorem dJ2_getChar_3b067_21 : decode cJ2_getChar_3b067 21 = .ok (.dup, 1) := by decide +kernel
theorem dJ2_getChar_3b067_22 : decode cJ2_getChar_3b067 22 = .ok (.ldc 54, 2) := by decide +kernel
theorem dJ2_getChar_3b067_24 : decode cJ2_getChar_3b067 24 = .ok (.invokespecial 56, 3) := by decide +kernel
theorem dJ2_getChar_3b067_27 : decode cJ2_getChar_3b067 27 = .ok (.athrow, 1) := by decide +kernel
theorem dJ2_getChar_3b067_28 : decode cJ2_getChar_3b067 28 = .ok (.iload_n 1, 1) := by decide +kernel
theorem dJ2_getChar_3b067_29 : decode cJ2_getChar_3b067 29 = .ok (.iconst 1, 1) := by decide +kernel
theorem dJ2_getChar_3b067_30 : decode cJ2_getChar_3b067 30 = .ok (.ishl, 1) := by decide +kernel
theorem dJ2_getChar_3b067_31 : decode cJ2_getChar_3b067 31 = .ok (.istore_n 1, 1) := by decide +kernel
theorem dJ2_getChar_3b067_32 : decode cJ2_getChar_3b067 32 = .ok (.aload_n 0, 1) := by decide +kernel
theorem dJ2_getChar_3b067_33 : decode cJ2_getChar_3b067 33 = .ok (.iload_n 1, 1) := by decide +kernel
theorem dJ2_getChar_3b067_34 : decode cJ2_getChar_3b067 34 = .ok (.iinc 1 1, 3) := by decide +kernel
theorem dJ2_getChar_3b067_37 : decode cJ2_getChar_3b067 37 = .ok (.baload, 1) := by decide +kernel
theorem dJ2_getChar_3b067_38 : decode cJ2_getChar_3b067 38 = .ok (.sipush 255, 3) := by decide +kernel
theorem dJ2_getChar_3b067_41 : decode cJ2_getChar_3b067 41 = .ok (.iand, 1) := by decide +kernel
theorem dJ2_getChar_3b067_42 : decode cJ2_getChar_3b067 42 = .ok (.getstatic 59, 3) := by decide +kernel
theorem dJ2_getChar_3b067_45 : decode cJ2_getChar_3b067 45 = .ok (.ishl, 1) := by decide +kernel
theorem dJ2_getChar_3b067_46 : decode cJ2_getChar_3b067 46 = .ok (.aload_n 0, 1) := by decide +kernel
theorem dJ2_getChar_3b067_47 : decode cJ2_getChar_3b067 47 = .ok (.iload_n 1, 1) := by decide +kernel
theorem dJ2_getChar_3b067_48 : decode cJ2_getChar_3b067 48 = .ok (.baload, 1) := by decide +kernel
theorem dJ2_getChar_3b067_49 : decode cJ2_getChar_3b067 49 = .ok (.sipush 255, 3) := by decide +kernel
theorem dJ2_getChar_3b067_52 : decode cJ2_getChar_3b067 52 = .ok (.iand, 1) := by decide +kernel
theorem dJ2_getChar_3b067_53 : decode cJ2_getChar_3b067 53 = .ok (.getstatic 63, 3) := by decide +kernel
theorem dJ2_getChar_3b067_56 : decode cJ2_getChar_3b067 56 = .ok (.ishl, 1) := by decide +kernel
theorem dJ2_getChar_3b067_57 : decode cJ2_getChar_3b067 57 = .ok (.ior, 1) := by decide +kernel
theorem dJ2_getChar_3b067_58 : decode cJ2_getChar_3b067 58 = .ok (.i2c, 1) := by decide +kernel
theorem dJ2_getChar_3b067_59 : decode cJ2_getChar_3b067 59 = .ok (.ireturn, 1) := by decide +kernel
theorem dJ2_length_9d52b_0 : decode cJ2_length_9d52b 0 = .ok (.aload_n 0, 1) := by decide +kernel
theorem dJ2_length_9d52b_1 : decode cJ2_length_9d52b 1 = .ok (.arraylength, 1) := by decide +kernel
theorem dJ2_length_9d52b_2 : decode cJ2_length_9d52b 2 = .ok (.iconst 1, 1) := by decide +kernel
theorem dJ2_length_9d52b_3 : decode cJ2_length_9d52b 3 = .ok (.ishr, 1) := by decide +kernel
theorem dJ2_length_9d52b_4 : decode cJ2_length_9d52b 4 = .ok (.ireturn, 1) := by decide +kernel
theorem dJ2_coderFromArrayLen_85cad_0 : decode cJ2_coderFromArrayLen_85cad 0 = .ok (.iload_n 1, 1) := by decide +kernel
theorem dJ2_coderFromArrayLen_85cad_1 : decode cJ2_coderFromArrayLen_85cad 1 = .ok (.aload_n 0, 1) := by decide +kernel
theorem dJ2_coderFromArrayLen_85cad_2 : decode cJ2_coderFromArrayLen_85cad 2 = .ok (.arraylength, 1) := by decide +kernel
theorem dJ2_coderFromArrayLen_85cad_3 : decode cJ2_coderFromArrayLen_85cad 3 = .ok (.isub, 1) := by decide +kernel
theorem dJ2_coderFromArrayLen_85cad_4 : decode cJ2_coderFromArrayLen_85cad 4 = .ok (.bipush 31, 2) := by decide +kernel
theorem dJ2_coderFromArrayLen_85cad_6 : decode cJ2_coderFromArrayLen_85cad 6 = .ok (.iushr, 1) := by decide +kernel
theorem dJ2_coderFromArrayLen_85cad_7 : decode cJ2_coderFromArrayLen_85cad 7 = .ok (.i2b, 1) := by decide +kernel
theorem dJ2_coderFromArrayLen_85cad_8 : decode cJ2_coderFromArrayLen_85cad 8 = .ok (.ireturn, 1) := by decide +kernel
theorem dJ2_compress_39247_0 : decode cJ2_compress_39247 0 = .ok (.iload_n 2, 1) := by decide +kernel
theorem dJ2_compress_39247_1 : decode cJ2_compress_39247 1 = .ok (.newarray .byte, 2) := by decide +kernel
theorem dJ2_compress_39247_3 : decode cJ2_compress_39247 3 = .ok (.astore_n 3, 1) := by decide +kernel
theorem dJ2_compress_39247_4 : decode cJ2_compress_39247 4 = .ok (.aload_n 0, 1) := by decide +kernel
theorem dJ2_compress_39247_5 : decode cJ2_compress_39247 5 = .ok (.iload_n 1, 1) := by decide +kernel
theorem dJ2_compress_39247_6 : decode cJ2_compress_39247 6 = .ok (.aload_n 3, 1) := by decide +kernel
theorem dJ2_compress_39247_7 : decode cJ2_compress_39247 7 = .ok (.iconst 0, 1) := by decide +kernel
theorem dJ2_compress_39247_8 : decode cJ2_compress_39247 8 = .ok (.iload_n 2, 1) := by decide +kernel
theorem dJ2_compress_39247_9 : decode cJ2_compress_39247 9 = .ok (.invokestatic 123, 3) := by decide +kernel
theorem dJ2_compress_39247_12 : decode cJ2_compress_39247 12 = .ok (.istore 4, 2) := by decide +kernel
theorem dJ2_compress_39247_14 : decode cJ2_compress_39247 14 = .ok (.iload 4, 2) := by decide +kernel
theorem dJ2_compress_39247_16 : decode cJ2_compress_39247 16 = .ok (.iload_n 2, 1) := by decide +kernel
theorem dJ2_compress_39247_17 : decode cJ2_compress_39247 17 = .ok (.if_icmp .eq 47, 3) := by decide +kernel
theorem dJ2_compress_39247_20 : decode cJ2_compress_39247 20 = .ok (.aload_n 0, 1) := by decide +kernel
theorem dJ2_compress_39247_21 : decode cJ2_compress_39247 21 = .ok (.iload_n 1, 1) := by decide +kernel
theorem dJ2_compress_39247_22 : decode cJ2_compress_39247 22 = .ok (.iconst 1, 1) := by decide +kernel
theorem dJ2_compress_39247_23 : decode cJ2_compress_39247 23 = .ok (.ishl, 1) := by decide +kernel
theorem dJ2_compress_39247_24 : decode cJ2_compress_39247 24 = .ok (.iload_n 1, 1) := by decide +kernel
theorem dJ2_compress_39247_25 : decode cJ2_compress_39247 25 = .ok (.iload_n 2, 1) := by decide +kernel
theorem dJ2_compress_39247_26 : decode cJ2_compress_39247 26 = .ok (.iadd, 1) := by decide +kernel
theorem dJ2_compress_39247_27 : decode cJ2_compress_39247 27 = .ok (.invokestatic 11, 3) := by decide +kernel
theorem dJ2_compress_39247_30 : decode cJ2_compress_39247 30 = .ok (.invokestatic 126, 3) := by decide +kernel
theorem dJ2_compress_39247_33 : decode cJ2_compress_39247 33 = .ok (.astore 5, 2) := by decide +kernel
theorem dJ2_compress_39247_35 : decode cJ2_compress_39247 35 = .ok (.aload 5, 2) := by decide +kernel
theorem dJ2_compress_39247_37 : decode cJ2_compress_39247 37 = .ok (.iload 4, 2) := by decide +kernel
theorem dJ2_compress_39247_39 : decode cJ2_compress_39247 39 = .ok (.invokestatic 71, 3) := by decide +kernel
theorem dJ2_compress_39247_42 : decode cJ2_compress_39247 42 = .ok (.sipush 255, 3) := by decide +kernel
theorem dJ2_compress_39247_45 : decode cJ2_compress_39247 45 = .ok (.if_icmp .gt 16, 3) := by decide +kernel
theorem dJ2_compress_39247_48 : decode cJ2_compress_39247 48 = .ok (.aload 5, 2) := by decide +kernel
theorem dJ2_compress_39247_50 : decode cJ2_compress_39247 50 = .ok (.iconst 0, 1) := by decide +kernel
theorem dJ2_compress_39247_51 : decode cJ2_compress_39247 51 = .ok (.aload_n 3, 1) := by decide +kernel
theorem dJ2_compress_39247_52 : decode cJ2_compress_39247 52 = .ok (.iconst 0, 1) := by decide +kernel
theorem dJ2_compress_39247_53 : decode cJ2_compress_39247 53 = .ok (.iload_n 2, 1) := by decide +kernel
theorem dJ2_compress_39247_54 : decode cJ2_compress_39247 54 = .ok (.invokestatic 123, 3) := by decide +kernel
theorem dJ2_compress_39247_57 : decode cJ2_compress_39247 57 = .ok (.iload_n 2, 1) := by decide +kernel
theorem dJ2_compress_39247_58 : decode cJ2_compress_39247 58 = .ok (.if_icmp .eq 6, 3) := by decide +kernel
theorem dJ2_compress_39247_61 : decode cJ2_compress_39247 61 = .ok (.aload 5, 2) := by decide +kernel
theorem dJ2_compress_39247_63 : decode cJ2_compress_39247 63 = .ok (.areturn, 1) := by decide +kernel
theorem dJ2_compress_39247_64 : decode cJ2_compress_39247 64 = .ok (.aload_n 3, 1) := by decide +kernel
theorem dJ2_compress_39247_65 : decode cJ2_compress_39247 65 = .ok (.areturn, 1) := by decide +kernel
theorem dJ2_compress_5af95_0 : decode cJ2_compress_5af95 0 = .ok (.iload_n 1, 1) := by decide +kernel
theorem dJ2_compress_5af95_1 : decode cJ2_compress_5af95 1 = .ok (.iload 4, 2) := by decide +kernel
theorem dJ2_compress_5af95_3 : decode cJ2_compress_5af95 3 = .ok (.aload_n 0, 1) := by decide +kernel
theorem dJ2_compress_5af95_4 : decode cJ2_compress_5af95 4 = .ok (.invokestatic 173, 3) := by decide +kernel
theorem dJ2_compress_5af95_7 : decode cJ2_compress_5af95 7 = .ok (.iconst 0, 1) := by decide +kernel
theorem dJ2_compress_5af95_8 : decode cJ2_compress_5af95 8 = .ok (.istore 5, 2) := by decide +kernel
theorem dJ2_compress_5af95_10 : decode cJ2_compress_5af95 10 = .ok (.iload 5, 2) := by decide +kernel
theorem dJ2_compress_5af95_12 : decode cJ2_compress_5af95 12 = .ok (.iload 4, 2) := by decide +kernel
theorem dJ2_compress_5af95_14 : decode cJ2_compress_5af95 14 = .ok (.if_icmp .ge 39, 3) := by decide +kernel
theorem dJ2_compress_5af95_17 : decode cJ2_compress_5af95 17 = .ok (.aload_n 0, 1) := by decide +kernel
theorem dJ2_compress_5af95_18 : decode cJ2_compress_5af95 18 = .ok (.iload_n 1, 1) := by decide +kernel
theorem dJ2_compress_5af95_19 : decode cJ2_compress_5af95 19 = .ok (.invokestatic 71, 3) := by decide +kernel
theorem dJ2_compress_5af95_22 : decode cJ2_compress_5af95 22 = .ok (.istore 6, 2) := by decide +kernel
theorem dJ2_compress_5af95_24 : decode cJ2_compress_5af95 24 = .ok (.iload 6, 2) := by decide +kernel
theorem dJ2_compress_5af95_26 : decode cJ2_compress_5af95 26 = .ok (.sipush 255, 3) := by decide +kernel
theorem dJ2_compress_5af95_29 : decode cJ2_compress_5af95 29 = .ok (.if_icmp .le 6, 3) := by decide +kernel
theorem dJ2_compress_5af95_32 : decode cJ2_compress_5af95 32 = .ok (.iload 5, 2) := by decide +kernel
theorem dJ2_compress_5af95_34 : decode cJ2_compress_5af95 34 = .ok (.ireturn, 1) := by decide +kernel
theorem dJ2_compress_5af95_35 : decode cJ2_compress_5af95 35 = .ok (.aload_n 2, 1) := by decide +kernel
theorem dJ2_compress_5af95_36 : decode cJ2_compress_5af95 36 = .ok (.iload_n 3, 1) := by decide +kernel
theorem dJ2_compress_5af95_37 : decode cJ2_compress_5af95 37 = .ok (.iload 6, 2) := by decide +kernel
theorem dJ2_compress_5af95_39 : decode cJ2_compress_5af95 39 = .ok (.i2b, 1) := by decide +kernel
theorem dJ2_compress_5af95_40 : decode cJ2_compress_5af95 40 = .ok (.bastore, 1) := by decide +kernel
theorem dJ2_compress_5af95_41 : decode cJ2_compress_5af95 41 = .ok (.iinc 1 1, 3) := by decide +kernel
theorem dJ2_compress_5af95_44 : decode cJ2_compress_5af95 44 = .ok (.iinc 3 1, 3) := by decide +kernel
theorem dJ2_compress_5af95_47 : decode cJ2_compress_5af95 47 = .ok (.iinc 5 1, 3) := by decide +kernel
theorem dJ2_compress_5af95_50 : decode cJ2_compress_5af95 50 = .ok (.goto (-40), 3) := by decide +kernel
theorem dJ2_compress_5af95_53 : decode cJ2_compress_5af95 53 = .ok (.iload 4, 2) := by decide +kernel
theorem dJ2_compress_5af95_55 : decode cJ2_compress_5af95 55 = .ok (.ireturn, 1) := by decide +kernel
theorem dJ2_fillNull_b72d1_0 : decode cJ2_fillNull_b72d1 0 = .ok (.aload_n 0, 1) := by decide +kernel
theorem dJ2_fillNull_b72d1_1 : decode cJ2_fillNull_b72d1 1 = .ok (.iload_n 1, 1) := by decide +kernel
theorem dJ2_fillNull_b72d1_2 : decode cJ2_fillNull_b72d1 2 = .ok (.iconst 1, 1) := by decide +kernel
theorem dJ2_fillNull_b72d1_3 : decode cJ2_fillNull_b72d1 3 = .ok (.ishl, 1) := by decide +kernel
theorem dJ2_fillNull_b72d1_4 : decode cJ2_fillNull_b72d1 4 = .ok (.iload_n 2, 1) := by decide +kernel
theorem dJ2_fillNull_b72d1_5 : decode cJ2_fillNull_b72d1 5 = .ok (.iconst 1, 1) := by decide +kernel
theorem dJ2_fillNull_b72d1_6 : decode cJ2_fillNull_b72d1 6 = .ok (.ishl, 1) := by decide +kernel
theorem dJ2_fillNull_b72d1_7 : decode cJ2_fillNull_b72d1 7 = .ok (.iconst 0, 1) := by decide +kernel
theorem dJ2_fillNull_b72d1_8 : decode cJ2_fillNull_b72d1 8 = .ok (.invokestatic 380, 3) := by decide +kernel
theorem dJ2_fillNull_b72d1_11 : decode cJ2_fillNull_b72d1 11 = .ok (.return_, 1) := by decide +kernel
theorem dJ2_putCharSB_b72d1_0 : decode cJ2_putCharSB_b72d1 0 = .ok (.iload_n 1, 1) := by decide +kernel
theorem dJ2_putCharSB_b72d1_1 : decode cJ2_putCharSB_b72d1 1 = .ok (.aload_n 0, 1) := by decide +kernel
theorem dJ2_putCharSB_b72d1_2 : decode cJ2_putCharSB_b72d1 2 = .ok (.invokestatic 67, 3) := by decide +kernel
theorem dJ2_putCharSB_b72d1_5 : decode cJ2_putCharSB_b72d1 5 = .ok (.aload_n 0, 1) := by decide +kernel
theorem dJ2_putCharSB_b72d1_6 : decode cJ2_putCharSB_b72d1 6 = .ok (.iload_n 1, 1) := by decide +kernel
theorem dJ2_putCharSB_b72d1_7 : decode cJ2_putCharSB_b72d1 7 = .ok (.iload_n 2, 1) := by decide +kernel
theorem dJ2_putCharSB_b72d1_8 : decode cJ2_putCharSB_b72d1 8 = .ok (.invokestatic 111, 3) := by decide +kernel
theorem dJ2_putCharSB_b72d1_11 : decode cJ2_putCharSB_b72d1 11 = .ok (.return_, 1) := by decide +kernel
theorem dJ2_getChars_46870_0 : decode cJ2_getChars_46870 0 = .ok (.iload_n 1, 1) := by decide +kernel
theorem dJ2_getChars_46870_1 : decode cJ2_getChars_46870 1 = .ok (.iload_n 2, 1) := by decide +kernel
theorem dJ2_getChars_46870_2 : decode cJ2_getChars_46870 2 = .ok (.aload_n 3, 1) := by decide +kernel
theorem dJ2_getChars_46870_3 : decode cJ2_getChars_46870 3 = .ok (.invokestatic 96, 3) := by decide +kernel
theorem dJ2_getChars_46870_6 : decode cJ2_getChars_46870 6 = .ok (.iload_n 0, 1) := by decide +kernel
theorem dJ2_getChars_46870_7 : decode cJ2_getChars_46870 7 = .ok (.iload_n 2, 1) := by decide +kernel
theorem dJ2_getChars_46870_8 : decode cJ2_getChars_46870 8 = .ok (.aload_n 3, 1) := by decide +kernel
theorem dJ2_getChars_46870_9 : decode cJ2_getChars_46870 9 = .ok (.invokestatic 393, 3) := by decide +kernel
theorem dJ2_getChars_46870_12 : decode cJ2_getChars_46870 12 = .ok (.istore 4, 2) := by decide +kernel
theorem dJ2_getChars_46870_14 : decode cJ2_getChars_46870 14 = .ok (.getstatic 44, 3) := by decide +kernel
theorem dJ2_getChars_46870_17 : decode cJ2_getChars_46870 17 = .ok (.ifCond .ne 17, 3) := by decide +kernel
theorem dJ2_getChars_46870_20 : decode cJ2_getChars_46870 20 = .ok (.iload_n 1, 1) := by decide +kernel
theorem dJ2_getChars_46870_21 : decode cJ2_getChars_46870 21 = .ok (.iload 4, 2) := by decide +kernel
theorem dJ2_getChars_46870_23 : decode cJ2_getChars_46870 23 = .ok (.if_icmp .eq 11, 3) := by decide +kernel
theorem dJ2_getChars_46870_26 : decode cJ2_getChars_46870 26 = .ok (.new 52, 3) := by decide +kernel
theorem dJ2_getChars_46870_29 : decode cJ2_getChars_46870 29 = .ok (.dup, 1) := by decide +kernel
theorem dJ2_getChars_46870_30 : decode cJ2_getChars_46870 30 = .ok (.invokespecial 66, 3) := by decide +kernel
theorem dJ2_getChars_46870_33 : decode cJ2_getChars_46870 33 = .ok (.athrow, 1) := by decide +kernel
theorem dJ2_getChars_46870_34 : decode cJ2_getChars_46870 34 = .ok (.iload 4, 2) := by decide +kernel
theorem dJ2_getChars_46870_36 : decode cJ2_getChars_46870 36 = .ok (.ireturn, 1) := by decide +kernel
theorem dJ2_putCharsAt_cd4e5_0 : decode cJ2_putCharsAt_cd4e5 0 = .ok (.iload_n 1, 1) := by decide +kernel
theorem dJ2_putCharsAt_cd4e5_1 : decode cJ2_putCharsAt_cd4e5 1 = .ok (.iconst 4, 1) := by decide +kernel
theorem dJ2_putCharsAt_cd4e5_2 : decode cJ2_putCharsAt_cd4e5 2 = .ok (.iadd, 1) := by decide +kernel
theorem dJ2_putCharsAt_cd4e5_3 : decode cJ2_putCharsAt_cd4e5 3 = .ok (.istore 6, 2) := by decide +kernel
theorem dJ2_putCharsAt_cd4e5_5 : decode cJ2_putCharsAt_cd4e5 5 = .ok (.iload_n 1, 1) := by decide +kernel
theorem dJ2_putCharsAt_cd4e5_6 : decode cJ2_putCharsAt_cd4e5 6 = .ok (.iload 6, 2) := by decide +kernel
theorem dJ2_putCharsAt_cd4e5_8 : decode cJ2_putCharsAt_cd4e5 8 = .ok (.aload_n 0, 1) := by decide +kernel
theorem dJ2_putCharsAt_cd4e5_9 : decode cJ2_putCharsAt_cd4e5 9 = .ok (.invokestatic 96, 3) := by decide +kernel
theorem dJ2_putCharsAt_cd4e5_12 : decode cJ2_putCharsAt_cd4e5 12 = .ok (.aload_n 0, 1) := by decide +kernel
theorem dJ2_putCharsAt_cd4e5_13 : decode cJ2_putCharsAt_cd4e5 13 = .ok (.iload_n 1, 1) := by decide +kernel
theorem dJ2_putCharsAt_cd4e5_14 : decode cJ2_putCharsAt_cd4e5 14 = .ok (.iinc 1 1, 3) := by decide +kernel
theorem dJ2_putCharsAt_cd4e5_17 : decode cJ2_putCharsAt_cd4e5 17 = .ok (.iload_n 2, 1) := by decide +kernel
theorem dJ2_putCharsAt_cd4e5_18 : decode cJ2_putCharsAt_cd4e5 18 = .ok (.invokestatic 111, 3) := by decide +kernel
theorem dJ2_putCharsAt_cd4e5_21 : decode cJ2_putCharsAt_cd4e5 21 = .ok (.aload_n 0, 1) := by decide +kernel
theorem dJ2_putCharsAt_cd4e5_22 : decode cJ2_putCharsAt_cd4e5 22 = .ok (.iload_n 1, 1) := by decide +kernel
theorem dJ2_putCharsAt_cd4e5_23 : decode cJ2_putCharsAt_cd4e5 23 = .ok (.iinc 1 1, 3) := by decide +kernel
theorem dJ2_putCharsAt_cd4e5_26 : decode cJ2_putCharsAt_cd4e5 26 = .ok (.iload_n 3, 1) := by decide +kernel
theorem dJ2_putCharsAt_cd4e5_27 : decode cJ2_putCharsAt_cd4e5 27 = .ok (.invokestatic 111, 3) := by decide +kernel
theorem dJ2_putCharsAt_cd4e5_30 : decode cJ2_putCharsAt_cd4e5 30 = .ok (.aload_n 0, 1) := by decide +kernel
theorem dJ2_putCharsAt_cd4e5_31 : decode cJ2_putCharsAt_cd4e5 31 = .ok (.iload_n 1, 1) := by decide +kernel
theorem dJ2_putCharsAt_cd4e5_32 : decode cJ2_putCharsAt_cd4e5 32 = .ok (.iinc 1 1, 3) := by decide +kernel
theorem dJ2_putCharsAt_cd4e5_35 : decode cJ2_putCharsAt_cd4e5 35 = .ok (.iload 4, 2) := by decide +kernel
theorem dJ2_putCharsAt_cd4e5_37 : decode cJ2_putCharsAt_cd4e5 37 = .ok (.invokestatic 111, 3) := by decide +kernel
theorem dJ2_putCharsAt_cd4e5_40 : decode cJ2_putCharsAt_cd4e5 40 = .ok (.aload_n 0, 1) := by decide +kernel
theorem dJ2_putCharsAt_cd4e5_41 : decode cJ2_putCharsAt_cd4e5 41 = .ok (.iload_n 1, 1) := by decide +kernel
theorem dJ2_putCharsAt_cd4e5_42 : decode cJ2_putCharsAt_cd4e5 42 = .ok (.iinc 1 1, 3) := by decide +kernel
theorem dJ2_putCharsAt_cd4e5_45 : decode cJ2_putCharsAt_cd4e5 45 = .ok (.iload 5, 2) := by decide +kernel
theorem dJ2_putCharsAt_cd4e5_47 : decode cJ2_putCharsAt_cd4e5 47 = .ok (.invokestatic 111, 3) := by decide +kernel
theorem dJ2_putCharsAt_cd4e5_50 : decode cJ2_putCharsAt_cd4e5 50 = .ok (.getstatic 44, 3) := by decide +kernel
theorem dJ2_putCharsAt_cd4e5_53 : decode cJ2_putCharsAt_cd4e5 53 = .ok (.ifCond .ne 17, 3) := by decide +kernel
theorem dJ2_putCharsAt_cd4e5_56 : decode cJ2_putCharsAt_cd4e5 56 = .ok (.iload_n 1, 1) := by decide +kernel
theorem dJ2_putCharsAt_cd4e5_57 : decode cJ2_putCharsAt_cd4e5 57 = .ok (.iload 6, 2) := by decide +kernel
theorem dJ2_putCharsAt_cd4e5_59 : decode cJ2_putCharsAt_cd4e5 59 = .ok (.if_icmp .eq 11, 3) := by decide +kernel
theorem dJ2_putCharsAt_cd4e5_62 : decode cJ2_putCharsAt_cd4e5 62 = .ok (.new 52, 3) := by decide +kernel
theorem dJ2_putCharsAt_cd4e5_65 : decode cJ2_putCharsAt_cd4e5 65 = .ok (.dup, 1) := by decide +kernel
theorem dJ2_putCharsAt_cd4e5_66 : decode cJ2_putCharsAt_cd4e5 66 = .ok (.invokespecial 66, 3) := by decide +kernel
theorem dJ2_putCharsAt_cd4e5_69 : decode cJ2_putCharsAt_cd4e5 69 = .ok (.athrow, 1) := by decide +kernel
theorem dJ2_putCharsAt_cd4e5_70 : decode cJ2_putCharsAt_cd4e5 70 = .ok (.iload 6, 2) := by decide +kernel
theorem dJ2_putCharsAt_cd4e5_72 : decode cJ2_putCharsAt_cd4e5 72 = .ok (.ireturn, 1) := by decide +kernel
theorem dJ2_charAt_3b067_0 : decode cJ2_charAt_3b067 0 = .ok (.iload_n 1, 1) := by decide +kernel
theorem dJ2_charAt_3b067_1 : decode cJ2_charAt_3b067 1 = .ok (.aload_n 0, 1) := by decide +kernel
theorem dJ2_charAt_3b067_2 : decode cJ2_charAt_3b067 2 = .ok (.invokestatic 67, 3) := by decide +kernel
theorem dJ2_charAt_3b067_5 : decode cJ2_charAt_3b067 5 = .ok (.aload_n 0, 1) := by decide +kernel
theorem dJ2_charAt_3b067_6 : decode cJ2_charAt_3b067 6 = .ok (.iload_n 1, 1) := by decide +kernel
theorem dJ2_charAt_3b067_7 : decode cJ2_charAt_3b067 7 = .ok (.invokestatic 71, 3) := by decide +kernel
theorem dJ2_charAt_3b067_10 : decode cJ2_charAt_3b067 10 = .ok (.ireturn, 1) := by decide +kernel
theorem dJ2_inflate_0e8fd_0 : decode cJ2_inflate_0e8fd 0 = .ok (.iload_n 3, 1) := by decide +kernel
theorem dJ2_inflate_0e8fd_1 : decode cJ2_inflate_0e8fd 1 = .ok (.iload 4, 2) := by decide +kernel
theorem dJ2_inflate_0e8fd_3 : decode cJ2_inflate_0e8fd 3 = .ok (.aload_n 2, 1) := by decide +kernel
theorem dJ2_inflate_0e8fd_4 : decode cJ2_inflate_0e8fd 4 = .ok (.invokestatic 173, 3) := by decide +kernel
theorem dJ2_inflate_0e8fd_7 : decode cJ2_inflate_0e8fd 7 = .ok (.iconst 0, 1) := by decide +kernel
theorem dJ2_inflate_0e8fd_8 : decode cJ2_inflate_0e8fd 8 = .ok (.istore 5, 2) := by decide +kernel
theorem dJ2_inflate_0e8fd_10 : decode cJ2_inflate_0e8fd 10 = .ok (.iload 5, 2) := by decide +kernel
theorem dJ2_inflate_0e8fd_12 : decode cJ2_inflate_0e8fd 12 = .ok (.iload 4, 2) := by decide +kernel
theorem dJ2_inflate_0e8fd_14 : decode cJ2_inflate_0e8fd 14 = .ok (.if_icmp .ge 27, 3) := by decide +kernel
theorem dJ2_inflate_0e8fd_17 : decode cJ2_inflate_0e8fd 17 = .ok (.aload_n 2, 1) := by decide +kernel
theorem dJ2_inflate_0e8fd_18 : decode cJ2_inflate_0e8fd 18 = .ok (.iload_n 3, 1) := by decide +kernel
theorem dJ2_inflate_0e8fd_19 : decode cJ2_inflate_0e8fd 19 = .ok (.iinc 3 1, 3) := by decide +kernel
theorem dJ2_inflate_0e8fd_22 : decode cJ2_inflate_0e8fd 22 = .ok (.aload_n 0, 1) := by decide +kernel
theorem dJ2_inflate_0e8fd_23 : decode cJ2_inflate_0e8fd 23 = .ok (.iload_n 1, 1) := by decide +kernel
theorem dJ2_inflate_0e8fd_24 : decode cJ2_inflate_0e8fd 24 = .ok (.iinc 1 1, 3) := by decide +kernel
theorem dJ2_inflate_0e8fd_27 : decode cJ2_inflate_0e8fd 27 = .ok (.baload, 1) := by decide +kernel
theorem dJ2_inflate_0e8fd_28 : decode cJ2_inflate_0e8fd 28 = .ok (.sipush 255, 3) := by decide +kernel
theorem dJ2_inflate_0e8fd_31 : decode cJ2_inflate_0e8fd 31 = .ok (.iand, 1) := by decide +kernel
theorem dJ2_inflate_0e8fd_32 : decode cJ2_inflate_0e8fd 32 = .ok (.invokestatic 111, 3) := by decide +kernel
theorem dJ2_inflate_0e8fd_35 : decode cJ2_inflate_0e8fd 35 = .ok (.iinc 5 1, 3) := by decide +kernel
theorem dJ2_inflate_0e8fd_38 : decode cJ2_inflate_0e8fd 38 = .ok (.goto (-28), 3) := by decide +kernel
theorem dJ2_inflate_0e8fd_41 : decode cJ2_inflate_0e8fd 41 = .ok (.return_, 1) := by decide +kernel
theorem dJ2_getChars_ba4f3_0 : decode cJ2_getChars_ba4f3 0 = .ok (.iload_n 1, 1) := by decide +kernel
theorem dJ2_getChars_ba4f3_1 : decode cJ2_getChars_ba4f3 1 = .ok (.istore 5, 2) := by decide +kernel
theorem dJ2_getChars_ba4f3_3 : decode cJ2_getChars_ba4f3 3 = .ok (.iload_n 0, 1) := by decide +kernel
theorem dJ2_getChars_ba4f3_4 : decode cJ2_getChars_ba4f3 4 = .ok (.ifCond .ge 7, 3) := by decide +kernel
theorem dJ2_getChars_ba4f3_7 : decode cJ2_getChars_ba4f3 7 = .ok (.iconst 1, 1) := by decide +kernel
theorem dJ2_getChars_ba4f3_8 : decode cJ2_getChars_ba4f3 8 = .ok (.goto 4, 3) := by decide +kernel
theorem dJ2_getChars_ba4f3_11 : decode cJ2_getChars_ba4f3 11 = .ok (.iconst 0, 1) := by decide +kernel
theorem dJ2_getChars_ba4f3_12 : decode cJ2_getChars_ba4f3 12 = .ok (.istore 6, 2) := by decide +kernel
theorem dJ2_getChars_ba4f3_14 : decode cJ2_getChars_ba4f3 14 = .ok (.iload 6, 2) := by decide +kernel
theorem dJ2_getChars_ba4f3_16 : decode cJ2_getChars_ba4f3 16 = .ok (.ifCond .ne 6, 3) := by decide +kernel
theorem dJ2_getChars_ba4f3_19 : decode cJ2_getChars_ba4f3 19 = .ok (.iload_n 0, 1) := by decide +kernel
theorem dJ2_getChars_ba4f3_20 : decode cJ2_getChars_ba4f3 20 = .ok (.ineg, 1) := by decide +kernel
theorem dJ2_getChars_ba4f3_21 : decode cJ2_getChars_ba4f3 21 = .ok (.istore_n 0, 1) := by decide +kernel
theorem dJ2_getChars_ba4f3_22 : decode cJ2_getChars_ba4f3 22 = .ok (.iload_n 0, 1) := by decide +kernel
theorem dJ2_getChars_ba4f3_23 : decode cJ2_getChars_ba4f3 23 = .ok (.bipush (-100), 2) := by decide +kernel
theorem dJ2_getChars_ba4f3_25 : decode cJ2_getChars_ba4f3 25 = .ok (.if_icmp .gt 51, 3) := by decide +kernel
theorem dJ2_getChars_ba4f3_28 : decode cJ2_getChars_ba4f3 28 = .ok (.iload_n 0, 1) := by decide +kernel
theorem dJ2_getChars_ba4f3_29 : decode cJ2_getChars_ba4f3 29 = .ok (.bipush 100, 2) := by decide +kernel
theorem dJ2_getChars_ba4f3_31 : decode cJ2_getChars_ba4f3 31 = .ok (.idiv, 1) := by decide +kernel
theorem dJ2_getChars_ba4f3_32 : decode cJ2_getChars_ba4f3 32 = .ok (.istore_n 3, 1) := by decide +kernel
theorem dJ2_getChars_ba4f3_33 : decode cJ2_getChars_ba4f3 33 = .ok (.iload_n 3, 1) := by decide +kernel
theorem dJ2_getChars_ba4f3_34 : decode cJ2_getChars_ba4f3 34 = .ok (.bipush 100, 2) := by decide +kernel
theorem dJ2_getChars_ba4f3_36 : decode cJ2_getChars_ba4f3 36 = .ok (.imul, 1) := by decide +kernel
theorem dJ2_getChars_ba4f3_37 : decode cJ2_getChars_ba4f3 37 = .ok (.iload_n 0, 1) := by decide +kernel
theorem dJ2_getChars_ba4f3_38 : decode cJ2_getChars_ba4f3 38 = .ok (.isub, 1) := by decide +kernel
theorem dJ2_getChars_ba4f3_39 : decode cJ2_getChars_ba4f3 39 = .ok (.istore 4, 2) := by decide +kernel
theorem dJ2_getChars_ba4f3_41 : decode cJ2_getChars_ba4f3 41 = .ok (.iload_n 3, 1) := by decide +kernel
theorem dJ2_getChars_ba4f3_42 : decode cJ2_getChars_ba4f3 42 = .ok (.istore_n 0, 1) := by decide +kernel
theorem dJ2_getChars_ba4f3_43 : decode cJ2_getChars_ba4f3 43 = .ok (.aload_n 2, 1) := by decide +kernel
theorem dJ2_getChars_ba4f3_44 : decode cJ2_getChars_ba4f3 44 = .ok (.iinc 5 (-1), 3) := by decide +kernel
theorem dJ2_getChars_ba4f3_47 : decode cJ2_getChars_ba4f3 47 = .ok (.iload 5, 2) := by decide +kernel
theorem dJ2_getChars_ba4f3_49 : decode cJ2_getChars_ba4f3 49 = .ok (.getstatic 403, 3) := by decide +kernel
theorem dJ2_getChars_ba4f3_52 : decode cJ2_getChars_ba4f3 52 = .ok (.iload 4, 2) := by decide +kernel
theorem dJ2_getChars_ba4f3_54 : decode cJ2_getChars_ba4f3 54 = .ok (.baload, 1) := by decide +kernel
theorem dJ2_getChars_ba4f3_55 : decode cJ2_getChars_ba4f3 55 = .ok (.invokestatic 111, 3) := by decide +kernel
theorem dJ2_getChars_ba4f3_58 : decode cJ2_getChars_ba4f3 58 = .ok (.aload_n 2, 1) := by decide +kernel
theorem dJ2_getChars_ba4f3_59 : decode cJ2_getChars_ba4f3 59 = .ok (.iinc 5 (-1), 3) := by decide +kernel
theorem dJ2_getChars_ba4f3_62 : decode cJ2_getChars_ba4f3 62 = .ok (.iload 5, 2) := by decide +kernel
theorem dJ2_getChars_ba4f3_64 : decode cJ2_getChars_ba4f3 64 = .ok (.getstatic 407, 3) := by decide +kernel
theorem dJ2_getChars_ba4f3_67 : decode cJ2_getChars_ba4f3 67 = .ok (.iload 4, 2) := by decide +kernel
theorem dJ2_getChars_ba4f3_69 : decode cJ2_getChars_ba4f3 69 = .ok (.baload, 1) := by decide +kernel
theorem dJ2_getChars_ba4f3_70 : decode cJ2_getChars_ba4f3 70 = .ok (.invokestatic 111, 3) := by decide +kernel
theorem dJ2_getChars_ba4f3_73 : decode cJ2_getChars_ba4f3 73 = .ok (.goto (-51), 3) := by decide +kernel
theorem dJ2_getChars_ba4f3_76 : decode cJ2_getChars_ba4f3 76 = .ok (.aload_n 2, 1) := by decide +kernel
theorem dJ2_getChars_ba4f3_77 : decode cJ2_getChars_ba4f3 77 = .ok (.iinc 5 (-1), 3) := by decide +kernel
theorem dJ2_getChars_ba4f3_80 : decode cJ2_getChars_ba4f3 80 = .ok (.iload 5, 2) := by decide +kernel
theorem dJ2_getChars_ba4f3_82 : decode cJ2_getChars_ba4f3 82 = .ok (.getstatic 403, 3) := by decide +kernel
theorem dJ2_getChars_ba4f3_85 : decode cJ2_getChars_ba4f3 85 = .ok (.iload_n 0, 1) := by decide +kernel
theorem dJ2_getChars_ba4f3_86 : decode cJ2_getChars_ba4f3 86 = .ok (.ineg, 1) := by decide +kernel
theorem dJ2_getChars_ba4f3_87 : decode cJ2_getChars_ba4f3 87 = .ok (.baload, 1) := by decide +kernel
theorem dJ2_getChars_ba4f3_88 : decode cJ2_getChars_ba4f3 88 = .ok (.invokestatic 111, 3) := by decide +kernel
theorem dJ2_getChars_ba4f3_91 : decode cJ2_getChars_ba4f3 91 = .ok (.iload_n 0, 1) := by decide +kernel
theorem dJ2_getChars_ba4f3_92 : decode cJ2_getChars_ba4f3 92 = .ok (.bipush (-9), 2) := by decide +kernel
theorem dJ2_getChars_ba4f3_94 : decode cJ2_getChars_ba4f3 94 = .ok (.if_icmp .ge 18, 3) := by decide +kernel
theorem dJ2_getChars_ba4f3_97 : decode cJ2_getChars_ba4f3 97 = .ok (.aload_n 2, 1) := by decide +kernel
theorem dJ2_getChars_ba4f3_98 : decode cJ2_getChars_ba4f3 98 = .ok (.iinc 5 (-1), 3) := by decide +kernel
theorem dJ2_getChars_ba4f3_101 : decode cJ2_getChars_ba4f3 101 = .ok (.iload 5, 2) := by decide +kernel
theorem dJ2_getChars_ba4f3_103 : decode cJ2_getChars_ba4f3 103 = .ok (.getstatic 407, 3) := by decide +kernel
theorem dJ2_getChars_ba4f3_106 : decode cJ2_getChars_ba4f3 106 = .ok (.iload_n 0, 1) := by decide +kernel
theorem dJ2_getChars_ba4f3_107 : decode cJ2_getChars_ba4f3 107 = .ok (.ineg, 1) := by decide +kernel
theorem dJ2_getChars_ba4f3_108 : decode cJ2_getChars_ba4f3 108 = .ok (.baload, 1) := by decide +kernel
theorem dJ2_getChars_ba4f3_109 : decode cJ2_getChars_ba4f3 109 = .ok (.invokestatic 111, 3) := by decide +kernel
theorem dJ2_getChars_ba4f3_112 : decode cJ2_getChars_ba4f3 112 = .ok (.iload 6, 2) := by decide +kernel
theorem dJ2_getChars_ba4f3_114 : decode cJ2_getChars_ba4f3 114 = .ok (.ifCond .eq 14, 3) := by decide +kernel
theorem dJ2_getChars_ba4f3_117 : decode cJ2_getChars_ba4f3 117 = .ok (.aload_n 2, 1) := by decide +kernel
theorem dJ2_getChars_ba4f3_118 : decode cJ2_getChars_ba4f3 118 = .ok (.iinc 5 (-1), 3) := by decide +kernel
theorem dJ2_getChars_ba4f3_121 : decode cJ2_getChars_ba4f3 121 = .ok (.iload 5, 2) := by decide +kernel
theorem dJ2_getChars_ba4f3_123 : decode cJ2_getChars_ba4f3 123 = .ok (.bipush 45, 2) := by decide +kernel
theorem dJ2_getChars_ba4f3_125 : decode cJ2_getChars_ba4f3 125 = .ok (.invokestatic 111, 3) := by decide +kernel
theorem dJ2_getChars_ba4f3_128 : decode cJ2_getChars_ba4f3 128 = .ok (.iload 5, 2) := by decide +kernel
theorem dJ2_getChars_ba4f3_130 : decode cJ2_getChars_ba4f3 130 = .ok (.ireturn, 1) := by decide +kernel
theorem dJ2_checkIndex_2214a_0 : decode cJ2_checkIndex_2214a 0 = .ok (.iload_n 0, 1) := by decide +kernel
theorem dJ2_checkIndex_2214a_1 : decode cJ2_checkIndex_2214a 1 = .ok (.aload_n 1, 1) := by decide +kernel
theorem dJ2_checkIndex_2214a_2 : decode cJ2_checkIndex_2214a 2 = .ok (.invokestatic 48, 3) := by decide +kernel
theorem dJ2_checkIndex_2214a_5 : decode cJ2_checkIndex_2214a 5 = .ok (.invokestatic 414, 3) := by decide +kernel
theorem dJ2_checkIndex_2214a_8 : decode cJ2_checkIndex_2214a 8 = .ok (.return_, 1) := by decide +kernel
theorem dJ2_checkBoundsBeginEnd_d044e_0 : decode cJ2_checkBoundsBeginEnd_d044e 0 = .ok (.iload_n 0, 1) := by decide +kernel
theorem dJ2_checkBoundsBeginEnd_d044e_1 : decode cJ2_checkBoundsBeginEnd_d044e 1 = .ok (.iload_n 1, 1) := by decide +kernel
theorem dJ2_checkBoundsBeginEnd_d044e_2 : decode cJ2_checkBoundsBeginEnd_d044e 2 = .ok (.aload_n 2, 1) := by decide +kernel
theorem dJ2_checkBoundsBeginEnd_d044e_3 : decode cJ2_checkBoundsBeginEnd_d044e 3 = .ok (.invokestatic 48, 3) := by decide +kernel
theorem dJ2_checkBoundsBeginEnd_d044e_6 : decode cJ2_checkBoundsBeginEnd_d044e 6 = .ok (.invokestatic 241, 3) := by decide +kernel
theorem dJ2_checkBoundsBeginEnd_d044e_9 : decode cJ2_checkBoundsBeginEnd_d044e 9 = .ok (.return_, 1) := by decide +kernel
theorem dJ2_checkBoundsOffCount_d044e_0 : decode cJ2_checkBoundsOffCount_d044e 0 = .ok (.iload_n 0, 1) := by decide +kernel
theorem dJ2_checkBoundsOffCount_d044e_1 : decode cJ2_checkBoundsOffCount_d044e 1 = .ok (.iload_n 1, 1) := by decide +kernel
theorem dJ2_checkBoundsOffCount_d044e_2 : decode cJ2_checkBoundsOffCount_d044e 2 = .ok (.aload_n 2, 1) := by decide +kernel
theorem dJ2_checkBoundsOffCount_d044e_3 : decode cJ2_checkBoundsOffCount_d044e 3 = .ok (.invokestatic 48, 3) := by decide +kernel
theorem dJ2_checkBoundsOffCount_d044e_6 : decode cJ2_checkBoundsOffCount_d044e 6 = .ok (.invokestatic 419, 3) := by decide +kernel
theorem dJ2_checkBoundsOffCount_d044e_9 : decode cJ2_checkBoundsOffCount_d044e 9 = .ok (.pop, 1) := by decide +kernel
theorem dJ2_checkBoundsOffCount_d044e_10 : decode cJ2_checkBoundsOffCount_d044e 10 = .ok (.return_, 1) := by decide +kernel
theorem dJ7_rangeCheck_23922_0 : decode cJ7_rangeCheck_23922 0 = .ok (.iload_n 1, 1) := by decide +kernel
theorem dJ7_rangeCheck_23922_1 : decode cJ7_rangeCheck_23922 1 = .ok (.iload_n 2, 1) := by decide +kernel
theorem dJ7_rangeCheck_23922_2 : decode cJ7_rangeCheck_23922 2 = .ok (.if_icmp .le 44, 3) := by decide +kernel
theorem dJ7_rangeCheck_23922_5 : decode cJ7_rangeCheck_23922 5 = .ok (.new 43, 3) := by decide +kernel
theorem dJ7_rangeCheck_23922_8 : decode cJ7_rangeCheck_23922 8 = .ok (.dup, 1) := by decide +kernel
theorem dJ7_rangeCheck_23922_9 : decode cJ7_rangeCheck_23922 9 = .ok (.new 45, 3) := by decide +kernel
theorem dJ7_rangeCheck_23922_12 : decode cJ7_rangeCheck_23922 12 = .ok (.dup, 1) := by decide +kernel
theorem dJ7_rangeCheck_23922_13 : decode cJ7_rangeCheck_23922 13 = .ok (.invokespecial 47, 3) := by decide +kernel
theorem dJ7_rangeCheck_23922_16 : decode cJ7_rangeCheck_23922 16 = .ok (.ldc 48, 2) := by decide +kernel
theorem dJ7_rangeCheck_23922_18 : decode cJ7_rangeCheck_23922 18 = .ok (.invokevirtual 50, 3) := by decide +kernel
theorem dJ7_rangeCheck_23922_21 : decode cJ7_rangeCheck_23922 21 = .ok (.iload_n 1, 1) := by decide +kernel
theorem dJ7_rangeCheck_23922_22 : decode cJ7_rangeCheck_23922 22 = .ok (.invokevirtual 54, 3) := by decide +kernel
theorem dJ7_rangeCheck_23922_25 : decode cJ7_rangeCheck_23922 25 = .ok (.ldc 57, 2) := by decide +kernel
theorem dJ7_rangeCheck_23922_27 : decode cJ7_rangeCheck_23922 27 = .ok (.invokevirtual 50, 3) := by decide +kernel
theorem dJ7_rangeCheck_23922_30 : decode cJ7_rangeCheck_23922 30 = .ok (.iload_n 2, 1) := by decide +kernel
theorem dJ7_rangeCheck_23922_31 : decode cJ7_rangeCheck_23922 31 = .ok (.invokevirtual 54, 3) := by decide +kernel
theorem dJ7_rangeCheck_23922_34 : decode cJ7_rangeCheck_23922 34 = .ok (.ldc 59, 2) := by decide +kernel
theorem dJ7_rangeCheck_23922_36 : decode cJ7_rangeCheck_23922 36 = .ok (.invokevirtual 50, 3) := by decide +kernel
theorem dJ7_rangeCheck_23922_39 : decode cJ7_rangeCheck_23922 39 = .ok (.invokevirtual 61, 3) := by decide +kernel
theorem dJ7_rangeCheck_23922_42 : decode cJ7_rangeCheck_23922 42 = .ok (.invokespecial 65, 3) := by decide +kernel
theorem dJ7_rangeCheck_23922_45 : decode cJ7_rangeCheck_23922 45 = .ok (.athrow, 1) := by decide +kernel
theorem dJ7_rangeCheck_23922_46 : decode cJ7_rangeCheck_23922 46 = .ok (.iload_n 1, 1) := by decide +kernel
theorem dJ7_rangeCheck_23922_47 : decode cJ7_rangeCheck_23922 47 = .ok (.ifCond .ge 12, 3) := by decide +kernel
theorem dJ7_rangeCheck_23922_50 : decode cJ7_rangeCheck_23922 50 = .ok (.new 68, 3) := by decide +kernel
theorem dJ7_rangeCheck_23922_53 : decode cJ7_rangeCheck_23922 53 = .ok (.dup, 1) := by decide +kernel
theorem dJ7_rangeCheck_23922_54 : decode cJ7_rangeCheck_23922 54 = .ok (.iload_n 1, 1) := by decide +kernel
theorem dJ7_rangeCheck_23922_55 : decode cJ7_rangeCheck_23922 55 = .ok (.invokespecial 70, 3) := by decide +kernel
theorem dJ7_rangeCheck_23922_58 : decode cJ7_rangeCheck_23922 58 = .ok (.athrow, 1) := by decide +kernel
theorem dJ7_rangeCheck_23922_59 : decode cJ7_rangeCheck_23922 59 = .ok (.iload_n 2, 1) := by decide +kernel
theorem dJ7_rangeCheck_23922_60 : decode cJ7_rangeCheck_23922 60 = .ok (.iload_n 0, 1) := by decide +kernel
theorem dJ7_rangeCheck_23922_61 : decode cJ7_rangeCheck_23922 61 = .ok (.if_icmp .le 12, 3) := by decide +kernel
theorem dJ7_rangeCheck_23922_64 : decode cJ7_rangeCheck_23922 64 = .ok (.new 68, 3) := by decide +kernel
theorem dJ7_rangeCheck_23922_67 : decode cJ7_rangeCheck_23922 67 = .ok (.dup, 1) := by decide +kernel
theorem dJ7_rangeCheck_23922_68 : decode cJ7_rangeCheck_23922 68 = .ok (.iload_n 2, 1) := by decide +kernel
theorem dJ7_rangeCheck_23922_69 : decode cJ7_rangeCheck_23922 69 = .ok (.invokespecial 70, 3) := by decide +kernel
theorem dJ7_rangeCheck_23922_72 : decode cJ7_rangeCheck_23922 72 = .ok (.athrow, 1) := by decide +kernel
theorem dJ7_rangeCheck_23922_73 : decode cJ7_rangeCheck_23922 73 = .ok (.return_, 1) := by decide +kernel
theorem dJ7_fill_eb02e_0 : decode cJ7_fill_eb02e 0 = .ok (.aload_n 0, 1) := by decide +kernel
theorem dJ7_fill_eb02e_1 : decode cJ7_fill_eb02e 1 = .ok (.arraylength, 1) := by decide +kernel
theorem dJ7_fill_eb02e_2 : decode cJ7_fill_eb02e 2 = .ok (.iload_n 1, 1) := by decide +kernel
theorem dJ7_fill_eb02e_3 : decode cJ7_fill_eb02e 3 = .ok (.iload_n 2, 1) := by decide +kernel
theorem dJ7_fill_eb02e_4 : decode cJ7_fill_eb02e 4 = .ok (.invokestatic 13, 3) := by decide +kernel
theorem dJ7_fill_eb02e_7 : decode cJ7_fill_eb02e 7 = .ok (.iload_n 1, 1) := by decide +kernel
theorem dJ7_fill_eb02e_8 : decode cJ7_fill_eb02e 8 = .ok (.istore 4, 2) := by decide +kernel
theorem dJ7_fill_eb02e_10 : decode cJ7_fill_eb02e 10 = .ok (.iload 4, 2) := by decide +kernel
theorem dJ7_fill_eb02e_12 : decode cJ7_fill_eb02e 12 = .ok (.iload_n 2, 1) := by decide +kernel
theorem dJ7_fill_eb02e_13 : decode cJ7_fill_eb02e 13 = .ok (.if_icmp .ge 14, 3) := by decide +kernel
theorem dJ7_fill_eb02e_16 : decode cJ7_fill_eb02e 16 = .ok (.aload_n 0, 1) := by decide +kernel
theorem dJ7_fill_eb02e_17 : decode cJ7_fill_eb02e 17 = .ok (.iload 4, 2) := by decide +kernel
theorem dJ7_fill_eb02e_19 : decode cJ7_fill_eb02e 19 = .ok (.iload_n 3, 1) := by decide +kernel
theorem dJ7_fill_eb02e_20 : decode cJ7_fill_eb02e 20 = .ok (.bastore, 1) := by decide +kernel
theorem dJ7_fill_eb02e_21 : decode cJ7_fill_eb02e 21 = .ok (.iinc 4 1, 3) := by decide +kernel
theorem dJ7_fill_eb02e_24 : decode cJ7_fill_eb02e 24 = .ok (.goto (-14), 3) := by decide +kernel
theorem dJ7_fill_eb02e_27 : decode cJ7_fill_eb02e 27 = .ok (.return_, 1) := by decide +kernel
theorem dJ7_copyOf_9075b_0 : decode cJ7_copyOf_9075b 0 = .ok (.iload_n 1, 1) := by decide +kernel
theorem dJ7_copyOf_9075b_1 : decode cJ7_copyOf_9075b 1 = .ok (.aload_n 0, 1) := by decide +kernel
theorem dJ7_copyOf_9075b_2 : decode cJ7_copyOf_9075b 2 = .ok (.arraylength, 1) := by decide +kernel
theorem dJ7_copyOf_9075b_3 : decode cJ7_copyOf_9075b 3 = .ok (.if_icmp .ne 11, 3) := by decide +kernel
theorem dJ7_copyOf_9075b_6 : decode cJ7_copyOf_9075b 6 = .ok (.aload_n 0, 1) := by decide +kernel
theorem dJ7_copyOf_9075b_7 : decode cJ7_copyOf_9075b 7 = .ok (.invokevirtual 310, 3) := by decide +kernel
theorem dJ7_copyOf_9075b_10 : decode cJ7_copyOf_9075b 10 = .ok (.checkcast 311, 3) := by decide +kernel
theorem dJ7_copyOf_9075b_13 : decode cJ7_copyOf_9075b 13 = .ok (.areturn, 1) := by decide +kernel
theorem dJ7_copyOf_9075b_14 : decode cJ7_copyOf_9075b 14 = .ok (.iload_n 1, 1) := by decide +kernel
theorem dJ7_copyOf_9075b_15 : decode cJ7_copyOf_9075b 15 = .ok (.newarray .byte, 2) := by decide +kernel
theorem dJ7_copyOf_9075b_17 : decode cJ7_copyOf_9075b 17 = .ok (.astore_n 2, 1) := by decide +kernel
theorem dJ7_copyOf_9075b_18 : decode cJ7_copyOf_9075b 18 = .ok (.aload_n 0, 1) := by decide +kernel
theorem dJ7_copyOf_9075b_19 : decode cJ7_copyOf_9075b 19 = .ok (.iconst 0, 1) := by decide +kernel
theorem dJ7_copyOf_9075b_20 : decode cJ7_copyOf_9075b 20 = .ok (.aload_n 2, 1) := by decide +kernel
theorem dJ7_copyOf_9075b_21 : decode cJ7_copyOf_9075b 21 = .ok (.iconst 0, 1) := by decide +kernel
theorem dJ7_copyOf_9075b_22 : decode cJ7_copyOf_9075b 22 = .ok (.aload_n 0, 1) := by decide +kernel
theorem dJ7_copyOf_9075b_23 : decode cJ7_copyOf_9075b 23 = .ok (.arraylength, 1) := by decide +kernel
theorem dJ7_copyOf_9075b_24 : decode cJ7_copyOf_9075b 24 = .ok (.iload_n 1, 1) := by decide +kernel
theorem dJ7_copyOf_9075b_25 : decode cJ7_copyOf_9075b 25 = .ok (.invokestatic 304, 3) := by decide +kernel
theorem dJ7_copyOf_9075b_28 : decode cJ7_copyOf_9075b 28 = .ok (.invokestatic 150, 3) := by decide +kernel
theorem dJ7_copyOf_9075b_31 : decode cJ7_copyOf_9075b 31 = .ok (.aload_n 2, 1) := by decide +kernel
theorem dJ7_copyOf_9075b_32 : decode cJ7_copyOf_9075b 32 = .ok (.areturn, 1) := by decide +kernel
theorem dJ7_checkLength_df160_0 : decode cJ7_checkLength_df160 0 = .ok (.iload_n 1, 1) := by decide +kernel
theorem dJ7_checkLength_df160_1 : decode cJ7_checkLength_df160 1 = .ok (.iload_n 0, 1) := by decide +kernel
theorem dJ7_checkLength_df160_2 : decode cJ7_checkLength_df160 2 = .ok (.if_icmp .ge 35, 3) := by decide +kernel
theorem dJ7_checkLength_df160_5 : decode cJ7_checkLength_df160 5 = .ok (.new 43, 3) := by decide +kernel
theorem dJ7_checkLength_df160_8 : decode cJ7_checkLength_df160 8 = .ok (.dup, 1) := by decide +kernel
theorem dJ7_checkLength_df160_9 : decode cJ7_checkLength_df160 9 = .ok (.new 45, 3) := by decide +kernel
theorem dJ7_checkLength_df160_12 : decode cJ7_checkLength_df160 12 = .ok (.dup, 1) := by decide +kernel
theorem dJ7_checkLength_df160_13 : decode cJ7_checkLength_df160 13 = .ok (.invokespecial 47, 3) := by decide +kernel
theorem dJ7_checkLength_df160_16 : decode cJ7_checkLength_df160 16 = .ok (.iload_n 0, 1) := by decide +kernel
theorem dJ7_checkLength_df160_17 : decode cJ7_checkLength_df160 17 = .ok (.invokevirtual 54, 3) := by decide +kernel
theorem dJ7_checkLength_df160_20 : decode cJ7_checkLength_df160 20 = .ok (.ldc_w 337, 3) := by decide +kernel
theorem dJ7_checkLength_df160_23 : decode cJ7_checkLength_df160 23 = .ok (.invokevirtual 50, 3) := by decide +kernel
theorem dJ7_checkLength_df160_26 : decode cJ7_checkLength_df160 26 = .ok (.iload_n 1, 1) := by decide +kernel
theorem dJ7_checkLength_df160_27 : decode cJ7_checkLength_df160 27 = .ok (.invokevirtual 54, 3) := by decide +kernel
theorem dJ7_checkLength_df160_30 : decode cJ7_checkLength_df160 30 = .ok (.invokevirtual 61, 3) := by decide +kernel
theorem dJ7_checkLength_df160_33 : decode cJ7_checkLength_df160 33 = .ok (.invokespecial 65, 3) := by decide +kernel
theorem dJ7_checkLength_df160_36 : decode cJ7_checkLength_df160 36 = .ok (.athrow, 1) := by decide +kernel
theorem dJ7_checkLength_df160_37 : decode cJ7_checkLength_df160 37 = .ok (.return_, 1) := by decide +kernel
theorem dJ7_copyOfRange_39247_0 : decode cJ7_copyOfRange_39247 0 = .ok (.iload_n 1, 1) := by decide +kernel
theorem dJ7_copyOfRange_39247_1 : decode cJ7_copyOfRange_39247 1 = .ok (.ifCond .ne 9, 3) := by decide +kernel
theorem dJ7_copyOfRange_39247_4 : decode cJ7_copyOfRange_39247 4 = .ok (.iload_n 2, 1) := by decide +kernel
theorem dJ7_copyOfRange_39247_5 : decode cJ7_copyOfRange_39247 5 = .ok (.aload_n 0, 1) := by decide +kernel
theorem dJ7_copyOfRange_39247_6 : decode cJ7_copyOfRange_39247 6 = .ok (.arraylength, 1) := by decide +kernel
theorem dJ7_copyOfRange_39247_7 : decode cJ7_copyOfRange_39247 7 = .ok (.if_icmp .eq 10, 3) := by decide +kernel
theorem dJ7_copyOfRange_39247_10 : decode cJ7_copyOfRange_39247 10 = .ok (.aload_n 0, 1) := by decide +kernel
theorem dJ7_copyOfRange_39247_11 : decode cJ7_copyOfRange_39247 11 = .ok (.iload_n 1, 1) := by decide +kernel
theorem dJ7_copyOfRange_39247_12 : decode cJ7_copyOfRange_39247 12 = .ok (.iload_n 2, 1) := by decide +kernel
theorem dJ7_copyOfRange_39247_13 : decode cJ7_copyOfRange_39247 13 = .ok (.invokestatic 339, 3) := by decide +kernel
theorem dJ7_copyOfRange_39247_16 : decode cJ7_copyOfRange_39247 16 = .ok (.areturn, 1) := by decide +kernel
theorem dJ7_copyOfRange_39247_17 : decode cJ7_copyOfRange_39247 17 = .ok (.aload_n 0, 1) := by decide +kernel
theorem dJ7_copyOfRange_39247_18 : decode cJ7_copyOfRange_39247 18 = .ok (.invokevirtual 310, 3) := by decide +kernel
theorem dJ7_copyOfRange_39247_21 : decode cJ7_copyOfRange_39247 21 = .ok (.checkcast 311, 3) := by decide +kernel
theorem dJ7_copyOfRange_39247_24 : decode cJ7_copyOfRange_39247 24 = .ok (.areturn, 1) := by decide +kernel
theorem dJ7_copyOfRangeByte_39247_0 : decode cJ7_copyOfRangeByte_39247 0 = .ok (.iload_n 1, 1) := by decide +kernel
theorem dJ7_copyOfRangeByte_39247_1 : decode cJ7_copyOfRangeByte_39247 1 = .ok (.iload_n 2, 1) := by decide +kernel
theorem dJ7_copyOfRangeByte_39247_2 : decode cJ7_copyOfRangeByte_39247 2 = .ok (.invokestatic 343, 3) := by decide +kernel
theorem dJ7_copyOfRangeByte_39247_5 : decode cJ7_copyOfRangeByte_39247 5 = .ok (.iload_n 2, 1) := by decide +kernel
theorem dJ7_copyOfRangeByte_39247_6 : decode cJ7_copyOfRangeByte_39247 6 = .ok (.iload_n 1, 1) := by decide +kernel
theorem dJ7_copyOfRangeByte_39247_7 : decode cJ7_copyOfRangeByte_39247 7 = .ok (.isub, 1) := by decide +kernel
theorem dJ7_copyOfRangeByte_39247_8 : decode cJ7_copyOfRangeByte_39247 8 = .ok (.istore_n 3, 1) := by decide +kernel
theorem dJ7_copyOfRangeByte_39247_9 : decode cJ7_copyOfRangeByte_39247 9 = .ok (.iload_n 3, 1) := by decide +kernel
theorem dJ7_copyOfRangeByte_39247_10 : decode cJ7_copyOfRangeByte_39247 10 = .ok (.newarray .byte, 2) := by decide +kernel
theorem dJ7_copyOfRangeByte_39247_12 : decode cJ7_copyOfRangeByte_39247 12 = .ok (.astore 4, 2) := by decide +kernel
theorem dJ7_copyOfRangeByte_39247_14 : decode cJ7_copyOfRangeByte_39247 14 = .ok (.aload_n 0, 1) := by decide +kernel
theorem dJ7_copyOfRangeByte_39247_15 : decode cJ7_copyOfRangeByte_39247 15 = .ok (.iload_n 1, 1) := by decide +kernel
theorem dJ7_copyOfRangeByte_39247_16 : decode cJ7_copyOfRangeByte_39247 16 = .ok (.aload 4, 2) := by decide +kernel
theorem dJ7_copyOfRangeByte_39247_18 : decode cJ7_copyOfRangeByte_39247 18 = .ok (.iconst 0, 1) := by decide +kernel
theorem dJ7_copyOfRangeByte_39247_19 : decode cJ7_copyOfRangeByte_39247 19 = .ok (.aload_n 0, 1) := by decide +kernel
theorem dJ7_copyOfRangeByte_39247_20 : decode cJ7_copyOfRangeByte_39247 20 = .ok (.arraylength, 1) := by decide +kernel
theorem dJ7_copyOfRangeByte_39247_21 : decode cJ7_copyOfRangeByte_39247 21 = .ok (.iload_n 1, 1) := by decide +kernel
theorem dJ7_copyOfRangeByte_39247_22 : decode cJ7_copyOfRangeByte_39247 22 = .ok (.isub, 1) := by decide +kernel
theorem dJ7_copyOfRangeByte_39247_23 : decode cJ7_copyOfRangeByte_39247 23 = .ok (.iload_n 3, 1) := by decide +kernel
theorem dJ7_copyOfRangeByte_39247_24 : decode cJ7_copyOfRangeByte_39247 24 = .ok (.invokestatic 304, 3) := by decide +kernel
theorem dJ7_copyOfRangeByte_39247_27 : decode cJ7_copyOfRangeByte_39247 27 = .ok (.invokestatic 150, 3) := by decide +kernel
theorem dJ7_copyOfRangeByte_39247_30 : decode cJ7_copyOfRangeByte_39247 30 = .ok (.aload 4, 2) := by decide +kernel
theorem dJ7_copyOfRangeByte_39247_32 : decode cJ7_copyOfRangeByte_39247 32 = .ok (.areturn, 1) := by decide +kernel
theorem dJ8_newLength_cabcc_0 : decode cJ8_newLength_cabcc 0 = .ok (.iload_n 0, 1) := by decide +kernel
theorem dJ8_newLength_cabcc_1 : decode cJ8_newLength_cabcc 1 = .ok (.iload_n 1, 1) := by decide +kernel
theorem dJ8_newLength_cabcc_2 : decode cJ8_newLength_cabcc 2 = .ok (.iload_n 2, 1) := by decide +kernel
theorem dJ8_newLength_cabcc_3 : decode cJ8_newLength_cabcc 3 = .ok (.invokestatic 194, 3) := by decide +kernel
theorem dJ8_newLength_cabcc_6 : decode cJ8_newLength_cabcc 6 = .ok (.iadd, 1) := by decide +kernel
theorem dJ8_newLength_cabcc_7 : decode cJ8_newLength_cabcc 7 = .ok (.istore_n 3, 1) := by decide +kernel
theorem dJ8_newLength_cabcc_8 : decode cJ8_newLength_cabcc 8 = .ok (.iconst 0, 1) := by decide +kernel
theorem dJ8_newLength_cabcc_9 : decode cJ8_newLength_cabcc 9 = .ok (.iload_n 3, 1) := by decide +kernel
theorem dJ8_newLength_cabcc_10 : decode cJ8_newLength_cabcc 10 = .ok (.if_icmp .ge 11, 3) := by decide +kernel
theorem dJ8_newLength_cabcc_13 : decode cJ8_newLength_cabcc 13 = .ok (.iload_n 3, 1) := by decide +kernel
theorem dJ8_newLength_cabcc_14 : decode cJ8_newLength_cabcc 14 = .ok (.ldc 200, 2) := by decide +kernel
theorem dJ8_newLength_cabcc_16 : decode cJ8_newLength_cabcc 16 = .ok (.if_icmp .gt 5, 3) := by decide +kernel
theorem dJ8_newLength_cabcc_19 : decode cJ8_newLength_cabcc 19 = .ok (.iload_n 3, 1) := by decide +kernel
theorem dJ8_newLength_cabcc_20 : decode cJ8_newLength_cabcc 20 = .ok (.ireturn, 1) := by decide +kernel
theorem dJ8_newLength_cabcc_21 : decode cJ8_newLength_cabcc 21 = .ok (.iload_n 0, 1) := by decide +kernel
theorem dJ8_newLength_cabcc_22 : decode cJ8_newLength_cabcc 22 = .ok (.iload_n 1, 1) := by decide +kernel
theorem dJ8_newLength_cabcc_23 : decode cJ8_newLength_cabcc 23 = .ok (.invokestatic 201, 3) := by decide +kernel
theorem dJ8_newLength_cabcc_26 : decode cJ8_newLength_cabcc 26 = .ok (.ireturn, 1) := by decide +kernel
theorem dJ8_hugeLength_7cf53_0 : decode cJ8_hugeLength_7cf53 0 = .ok (.iload_n 0, 1) := by decide +kernel
theorem dJ8_hugeLength_7cf53_1 : decode cJ8_hugeLength_7cf53 1 = .ok (.iload_n 1, 1) := by decide +kernel
theorem dJ8_hugeLength_7cf53_2 : decode cJ8_hugeLength_7cf53 2 = .ok (.iadd, 1) := by decide +kernel
theorem dJ8_hugeLength_7cf53_3 : decode cJ8_hugeLength_7cf53 3 = .ok (.istore_n 2, 1) := by decide +kernel
theorem dJ8_hugeLength_7cf53_4 : decode cJ8_hugeLength_7cf53 4 = .ok (.iload_n 2, 1) := by decide +kernel
theorem dJ8_hugeLength_7cf53_5 : decode cJ8_hugeLength_7cf53 5 = .ok (.ifCond .ge 44, 3) := by decide +kernel
theorem dJ8_hugeLength_7cf53_8 : decode cJ8_hugeLength_7cf53 8 = .ok (.new 204, 3) := by decide +kernel
theorem dJ8_hugeLength_7cf53_11 : decode cJ8_hugeLength_7cf53 11 = .ok (.dup, 1) := by decide +kernel
theorem dJ8_hugeLength_7cf53_12 : decode cJ8_hugeLength_7cf53 12 = .ok (.new 89, 3) := by decide +kernel
theorem dJ8_hugeLength_7cf53_15 : decode cJ8_hugeLength_7cf53 15 = .ok (.dup, 1) := by decide +kernel
theorem dJ8_hugeLength_7cf53_16 : decode cJ8_hugeLength_7cf53 16 = .ok (.invokespecial 91, 3) := by decide +kernel
theorem dJ8_hugeLength_7cf53_19 : decode cJ8_hugeLength_7cf53 19 = .ok (.ldc 206, 2) := by decide +kernel
theorem dJ8_hugeLength_7cf53_21 : decode cJ8_hugeLength_7cf53 21 = .ok (.invokevirtual 94, 3) := by decide +kernel
theorem dJ8_hugeLength_7cf53_24 : decode cJ8_hugeLength_7cf53 24 = .ok (.iload_n 0, 1) := by decide +kernel
theorem dJ8_hugeLength_7cf53_25 : decode cJ8_hugeLength_7cf53 25 = .ok (.invokevirtual 98, 3) := by decide +kernel
theorem dJ8_hugeLength_7cf53_28 : decode cJ8_hugeLength_7cf53 28 = .ok (.ldc 208, 2) := by decide +kernel
theorem dJ8_hugeLength_7cf53_30 : decode cJ8_hugeLength_7cf53 30 = .ok (.invokevirtual 94, 3) := by decide +kernel
theorem dJ8_hugeLength_7cf53_33 : decode cJ8_hugeLength_7cf53 33 = .ok (.iload_n 1, 1) := by decide +kernel
theorem dJ8_hugeLength_7cf53_34 : decode cJ8_hugeLength_7cf53 34 = .ok (.invokevirtual 98, 3) := by decide +kernel
theorem dJ8_hugeLength_7cf53_37 : decode cJ8_hugeLength_7cf53 37 = .ok (.ldc 210, 2) := by decide +kernel
theorem dJ8_hugeLength_7cf53_39 : decode cJ8_hugeLength_7cf53 39 = .ok (.invokevirtual 94, 3) := by decide +kernel
theorem dJ8_hugeLength_7cf53_42 : decode cJ8_hugeLength_7cf53 42 = .ok (.invokevirtual 101, 3) := by decide +kernel
theorem dJ8_hugeLength_7cf53_45 : decode cJ8_hugeLength_7cf53 45 = .ok (.invokespecial 212, 3) := by decide +kernel
theorem dJ8_hugeLength_7cf53_48 : decode cJ8_hugeLength_7cf53 48 = .ok (.athrow, 1) := by decide +kernel
theorem dJ8_hugeLength_7cf53_49 : decode cJ8_hugeLength_7cf53 49 = .ok (.iload_n 2, 1) := by decide +kernel
theorem dJ8_hugeLength_7cf53_50 : decode cJ8_hugeLength_7cf53 50 = .ok (.ldc 200, 2) := by decide +kernel
theorem dJ8_hugeLength_7cf53_52 : decode cJ8_hugeLength_7cf53 52 = .ok (.if_icmp .gt 6, 3) := by decide +kernel
theorem dJ8_hugeLength_7cf53_55 : decode cJ8_hugeLength_7cf53 55 = .ok (.ldc 200, 2) := by decide +kernel
theorem dJ8_hugeLength_7cf53_57 : decode cJ8_hugeLength_7cf53 57 = .ok (.ireturn, 1) := by decide +kernel
theorem dJ8_hugeLength_7cf53_58 : decode cJ8_hugeLength_7cf53 58 = .ok (.iload_n 2, 1) := by decide +kernel
theorem dJ8_hugeLength_7cf53_59 : decode cJ8_hugeLength_7cf53 59 = .ok (.ireturn, 1) := by decide +kernel
theorem dJ3_checkIndex_8e157_0 : decode cJ3_checkIndex_8e157 0 = .ok (.iload_n 0, 1) := by decide +kernel
theorem dJ3_checkIndex_8e157_1 : decode cJ3_checkIndex_8e157 1 = .ok (.ifCond .lt 8, 3) := by decide +kernel
theorem dJ3_checkIndex_8e157_4 : decode cJ3_checkIndex_8e157 4 = .ok (.iload_n 0, 1) := by decide +kernel
theorem dJ3_checkIndex_8e157_5 : decode cJ3_checkIndex_8e157 5 = .ok (.iload_n 1, 1) := by decide +kernel
theorem dJ3_checkIndex_8e157_6 : decode cJ3_checkIndex_8e157 6 = .ok (.if_icmp .lt 10, 3) := by decide +kernel
theorem dJ3_checkIndex_8e157_9 : decode cJ3_checkIndex_8e157 9 = .ok (.aload_n 2, 1) := by decide +kernel
theorem dJ3_checkIndex_8e157_10 : decode cJ3_checkIndex_8e157 10 = .ok (.iload_n 0, 1) := by decide +kernel
theorem dJ3_checkIndex_8e157_11 : decode cJ3_checkIndex_8e157 11 = .ok (.iload_n 1, 1) := by decide +kernel
theorem dJ3_checkIndex_8e157_12 : decode cJ3_checkIndex_8e157 12 = .ok (.invokestatic 95, 3) := by decide +kernel
theorem dJ3_checkIndex_8e157_15 : decode cJ3_checkIndex_8e157 15 = .ok (.athrow, 1) := by decide +kernel
theorem dJ3_checkIndex_8e157_16 : decode cJ3_checkIndex_8e157 16 = .ok (.iload_n 0, 1) := by decide +kernel
theorem dJ3_checkIndex_8e157_17 : decode cJ3_checkIndex_8e157 17 = .ok (.ireturn, 1) := by decide +kernel
theorem dJ3_checkFromToIndex_8c36e_0 : decode cJ3_checkFromToIndex_8c36e 0 = .ok (.iload_n 0, 1) := by decide +kernel
theorem dJ3_checkFromToIndex_8c36e_1 : decode cJ3_checkFromToIndex_8c36e 1 = .ok (.ifCond .lt 13, 3) := by decide +kernel
theorem dJ3_checkFromToIndex_8c36e_4 : decode cJ3_checkFromToIndex_8c36e 4 = .ok (.iload_n 0, 1) := by decide +kernel
theorem dJ3_checkFromToIndex_8c36e_5 : decode cJ3_checkFromToIndex_8c36e 5 = .ok (.iload_n 1, 1) := by decide +kernel
theorem dJ3_checkFromToIndex_8c36e_6 : decode cJ3_checkFromToIndex_8c36e 6 = .ok (.if_icmp .gt 8, 3) := by decide +kernel
theorem dJ3_checkFromToIndex_8c36e_9 : decode cJ3_checkFromToIndex_8c36e 9 = .ok (.iload_n 1, 1) := by decide +kernel
theorem dJ3_checkFromToIndex_8c36e_10 : decode cJ3_checkFromToIndex_8c36e 10 = .ok (.iload_n 2, 1) := by decide +kernel
theorem dJ3_checkFromToIndex_8c36e_11 : decode cJ3_checkFromToIndex_8c36e 11 = .ok (.if_icmp .le 11, 3) := by decide +kernel
theorem dJ3_checkFromToIndex_8c36e_14 : decode cJ3_checkFromToIndex_8c36e 14 = .ok (.aload_n 3, 1) := by decide +kernel
theorem dJ3_checkFromToIndex_8c36e_15 : decode cJ3_checkFromToIndex_8c36e 15 = .ok (.iload_n 0, 1) := by decide +kernel
theorem dJ3_checkFromToIndex_8c36e_16 : decode cJ3_checkFromToIndex_8c36e 16 = .ok (.iload_n 1, 1) := by decide +kernel
theorem dJ3_checkFromToIndex_8c36e_17 : decode cJ3_checkFromToIndex_8c36e 17 = .ok (.iload_n 2, 1) := by decide +kernel
theorem dJ3_checkFromToIndex_8c36e_18 : decode cJ3_checkFromToIndex_8c36e 18 = .ok (.invokestatic 99, 3) := by decide +kernel
theorem dJ3_checkFromToIndex_8c36e_21 : decode cJ3_checkFromToIndex_8c36e 21 = .ok (.athrow, 1) := by decide +kernel
theorem dJ3_checkFromToIndex_8c36e_22 : decode cJ3_checkFromToIndex_8c36e 22 = .ok (.iload_n 0, 1) := by decide +kernel
theorem dJ3_checkFromToIndex_8c36e_23 : decode cJ3_checkFromToIndex_8c36e 23 = .ok (.ireturn, 1) := by decide +kernel
theorem dJ3_checkFromIndexSize_8c36e_0 : decode cJ3_checkFromIndexSize_8c36e 0 = .ok (.iload_n 2, 1) := by decide +kernel
theorem dJ3_checkFromIndexSize_8c36e_1 : decode cJ3_checkFromIndexSize_8c36e 1 = .ok (.iload_n 0, 1) := by decide +kernel
theorem dJ3_checkFromIndexSize_8c36e_2 : decode cJ3_checkFromIndexSize_8c36e 2 = .ok (.ior, 1) := by decide +kernel
theorem dJ3_checkFromIndexSize_8c36e_3 : decode cJ3_checkFromIndexSize_8c36e 3 = .ok (.iload_n 1, 1) := by decide +kernel
theorem dJ3_checkFromIndexSize_8c36e_4 : decode cJ3_checkFromIndexSize_8c36e 4 = .ok (.ior, 1) := by decide +kernel
theorem dJ3_checkFromIndexSize_8c36e_5 : decode cJ3_checkFromIndexSize_8c36e 5 = .ok (.ifCond .lt 10, 3) := by decide +kernel
theorem dJ3_checkFromIndexSize_8c36e_8 : decode cJ3_checkFromIndexSize_8c36e 8 = .ok (.iload_n 1, 1) := by decide +kernel
theorem dJ3_checkFromIndexSize_8c36e_9 : decode cJ3_checkFromIndexSize_8c36e 9 = .ok (.iload_n 2, 1) := by decide +kernel
theorem dJ3_checkFromIndexSize_8c36e_10 : decode cJ3_checkFromIndexSize_8c36e 10 = .ok (.iload_n 0, 1) := by decide +kernel
theorem dJ3_checkFromIndexSize_8c36e_11 : decode cJ3_checkFromIndexSize_8c36e 11 = .ok (.isub, 1) := by decide +kernel
theorem dJ3_checkFromIndexSize_8c36e_12 : decode cJ3_checkFromIndexSize_8c36e 12 = .ok (.if_icmp .le 11, 3) := by decide +kernel
theorem dJ3_checkFromIndexSize_8c36e_15 : decode cJ3_checkFromIndexSize_8c36e 15 = .ok (.aload_n 3, 1) := by decide +kernel
theorem dJ3_checkFromIndexSize_8c36e_16 : decode cJ3_checkFromIndexSize_8c36e 16 = .ok (.iload_n 0, 1) := by decide +kernel
theorem dJ3_checkFromIndexSize_8c36e_17 : decode cJ3_checkFromIndexSize_8c36e 17 = .ok (.iload_n 1, 1) := by decide +kernel
theorem dJ3_checkFromIndexSize_8c36e_18 : decode cJ3_checkFromIndexSize_8c36e 18 = .ok (.iload_n 2, 1) := by decide +kernel
theorem dJ3_checkFromIndexSize_8c36e_19 : decode cJ3_checkFromIndexSize_8c36e 19 = .ok (.invokestatic 103, 3) := by decide +kernel
theorem dJ3_checkFromIndexSize_8c36e_22 : decode cJ3_checkFromIndexSize_8c36e 22 = .ok (.athrow, 1) := by decide +kernel
theorem dJ3_checkFromIndexSize_8c36e_23 : decode cJ3_checkFromIndexSize_8c36e 23 = .ok (.iload_n 0, 1) := by decide +kernel
theorem dJ3_checkFromIndexSize_8c36e_24 : decode cJ3_checkFromIndexSize_8c36e 24 = .ok (.ireturn, 1) := by decide +kernel
end
section
/-- the words of nest mates -/
def isNest : Cond → Bool
  | .fieldLinkNest .. => true
  | .methodLinkNest .. => true
  | .castable .. => true
  | _ => false
def WN : List Cond := lw_tbl.filter isNest
theorem WN_of {i : Nat} {w : Cond} (h : lw_tbl[i]? = some w) (g : isNest w = true) : w ∈ WN := List.mem_filter.mpr ⟨List.mem_of_getElem? h, g⟩
end
section
theorem kc_L_14 : Cond.classLink RL 14 RX9 ∈ WA := WA_of (i := 66) (by decide +kernel) (by decide +kernel)
theorem kl_L_134 : Cond.methodLink RL 134 yX9_init ∈ WA := WA_of (i := 68) (by decide +kernel) (by decide +kernel)
theorem kl_X9_1 : Cond.methodLink RX9 1 ⟨"java/lang/Object", "<init>", "()V"⟩ ∈ WA := WA_of (i := 71) (by decide +kernel) (by decide +kernel)
theorem kc_X9_7 : Cond.classLink RX9 7 RX0 ∈ WA := WA_of (i := 74) (by decide +kernel) (by decide +kernel)
theorem kln_X9_9 : Cond.methodLinkNest RX9 9 yX0_init "CaseManager" ∈ WN := WN_of (i := 76) (by decide +kernel) (by decide +kernel)
theorem kl_X0_3 : Cond.methodLink RX0 3 ⟨"java/lang/Object", "<init>", "()V"⟩ ∈ WA := WA_of (i := 79) (by decide +kernel) (by decide +kernel)
theorem kc_X0_24 : Cond.classLink RX0 24 RX6 ∈ WA := WA_of (i := 80) (by decide +kernel) (by decide +kernel)
theorem kl_X0_26 : Cond.methodLink RX0 26 yX6_init ∈ WA := WA_of (i := 82) (by decide +kernel) (by decide +kernel)
theorem kl_X6_1 : Cond.methodLink RX6 1 ⟨"java/lang/Object", "<init>", "()V"⟩ ∈ WA := WA_of (i := 85) (by decide +kernel) (by decide +kernel)
theorem kf_X6_7 : Cond.fieldLink RX6 7 "CaseManager$Row" "cells" "[I" ∈ WA := WA_of (i := 86) (by decide +kernel) (by decide +kernel)
theorem kc_X0_66 : Cond.classLink RX0 66 RX3 ∈ WA := WA_of (i := 91) (by decide +kernel) (by decide +kernel)
theorem kln_X0_68 : Cond.methodLinkNest RX0 68 yX3_init "CaseManager" ∈ WN := WN_of (i := 93) (by decide +kernel) (by decide +kernel)
theorem kl_X3_3 : Cond.methodLink RX3 3 ⟨"java/lang/Object", "<init>", "()V"⟩ ∈ WA := WA_of (i := 96) (by decide +kernel) (by decide +kernel)
theorem kc_X3_9 : Cond.classLink RX3 9 RX6 ∈ WA := WA_of (i := 97) (by decide +kernel) (by decide +kernel)
theorem kl_X3_11 : Cond.methodLink RX3 11 yX6_init ∈ WA := WA_of (i := 98) (by decide +kernel) (by decide +kernel)
theorem kf_X3_14 : Cond.fieldLink RX3 14 "CaseManager$Groups" "parents" "LCaseManager$Row;" ∈ WA := WA_of (i := 99) (by decide +kernel) (by decide +kernel)
theorem kfn_X0_77 : Cond.fieldLinkNest RX0 77 "CaseManager$Groups" "parents" "LCaseManager$Row;" "CaseManager" ∈ WN := WN_of (i := 100) (by decide +kernel) (by decide +kernel)
theorem kf_X0_9 : Cond.fieldLink RX0 9 "CaseManager$Court" "cases" "I" ∈ WA := WA_of (i := 104) (by decide +kernel) (by decide +kernel)
theorem kfn_X1_24 : Cond.fieldLinkNest RX1 24 "CaseManager$Court" "cases" "I" "CaseManager" ∈ WN := WN_of (i := 105) (by decide +kernel) (by decide +kernel)
theorem kfn_X7_41 : Cond.fieldLinkNest RX7 41 "CaseManager$Court" "cases" "I" "CaseManager" ∈ WN := WN_of (i := 106) (by decide +kernel) (by decide +kernel)
theorem kfn_X9_75 : Cond.fieldLinkNest RX9 75 "CaseManager$Court" "cases" "I" "CaseManager" ∈ WN := WN_of (i := 107) (by decide +kernel) (by decide +kernel)
theorem kf_X0_15 : Cond.fieldLink RX0 15 "CaseManager$Court" "witnesses" "I" ∈ WA := WA_of (i := 108) (by decide +kernel) (by decide +kernel)
theorem kfn_X9_160 : Cond.fieldLinkNest RX9 160 "CaseManager$Court" "witnesses" "I" "CaseManager" ∈ WN := WN_of (i := 109) (by decide +kernel) (by decide +kernel)
theorem kf_X0_18 : Cond.fieldLink RX0 18 "CaseManager$Court" "decisions" "I" ∈ WA := WA_of (i := 110) (by decide +kernel) (by decide +kernel)
theorem kfn_X9_261 : Cond.fieldLinkNest RX9 261 "CaseManager$Court" "decisions" "I" "CaseManager" ∈ WN := WN_of (i := 111) (by decide +kernel) (by decide +kernel)
theorem kf_X0_21 : Cond.fieldLink RX0 21 "CaseManager$Court" "questionsAsked" "I" ∈ WA := WA_of (i := 112) (by decide +kernel) (by decide +kernel)
theorem kf_X0_29 : Cond.fieldLink RX0 29 "CaseManager$Court" "defendants" "LCaseManager$Row;" ∈ WA := WA_of (i := 113) (by decide +kernel) (by decide +kernel)
theorem kfn_X9_105 : Cond.fieldLinkNest RX9 105 "CaseManager$Court" "defendants" "LCaseManager$Row;" "CaseManager" ∈ WN := WN_of (i := 114) (by decide +kernel) (by decide +kernel)
theorem kf_X0_33 : Cond.fieldLink RX0 33 "CaseManager$Court" "offences" "LCaseManager$Row;" ∈ WA := WA_of (i := 115) (by decide +kernel) (by decide +kernel)
theorem kfn_X9_115 : Cond.fieldLinkNest RX9 115 "CaseManager$Court" "offences" "LCaseManager$Row;" "CaseManager" ∈ WN := WN_of (i := 116) (by decide +kernel) (by decide +kernel)
theorem kf_X0_36 : Cond.fieldLink RX0 36 "CaseManager$Court" "phases" "LCaseManager$Row;" ∈ WA := WA_of (i := 117) (by decide +kernel) (by decide +kernel)
theorem kf_X0_39 : Cond.fieldLink RX0 39 "CaseManager$Court" "guilts" "LCaseManager$Row;" ∈ WA := WA_of (i := 118) (by decide +kernel) (by decide +kernel)
theorem kf_X0_42 : Cond.fieldLink RX0 42 "CaseManager$Court" "appeals" "LCaseManager$Row;" ∈ WA := WA_of (i := 119) (by decide +kernel) (by decide +kernel)
theorem kfn_X9_130 : Cond.fieldLinkNest RX9 130 "CaseManager$Court" "appeals" "LCaseManager$Row;" "CaseManager" ∈ WN := WN_of (i := 120) (by decide +kernel) (by decide +kernel)
theorem kf_X0_45 : Cond.fieldLink RX0 45 "CaseManager$Court" "testimonies" "LCaseManager$Row;" ∈ WA := WA_of (i := 121) (by decide +kernel) (by decide +kernel)
theorem kfn_X8_9 : Cond.fieldLinkNest RX8 9 "CaseManager$Court" "testimonies" "LCaseManager$Row;" "CaseManager" ∈ WN := WN_of (i := 122) (by decide +kernel) (by decide +kernel)
theorem kfn_X7_53 : Cond.fieldLinkNest RX7 53 "CaseManager$Court" "testimonies" "LCaseManager$Row;" "CaseManager" ∈ WN := WN_of (i := 123) (by decide +kernel) (by decide +kernel)
theorem kfn_X1_48 : Cond.fieldLinkNest RX1 48 "CaseManager$Court" "testimonies" "LCaseManager$Row;" "CaseManager" ∈ WN := WN_of (i := 124) (by decide +kernel) (by decide +kernel)
theorem kfn_X9_133 : Cond.fieldLinkNest RX9 133 "CaseManager$Court" "testimonies" "LCaseManager$Row;" "CaseManager" ∈ WN := WN_of (i := 125) (by decide +kernel) (by decide +kernel)
theorem kf_X0_48 : Cond.fieldLink RX0 48 "CaseManager$Court" "hearingOrder" "LCaseManager$Row;" ∈ WA := WA_of (i := 126) (by decide +kernel) (by decide +kernel)
theorem kf_X0_51 : Cond.fieldLink RX0 51 "CaseManager$Court" "sides" "LCaseManager$Row;" ∈ WA := WA_of (i := 127) (by decide +kernel) (by decide +kernel)
theorem kf_X0_54 : Cond.fieldLink RX0 54 "CaseManager$Court" "strengths" "LCaseManager$Row;" ∈ WA := WA_of (i := 128) (by decide +kernel) (by decide +kernel)
theorem kf_X0_57 : Cond.fieldLink RX0 57 "CaseManager$Court" "questions" "LCaseManager$Row;" ∈ WA := WA_of (i := 129) (by decide +kernel) (by decide +kernel)
theorem kf_X0_60 : Cond.fieldLink RX0 60 "CaseManager$Court" "credibilities" "LCaseManager$Row;" ∈ WA := WA_of (i := 130) (by decide +kernel) (by decide +kernel)
theorem kfn_X8_40 : Cond.fieldLinkNest RX8 40 "CaseManager$Court" "credibilities" "LCaseManager$Row;" "CaseManager" ∈ WN := WN_of (i := 131) (by decide +kernel) (by decide +kernel)
theorem kfn_X9_163 : Cond.fieldLinkNest RX9 163 "CaseManager$Court" "credibilities" "LCaseManager$Row;" "CaseManager" ∈ WN := WN_of (i := 132) (by decide +kernel) (by decide +kernel)
theorem kf_X0_63 : Cond.fieldLink RX0 63 "CaseManager$Court" "sentences" "LCaseManager$Row;" ∈ WA := WA_of (i := 133) (by decide +kernel) (by decide +kernel)
theorem kfn_X9_235 : Cond.fieldLinkNest RX9 235 "CaseManager$Court" "sentences" "LCaseManager$Row;" "CaseManager" ∈ WN := WN_of (i := 134) (by decide +kernel) (by decide +kernel)
theorem kf_X0_69 : Cond.fieldLink RX0 69 "CaseManager$Court" "groups" "LCaseManager$Groups;" ∈ WA := WA_of (i := 135) (by decide +kernel) (by decide +kernel)
theorem kfn_X9_177 : Cond.fieldLinkNest RX9 177 "CaseManager$Court" "groups" "LCaseManager$Groups;" "CaseManager" ∈ WN := WN_of (i := 136) (by decide +kernel) (by decide +kernel)
theorem kc_X9_22 : Cond.classLink RX9 22 RX4 ∈ WA := WA_of (i := 172) (by decide +kernel) (by decide +kernel)
theorem kl_X9_24 : Cond.methodLink RX9 24 yX4_init ∈ WA := WA_of (i := 174) (by decide +kernel) (by decide +kernel)
theorem kl_X4_3 : Cond.methodLink RX4 3 ⟨"java/lang/Object", "<init>", "()V"⟩ ∈ WA := WA_of (i := 177) (by decide +kernel) (by decide +kernel)
theorem kc_X4_9 : Cond.classLink RX4 9 RX0 ∈ WA := WA_of (i := 178) (by decide +kernel) (by decide +kernel)
theorem kln_X4_24 : Cond.methodLinkNest RX4 24 yX0_init "CaseManager" ∈ WN := WN_of (i := 180) (by decide +kernel) (by decide +kernel)
theorem kf_X4_11 : Cond.fieldLink RX4 11 "CaseManager$History" "places" "[LCaseManager$Court;" ∈ WA := WA_of (i := 181) (by decide +kernel) (by decide +kernel)
theorem kf_X4_17 : Cond.fieldLink RX4 17 "CaseManager$History" "next" "I" ∈ WA := WA_of (i := 182) (by decide +kernel) (by decide +kernel)
theorem kf_X4_21 : Cond.fieldLink RX4 21 "CaseManager$History" "size" "I" ∈ WA := WA_of (i := 183) (by decide +kernel) (by decide +kernel)
theorem kc_X9_29 : Cond.classLink RX9 29 RX1 ∈ WA := WA_of (i := 191) (by decide +kernel) (by decide +kernel)
theorem kln_X9_31 : Cond.methodLinkNest RX9 31 yX1_init "CaseManager" ∈ WN := WN_of (i := 193) (by decide +kernel) (by decide +kernel)
theorem kl_X1_3 : Cond.methodLink RX1 3 ⟨"java/lang/Object", "<init>", "()V"⟩ ∈ WA := WA_of (i := 196) (by decide +kernel) (by decide +kernel)
theorem kc_X1_9 : Cond.classLink RX1 9 RX6 ∈ WA := WA_of (i := 197) (by decide +kernel) (by decide +kernel)
theorem kl_X1_11 : Cond.methodLink RX1 11 yX6_init ∈ WA := WA_of (i := 198) (by decide +kernel) (by decide +kernel)
theorem kf_X1_14 : Cond.fieldLink RX1 14 "CaseManager$Docket" "order" "LCaseManager$Row;" ∈ WA := WA_of (i := 199) (by decide +kernel) (by decide +kernel)
theorem kfn_X9_249 : Cond.fieldLinkNest RX9 249 "CaseManager$Docket" "order" "LCaseManager$Row;" "CaseManager" ∈ WN := WN_of (i := 200) (by decide +kernel) (by decide +kernel)
theorem kf_X1_20 : Cond.fieldLink RX1 20 "CaseManager$Docket" "length" "I" ∈ WA := WA_of (i := 201) (by decide +kernel) (by decide +kernel)
theorem kfn_X9_244 : Cond.fieldLinkNest RX9 244 "CaseManager$Docket" "length" "I" "CaseManager" ∈ WN := WN_of (i := 202) (by decide +kernel) (by decide +kernel)
theorem kc_X9_36 : Cond.classLink RX9 36 RX7 ∈ WA := WA_of (i := 208) (by decide +kernel) (by decide +kernel)
theorem kln_X9_38 : Cond.methodLinkNest RX9 38 yX7_init "CaseManager" ∈ WN := WN_of (i := 210) (by decide +kernel) (by decide +kernel)
theorem kl_X7_3 : Cond.methodLink RX7 3 ⟨"java/lang/Object", "<init>", "()V"⟩ ∈ WA := WA_of (i := 213) (by decide +kernel) (by decide +kernel)
theorem kc_X7_9 : Cond.classLink RX7 9 RX6 ∈ WA := WA_of (i := 214) (by decide +kernel) (by decide +kernel)
theorem kl_X7_11 : Cond.methodLink RX7 11 yX6_init ∈ WA := WA_of (i := 215) (by decide +kernel) (by decide +kernel)
theorem kf_X7_14 : Cond.fieldLink RX7 14 "CaseManager$Search" "queue" "LCaseManager$Row;" ∈ WA := WA_of (i := 216) (by decide +kernel) (by decide +kernel)
theorem kf_X7_20 : Cond.fieldLink RX7 20 "CaseManager$Search" "reached" "LCaseManager$Row;" ∈ WA := WA_of (i := 217) (by decide +kernel) (by decide +kernel)
theorem kf_X7_23 : Cond.fieldLink RX7 23 "CaseManager$Search" "queued" "I" ∈ WA := WA_of (i := 218) (by decide +kernel) (by decide +kernel)
theorem kc_X9_43 : Cond.classLink RX9 43 RX5 ∈ WA := WA_of (i := 226) (by decide +kernel) (by decide +kernel)
theorem kln_X9_45 : Cond.methodLinkNest RX9 45 yX5_init "CaseManager" ∈ WN := WN_of (i := 228) (by decide +kernel) (by decide +kernel)
theorem kl_X5_3 : Cond.methodLink RX5 3 ⟨"java/lang/Object", "<init>", "()V"⟩ ∈ WA := WA_of (i := 231) (by decide +kernel) (by decide +kernel)
theorem kc_X5_9 : Cond.classLink RX5 9 RJ4 ∈ WA := WA_of (i := 232) (by decide +kernel) (by decide +kernel)
theorem kl_X5_11 : Cond.methodLink RX5 11 yJ4_init_da8c8 ∈ WA := WA_of (i := 234) (by decide +kernel) (by decide +kernel)
theorem kl_J4_1 : Cond.methodLink RJ4 1 yJ5_init_d00df ∈ WA := WA_of (i := 237) (by decide +kernel) (by decide +kernel)
theorem kl_J5_3 : Cond.methodLink RJ5 3 ⟨"java/lang/Object", "<init>", "()V"⟩ ∈ WA := WA_of (i := 240) (by decide +kernel) (by decide +kernel)
theorem kf_J5_18 : Cond.fieldLink RJ5 18 "java/lang/String" "COMPACT_STRINGS" "Z" ∈ WA := WA_of (i := 241) (by decide +kernel) (by decide +kernel)
theorem kl_J5_26 : Cond.methodLink RJ5 26 yJ2_newBytesFor_77867 ∈ WA := WA_of (i := 243) (by decide +kernel) (by decide +kernel)
theorem kl_J2_11 : Cond.methodLink RJ2 11 yJ2_newBytesLength_0f7a4 ∈ WA := WA_of (i := 246) (by decide +kernel) (by decide +kernel)
theorem kf_J5_15 : Cond.fieldLink RJ5 15 "java/lang/AbstractStringBuilder" "value" "[B" ∈ WA := WA_of (i := 250) (by decide +kernel) (by decide +kernel)
theorem kf_J5_22 : Cond.fieldLink RJ5 22 "java/lang/AbstractStringBuilder" "coder" "B" ∈ WA := WA_of (i := 251) (by decide +kernel) (by decide +kernel)
theorem kf_J5_73 : Cond.fieldLink RJ5 73 "java/lang/AbstractStringBuilder" "maybeLatin1" "Z" ∈ WA := WA_of (i := 252) (by decide +kernel) (by decide +kernel)
theorem kf_J0_1048 : Cond.fieldLink RJ0 1048 "java/lang/AbstractStringBuilder" "maybeLatin1" "Z" ∈ WA := WA_of (i := 253) (by decide +kernel) (by decide +kernel)
theorem kf_J5_79 : Cond.fieldLink RJ5 79 "java/lang/AbstractStringBuilder" "count" "I" ∈ WA := WA_of (i := 254) (by decide +kernel) (by decide +kernel)
theorem kc_X5_25 : Cond.classLink RX5 25 RX6 ∈ WA := WA_of (i := 265) (by decide +kernel) (by decide +kernel)
theorem kl_X5_27 : Cond.methodLink RX5 27 yX6_init ∈ WA := WA_of (i := 266) (by decide +kernel) (by decide +kernel)
theorem kf_X5_12 : Cond.fieldLink RX5 12 "CaseManager$Program" "input" "Ljava/lang/StringBuilder;" ∈ WA := WA_of (i := 267) (by decide +kernel) (by decide +kernel)
theorem kf_X5_18 : Cond.fieldLink RX5 18 "CaseManager$Program" "position" "I" ∈ WA := WA_of (i := 268) (by decide +kernel) (by decide +kernel)
theorem kf_X5_22 : Cond.fieldLink RX5 22 "CaseManager$Program" "size" "I" ∈ WA := WA_of (i := 269) (by decide +kernel) (by decide +kernel)
theorem kf_X5_30 : Cond.fieldLink RX5 30 "CaseManager$Program" "kinds" "LCaseManager$Row;" ∈ WA := WA_of (i := 270) (by decide +kernel) (by decide +kernel)
theorem kf_X5_34 : Cond.fieldLink RX5 34 "CaseManager$Program" "firsts" "LCaseManager$Row;" ∈ WA := WA_of (i := 271) (by decide +kernel) (by decide +kernel)
theorem kf_X5_37 : Cond.fieldLink RX5 37 "CaseManager$Program" "seconds" "LCaseManager$Row;" ∈ WA := WA_of (i := 272) (by decide +kernel) (by decide +kernel)
theorem kf_X5_40 : Cond.fieldLink RX5 40 "CaseManager$Program" "flags" "LCaseManager$Row;" ∈ WA := WA_of (i := 273) (by decide +kernel) (by decide +kernel)
theorem kf_X5_43 : Cond.fieldLink RX5 43 "CaseManager$Program" "strengths" "LCaseManager$Row;" ∈ WA := WA_of (i := 274) (by decide +kernel) (by decide +kernel)
theorem kc_X9_50 : Cond.classLink RX9 50 RJ4 ∈ WA := WA_of (i := 292) (by decide +kernel) (by decide +kernel)
theorem kl_X9_52 : Cond.methodLink RX9 52 yJ4_init_da8c8 ∈ WA := WA_of (i := 293) (by decide +kernel) (by decide +kernel)
theorem kf_X9_10 : Cond.fieldLink RX9 10 "CaseManager" "court" "LCaseManager$Court;" ∈ WA := WA_of (i := 294) (by decide +kernel) (by decide +kernel)
theorem kf_X9_16 : Cond.fieldLink RX9 16 "CaseManager" "beforeRun" "LCaseManager$Court;" ∈ WA := WA_of (i := 295) (by decide +kernel) (by decide +kernel)
theorem kf_X9_19 : Cond.fieldLink RX9 19 "CaseManager" "saved" "LCaseManager$Court;" ∈ WA := WA_of (i := 296) (by decide +kernel) (by decide +kernel)
theorem kf_X9_25 : Cond.fieldLink RX9 25 "CaseManager" "history" "LCaseManager$History;" ∈ WA := WA_of (i := 297) (by decide +kernel) (by decide +kernel)
theorem kf_X9_32 : Cond.fieldLink RX9 32 "CaseManager" "docket" "LCaseManager$Docket;" ∈ WA := WA_of (i := 298) (by decide +kernel) (by decide +kernel)
theorem kf_X9_39 : Cond.fieldLink RX9 39 "CaseManager" "search" "LCaseManager$Search;" ∈ WA := WA_of (i := 299) (by decide +kernel) (by decide +kernel)
theorem kf_X9_46 : Cond.fieldLink RX9 46 "CaseManager" "program" "LCaseManager$Program;" ∈ WA := WA_of (i := 300) (by decide +kernel) (by decide +kernel)
theorem kf_X9_53 : Cond.fieldLink RX9 53 "CaseManager" "line" "Ljava/lang/StringBuilder;" ∈ WA := WA_of (i := 301) (by decide +kernel) (by decide +kernel)
theorem kf_X9_57 : Cond.fieldLink RX9 57 "CaseManager" "hasSaved" "Z" ∈ WA := WA_of (i := 302) (by decide +kernel) (by decide +kernel)
theorem kf_X9_61 : Cond.fieldLink RX9 61 "CaseManager" "storedError" "I" ∈ WA := WA_of (i := 303) (by decide +kernel) (by decide +kernel)
theorem kf_X9_65 : Cond.fieldLink RX9 65 "CaseManager" "storedFailure" "I" ∈ WA := WA_of (i := 304) (by decide +kernel) (by decide +kernel)
theorem kf_X9_68 : Cond.fieldLink RX9 68 "CaseManager" "isStoredFailureOfState" "Z" ∈ WA := WA_of (i := 305) (by decide +kernel) (by decide +kernel)
theorem kl_L_88 : Cond.methodLink RL 88 yX9_caseCount ∈ WA := WA_of (i := 331) (by decide +kernel) (by decide +kernel)
theorem kl_L_183 : Cond.methodLink RL 183 yX9_caseOf ∈ WA := WA_of (i := 335) (by decide +kernel) (by decide +kernel)
theorem kl_X9_78 : Cond.methodLink RX9 78 yX9_isDefendant ∈ WA := WA_of (i := 339) (by decide +kernel) (by decide +kernel)
theorem kl_X9_82 : Cond.methodLink RX9 82 yX9_isOffence ∈ WA := WA_of (i := 342) (by decide +kernel) (by decide +kernel)
theorem kc_X9_85 : Cond.classLink RX9 85 "java/lang/IllegalArgumentException" ∈ WA := WA_of (i := 345) (by decide +kernel) (by decide +kernel)
theorem kl_X9_89 : Cond.methodLink RX9 89 ⟨"java/lang/IllegalArgumentException", "<init>", "(Ljava/lang/String;)V"⟩ ∈ WA := WA_of (i := 391) (by decide +kernel) (by decide +kernel)
theorem kl_X9_92 : Cond.methodLink RX9 92 yX0_caseAgainst ∈ WA := WA_of (i := 416) (by decide +kernel) (by decide +kernel)
theorem kl_X0_157 : Cond.methodLink RX0 157 yX6_get ∈ WA := WA_of (i := 420) (by decide +kernel) (by decide +kernel)
theorem kc_X9_96 : Cond.classLink RX9 96 "java/util/NoSuchElementException" ∈ WA := WA_of (i := 424) (by decide +kernel) (by decide +kernel)
theorem kl_X9_100 : Cond.methodLink RX9 100 ⟨"java/util/NoSuchElementException", "<init>", "(Ljava/lang/String;)V"⟩ ∈ WA := WA_of (i := 434) (by decide +kernel) (by decide +kernel)
theorem kl_L_139 : Cond.methodLink RL 139 yX9_defendantOf ∈ WA := WA_of (i := 440) (by decide +kernel) (by decide +kernel)
theorem kl_X9_101 : Cond.methodLink RX9 101 yX9_needCase ∈ WA := WA_of (i := 444) (by decide +kernel) (by decide +kernel)
theorem kl_X9_417 : Cond.methodLink RX9 417 yX0_hasCase ∈ WA := WA_of (i := 448) (by decide +kernel) (by decide +kernel)
theorem kc_X9_308 : Cond.classLink RX9 308 "java/lang/IndexOutOfBoundsException" ∈ WA := WA_of (i := 452) (by decide +kernel) (by decide +kernel)
theorem kl_X9_312 : Cond.methodLink RX9 312 ⟨"java/lang/IndexOutOfBoundsException", "<init>", "(Ljava/lang/String;)V"⟩ ∈ WA := WA_of (i := 462) (by decide +kernel) (by decide +kernel)
theorem kl_X9_109 : Cond.methodLink RX9 109 yX6_get ∈ WA := WA_of (i := 468) (by decide +kernel) (by decide +kernel)
theorem kl_L_142 : Cond.methodLink RL 142 yX9_offenceOf ∈ WA := WA_of (i := 469) (by decide +kernel) (by decide +kernel)
theorem kl_L_186 : Cond.methodLink RL 186 yX9_isOpen ∈ WA := WA_of (i := 473) (by decide +kernel) (by decide +kernel)
theorem kl_X9_118 : Cond.methodLink RX9 118 yX0_isIn ∈ WA := WA_of (i := 477) (by decide +kernel) (by decide +kernel)
theorem kl_L_189 : Cond.methodLink RL 189 yX9_isDecided ∈ WA := WA_of (i := 481) (by decide +kernel) (by decide +kernel)
theorem kl_L_172 : Cond.methodLink RL 172 yX9_isClosed ∈ WA := WA_of (i := 485) (by decide +kernel) (by decide +kernel)
theorem kl_L_192 : Cond.methodLink RL 192 yX9_appealCount ∈ WA := WA_of (i := 489) (by decide +kernel) (by decide +kernel)
theorem kl_L_109 : Cond.methodLink RL 109 yX9_testimonyCount ∈ WA := WA_of (i := 493) (by decide +kernel) (by decide +kernel)
theorem kl_L_45 : Cond.methodLink RL 45 yX9_witnessAt ∈ WA := WA_of (i := 497) (by decide +kernel) (by decide +kernel)
theorem kl_X9_138 : Cond.methodLink RX9 138 yX0_witnessHeardAt ∈ WA := WA_of (i := 502) (by decide +kernel) (by decide +kernel)
theorem kl_L_209 : Cond.methodLink RL 209 yX9_hasTestified ∈ WA := WA_of (i := 506) (by decide +kernel) (by decide +kernel)
theorem kl_X9_141 : Cond.methodLink RX9 141 yX9_needWitness ∈ WA := WA_of (i := 510) (by decide +kernel) (by decide +kernel)
theorem kl_X9_422 : Cond.methodLink RX9 422 yX0_hasWitness ∈ WA := WA_of (i := 514) (by decide +kernel) (by decide +kernel)
theorem kl_X9_144 : Cond.methodLink RX9 144 yX0_hasHeard ∈ WA := WA_of (i := 519) (by decide +kernel) (by decide +kernel)
theorem kl_X0_180 : Cond.methodLink RX0 180 yX0_cellOf ∈ WA := WA_of (i := 523) (by decide +kernel) (by decide +kernel)
theorem kl_L_112 : Cond.methodLink RL 112 yX9_isForProsecution ∈ WA := WA_of (i := 526) (by decide +kernel) (by decide +kernel)
theorem kl_X9_147 : Cond.methodLink RX9 147 yX9_needTestimony ∈ WA := WA_of (i := 530) (by decide +kernel) (by decide +kernel)
theorem kl_X9_151 : Cond.methodLink RX9 151 yX0_sideOf ∈ WA := WA_of (i := 535) (by decide +kernel) (by decide +kernel)
theorem kl_L_116 : Cond.methodLink RL 116 yX9_strength ∈ WA := WA_of (i := 539) (by decide +kernel) (by decide +kernel)
theorem kl_X9_154 : Cond.methodLink RX9 154 yX0_strengthOf ∈ WA := WA_of (i := 543) (by decide +kernel) (by decide +kernel)
theorem kl_L_212 : Cond.methodLink RL 212 yX9_questionCount ∈ WA := WA_of (i := 547) (by decide +kernel) (by decide +kernel)
theorem kl_X9_157 : Cond.methodLink RX9 157 yX0_questionsTo ∈ WA := WA_of (i := 551) (by decide +kernel) (by decide +kernel)
theorem kl_L_91 : Cond.methodLink RL 91 yX9_witnessCount ∈ WA := WA_of (i := 555) (by decide +kernel) (by decide +kernel)
theorem kl_L_119 : Cond.methodLink RL 119 yX9_credibility ∈ WA := WA_of (i := 559) (by decide +kernel) (by decide +kernel)
theorem kl_L_247 : Cond.methodLink RL 247 yX9_casesOfWitness ∈ WA := WA_of (i := 563) (by decide +kernel) (by decide +kernel)
theorem kl_X9_166 : Cond.methodLink RX9 166 yX0_casesHearing ∈ WA := WA_of (i := 567) (by decide +kernel) (by decide +kernel)
theorem kl_X0_164 : Cond.methodLink RX0 164 yX0_hasHeard ∈ WA := WA_of (i := 571) (by decide +kernel) (by decide +kernel)
theorem kl_L_48 : Cond.methodLink RL 48 yX9_mostCredible ∈ WA := WA_of (i := 572) (by decide +kernel) (by decide +kernel)
theorem kl_X9_169 : Cond.methodLink RX9 169 yX0_witnessOfRank ∈ WA := WA_of (i := 576) (by decide +kernel) (by decide +kernel)
theorem kl_X0_218 : Cond.methodLink RX0 218 yX0_rankOf ∈ WA := WA_of (i := 580) (by decide +kernel) (by decide +kernel)
theorem kl_X0_221 : Cond.methodLink RX0 221 yX0_isMoreCredible ∈ WA := WA_of (i := 584) (by decide +kernel) (by decide +kernel)
theorem kl_X0_224 : Cond.methodLink RX0 224 yX0_casesHearing ∈ WA := WA_of (i := 588) (by decide +kernel) (by decide +kernel)
theorem kl_L_257 : Cond.methodLink RL 257 yX9_agreement ∈ WA := WA_of (i := 590) (by decide +kernel) (by decide +kernel)
theorem kl_X9_174 : Cond.methodLink RX9 174 yX0_agreementOf ∈ WA := WA_of (i := 594) (by decide +kernel) (by decide +kernel)
theorem kl_X0_215 : Cond.methodLink RX0 215 yX0_sideOf ∈ WA := WA_of (i := 598) (by decide +kernel) (by decide +kernel)
theorem kl_L_260 : Cond.methodLink RL 260 yX9_areConnected ∈ WA := WA_of (i := 599) (by decide +kernel) (by decide +kernel)
theorem kl_X9_181 : Cond.methodLink RX9 181 yX3_areUnited ∈ WA := WA_of (i := 603) (by decide +kernel) (by decide +kernel)
theorem kl_X3_24 : Cond.methodLink RX3 24 yX3_rootOf ∈ WA := WA_of (i := 607) (by decide +kernel) (by decide +kernel)
theorem kl_X3_32 : Cond.methodLink RX3 32 yX6_get ∈ WA := WA_of (i := 611) (by decide +kernel) (by decide +kernel)
theorem kl_L_263 : Cond.methodLink RL 263 yX9_areConnectedBySearch ∈ WA := WA_of (i := 612) (by decide +kernel) (by decide +kernel)
theorem kl_X9_186 : Cond.methodLink RX9 186 yX7_startAt ∈ WA := WA_of (i := 616) (by decide +kernel) (by decide +kernel)
theorem kl_X7_27 : Cond.methodLink RX7 27 yX6_clear ∈ WA := WA_of (i := 620) (by decide +kernel) (by decide +kernel)
theorem kl_X7_30 : Cond.methodLink RX7 30 yX7_reach ∈ WA := WA_of (i := 624) (by decide +kernel) (by decide +kernel)
theorem kl_X7_33 : Cond.methodLink RX7 33 yX6_get ∈ WA := WA_of (i := 628) (by decide +kernel) (by decide +kernel)
theorem kl_X7_60 : Cond.methodLink RX7 60 yX6_put ∈ WA := WA_of (i := 629) (by decide +kernel) (by decide +kernel)
theorem kl_X7_37 : Cond.methodLink RX7 37 yX7_spreadFrom ∈ WA := WA_of (i := 633) (by decide +kernel) (by decide +kernel)
theorem kl_X7_46 : Cond.methodLink RX7 46 yX0_hasHeard ∈ WA := WA_of (i := 637) (by decide +kernel) (by decide +kernel)
theorem kl_X7_50 : Cond.methodLink RX7 50 yX7_reachAllOf ∈ WA := WA_of (i := 638) (by decide +kernel) (by decide +kernel)
theorem kl_X7_56 : Cond.methodLink RX7 56 yX0_witnessHeardAt ∈ WA := WA_of (i := 642) (by decide +kernel) (by decide +kernel)
theorem kl_X9_190 : Cond.methodLink RX9 190 yX7_hasReached ∈ WA := WA_of (i := 643) (by decide +kernel) (by decide +kernel)
theorem kl_L_241 : Cond.methodLink RL 241 yX9_groupSize ∈ WA := WA_of (i := 647) (by decide +kernel) (by decide +kernel)
theorem kl_X9_193 : Cond.methodLink RX9 193 yX3_sizeAround ∈ WA := WA_of (i := 651) (by decide +kernel) (by decide +kernel)
theorem kl_X3_28 : Cond.methodLink RX3 28 yX3_areUnited ∈ WA := WA_of (i := 655) (by decide +kernel) (by decide +kernel)
theorem kl_L_275 : Cond.methodLink RL 275 yX9_groupCount ∈ WA := WA_of (i := 656) (by decide +kernel) (by decide +kernel)
theorem kl_X9_196 : Cond.methodLink RX9 196 yX3_countAmong ∈ WA := WA_of (i := 660) (by decide +kernel) (by decide +kernel)
theorem kl_L_197 : Cond.methodLink RL 197 yX9_prosecutionWeight ∈ WA := WA_of (i := 664) (by decide +kernel) (by decide +kernel)
theorem kl_X9_217 : Cond.methodLink RX9 217 yX8_ofSide ∈ WA := WA_of (i := 668) (by decide +kernel) (by decide +kernel)
theorem kl_X8_15 : Cond.methodLink RX8 15 yX6_get ∈ WA := WA_of (i := 671) (by decide +kernel) (by decide +kernel)
theorem kl_X8_21 : Cond.methodLink RX8 21 yX0_witnessHeardAt ∈ WA := WA_of (i := 672) (by decide +kernel) (by decide +kernel)
theorem kl_X8_25 : Cond.methodLink RX8 25 yX0_sideOf ∈ WA := WA_of (i := 673) (by decide +kernel) (by decide +kernel)
theorem kl_X8_28 : Cond.methodLink RX8 28 yX0_weightOf ∈ WA := WA_of (i := 674) (by decide +kernel) (by decide +kernel)
theorem kl_L_200 : Cond.methodLink RL 200 yX9_defenceWeight ∈ WA := WA_of (i := 678) (by decide +kernel) (by decide +kernel)
theorem kl_L_203 : Cond.methodLink RL 203 yX9_margin ∈ WA := WA_of (i := 682) (by decide +kernel) (by decide +kernel)
theorem kl_X9_221 : Cond.methodLink RX9 221 yX8_marginByTestimony ∈ WA := WA_of (i := 686) (by decide +kernel) (by decide +kernel)
theorem kl_X8_31 : Cond.methodLink RX8 31 yX0_severityIn ∈ WA := WA_of (i := 689) (by decide +kernel) (by decide +kernel)
theorem kl_L_206 : Cond.methodLink RL 206 yX9_marginByCredibility ∈ WA := WA_of (i := 693) (by decide +kernel) (by decide +kernel)
theorem kl_X9_224 : Cond.methodLink RX9 224 yX8_marginByLevel ∈ WA := WA_of (i := 697) (by decide +kernel) (by decide +kernel)
theorem kl_X8_34 : Cond.methodLink RX8 34 yX8_signedStrengthsAt ∈ WA := WA_of (i := 700) (by decide +kernel) (by decide +kernel)
theorem kl_X8_43 : Cond.methodLink RX8 43 yX0_strengthOf ∈ WA := WA_of (i := 703) (by decide +kernel) (by decide +kernel)
theorem kl_L_266 : Cond.methodLink RL 266 yX9_sentence ∈ WA := WA_of (i := 704) (by decide +kernel) (by decide +kernel)
theorem kl_X9_232 : Cond.methodLink RX9 232 yX9_needDefendant ∈ WA := WA_of (i := 708) (by decide +kernel) (by decide +kernel)
theorem kl_L_269 : Cond.methodLink RL 269 yX9_sentenceByCases ∈ WA := WA_of (i := 712) (by decide +kernel) (by decide +kernel)
theorem kl_X9_238 : Cond.methodLink RX9 238 yX0_addedSentence ∈ WA := WA_of (i := 716) (by decide +kernel) (by decide +kernel)
theorem kl_X0_209 : Cond.methodLink RX0 209 yX0_isFoundGuilty ∈ WA := WA_of (i := 720) (by decide +kernel) (by decide +kernel)
theorem kl_X0_206 : Cond.methodLink RX0 206 yX0_severityIn ∈ WA := WA_of (i := 724) (by decide +kernel) (by decide +kernel)
theorem kl_L_272 : Cond.methodLink RL 272 yX9_mostSentenced ∈ WA := WA_of (i := 725) (by decide +kernel) (by decide +kernel)
theorem kl_L_106 : Cond.methodLink RL 106 yX9_docketLength ∈ WA := WA_of (i := 729) (by decide +kernel) (by decide +kernel)
theorem kl_X9_241 : Cond.methodLink RX9 241 yX0_countIn ∈ WA := WA_of (i := 733) (by decide +kernel) (by decide +kernel)
theorem kl_X0_160 : Cond.methodLink RX0 160 yX0_isIn ∈ WA := WA_of (i := 737) (by decide +kernel) (by decide +kernel)
theorem kl_L_61 : Cond.methodLink RL 61 yX9_docketAt ∈ WA := WA_of (i := 738) (by decide +kernel) (by decide +kernel)
theorem kl_X9_207 : Cond.methodLink RX9 207 yX1_fill ∈ WA := WA_of (i := 742) (by decide +kernel) (by decide +kernel)
theorem kl_X1_29 : Cond.methodLink RX1 29 yX0_isIn ∈ WA := WA_of (i := 746) (by decide +kernel) (by decide +kernel)
theorem kl_X1_33 : Cond.methodLink RX1 33 yX1_insert ∈ WA := WA_of (i := 747) (by decide +kernel) (by decide +kernel)
theorem kl_X1_37 : Cond.methodLink RX1 37 yX6_get ∈ WA := WA_of (i := 751) (by decide +kernel) (by decide +kernel)
theorem kl_X1_41 : Cond.methodLink RX1 41 yX0_comesBefore ∈ WA := WA_of (i := 752) (by decide +kernel) (by decide +kernel)
theorem kl_X1_44 : Cond.methodLink RX1 44 yX6_put ∈ WA := WA_of (i := 756) (by decide +kernel) (by decide +kernel)
theorem kl_L_64 : Cond.methodLink RL 64 yX9_docketPosition ∈ WA := WA_of (i := 758) (by decide +kernel) (by decide +kernel)
theorem kc_X9_122 : Cond.classLink RX9 122 "java/lang/IllegalStateException" ∈ WA := WA_of (i := 762) (by decide +kernel) (by decide +kernel)
theorem kl_X9_126 : Cond.methodLink RX9 126 ⟨"java/lang/IllegalStateException", "<init>", "(Ljava/lang/String;)V"⟩ ∈ WA := WA_of (i := 772) (by decide +kernel) (by decide +kernel)
theorem kl_X9_254 : Cond.methodLink RX9 254 yX0_openCasesBefore ∈ WA := WA_of (i := 778) (by decide +kernel) (by decide +kernel)
theorem kl_X0_227 : Cond.methodLink RX0 227 yX0_comesBefore ∈ WA := WA_of (i := 782) (by decide +kernel) (by decide +kernel)
theorem kl_L_283 : Cond.methodLink RL 283 yX9_closedCount ∈ WA := WA_of (i := 783) (by decide +kernel) (by decide +kernel)
theorem kl_L_286 : Cond.methodLink RL 286 yX9_guiltyCount ∈ WA := WA_of (i := 787) (by decide +kernel) (by decide +kernel)
theorem kl_X9_257 : Cond.methodLink RX9 257 yX0_countGuilty ∈ WA := WA_of (i := 791) (by decide +kernel) (by decide +kernel)
theorem kl_L_289 : Cond.methodLink RL 289 yX9_decisionCount ∈ WA := WA_of (i := 795) (by decide +kernel) (by decide +kernel)
theorem kl_L_296 : Cond.methodLink RL 296 yX9_meanCredibility ∈ WA := WA_of (i := 799) (by decide +kernel) (by decide +kernel)
theorem kc_X9_267 : Cond.classLink RX9 267 "java/lang/ArithmeticException" ∈ WA := WA_of (i := 803) (by decide +kernel) (by decide +kernel)
theorem kl_X9_271 : Cond.methodLink RX9 271 ⟨"java/lang/ArithmeticException", "<init>", "(Ljava/lang/String;)V"⟩ ∈ WA := WA_of (i := 813) (by decide +kernel) (by decide +kernel)
theorem kl_X9_272 : Cond.methodLink RX9 272 yX0_credibilitySum ∈ WA := WA_of (i := 819) (by decide +kernel) (by decide +kernel)
theorem kl_L_292 : Cond.methodLink RL 292 yX9_guiltyShare ∈ WA := WA_of (i := 823) (by decide +kernel) (by decide +kernel)
theorem kl_L_300 : Cond.methodLink RL 300 yX9_isConsistent ∈ WA := WA_of (i := 828) (by decide +kernel) (by decide +kernel)
theorem kl_X9_277 : Cond.methodLink RX9 277 yX9_doMarginsAgree ∈ WA := WA_of (i := 832) (by decide +kernel) (by decide +kernel)
theorem kl_X9_281 : Cond.methodLink RX9 281 yX9_doSentencesAgree ∈ WA := WA_of (i := 836) (by decide +kernel) (by decide +kernel)
theorem kl_X9_284 : Cond.methodLink RX9 284 yX9_doConnectionsAgree ∈ WA := WA_of (i := 840) (by decide +kernel) (by decide +kernel)
theorem kl_X9_287 : Cond.methodLink RX9 287 yX9_doesDocketAgree ∈ WA := WA_of (i := 844) (by decide +kernel) (by decide +kernel)
theorem kl_X9_431 : Cond.methodLink RX9 431 yX1_holdsAt ∈ WA := WA_of (i := 848) (by decide +kernel) (by decide +kernel)
theorem kl_L_225 : Cond.methodLink RL 225 yX9_formatCase ∈ WA := WA_of (i := 852) (by decide +kernel) (by decide +kernel)
theorem kl_X9_290 : Cond.methodLink RX9 290 yJ4_setLength_d00df ∈ WA := WA_of (i := 856) (by decide +kernel) (by decide +kernel)
theorem kl_J4_333 : Cond.methodLink RJ4 333 yJ5_setLength_d00df ∈ WA := WA_of (i := 860) (by decide +kernel) (by decide +kernel)
theorem kc_J5_129 : Cond.classLink RJ5 129 RJx7c733 ∈ WA := WA_of (i := 863) (by decide +kernel) (by decide +kernel)
theorem kl_J5_131 : Cond.methodLink RJ5 131 yJx7c733_init_d00df ∈ WA := WA_of (i := 865) (by decide +kernel) (by decide +kernel)
theorem kc_Jx7c733_10 : Cond.classLink RJx7c733 10 RJ4 ∈ WA := WA_of (i := 868) (by decide +kernel) (by decide +kernel)
theorem kl_Jx7c733_12 : Cond.methodLink RJx7c733 12 yJ4_init_da8c8 ∈ WA := WA_of (i := 869) (by decide +kernel) (by decide +kernel)
theorem kl_Jx7c733_15 : Cond.methodLink RJx7c733 15 yJ4_append_15ec4 ∈ WA := WA_of (i := 871) (by decide +kernel) (by decide +kernel)
theorem kl_J4_29 : Cond.methodLink RJ4 29 yJ5_append_cf1ce ∈ WA := WA_of (i := 875) (by decide +kernel) (by decide +kernel)
theorem kl_J5_204 : Cond.methodLink RJ5 204 yJ5_appendNull_278bc ∈ WA := WA_of (i := 878) (by decide +kernel) (by decide +kernel)
theorem kl_J5_100 : Cond.methodLink RJ5 100 yJ5_ensureCapacityInternal_d00df ∈ WA := WA_of (i := 882) (by decide +kernel) (by decide +kernel)
theorem kl_J5_104 : Cond.methodLink RJ5 104 yJ5_newCapacity_0f7a4 ∈ WA := WA_of (i := 886) (by decide +kernel) (by decide +kernel)
theorem kl_J5_114 : Cond.methodLink RJ5 114 yJ8_newLength_cabcc ∈ WA := WA_of (i := 890) (by decide +kernel) (by decide +kernel)
theorem kl_J8_194 : Cond.methodLink RJ8 194 yJ9_max_7cf53 ∈ WA := WA_of (i := 893) (by decide +kernel) (by decide +kernel)
theorem kl_J8_201 : Cond.methodLink RJ8 201 yJ8_hugeLength_7cf53 ∈ WA := WA_of (i := 897) (by decide +kernel) (by decide +kernel)
theorem kl_J5_108 : Cond.methodLink RJ5 108 yJ7_copyOf_9075b ∈ WA := WA_of (i := 901) (by decide +kernel) (by decide +kernel)
theorem kl_J7_310 : Cond.methodLink RJ7 310 ⟨"[B", "clone", "()Ljava/lang/Object;"⟩ ∈ WA := WA_of (i := 904) (by decide +kernel) (by decide +kernel)
theorem kc_J7_311 : Cond.classLink RJ7 311 "[B" ∈ WA := WA_of (i := 910) (by decide +kernel) (by decide +kernel)
theorem kl_J7_304 : Cond.methodLink RJ7 304 yJ9_min_7cf53 ∈ WA := WA_of (i := 911) (by decide +kernel) (by decide +kernel)
theorem kl_J7_150 : Cond.methodLink RJ7 150 ⟨"java/lang/System", "arraycopy", "(Ljava/lang/Object;ILjava/lang/Object;II)V"⟩ ∈ WA := WA_of (i := 914) (by decide +kernel) (by decide +kernel)
theorem kl_J5_83 : Cond.methodLink RJ5 83 yJ5_isLatin1_aae02 ∈ WA := WA_of (i := 917) (by decide +kernel) (by decide +kernel)
theorem kl_J5_226 : Cond.methodLink RJ5 226 yJ2_putCharsAt_cd4e5 ∈ WA := WA_of (i := 922) (by decide +kernel) (by decide +kernel)
theorem kl_J2_96 : Cond.methodLink RJ2 96 yJ2_checkBoundsBeginEnd_d044e ∈ WA := WA_of (i := 925) (by decide +kernel) (by decide +kernel)
theorem kl_J2_48 : Cond.methodLink RJ2 48 yJ2_length_9d52b ∈ WA := WA_of (i := 928) (by decide +kernel) (by decide +kernel)
theorem kl_J2_241 : Cond.methodLink RJ2 241 yJ0_checkBoundsBeginEnd_23922 ∈ WA := WA_of (i := 931) (by decide +kernel) (by decide +kernel)
theorem kf_J0_1053 : Cond.fieldLink RJ0 1053 "jdk/internal/util/Preconditions" "SIOOBE_FORMATTER" "Ljava/util/function/BiFunction;" ∈ WA := WA_of (i := 934) (by decide +kernel) (by decide +kernel)
theorem kl_J0_1062 : Cond.methodLink RJ0 1062 yJ3_checkFromToIndex_8c36e ∈ WA := WA_of (i := 936) (by decide +kernel) (by decide +kernel)
theorem kl_J2_111 : Cond.methodLink RJ2 111 yJ2_putChar_b72d1 ∈ WA := WA_of (i := 939) (by decide +kernel) (by decide +kernel)
theorem kf_J2_44 : Cond.fieldLink RJ2 44 "java/lang/StringUTF16" "$assertionsDisabled" "Z" ∈ WA := WA_of (i := 942) (by decide +kernel) (by decide +kernel)
theorem kf_J2_59 : Cond.fieldLink RJ2 59 "java/lang/StringUTF16" "HI_BYTE_SHIFT" "I" ∈ WA := WA_of (i := 944) (by decide +kernel) (by decide +kernel)
theorem kf_J2_63 : Cond.fieldLink RJ2 63 "java/lang/StringUTF16" "LO_BYTE_SHIFT" "I" ∈ WA := WA_of (i := 946) (by decide +kernel) (by decide +kernel)
theorem kl_J5_32 : Cond.methodLink RJ5 32 yJ0_length_8abf5 ∈ WA := WA_of (i := 948) (by decide +kernel) (by decide +kernel)
theorem kl_J0_335 : Cond.methodLink RJ0 335 yJ0_coder_7d493 ∈ WA := WA_of (i := 952) (by decide +kernel) (by decide +kernel)
theorem kf_J0_38 : Cond.fieldLink RJ0 38 "java/lang/String" "COMPACT_STRINGS" "Z" ∈ WA := WA_of (i := 956) (by decide +kernel) (by decide +kernel)
theorem kl_J5_208 : Cond.methodLink RJ5 208 yJ5_putStringAt_47b60 ∈ WA := WA_of (i := 957) (by decide +kernel) (by decide +kernel)
theorem kl_J5_397 : Cond.methodLink RJ5 397 yJ5_inflateIfNeededFor_a7421 ∈ WA := WA_of (i := 961) (by decide +kernel) (by decide +kernel)
theorem kl_J5_40 : Cond.methodLink RJ5 40 yJ0_coder_7d493 ∈ WA := WA_of (i := 965) (by decide +kernel) (by decide +kernel)
theorem kl_J5_195 : Cond.methodLink RJ5 195 yJ5_inflate_da8c8 ∈ WA := WA_of (i := 966) (by decide +kernel) (by decide +kernel)
theorem kl_J5_125 : Cond.methodLink RJ5 125 yJ1_inflate_0e8fd ∈ WA := WA_of (i := 970) (by decide +kernel) (by decide +kernel)
theorem kl_J1_240 : Cond.methodLink RJ1 240 yJ2_inflate_0e8fd ∈ WA := WA_of (i := 973) (by decide +kernel) (by decide +kernel)
theorem kl_J2_173 : Cond.methodLink RJ2 173 yJ2_checkBoundsOffCount_d044e ∈ WA := WA_of (i := 976) (by decide +kernel) (by decide +kernel)
theorem kl_J2_419 : Cond.methodLink RJ2 419 yJ0_checkBoundsOffCount_cabcc ∈ WA := WA_of (i := 979) (by decide +kernel) (by decide +kernel)
theorem kl_J0_1065 : Cond.methodLink RJ0 1065 yJ3_checkFromIndexSize_8c36e ∈ WA := WA_of (i := 982) (by decide +kernel) (by decide +kernel)
theorem kl_J5_399 : Cond.methodLink RJ5 399 yJ0_getBytes_840e7 ∈ WA := WA_of (i := 985) (by decide +kernel) (by decide +kernel)
theorem kl_J0_212 : Cond.methodLink RJ0 212 ⟨"java/lang/System", "arraycopy", "(Ljava/lang/Object;ILjava/lang/Object;II)V"⟩ ∈ WA := WA_of (i := 989) (by decide +kernel) (by decide +kernel)
theorem kl_J0_106 : Cond.methodLink RJ0 106 yJ1_inflate_0e8fd ∈ WA := WA_of (i := 990) (by decide +kernel) (by decide +kernel)
theorem kl_Jx7c733_19 : Cond.methodLink RJx7c733 19 yJ4_append_bf812 ∈ WA := WA_of (i := 991) (by decide +kernel) (by decide +kernel)
theorem kl_J4_53 : Cond.methodLink RJ4 53 yJ5_append_c97b9 ∈ WA := WA_of (i := 995) (by decide +kernel) (by decide +kernel)
theorem kl_J5_245 : Cond.methodLink RJ5 245 yJ6_stringSize_0f7a4 ∈ WA := WA_of (i := 998) (by decide +kernel) (by decide +kernel)
theorem kl_J5_248 : Cond.methodLink RJ5 248 yJ6_getChars_ba4f3 ∈ WA := WA_of (i := 1001) (by decide +kernel) (by decide +kernel)
theorem kf_J6_83 : Cond.fieldLink RJ6 83 "java/lang/Integer" "DigitOnes" "[B" ∈ WA := WA_of (i := 1004) (by decide +kernel) (by decide +kernel)
theorem kf_J6_87 : Cond.fieldLink RJ6 87 "java/lang/Integer" "DigitTens" "[B" ∈ WA := WA_of (i := 1006) (by decide +kernel) (by decide +kernel)
theorem kl_J5_251 : Cond.methodLink RJ5 251 yJ2_getChars_46870 ∈ WA := WA_of (i := 1008) (by decide +kernel) (by decide +kernel)
theorem kl_J2_393 : Cond.methodLink RJ2 393 yJ2_getChars_ba4f3 ∈ WA := WA_of (i := 1011) (by decide +kernel) (by decide +kernel)
theorem kf_J2_403 : Cond.fieldLink RJ2 403 "java/lang/Integer" "DigitOnes" "[B" ∈ WA := WA_of (i := 1014) (by decide +kernel) (by decide +kernel)
theorem kf_J2_407 : Cond.fieldLink RJ2 407 "java/lang/Integer" "DigitTens" "[B" ∈ WA := WA_of (i := 1015) (by decide +kernel) (by decide +kernel)
theorem kl_Jx7c733_22 : Cond.methodLink RJx7c733 22 yJ4_toString_0e30d ∈ WA := WA_of (i := 1016) (by decide +kernel) (by decide +kernel)
theorem kc_J4_18 : Cond.classLink RJ4 18 RJ0 ∈ WA := WA_of (i := 1020) (by decide +kernel) (by decide +kernel)
theorem kl_J4_137 : Cond.methodLink RJ4 137 yJ0_init_81219 ∈ WA := WA_of (i := 1022) (by decide +kernel) (by decide +kernel)
theorem kl_J0_489 : Cond.methodLink RJ0 489 yJ0_init_db425 ∈ WA := WA_of (i := 1025) (by decide +kernel) (by decide +kernel)
theorem kl_J0_1 : Cond.methodLink RJ0 1 ⟨"java/lang/Object", "<init>", "()V"⟩ ∈ WA := WA_of (i := 1028) (by decide +kernel) (by decide +kernel)
theorem kl_J0_552 : Cond.methodLink RJ0 552 yJ5_getValue_6d5f1 ∈ WA := WA_of (i := 1029) (by decide +kernel) (by decide +kernel)
theorem kl_J0_549 : Cond.methodLink RJ0 549 yJ5_length_8abf5 ∈ WA := WA_of (i := 1034) (by decide +kernel) (by decide +kernel)
theorem kl_J4_343 : Cond.methodLink RJ4 343 yJ5_length_8abf5 ∈ WA := WA_of (i := 1040) (by decide +kernel) (by decide +kernel)
theorem kl_J0_1047 : Cond.methodLink RJ0 1047 yJ5_isLatin1_aae02 ∈ WA := WA_of (i := 1042) (by decide +kernel) (by decide +kernel)
theorem kl_J0_54 : Cond.methodLink RJ0 54 yJ7_copyOfRange_39247 ∈ WA := WA_of (i := 1043) (by decide +kernel) (by decide +kernel)
theorem kl_J7_339 : Cond.methodLink RJ7 339 yJ7_copyOfRangeByte_39247 ∈ WA := WA_of (i := 1046) (by decide +kernel) (by decide +kernel)
theorem kl_J7_343 : Cond.methodLink RJ7 343 yJ7_checkLength_df160 ∈ WA := WA_of (i := 1049) (by decide +kernel) (by decide +kernel)
theorem kc_J7_43 : Cond.classLink RJ7 43 "java/lang/IllegalArgumentException" ∈ WA := WA_of (i := 1052) (by decide +kernel) (by decide +kernel)
theorem kc_J7_45 : Cond.classLink RJ7 45 RJ4 ∈ WA := WA_of (i := 1053) (by decide +kernel) (by decide +kernel)
theorem kl_J7_47 : Cond.methodLink RJ7 47 yJ4_init_da8c8 ∈ WA := WA_of (i := 1054) (by decide +kernel) (by decide +kernel)
theorem kl_J7_54 : Cond.methodLink RJ7 54 yJ4_append_bf812 ∈ WA := WA_of (i := 1055) (by decide +kernel) (by decide +kernel)
theorem kl_J7_50 : Cond.methodLink RJ7 50 yJ4_append_15ec4 ∈ WA := WA_of (i := 1057) (by decide +kernel) (by decide +kernel)
theorem kl_J7_61 : Cond.methodLink RJ7 61 yJ4_toString_0e30d ∈ WA := WA_of (i := 1058) (by decide +kernel) (by decide +kernel)
theorem kl_J7_65 : Cond.methodLink RJ7 65 ⟨"java/lang/IllegalArgumentException", "<init>", "(Ljava/lang/String;)V"⟩ ∈ WA := WA_of (i := 1059) (by decide +kernel) (by decide +kernel)
theorem kl_J0_1051 : Cond.methodLink RJ0 1051 yJ2_compress_39247 ∈ WA := WA_of (i := 1060) (by decide +kernel) (by decide +kernel)
theorem kl_J2_123 : Cond.methodLink RJ2 123 yJ2_compress_5af95 ∈ WA := WA_of (i := 1063) (by decide +kernel) (by decide +kernel)
theorem kl_J2_71 : Cond.methodLink RJ2 71 yJ2_getChar_3b067 ∈ WA := WA_of (i := 1066) (by decide +kernel) (by decide +kernel)
theorem kl_J2_126 : Cond.methodLink RJ2 126 yJ7_copyOfRange_39247 ∈ WA := WA_of (i := 1069) (by decide +kernel) (by decide +kernel)
theorem kl_J0_47 : Cond.methodLink RJ0 47 yJ2_coderFromArrayLen_85cad ∈ WA := WA_of (i := 1070) (by decide +kernel) (by decide +kernel)
theorem kf_J0_9 : Cond.fieldLink RJ0 9 "java/lang/String" "value" "[B" ∈ WA := WA_of (i := 1073) (by decide +kernel) (by decide +kernel)
theorem kf_J0_15 : Cond.fieldLink RJ0 15 "java/lang/String" "coder" "B" ∈ WA := WA_of (i := 1074) (by decide +kernel) (by decide +kernel)
theorem kl_Jx7c733_7 : Cond.methodLink RJx7c733 7 ⟨"java/lang/IndexOutOfBoundsException", "<init>", "(Ljava/lang/String;)V"⟩ ∈ WA := WA_of (i := 1084) (by decide +kernel) (by decide +kernel)
theorem kl_J5_133 : Cond.methodLink RJ5 133 yJ1_fillNull_b72d1 ∈ WA := WA_of (i := 1092) (by decide +kernel) (by decide +kernel)
theorem kl_J1_236 : Cond.methodLink RJ1 236 yJ7_fill_eb02e ∈ WA := WA_of (i := 1095) (by decide +kernel) (by decide +kernel)
theorem kl_J7_13 : Cond.methodLink RJ7 13 yJ7_rangeCheck_23922 ∈ WA := WA_of (i := 1098) (by decide +kernel) (by decide +kernel)
theorem kc_J7_68 : Cond.classLink RJ7 68 RJx00060 ∈ WA := WA_of (i := 1104) (by decide +kernel) (by decide +kernel)
theorem kl_J7_70 : Cond.methodLink RJ7 70 yJx00060_init_d00df ∈ WA := WA_of (i := 1115) (by decide +kernel) (by decide +kernel)
theorem kc_Jx00060_10 : Cond.classLink RJx00060 10 RJ4 ∈ WA := WA_of (i := 1118) (by decide +kernel) (by decide +kernel)
theorem kl_Jx00060_12 : Cond.methodLink RJx00060 12 yJ4_init_da8c8 ∈ WA := WA_of (i := 1119) (by decide +kernel) (by decide +kernel)
theorem kl_Jx00060_15 : Cond.methodLink RJx00060 15 yJ4_append_15ec4 ∈ WA := WA_of (i := 1121) (by decide +kernel) (by decide +kernel)
theorem kl_Jx00060_19 : Cond.methodLink RJx00060 19 yJ4_append_bf812 ∈ WA := WA_of (i := 1122) (by decide +kernel) (by decide +kernel)
theorem kl_Jx00060_22 : Cond.methodLink RJx00060 22 yJ4_toString_0e30d ∈ WA := WA_of (i := 1123) (by decide +kernel) (by decide +kernel)
theorem kl_Jx00060_7 : Cond.methodLink RJx00060 7 ⟨"java/lang/IndexOutOfBoundsException", "<init>", "(Ljava/lang/String;)V"⟩ ∈ WA := WA_of (i := 1124) (by decide +kernel) (by decide +kernel)
theorem kl_J5_137 : Cond.methodLink RJ5 137 yJ2_fillNull_b72d1 ∈ WA := WA_of (i := 1127) (by decide +kernel) (by decide +kernel)
theorem kl_J2_380 : Cond.methodLink RJ2 380 yJ7_fill_eb02e ∈ WA := WA_of (i := 1130) (by decide +kernel) (by decide +kernel)
theorem kl_X9_293 : Cond.methodLink RX9 293 yX9_writeHead ∈ WA := WA_of (i := 1131) (by decide +kernel) (by decide +kernel)
theorem kl_X9_305 : Cond.methodLink RX9 305 yJ4_append_bf812 ∈ WA := WA_of (i := 1135) (by decide +kernel) (by decide +kernel)
theorem kl_X9_301 : Cond.methodLink RX9 301 yJ4_append_cf468 ∈ WA := WA_of (i := 1136) (by decide +kernel) (by decide +kernel)
theorem kl_J4_50 : Cond.methodLink RJ4 50 yJ5_append_3fe6f ∈ WA := WA_of (i := 1140) (by decide +kernel) (by decide +kernel)
theorem kl_J5_191 : Cond.methodLink RJ5 191 yJ1_canEncode_fc78d ∈ WA := WA_of (i := 1143) (by decide +kernel) (by decide +kernel)
theorem kl_J5_197 : Cond.methodLink RJ5 197 yJ2_putCharSB_b72d1 ∈ WA := WA_of (i := 1146) (by decide +kernel) (by decide +kernel)
theorem kl_J2_67 : Cond.methodLink RJ2 67 yJ2_checkIndex_2214a ∈ WA := WA_of (i := 1149) (by decide +kernel) (by decide +kernel)
theorem kl_J2_414 : Cond.methodLink RJ2 414 yJ0_checkIndex_df160 ∈ WA := WA_of (i := 1152) (by decide +kernel) (by decide +kernel)
theorem kl_J0_1059 : Cond.methodLink RJ0 1059 yJ3_checkIndex_8e157 ∈ WA := WA_of (i := 1155) (by decide +kernel) (by decide +kernel)
theorem kl_X9_127 : Cond.methodLink RX9 127 yX0_isFoundGuilty ∈ WA := WA_of (i := 1158) (by decide +kernel) (by decide +kernel)
theorem kl_X9_296 : Cond.methodLink RX9 296 yX9_writeTestimony ∈ WA := WA_of (i := 1159) (by decide +kernel) (by decide +kernel)
theorem kl_X9_299 : Cond.methodLink RX9 299 yJ4_length_8abf5 ∈ WA := WA_of (i := 1163) (by decide +kernel) (by decide +kernel)
theorem kl_L_250 : Cond.methodLink RL 250 yX9_formatWitness ∈ WA := WA_of (i := 1164) (by decide +kernel) (by decide +kernel)
theorem kl_L_195 : Cond.methodLink RL 195 yL_witnessAt ∈ WA := WA_of (i := 1168) (by decide +kernel) (by decide +kernel)
theorem kc_L_31 : Cond.classLink RL 31 "java/lang/IndexOutOfBoundsException" ∈ WA := WA_of (i := 1171) (by decide +kernel) (by decide +kernel)
theorem kc_L_37 : Cond.classLink RL 37 "java/util/NoSuchElementException" ∈ WA := WA_of (i := 1174) (by decide +kernel) (by decide +kernel)
theorem kl_L_304 : Cond.methodLink RL 304 yL_mostCredible ∈ WA := WA_of (i := 1175) (by decide +kernel) (by decide +kernel)
theorem kl_L_232 : Cond.methodLink RL 232 yL_heaviestWitness ∈ WA := WA_of (i := 1178) (by decide +kernel) (by decide +kernel)
theorem kl_L_51 : Cond.methodLink RL 51 yX9_heaviestWitness ∈ WA := WA_of (i := 1181) (by decide +kernel) (by decide +kernel)
theorem kl_X9_201 : Cond.methodLink RX9 201 yX8_heaviestIn ∈ WA := WA_of (i := 1186) (by decide +kernel) (by decide +kernel)
theorem kl_L_278 : Cond.methodLink RL 278 yL_nextToDecide ∈ WA := WA_of (i := 1189) (by decide +kernel) (by decide +kernel)
theorem kl_L_54 : Cond.methodLink RL 54 yX9_nextToDecide ∈ WA := WA_of (i := 1192) (by decide +kernel) (by decide +kernel)
theorem kl_X9_211 : Cond.methodLink RX9 211 yX1_firstHeard ∈ WA := WA_of (i := 1196) (by decide +kernel) (by decide +kernel)
theorem kl_L_215 : Cond.methodLink RL 215 yL_firmAnswersToGuilty ∈ WA := WA_of (i := 1201) (by decide +kernel) (by decide +kernel)
theorem kl_L_58 : Cond.methodLink RL 58 yX9_firmAnswersToGuilty ∈ WA := WA_of (i := 1204) (by decide +kernel) (by decide +kernel)
theorem kl_X9_227 : Cond.methodLink RX9 227 yX8_firmAnswersNeeded ∈ WA := WA_of (i := 1208) (by decide +kernel) (by decide +kernel)
theorem kl_X8_46 : Cond.methodLink RX8 46 yX8_marginByTestimony ∈ WA := WA_of (i := 1211) (by decide +kernel) (by decide +kernel)
theorem kl_L_281 : Cond.methodLink RL 281 yL_docketAt ∈ WA := WA_of (i := 1213) (by decide +kernel) (by decide +kernel)
theorem kl_L_234 : Cond.methodLink RL 234 yL_docketPosition ∈ WA := WA_of (i := 1216) (by decide +kernel) (by decide +kernel)
theorem kc_L_21 : Cond.classLink RL 21 "java/lang/IllegalStateException" ∈ WA := WA_of (i := 1219) (by decide +kernel) (by decide +kernel)
theorem kl_L_145 : Cond.methodLink RL 145 yL_verdict ∈ WA := WA_of (i := 1220) (by decide +kernel) (by decide +kernel)
theorem kl_L_71 : Cond.methodLink RL 71 yX9_isGuilty ∈ WA := WA_of (i := 1223) (by decide +kernel) (by decide +kernel)
theorem kl_L_135 : Cond.methodLink RL 135 yL_build ∈ WA := WA_of (i := 1228) (by decide +kernel) (by decide +kernel)
theorem kl_L_74 : Cond.methodLink RL 74 yL_some ∈ WA := WA_of (i := 1231) (by decide +kernel) (by decide +kernel)
theorem kl_L_7 : Cond.methodLink RL 7 yL_cell ∈ WA := WA_of (i := 1234) (by decide +kernel) (by decide +kernel)
theorem kl_L_78 : Cond.methodLink RL 78 yL_addWitness ∈ WA := WA_of (i := 1237) (by decide +kernel) (by decide +kernel)
theorem kc_L_19 : Cond.classLink RL 19 "java/lang/IllegalArgumentException" ∈ WA := WA_of (i := 1240) (by decide +kernel) (by decide +kernel)
theorem kl_L_23 : Cond.methodLink RL 23 yX9_addWitness ∈ WA := WA_of (i := 1241) (by decide +kernel) (by decide +kernel)
theorem kl_X9_71 : Cond.methodLink RX9 71 yX9_change ∈ WA := WA_of (i := 1245) (by decide +kernel) (by decide +kernel)
theorem kl_X9_362 : Cond.methodLink RX9 362 yX0_faultOf ∈ WA := WA_of (i := 1249) (by decide +kernel) (by decide +kernel)
theorem kl_X0_80 : Cond.methodLink RX0 80 yX0_faultOfCharge ∈ WA := WA_of (i := 1253) (by decide +kernel) (by decide +kernel)
theorem kln_X0_126 : Cond.methodLinkNest RX0 126 yX9_isDefendant "CaseManager" ∈ WN := WN_of (i := 1257) (by decide +kernel) (by decide +kernel)
theorem kln_X0_130 : Cond.methodLinkNest RX0 130 yX9_isOffence "CaseManager" ∈ WN := WN_of (i := 1258) (by decide +kernel) (by decide +kernel)
theorem kf_X0_133 : Cond.fieldLink RX0 133 "CaseManager$Fault" "ARGUMENT" "LCaseManager$Fault;" ∈ WA := WA_of (i := 1259) (by decide +kernel) (by decide +kernel)
theorem kl_X0_139 : Cond.methodLink RX0 139 yX0_caseAgainst ∈ WA := WA_of (i := 1261) (by decide +kernel) (by decide +kernel)
theorem kf_X0_142 : Cond.fieldLink RX0 142 "CaseManager$Fault" "STATE" "LCaseManager$Fault;" ∈ WA := WA_of (i := 1262) (by decide +kernel) (by decide +kernel)
theorem kf_X0_145 : Cond.fieldLink RX0 145 "CaseManager$Fault" "NONE" "LCaseManager$Fault;" ∈ WA := WA_of (i := 1264) (by decide +kernel) (by decide +kernel)
theorem kl_X0_84 : Cond.methodLink RX0 84 yX0_faultOfWitness ∈ WA := WA_of (i := 1266) (by decide +kernel) (by decide +kernel)
theorem kl_X0_88 : Cond.methodLink RX0 88 yX0_faultOfTestimony ∈ WA := WA_of (i := 1270) (by decide +kernel) (by decide +kernel)
theorem kl_X0_148 : Cond.methodLink RX0 148 yX0_hasCase ∈ WA := WA_of (i := 1274) (by decide +kernel) (by decide +kernel)
theorem kl_X0_151 : Cond.methodLink RX0 151 yX0_hasWitness ∈ WA := WA_of (i := 1275) (by decide +kernel) (by decide +kernel)
theorem kf_X0_154 : Cond.fieldLink RX0 154 "CaseManager$Fault" "INDEX" "LCaseManager$Fault;" ∈ WA := WA_of (i := 1276) (by decide +kernel) (by decide +kernel)
theorem kl_X0_92 : Cond.methodLink RX0 92 yX0_faultOfQuestion ∈ WA := WA_of (i := 1278) (by decide +kernel) (by decide +kernel)
theorem kf_X0_167 : Cond.fieldLink RX0 167 "CaseManager$Fault" "ELEMENT" "LCaseManager$Fault;" ∈ WA := WA_of (i := 1282) (by decide +kernel) (by decide +kernel)
theorem kl_X0_170 : Cond.methodLink RX0 170 yX0_questionsTo ∈ WA := WA_of (i := 1284) (by decide +kernel) (by decide +kernel)
theorem kl_X0_95 : Cond.methodLink RX0 95 yX0_faultOfDecision ∈ WA := WA_of (i := 1285) (by decide +kernel) (by decide +kernel)
theorem kl_X0_98 : Cond.methodLink RX0 98 yX0_faultAfterVerdict ∈ WA := WA_of (i := 1289) (by decide +kernel) (by decide +kernel)
theorem kl_X9_366 : Cond.methodLink RX9 366 yX9_refuse ∈ WA := WA_of (i := 1293) (by decide +kernel) (by decide +kernel)
theorem kf_X9_376 : Cond.fieldLink RX9 376 "CaseManager$Fault" "INDEX" "LCaseManager$Fault;" ∈ WA := WA_of (i := 1296) (by decide +kernel) (by decide +kernel)
theorem kf_X9_384 : Cond.fieldLink RX9 384 "CaseManager$Fault" "ARGUMENT" "LCaseManager$Fault;" ∈ WA := WA_of (i := 1298) (by decide +kernel) (by decide +kernel)
theorem kf_X9_389 : Cond.fieldLink RX9 389 "CaseManager$Fault" "ELEMENT" "LCaseManager$Fault;" ∈ WA := WA_of (i := 1300) (by decide +kernel) (by decide +kernel)
theorem kf_X9_394 : Cond.fieldLink RX9 394 "CaseManager$Fault" "STATE" "LCaseManager$Fault;" ∈ WA := WA_of (i := 1301) (by decide +kernel) (by decide +kernel)
theorem kl_X9_370 : Cond.methodLink RX9 370 yX4_keep ∈ WA := WA_of (i := 1303) (by decide +kernel) (by decide +kernel)
theorem kl_X4_25 : Cond.methodLink RX4 25 yX4_placeAt ∈ WA := WA_of (i := 1307) (by decide +kernel) (by decide +kernel)
theorem kl_X4_29 : Cond.methodLink RX4 29 yX0_copyFrom ∈ WA := WA_of (i := 1311) (by decide +kernel) (by decide +kernel)
theorem kl_X0_73 : Cond.methodLink RX0 73 yX6_copyFrom ∈ WA := WA_of (i := 1315) (by decide +kernel) (by decide +kernel)
theorem kl_X6_21 : Cond.methodLink RX6 21 yJ9_min_7cf53 ∈ WA := WA_of (i := 1319) (by decide +kernel) (by decide +kernel)
theorem kl_X6_27 : Cond.methodLink RX6 27 ⟨"java/lang/System", "arraycopy", "(Ljava/lang/Object;ILjava/lang/Object;II)V"⟩ ∈ WA := WA_of (i := 1320) (by decide +kernel) (by decide +kernel)
theorem kl_X4_33 : Cond.methodLink RX4 33 yJ9_min_7cf53 ∈ WA := WA_of (i := 1321) (by decide +kernel) (by decide +kernel)
theorem kl_X9_373 : Cond.methodLink RX9 373 yX0_perform ∈ WA := WA_of (i := 1322) (by decide +kernel) (by decide +kernel)
theorem kl_X0_101 : Cond.methodLink RX0 101 yX0_openCase ∈ WA := WA_of (i := 1326) (by decide +kernel) (by decide +kernel)
theorem kl_X0_173 : Cond.methodLink RX0 173 yX6_put ∈ WA := WA_of (i := 1330) (by decide +kernel) (by decide +kernel)
theorem kl_X0_105 : Cond.methodLink RX0 105 yX0_register ∈ WA := WA_of (i := 1331) (by decide +kernel) (by decide +kernel)
theorem kl_X0_177 : Cond.methodLink RX0 177 yX3_found ∈ WA := WA_of (i := 1335) (by decide +kernel) (by decide +kernel)
theorem kl_X3_20 : Cond.methodLink RX3 20 yX6_put ∈ WA := WA_of (i := 1339) (by decide +kernel) (by decide +kernel)
theorem kl_X0_109 : Cond.methodLink RX0 109 yX0_hear ∈ WA := WA_of (i := 1340) (by decide +kernel) (by decide +kernel)
theorem kl_X0_183 : Cond.methodLink RX0 183 yX0_witnessHeardAt ∈ WA := WA_of (i := 1344) (by decide +kernel) (by decide +kernel)
theorem kl_X0_186 : Cond.methodLink RX0 186 yX3_unite ∈ WA := WA_of (i := 1345) (by decide +kernel) (by decide +kernel)
theorem kl_X0_113 : Cond.methodLink RX0 113 yX0_ask ∈ WA := WA_of (i := 1349) (by decide +kernel) (by decide +kernel)
theorem kl_X0_189 : Cond.methodLink RX0 189 yJ9_min_7cf53 ∈ WA := WA_of (i := 1353) (by decide +kernel) (by decide +kernel)
theorem kl_X0_194 : Cond.methodLink RX0 194 yJ9_max_7cf53 ∈ WA := WA_of (i := 1354) (by decide +kernel) (by decide +kernel)
theorem kl_X0_197 : Cond.methodLink RX0 197 yX6_add ∈ WA := WA_of (i := 1355) (by decide +kernel) (by decide +kernel)
theorem kl_X6_13 : Cond.methodLink RX6 13 yX6_get ∈ WA := WA_of (i := 1359) (by decide +kernel) (by decide +kernel)
theorem kl_X6_17 : Cond.methodLink RX6 17 yX6_put ∈ WA := WA_of (i := 1360) (by decide +kernel) (by decide +kernel)
theorem kl_X0_117 : Cond.methodLink RX0 117 yX0_judge ∈ WA := WA_of (i := 1361) (by decide +kernel) (by decide +kernel)
theorem kl_X0_200 : Cond.methodLink RX0 200 yX8_marginByTestimony ∈ WA := WA_of (i := 1365) (by decide +kernel) (by decide +kernel)
theorem kl_X0_120 : Cond.methodLink RX0 120 yX0_reopen ∈ WA := WA_of (i := 1366) (by decide +kernel) (by decide +kernel)
theorem kl_X0_123 : Cond.methodLink RX0 123 yX0_finish ∈ WA := WA_of (i := 1370) (by decide +kernel) (by decide +kernel)
theorem kl_X0_212 : Cond.methodLink RX0 212 yX0_countIn ∈ WA := WA_of (i := 1374) (by decide +kernel) (by decide +kernel)
theorem kl_L_81 : Cond.methodLink RL 81 yL_charge ∈ WA := WA_of (i := 1375) (by decide +kernel) (by decide +kernel)
theorem kl_L_13 : Cond.methodLink RL 13 yX9_charge ∈ WA := WA_of (i := 1378) (by decide +kernel) (by decide +kernel)
theorem kl_L_84 : Cond.methodLink RL 84 yL_acts ∈ WA := WA_of (i := 1382) (by decide +kernel) (by decide +kernel)
theorem kl_L_94 : Cond.methodLink RL 94 yL_testify ∈ WA := WA_of (i := 1385) (by decide +kernel) (by decide +kernel)
theorem kl_L_27 : Cond.methodLink RL 27 yX9_testify ∈ WA := WA_of (i := 1388) (by decide +kernel) (by decide +kernel)
theorem kl_L_97 : Cond.methodLink RL 97 yL_question ∈ WA := WA_of (i := 1392) (by decide +kernel) (by decide +kernel)
theorem kl_L_33 : Cond.methodLink RL 33 yX9_question ∈ WA := WA_of (i := 1395) (by decide +kernel) (by decide +kernel)
theorem kl_L_100 : Cond.methodLink RL 100 yL_decide ∈ WA := WA_of (i := 1399) (by decide +kernel) (by decide +kernel)
theorem kl_L_67 : Cond.methodLink RL 67 yX9_decide ∈ WA := WA_of (i := 1402) (by decide +kernel) (by decide +kernel)
theorem kl_L_102 : Cond.methodLink RL 102 yL_appeal ∈ WA := WA_of (i := 1406) (by decide +kernel) (by decide +kernel)
theorem kl_L_39 : Cond.methodLink RL 39 yX9_appeal ∈ WA := WA_of (i := 1409) (by decide +kernel) (by decide +kernel)
theorem kl_L_104 : Cond.methodLink RL 104 yL_close ∈ WA := WA_of (i := 1413) (by decide +kernel) (by decide +kernel)
theorem kl_L_42 : Cond.methodLink RL 42 yX9_close ∈ WA := WA_of (i := 1416) (by decide +kernel) (by decide +kernel)
theorem kl_L_148 : Cond.methodLink RL 148 yL_weight ∈ WA := WA_of (i := 1420) (by decide +kernel) (by decide +kernel)
theorem kl_L_228 : Cond.methodLink RL 228 yL_isLine ∈ WA := WA_of (i := 1423) (by decide +kernel) (by decide +kernel)
theorem kl_L_122 : Cond.methodLink RL 122 yJ0_length_8abf5 ∈ WA := WA_of (i := 1426) (by decide +kernel) (by decide +kernel)
theorem kl_L_127 : Cond.methodLink RL 127 yX9_lineChar ∈ WA := WA_of (i := 1427) (by decide +kernel) (by decide +kernel)
theorem kl_X9_313 : Cond.methodLink RX9 313 yJ4_charAt_5068e ∈ WA := WA_of (i := 1432) (by decide +kernel) (by decide +kernel)
theorem kl_J4_329 : Cond.methodLink RJ4 329 yJ5_charAt_5068e ∈ WA := WA_of (i := 1436) (by decide +kernel) (by decide +kernel)
theorem kl_J5_138 : Cond.methodLink RJ5 138 yJ9_min_7cf53 ∈ WA := WA_of (i := 1439) (by decide +kernel) (by decide +kernel)
theorem kl_J5_144 : Cond.methodLink RJ5 144 yJ0_checkIndex_df160 ∈ WA := WA_of (i := 1440) (by decide +kernel) (by decide +kernel)
theorem kl_J5_148 : Cond.methodLink RJ5 148 yJ2_getChar_3b067 ∈ WA := WA_of (i := 1441) (by decide +kernel) (by decide +kernel)
theorem kl_L_131 : Cond.methodLink RL 131 yJ0_charAt_5068e ∈ WA := WA_of (i := 1442) (by decide +kernel) (by decide +kernel)
theorem kl_J0_492 : Cond.methodLink RJ0 492 yJ0_isLatin1_aae02 ∈ WA := WA_of (i := 1446) (by decide +kernel) (by decide +kernel)
theorem kl_J0_495 : Cond.methodLink RJ0 495 yJ1_charAt_3b067 ∈ WA := WA_of (i := 1450) (by decide +kernel) (by decide +kernel)
theorem kl_J1_9 : Cond.methodLink RJ1 9 yJ0_checkIndex_df160 ∈ WA := WA_of (i := 1453) (by decide +kernel) (by decide +kernel)
theorem kl_J0_498 : Cond.methodLink RJ0 498 yJ2_charAt_3b067 ∈ WA := WA_of (i := 1454) (by decide +kernel) (by decide +kernel)
theorem kl_L_236 : Cond.methodLink RL 236 yJ6_numberOfTrailingZeros_0f7a4 ∈ WA := WA_of (i := 1457) (by decide +kernel) (by decide +kernel)
theorem kl_L_244 : Cond.methodLink RL 244 yJ6_bitCount_0f7a4 ∈ WA := WA_of (i := 1461) (by decide +kernel) (by decide +kernel)
theorem kc_L_152 : Cond.classLink RL 152 RJ4 ∈ WA := WA_of (i := 1467) (by decide +kernel) (by decide +kernel)
theorem kl_L_154 : Cond.methodLink RL 154 yJ4_init_da8c8 ∈ WA := WA_of (i := 1468) (by decide +kernel) (by decide +kernel)
theorem kl_L_161 : Cond.methodLink RL 161 yJ4_append_15ec4 ∈ WA := WA_of (i := 1469) (by decide +kernel) (by decide +kernel)
theorem kl_L_155 : Cond.methodLink RL 155 yJ4_append_bf812 ∈ WA := WA_of (i := 1470) (by decide +kernel) (by decide +kernel)
theorem kl_L_179 : Cond.methodLink RL 179 yJ4_toString_0e30d ∈ WA := WA_of (i := 1471) (by decide +kernel) (by decide +kernel)
theorem kini_CaseManagerLaw : Cond.initialized RL ∈ WA := WA_of (i := 32) (by decide +kernel) (by decide +kernel)
theorem kini_CaseManager : Cond.initialized RX9 ∈ WA := WA_of (i := 33) (by decide +kernel) (by decide +kernel)
theorem kini_CaseManager_Court : Cond.initialized RX0 ∈ WA := WA_of (i := 34) (by decide +kernel) (by decide +kernel)
theorem kini_CaseManager_Row : Cond.initialized RX6 ∈ WA := WA_of (i := 35) (by decide +kernel) (by decide +kernel)
theorem kini_CaseManager_Groups : Cond.initialized RX3 ∈ WA := WA_of (i := 36) (by decide +kernel) (by decide +kernel)
theorem kini_CaseManager_History : Cond.initialized RX4 ∈ WA := WA_of (i := 37) (by decide +kernel) (by decide +kernel)
theorem kini_CaseManager_Docket : Cond.initialized RX1 ∈ WA := WA_of (i := 38) (by decide +kernel) (by decide +kernel)
theorem kini_CaseManager_Search : Cond.initialized RX7 ∈ WA := WA_of (i := 39) (by decide +kernel) (by decide +kernel)
theorem kini_CaseManager_Program : Cond.initialized RX5 ∈ WA := WA_of (i := 40) (by decide +kernel) (by decide +kernel)
theorem kini_java_lang_AbstractStringBuilder : Cond.initialized RJ5 ∈ WA := WA_of (i := 41) (by decide +kernel) (by decide +kernel)
theorem kini_java_lang_StringBuilder : Cond.initialized RJ4 ∈ WA := WA_of (i := 42) (by decide +kernel) (by decide +kernel)
theorem kini_java_lang_String : Cond.initialized RJ0 ∈ WA := WA_of (i := 43) (by decide +kernel) (by decide +kernel)
theorem kini_java_lang_StringUTF16 : Cond.initialized RJ2 ∈ WA := WA_of (i := 44) (by decide +kernel) (by decide +kernel)
theorem kini_java_lang_Enum : Cond.initialized RJx29ce0 ∈ WA := WA_of (i := 45) (by decide +kernel) (by decide +kernel)
theorem kini_CaseManager_Fault : Cond.initialized RX2 ∈ WA := WA_of (i := 46) (by decide +kernel) (by decide +kernel)
theorem kini_java_lang_Throwable : Cond.initialized "java/lang/Throwable" ∈ WA := WA_of (i := 47) (by decide +kernel) (by decide +kernel)
theorem kini_java_lang_Exception : Cond.initialized "java/lang/Exception" ∈ WA := WA_of (i := 48) (by decide +kernel) (by decide +kernel)
theorem kini_java_lang_RuntimeException : Cond.initialized "java/lang/RuntimeException" ∈ WA := WA_of (i := 49) (by decide +kernel) (by decide +kernel)
theorem kini_java_lang_IndexOutOfBoundsException : Cond.initialized "java/lang/IndexOutOfBoundsException" ∈ WA := WA_of (i := 50) (by decide +kernel) (by decide +kernel)
theorem kini_java_lang_IllegalArgumentException : Cond.initialized "java/lang/IllegalArgumentException" ∈ WA := WA_of (i := 51) (by decide +kernel) (by decide +kernel)
theorem kini_java_util_NoSuchElementException : Cond.initialized "java/util/NoSuchElementException" ∈ WA := WA_of (i := 52) (by decide +kernel) (by decide +kernel)
theorem kini_java_lang_IllegalStateException : Cond.initialized "java/lang/IllegalStateException" ∈ WA := WA_of (i := 53) (by decide +kernel) (by decide +kernel)
theorem kini_java_lang_Math : Cond.initialized RJ9 ∈ WA := WA_of (i := 54) (by decide +kernel) (by decide +kernel)
theorem kini_java_lang_System : Cond.initialized RJ10 ∈ WA := WA_of (i := 55) (by decide +kernel) (by decide +kernel)
theorem kini_CaseManager_Weights : Cond.initialized RX8 ∈ WA := WA_of (i := 56) (by decide +kernel) (by decide +kernel)
theorem kini_java_lang_ArrayIndexOutOfBoundsException : Cond.initialized RJx00060 ∈ WA := WA_of (i := 57) (by decide +kernel) (by decide +kernel)
theorem kini_java_lang_Number : Cond.initialized RJxd2413 ∈ WA := WA_of (i := 58) (by decide +kernel) (by decide +kernel)
theorem kini_java_lang_Integer : Cond.initialized RJ6 ∈ WA := WA_of (i := 59) (by decide +kernel) (by decide +kernel)
theorem kini_jdk_internal_util_ArraysSupport : Cond.initialized RJ8 ∈ WA := WA_of (i := 60) (by decide +kernel) (by decide +kernel)
theorem kini_java_util_Arrays : Cond.initialized RJ7 ∈ WA := WA_of (i := 61) (by decide +kernel) (by decide +kernel)
theorem kini_jdk_internal_util_Preconditions : Cond.initialized RJ3 ∈ WA := WA_of (i := 62) (by decide +kernel) (by decide +kernel)
theorem kini_java_lang_StringLatin1 : Cond.initialized RJ1 ∈ WA := WA_of (i := 63) (by decide +kernel) (by decide +kernel)
theorem kini_java_lang_StringIndexOutOfBoundsException : Cond.initialized RJx7c733 ∈ WA := WA_of (i := 64) (by decide +kernel) (by decide +kernel)
theorem kini_java_lang_ArithmeticException : Cond.initialized "java/lang/ArithmeticException" ∈ WA := WA_of (i := 65) (by decide +kernel) (by decide +kernel)
theorem kins_X9 : Cond.instantiable RX9 12 ∈ WA := WA_of (i := 67) (by decide +kernel) (by decide +kernel)
theorem kins_X0 : Cond.instantiable RX0 17 ∈ WA := WA_of (i := 75) (by decide +kernel) (by decide +kernel)
theorem kins_X6 : Cond.instantiable RX6 1 ∈ WA := WA_of (i := 81) (by decide +kernel) (by decide +kernel)
theorem kins_X3 : Cond.instantiable RX3 1 ∈ WA := WA_of (i := 92) (by decide +kernel) (by decide +kernel)
theorem kins_X4 : Cond.instantiable RX4 3 ∈ WA := WA_of (i := 173) (by decide +kernel) (by decide +kernel)
theorem kins_X1 : Cond.instantiable RX1 2 ∈ WA := WA_of (i := 192) (by decide +kernel) (by decide +kernel)
theorem kins_X7 : Cond.instantiable RX7 3 ∈ WA := WA_of (i := 209) (by decide +kernel) (by decide +kernel)
theorem kins_X5 : Cond.instantiable RX5 8 ∈ WA := WA_of (i := 227) (by decide +kernel) (by decide +kernel)
theorem kins_J4 : Cond.instantiable RJ4 4 ∈ WA := WA_of (i := 233) (by decide +kernel) (by decide +kernel)
theorem kins_Jx7c733 : Cond.instantiable RJx7c733 6 ∈ WA := WA_of (i := 864) (by decide +kernel) (by decide +kernel)
theorem kins_J0 : Cond.instantiable RJ0 4 ∈ WA := WA_of (i := 1021) (by decide +kernel) (by decide +kernel)
theorem kins_Jx00060 : Cond.instantiable RJx00060 6 ∈ WA := WA_of (i := 1105) (by decide +kernel) (by decide +kernel)
end
section
def mxX0_init : Nat := 1
theorem kvX0_init : (Cond.code yX0_init cX0_init 1 none ∈ WA) ∧ (Cond.initialized yX0_init.cls ∈ WA) ∧ (yX0_init.cls ≠ "java/lang/invoke/MethodHandle" ∧ yX0_init.cls ≠ "java/lang/invoke/VarHandle" ∧ (parseMethodDescriptor yX0_init.desc).map (fun d => d.parameters.length) = some 0) := ⟨WA_of (i := 78) (by decide +kernel) (by decide +kernel), kini_CaseManager_Court, by decide +kernel, by decide +kernel, by decide +kernel⟩
theorem kiiX0_init : Cond.instanceMethod yX0_init ∈ WA := WA_of (i := 77) (by decide +kernel) (by decide +kernel)
def mxX0_copyFrom : Nat := 2
theorem kvX0_copyFrom : (Cond.code yX0_copyFrom cX0_copyFrom 2 none ∈ WA) ∧ (Cond.initialized yX0_copyFrom.cls ∈ WA) ∧ (yX0_copyFrom.cls ≠ "java/lang/invoke/MethodHandle" ∧ yX0_copyFrom.cls ≠ "java/lang/invoke/VarHandle" ∧ (parseMethodDescriptor yX0_copyFrom.desc).map (fun d => d.parameters.length) = some 1) := ⟨WA_of (i := 1314) (by decide +kernel) (by decide +kernel), kini_CaseManager_Court, by decide +kernel, by decide +kernel, by decide +kernel⟩
theorem kiX0_copyFrom : (Cond.instanceMethod yX0_copyFrom ∈ WA) ∧ (Cond.selects yX0_copyFrom.cls yX0_copyFrom yX0_copyFrom ∈ WA) := ⟨WA_of (i := 1312) (by decide +kernel) (by decide +kernel), WA_of (i := 1313) (by decide +kernel) (by decide +kernel)⟩
def mxX0_faultOf : Nat := 5
theorem kvX0_faultOf : (Cond.code yX0_faultOf cX0_faultOf 5 (some (.object "CaseManager$Fault")) ∈ WA) ∧ (Cond.initialized yX0_faultOf.cls ∈ WA) ∧ (yX0_faultOf.cls ≠ "java/lang/invoke/MethodHandle" ∧ yX0_faultOf.cls ≠ "java/lang/invoke/VarHandle" ∧ (parseMethodDescriptor yX0_faultOf.desc).map (fun d => d.parameters.length) = some 4) := ⟨WA_of (i := 1252) (by decide +kernel) (by decide +kernel), kini_CaseManager_Court, by decide +kernel, by decide +kernel, by decide +kernel⟩
theorem kiX0_faultOf : (Cond.instanceMethod yX0_faultOf ∈ WA) ∧ (Cond.selects yX0_faultOf.cls yX0_faultOf yX0_faultOf ∈ WA) := ⟨WA_of (i := 1250) (by decide +kernel) (by decide +kernel), WA_of (i := 1251) (by decide +kernel) (by decide +kernel)⟩
def mxX0_perform : Nat := 6
theorem kvX0_perform : (Cond.code yX0_perform cX0_perform 6 (some .int) ∈ WA) ∧ (Cond.initialized yX0_perform.cls ∈ WA) ∧ (yX0_perform.cls ≠ "java/lang/invoke/MethodHandle" ∧ yX0_perform.cls ≠ "java/lang/invoke/VarHandle" ∧ (parseMethodDescriptor yX0_perform.desc).map (fun d => d.parameters.length) = some 5) := ⟨WA_of (i := 1325) (by decide +kernel) (by decide +kernel), kini_CaseManager_Court, by decide +kernel, by decide +kernel, by decide +kernel⟩
theorem kiX0_perform : (Cond.instanceMethod yX0_perform ∈ WA) ∧ (Cond.selects yX0_perform.cls yX0_perform yX0_perform ∈ WA) := ⟨WA_of (i := 1323) (by decide +kernel) (by decide +kernel), WA_of (i := 1324) (by decide +kernel) (by decide +kernel)⟩
def mxX0_faultOfCharge : Nat := 4
theorem kvX0_faultOfCharge : (Cond.code yX0_faultOfCharge cX0_faultOfCharge 4 (some (.object "CaseManager$Fault")) ∈ WA) ∧ (Cond.initialized yX0_faultOfCharge.cls ∈ WA) ∧ (yX0_faultOfCharge.cls ≠ "java/lang/invoke/MethodHandle" ∧ yX0_faultOfCharge.cls ≠ "java/lang/invoke/VarHandle" ∧ (parseMethodDescriptor yX0_faultOfCharge.desc).map (fun d => d.parameters.length) = some 2) := ⟨WA_of (i := 1256) (by decide +kernel) (by decide +kernel), kini_CaseManager_Court, by decide +kernel, by decide +kernel, by decide +kernel⟩
theorem kiX0_faultOfCharge : (Cond.instanceMethod yX0_faultOfCharge ∈ WA) ∧ (Cond.selects yX0_faultOfCharge.cls yX0_faultOfCharge yX0_faultOfCharge ∈ WA) := ⟨WA_of (i := 1255) (by decide +kernel) (by decide +kernel), WA_of (i := 18) (by decide +kernel) (by decide +kernel)⟩
def mxX0_faultOfWitness : Nat := 2
theorem kvX0_faultOfWitness : (Cond.code yX0_faultOfWitness cX0_faultOfWitness 2 (some (.object "CaseManager$Fault")) ∈ WA) ∧ (Cond.initialized yX0_faultOfWitness.cls ∈ WA) ∧ (yX0_faultOfWitness.cls ≠ "java/lang/invoke/MethodHandle" ∧ yX0_faultOfWitness.cls ≠ "java/lang/invoke/VarHandle" ∧ (parseMethodDescriptor yX0_faultOfWitness.desc).map (fun d => d.parameters.length) = some 1) := ⟨WA_of (i := 1269) (by decide +kernel) (by decide +kernel), kini_CaseManager_Court, by decide +kernel, by decide +kernel, by decide +kernel⟩
theorem kiX0_faultOfWitness : (Cond.instanceMethod yX0_faultOfWitness ∈ WA) ∧ (Cond.selects yX0_faultOfWitness.cls yX0_faultOfWitness yX0_faultOfWitness ∈ WA) := ⟨WA_of (i := 1268) (by decide +kernel) (by decide +kernel), WA_of (i := 19) (by decide +kernel) (by decide +kernel)⟩
def mxX0_faultOfTestimony : Nat := 6
theorem kvX0_faultOfTestimony : (Cond.code yX0_faultOfTestimony cX0_faultOfTestimony 6 (some (.object "CaseManager$Fault")) ∈ WA) ∧ (Cond.initialized yX0_faultOfTestimony.cls ∈ WA) ∧ (yX0_faultOfTestimony.cls ≠ "java/lang/invoke/MethodHandle" ∧ yX0_faultOfTestimony.cls ≠ "java/lang/invoke/VarHandle" ∧ (parseMethodDescriptor yX0_faultOfTestimony.desc).map (fun d => d.parameters.length) = some 3) := ⟨WA_of (i := 1273) (by decide +kernel) (by decide +kernel), kini_CaseManager_Court, by decide +kernel, by decide +kernel, by decide +kernel⟩
theorem kiX0_faultOfTestimony : (Cond.instanceMethod yX0_faultOfTestimony ∈ WA) ∧ (Cond.selects yX0_faultOfTestimony.cls yX0_faultOfTestimony yX0_faultOfTestimony ∈ WA) := ⟨WA_of (i := 1272) (by decide +kernel) (by decide +kernel), WA_of (i := 20) (by decide +kernel) (by decide +kernel)⟩
def mxX0_faultOfQuestion : Nat := 4
theorem kvX0_faultOfQuestion : (Cond.code yX0_faultOfQuestion cX0_faultOfQuestion 4 (some (.object "CaseManager$Fault")) ∈ WA) ∧ (Cond.initialized yX0_faultOfQuestion.cls ∈ WA) ∧ (yX0_faultOfQuestion.cls ≠ "java/lang/invoke/MethodHandle" ∧ yX0_faultOfQuestion.cls ≠ "java/lang/invoke/VarHandle" ∧ (parseMethodDescriptor yX0_faultOfQuestion.desc).map (fun d => d.parameters.length) = some 2) := ⟨WA_of (i := 1281) (by decide +kernel) (by decide +kernel), kini_CaseManager_Court, by decide +kernel, by decide +kernel, by decide +kernel⟩
theorem kiX0_faultOfQuestion : (Cond.instanceMethod yX0_faultOfQuestion ∈ WA) ∧ (Cond.selects yX0_faultOfQuestion.cls yX0_faultOfQuestion yX0_faultOfQuestion ∈ WA) := ⟨WA_of (i := 1280) (by decide +kernel) (by decide +kernel), WA_of (i := 21) (by decide +kernel) (by decide +kernel)⟩
def mxX0_faultOfDecision : Nat := 3
theorem kvX0_faultOfDecision : (Cond.code yX0_faultOfDecision cX0_faultOfDecision 3 (some (.object "CaseManager$Fault")) ∈ WA) ∧ (Cond.initialized yX0_faultOfDecision.cls ∈ WA) ∧ (yX0_faultOfDecision.cls ≠ "java/lang/invoke/MethodHandle" ∧ yX0_faultOfDecision.cls ≠ "java/lang/invoke/VarHandle" ∧ (parseMethodDescriptor yX0_faultOfDecision.desc).map (fun d => d.parameters.length) = some 1) := ⟨WA_of (i := 1288) (by decide +kernel) (by decide +kernel), kini_CaseManager_Court, by decide +kernel, by decide +kernel, by decide +kernel⟩
theorem kiX0_faultOfDecision : (Cond.instanceMethod yX0_faultOfDecision ∈ WA) ∧ (Cond.selects yX0_faultOfDecision.cls yX0_faultOfDecision yX0_faultOfDecision ∈ WA) := ⟨WA_of (i := 1287) (by decide +kernel) (by decide +kernel), WA_of (i := 22) (by decide +kernel) (by decide +kernel)⟩
def mxX0_faultAfterVerdict : Nat := 2
theorem kvX0_faultAfterVerdict : (Cond.code yX0_faultAfterVerdict cX0_faultAfterVerdict 2 (some (.object "CaseManager$Fault")) ∈ WA) ∧ (Cond.initialized yX0_faultAfterVerdict.cls ∈ WA) ∧ (yX0_faultAfterVerdict.cls ≠ "java/lang/invoke/MethodHandle" ∧ yX0_faultAfterVerdict.cls ≠ "java/lang/invoke/VarHandle" ∧ (parseMethodDescriptor yX0_faultAfterVerdict.desc).map (fun d => d.parameters.length) = some 1) := ⟨WA_of (i := 1292) (by decide +kernel) (by decide +kernel), kini_CaseManager_Court, by decide +kernel, by decide +kernel, by decide +kernel⟩
theorem kiX0_faultAfterVerdict : (Cond.instanceMethod yX0_faultAfterVerdict ∈ WA) ∧ (Cond.selects yX0_faultAfterVerdict.cls yX0_faultAfterVerdict yX0_faultAfterVerdict ∈ WA) := ⟨WA_of (i := 1291) (by decide +kernel) (by decide +kernel), WA_of (i := 23) (by decide +kernel) (by decide +kernel)⟩
def mxX0_openCase : Nat := 4
theorem kvX0_openCase : (Cond.code yX0_openCase cX0_openCase 4 (some .int) ∈ WA) ∧ (Cond.initialized yX0_openCase.cls ∈ WA) ∧ (yX0_openCase.cls ≠ "java/lang/invoke/MethodHandle" ∧ yX0_openCase.cls ≠ "java/lang/invoke/VarHandle" ∧ (parseMethodDescriptor yX0_openCase.desc).map (fun d => d.parameters.length) = some 2) := ⟨WA_of (i := 1329) (by decide +kernel) (by decide +kernel), kini_CaseManager_Court, by decide +kernel, by decide +kernel, by decide +kernel⟩
theorem kiX0_openCase : (Cond.instanceMethod yX0_openCase ∈ WA) ∧ (Cond.selects yX0_openCase.cls yX0_openCase yX0_openCase ∈ WA) := ⟨WA_of (i := 1328) (by decide +kernel) (by decide +kernel), WA_of (i := 25) (by decide +kernel) (by decide +kernel)⟩
def mxX0_register : Nat := 3
theorem kvX0_register : (Cond.code yX0_register cX0_register 3 (some .int) ∈ WA) ∧ (Cond.initialized yX0_register.cls ∈ WA) ∧ (yX0_register.cls ≠ "java/lang/invoke/MethodHandle" ∧ yX0_register.cls ≠ "java/lang/invoke/VarHandle" ∧ (parseMethodDescriptor yX0_register.desc).map (fun d => d.parameters.length) = some 1) := ⟨WA_of (i := 1334) (by decide +kernel) (by decide +kernel), kini_CaseManager_Court, by decide +kernel, by decide +kernel, by decide +kernel⟩
theorem kiX0_register : (Cond.instanceMethod yX0_register ∈ WA) ∧ (Cond.selects yX0_register.cls yX0_register yX0_register ∈ WA) := ⟨WA_of (i := 1333) (by decide +kernel) (by decide +kernel), WA_of (i := 26) (by decide +kernel) (by decide +kernel)⟩
def mxX0_hear : Nat := 6
theorem kvX0_hear : (Cond.code yX0_hear cX0_hear 6 (some .int) ∈ WA) ∧ (Cond.initialized yX0_hear.cls ∈ WA) ∧ (yX0_hear.cls ≠ "java/lang/invoke/MethodHandle" ∧ yX0_hear.cls ≠ "java/lang/invoke/VarHandle" ∧ (parseMethodDescriptor yX0_hear.desc).map (fun d => d.parameters.length) = some 4) := ⟨WA_of (i := 1343) (by decide +kernel) (by decide +kernel), kini_CaseManager_Court, by decide +kernel, by decide +kernel, by decide +kernel⟩
theorem kiX0_hear : (Cond.instanceMethod yX0_hear ∈ WA) ∧ (Cond.selects yX0_hear.cls yX0_hear yX0_hear ∈ WA) := ⟨WA_of (i := 1342) (by decide +kernel) (by decide +kernel), WA_of (i := 27) (by decide +kernel) (by decide +kernel)⟩
def mxX0_ask : Nat := 6
theorem kvX0_ask : (Cond.code yX0_ask cX0_ask 6 (some .int) ∈ WA) ∧ (Cond.initialized yX0_ask.cls ∈ WA) ∧ (yX0_ask.cls ≠ "java/lang/invoke/MethodHandle" ∧ yX0_ask.cls ≠ "java/lang/invoke/VarHandle" ∧ (parseMethodDescriptor yX0_ask.desc).map (fun d => d.parameters.length) = some 3) := ⟨WA_of (i := 1352) (by decide +kernel) (by decide +kernel), kini_CaseManager_Court, by decide +kernel, by decide +kernel, by decide +kernel⟩
theorem kiX0_ask : (Cond.instanceMethod yX0_ask ∈ WA) ∧ (Cond.selects yX0_ask.cls yX0_ask yX0_ask ∈ WA) := ⟨WA_of (i := 1351) (by decide +kernel) (by decide +kernel), WA_of (i := 28) (by decide +kernel) (by decide +kernel)⟩
def mxX0_judge : Nat := 3
theorem kvX0_judge : (Cond.code yX0_judge cX0_judge 3 (some .int) ∈ WA) ∧ (Cond.initialized yX0_judge.cls ∈ WA) ∧ (yX0_judge.cls ≠ "java/lang/invoke/MethodHandle" ∧ yX0_judge.cls ≠ "java/lang/invoke/VarHandle" ∧ (parseMethodDescriptor yX0_judge.desc).map (fun d => d.parameters.length) = some 1) := ⟨WA_of (i := 1364) (by decide +kernel) (by decide +kernel), kini_CaseManager_Court, by decide +kernel, by decide +kernel, by decide +kernel⟩
theorem kiX0_judge : (Cond.instanceMethod yX0_judge ∈ WA) ∧ (Cond.selects yX0_judge.cls yX0_judge yX0_judge ∈ WA) := ⟨WA_of (i := 1363) (by decide +kernel) (by decide +kernel), WA_of (i := 29) (by decide +kernel) (by decide +kernel)⟩
def mxX0_reopen : Nat := 2
theorem kvX0_reopen : (Cond.code yX0_reopen cX0_reopen 2 (some .int) ∈ WA) ∧ (Cond.initialized yX0_reopen.cls ∈ WA) ∧ (yX0_reopen.cls ≠ "java/lang/invoke/MethodHandle" ∧ yX0_reopen.cls ≠ "java/lang/invoke/VarHandle" ∧ (parseMethodDescriptor yX0_reopen.desc).map (fun d => d.parameters.length) = some 1) := ⟨WA_of (i := 1369) (by decide +kernel) (by decide +kernel), kini_CaseManager_Court, by decide +kernel, by decide +kernel, by decide +kernel⟩
theorem kiX0_reopen : (Cond.instanceMethod yX0_reopen ∈ WA) ∧ (Cond.selects yX0_reopen.cls yX0_reopen yX0_reopen ∈ WA) := ⟨WA_of (i := 1368) (by decide +kernel) (by decide +kernel), WA_of (i := 30) (by decide +kernel) (by decide +kernel)⟩
def mxX0_finish : Nat := 2
theorem kvX0_finish : (Cond.code yX0_finish cX0_finish 2 (some .int) ∈ WA) ∧ (Cond.initialized yX0_finish.cls ∈ WA) ∧ (yX0_finish.cls ≠ "java/lang/invoke/MethodHandle" ∧ yX0_finish.cls ≠ "java/lang/invoke/VarHandle" ∧ (parseMethodDescriptor yX0_finish.desc).map (fun d => d.parameters.length) = some 1) := ⟨WA_of (i := 1373) (by decide +kernel) (by decide +kernel), kini_CaseManager_Court, by decide +kernel, by decide +kernel, by decide +kernel⟩
theorem kiX0_finish : (Cond.instanceMethod yX0_finish ∈ WA) ∧ (Cond.selects yX0_finish.cls yX0_finish yX0_finish ∈ WA) := ⟨WA_of (i := 1372) (by decide +kernel) (by decide +kernel), WA_of (i := 31) (by decide +kernel) (by decide +kernel)⟩
def mxX0_hasCase : Nat := 2
theorem kvX0_hasCase : (Cond.code yX0_hasCase cX0_hasCase 2 (some .boolean) ∈ WA) ∧ (Cond.initialized yX0_hasCase.cls ∈ WA) ∧ (yX0_hasCase.cls ≠ "java/lang/invoke/MethodHandle" ∧ yX0_hasCase.cls ≠ "java/lang/invoke/VarHandle" ∧ (parseMethodDescriptor yX0_hasCase.desc).map (fun d => d.parameters.length) = some 1) := ⟨WA_of (i := 451) (by decide +kernel) (by decide +kernel), kini_CaseManager_Court, by decide +kernel, by decide +kernel, by decide +kernel⟩
theorem kiX0_hasCase : (Cond.instanceMethod yX0_hasCase ∈ WA) ∧ (Cond.selects yX0_hasCase.cls yX0_hasCase yX0_hasCase ∈ WA) := ⟨WA_of (i := 449) (by decide +kernel) (by decide +kernel), WA_of (i := 450) (by decide +kernel) (by decide +kernel)⟩
def mxX0_hasWitness : Nat := 2
theorem kvX0_hasWitness : (Cond.code yX0_hasWitness cX0_hasWitness 2 (some .boolean) ∈ WA) ∧ (Cond.initialized yX0_hasWitness.cls ∈ WA) ∧ (yX0_hasWitness.cls ≠ "java/lang/invoke/MethodHandle" ∧ yX0_hasWitness.cls ≠ "java/lang/invoke/VarHandle" ∧ (parseMethodDescriptor yX0_hasWitness.desc).map (fun d => d.parameters.length) = some 1) := ⟨WA_of (i := 517) (by decide +kernel) (by decide +kernel), kini_CaseManager_Court, by decide +kernel, by decide +kernel, by decide +kernel⟩
theorem kiX0_hasWitness : (Cond.instanceMethod yX0_hasWitness ∈ WA) ∧ (Cond.selects yX0_hasWitness.cls yX0_hasWitness yX0_hasWitness ∈ WA) := ⟨WA_of (i := 515) (by decide +kernel) (by decide +kernel), WA_of (i := 516) (by decide +kernel) (by decide +kernel)⟩
def mxX0_isIn : Nat := 3
theorem kvX0_isIn : (Cond.code yX0_isIn cX0_isIn 3 (some .boolean) ∈ WA) ∧ (Cond.initialized yX0_isIn.cls ∈ WA) ∧ (yX0_isIn.cls ≠ "java/lang/invoke/MethodHandle" ∧ yX0_isIn.cls ≠ "java/lang/invoke/VarHandle" ∧ (parseMethodDescriptor yX0_isIn.desc).map (fun d => d.parameters.length) = some 2) := ⟨WA_of (i := 480) (by decide +kernel) (by decide +kernel), kini_CaseManager_Court, by decide +kernel, by decide +kernel, by decide +kernel⟩
theorem kiX0_isIn : (Cond.instanceMethod yX0_isIn ∈ WA) ∧ (Cond.selects yX0_isIn.cls yX0_isIn yX0_isIn ∈ WA) := ⟨WA_of (i := 478) (by decide +kernel) (by decide +kernel), WA_of (i := 479) (by decide +kernel) (by decide +kernel)⟩
def mxX0_isFoundGuilty : Nat := 2
theorem kvX0_isFoundGuilty : (Cond.code yX0_isFoundGuilty cX0_isFoundGuilty 2 (some .boolean) ∈ WA) ∧ (Cond.initialized yX0_isFoundGuilty.cls ∈ WA) ∧ (yX0_isFoundGuilty.cls ≠ "java/lang/invoke/MethodHandle" ∧ yX0_isFoundGuilty.cls ≠ "java/lang/invoke/VarHandle" ∧ (parseMethodDescriptor yX0_isFoundGuilty.desc).map (fun d => d.parameters.length) = some 1) := ⟨WA_of (i := 723) (by decide +kernel) (by decide +kernel), kini_CaseManager_Court, by decide +kernel, by decide +kernel, by decide +kernel⟩
theorem kiX0_isFoundGuilty : (Cond.instanceMethod yX0_isFoundGuilty ∈ WA) ∧ (Cond.selects yX0_isFoundGuilty.cls yX0_isFoundGuilty yX0_isFoundGuilty ∈ WA) := ⟨WA_of (i := 721) (by decide +kernel) (by decide +kernel), WA_of (i := 722) (by decide +kernel) (by decide +kernel)⟩
def mxX0_severityIn : Nat := 2
theorem kvX0_severityIn : (Cond.code yX0_severityIn cX0_severityIn 2 (some .int) ∈ WA) ∧ (Cond.initialized yX0_severityIn.cls ∈ WA) ∧ (yX0_severityIn.cls ≠ "java/lang/invoke/MethodHandle" ∧ yX0_severityIn.cls ≠ "java/lang/invoke/VarHandle" ∧ (parseMethodDescriptor yX0_severityIn.desc).map (fun d => d.parameters.length) = some 1) := ⟨WA_of (i := 692) (by decide +kernel) (by decide +kernel), kini_CaseManager_Court, by decide +kernel, by decide +kernel, by decide +kernel⟩
theorem kiX0_severityIn : (Cond.instanceMethod yX0_severityIn ∈ WA) ∧ (Cond.selects yX0_severityIn.cls yX0_severityIn yX0_severityIn ∈ WA) := ⟨WA_of (i := 690) (by decide +kernel) (by decide +kernel), WA_of (i := 691) (by decide +kernel) (by decide +kernel)⟩
def mxX0_caseAgainst : Nat := 4
theorem kvX0_caseAgainst : (Cond.code yX0_caseAgainst cX0_caseAgainst 4 (some .int) ∈ WA) ∧ (Cond.initialized yX0_caseAgainst.cls ∈ WA) ∧ (yX0_caseAgainst.cls ≠ "java/lang/invoke/MethodHandle" ∧ yX0_caseAgainst.cls ≠ "java/lang/invoke/VarHandle" ∧ (parseMethodDescriptor yX0_caseAgainst.desc).map (fun d => d.parameters.length) = some 2) := ⟨WA_of (i := 419) (by decide +kernel) (by decide +kernel), kini_CaseManager_Court, by decide +kernel, by decide +kernel, by decide +kernel⟩
theorem kiX0_caseAgainst : (Cond.instanceMethod yX0_caseAgainst ∈ WA) ∧ (Cond.selects yX0_caseAgainst.cls yX0_caseAgainst yX0_caseAgainst ∈ WA) := ⟨WA_of (i := 417) (by decide +kernel) (by decide +kernel), WA_of (i := 418) (by decide +kernel) (by decide +kernel)⟩
def mxX0_cellOf : Nat := 2
theorem kvX0_cellOf : (Cond.code yX0_cellOf cX0_cellOf 2 (some .int) ∈ WA) ∧ (Cond.initialized yX0_cellOf.cls ∈ WA) ∧ (yX0_cellOf.cls ≠ "java/lang/invoke/MethodHandle" ∧ yX0_cellOf.cls ≠ "java/lang/invoke/VarHandle" ∧ (parseMethodDescriptor yX0_cellOf.desc).map (fun d => d.parameters.length) = some 2) := ⟨WA_of (i := 525) (by decide +kernel) (by decide +kernel), kini_CaseManager_Court, by decide +kernel, by decide +kernel, by decide +kernel⟩
theorem ksX0_cellOf : Cond.static yX0_cellOf ∈ WA := WA_of (i := 524) (by decide +kernel) (by decide +kernel)
def mxX0_hasHeard : Nat := 3
theorem kvX0_hasHeard : (Cond.code yX0_hasHeard cX0_hasHeard 3 (some .boolean) ∈ WA) ∧ (Cond.initialized yX0_hasHeard.cls ∈ WA) ∧ (yX0_hasHeard.cls ≠ "java/lang/invoke/MethodHandle" ∧ yX0_hasHeard.cls ≠ "java/lang/invoke/VarHandle" ∧ (parseMethodDescriptor yX0_hasHeard.desc).map (fun d => d.parameters.length) = some 2) := ⟨WA_of (i := 522) (by decide +kernel) (by decide +kernel), kini_CaseManager_Court, by decide +kernel, by decide +kernel, by decide +kernel⟩
theorem kiX0_hasHeard : (Cond.instanceMethod yX0_hasHeard ∈ WA) ∧ (Cond.selects yX0_hasHeard.cls yX0_hasHeard yX0_hasHeard ∈ WA) := ⟨WA_of (i := 520) (by decide +kernel) (by decide +kernel), WA_of (i := 521) (by decide +kernel) (by decide +kernel)⟩
def mxX0_witnessHeardAt : Nat := 3
theorem kvX0_witnessHeardAt : (Cond.code yX0_witnessHeardAt cX0_witnessHeardAt 3 (some .int) ∈ WA) ∧ (Cond.initialized yX0_witnessHeardAt.cls ∈ WA) ∧ (yX0_witnessHeardAt.cls ≠ "java/lang/invoke/MethodHandle" ∧ yX0_witnessHeardAt.cls ≠ "java/lang/invoke/VarHandle" ∧ (parseMethodDescriptor yX0_witnessHeardAt.desc).map (fun d => d.parameters.length) = some 2) := ⟨WA_of (i := 505) (by decide +kernel) (by decide +kernel), kini_CaseManager_Court, by decide +kernel, by decide +kernel, by decide +kernel⟩
theorem kiX0_witnessHeardAt : (Cond.instanceMethod yX0_witnessHeardAt ∈ WA) ∧ (Cond.selects yX0_witnessHeardAt.cls yX0_witnessHeardAt yX0_witnessHeardAt ∈ WA) := ⟨WA_of (i := 503) (by decide +kernel) (by decide +kernel), WA_of (i := 504) (by decide +kernel) (by decide +kernel)⟩
def mxX0_sideOf : Nat := 3
theorem kvX0_sideOf : (Cond.code yX0_sideOf cX0_sideOf 3 (some .int) ∈ WA) ∧ (Cond.initialized yX0_sideOf.cls ∈ WA) ∧ (yX0_sideOf.cls ≠ "java/lang/invoke/MethodHandle" ∧ yX0_sideOf.cls ≠ "java/lang/invoke/VarHandle" ∧ (parseMethodDescriptor yX0_sideOf.desc).map (fun d => d.parameters.length) = some 2) := ⟨WA_of (i := 538) (by decide +kernel) (by decide +kernel), kini_CaseManager_Court, by decide +kernel, by decide +kernel, by decide +kernel⟩
theorem kiX0_sideOf : (Cond.instanceMethod yX0_sideOf ∈ WA) ∧ (Cond.selects yX0_sideOf.cls yX0_sideOf yX0_sideOf ∈ WA) := ⟨WA_of (i := 536) (by decide +kernel) (by decide +kernel), WA_of (i := 537) (by decide +kernel) (by decide +kernel)⟩
def mxX0_strengthOf : Nat := 3
theorem kvX0_strengthOf : (Cond.code yX0_strengthOf cX0_strengthOf 3 (some .int) ∈ WA) ∧ (Cond.initialized yX0_strengthOf.cls ∈ WA) ∧ (yX0_strengthOf.cls ≠ "java/lang/invoke/MethodHandle" ∧ yX0_strengthOf.cls ≠ "java/lang/invoke/VarHandle" ∧ (parseMethodDescriptor yX0_strengthOf.desc).map (fun d => d.parameters.length) = some 2) := ⟨WA_of (i := 546) (by decide +kernel) (by decide +kernel), kini_CaseManager_Court, by decide +kernel, by decide +kernel, by decide +kernel⟩
theorem kiX0_strengthOf : (Cond.instanceMethod yX0_strengthOf ∈ WA) ∧ (Cond.selects yX0_strengthOf.cls yX0_strengthOf yX0_strengthOf ∈ WA) := ⟨WA_of (i := 544) (by decide +kernel) (by decide +kernel), WA_of (i := 545) (by decide +kernel) (by decide +kernel)⟩
def mxX0_weightOf : Nat := 3
theorem kvX0_weightOf : (Cond.code yX0_weightOf cX0_weightOf 3 (some .int) ∈ WA) ∧ (Cond.initialized yX0_weightOf.cls ∈ WA) ∧ (yX0_weightOf.cls ≠ "java/lang/invoke/MethodHandle" ∧ yX0_weightOf.cls ≠ "java/lang/invoke/VarHandle" ∧ (parseMethodDescriptor yX0_weightOf.desc).map (fun d => d.parameters.length) = some 2) := ⟨WA_of (i := 677) (by decide +kernel) (by decide +kernel), kini_CaseManager_Court, by decide +kernel, by decide +kernel, by decide +kernel⟩
theorem kiX0_weightOf : (Cond.instanceMethod yX0_weightOf ∈ WA) ∧ (Cond.selects yX0_weightOf.cls yX0_weightOf yX0_weightOf ∈ WA) := ⟨WA_of (i := 675) (by decide +kernel) (by decide +kernel), WA_of (i := 676) (by decide +kernel) (by decide +kernel)⟩
def mxX0_questionsTo : Nat := 3
theorem kvX0_questionsTo : (Cond.code yX0_questionsTo cX0_questionsTo 3 (some .int) ∈ WA) ∧ (Cond.initialized yX0_questionsTo.cls ∈ WA) ∧ (yX0_questionsTo.cls ≠ "java/lang/invoke/MethodHandle" ∧ yX0_questionsTo.cls ≠ "java/lang/invoke/VarHandle" ∧ (parseMethodDescriptor yX0_questionsTo.desc).map (fun d => d.parameters.length) = some 2) := ⟨WA_of (i := 554) (by decide +kernel) (by decide +kernel), kini_CaseManager_Court, by decide +kernel, by decide +kernel, by decide +kernel⟩
theorem kiX0_questionsTo : (Cond.instanceMethod yX0_questionsTo ∈ WA) ∧ (Cond.selects yX0_questionsTo.cls yX0_questionsTo yX0_questionsTo ∈ WA) := ⟨WA_of (i := 552) (by decide +kernel) (by decide +kernel), WA_of (i := 553) (by decide +kernel) (by decide +kernel)⟩
def mxX0_casesHearing : Nat := 4
theorem kvX0_casesHearing : (Cond.code yX0_casesHearing cX0_casesHearing 4 (some .int) ∈ WA) ∧ (Cond.initialized yX0_casesHearing.cls ∈ WA) ∧ (yX0_casesHearing.cls ≠ "java/lang/invoke/MethodHandle" ∧ yX0_casesHearing.cls ≠ "java/lang/invoke/VarHandle" ∧ (parseMethodDescriptor yX0_casesHearing.desc).map (fun d => d.parameters.length) = some 1) := ⟨WA_of (i := 570) (by decide +kernel) (by decide +kernel), kini_CaseManager_Court, by decide +kernel, by decide +kernel, by decide +kernel⟩
theorem kiX0_casesHearing : (Cond.instanceMethod yX0_casesHearing ∈ WA) ∧ (Cond.selects yX0_casesHearing.cls yX0_casesHearing yX0_casesHearing ∈ WA) := ⟨WA_of (i := 568) (by decide +kernel) (by decide +kernel), WA_of (i := 569) (by decide +kernel) (by decide +kernel)⟩
def mxX0_agreementOf : Nat := 5
theorem kvX0_agreementOf : (Cond.code yX0_agreementOf cX0_agreementOf 5 (some .int) ∈ WA) ∧ (Cond.initialized yX0_agreementOf.cls ∈ WA) ∧ (yX0_agreementOf.cls ≠ "java/lang/invoke/MethodHandle" ∧ yX0_agreementOf.cls ≠ "java/lang/invoke/VarHandle" ∧ (parseMethodDescriptor yX0_agreementOf.desc).map (fun d => d.parameters.length) = some 2) := ⟨WA_of (i := 597) (by decide +kernel) (by decide +kernel), kini_CaseManager_Court, by decide +kernel, by decide +kernel, by decide +kernel⟩
theorem kiX0_agreementOf : (Cond.instanceMethod yX0_agreementOf ∈ WA) ∧ (Cond.selects yX0_agreementOf.cls yX0_agreementOf yX0_agreementOf ∈ WA) := ⟨WA_of (i := 595) (by decide +kernel) (by decide +kernel), WA_of (i := 596) (by decide +kernel) (by decide +kernel)⟩
def mxX0_witnessOfRank : Nat := 3
theorem kvX0_witnessOfRank : (Cond.code yX0_witnessOfRank cX0_witnessOfRank 3 (some .int) ∈ WA) ∧ (Cond.initialized yX0_witnessOfRank.cls ∈ WA) ∧ (yX0_witnessOfRank.cls ≠ "java/lang/invoke/MethodHandle" ∧ yX0_witnessOfRank.cls ≠ "java/lang/invoke/VarHandle" ∧ (parseMethodDescriptor yX0_witnessOfRank.desc).map (fun d => d.parameters.length) = some 1) := ⟨WA_of (i := 579) (by decide +kernel) (by decide +kernel), kini_CaseManager_Court, by decide +kernel, by decide +kernel, by decide +kernel⟩
theorem kiX0_witnessOfRank : (Cond.instanceMethod yX0_witnessOfRank ∈ WA) ∧ (Cond.selects yX0_witnessOfRank.cls yX0_witnessOfRank yX0_witnessOfRank ∈ WA) := ⟨WA_of (i := 577) (by decide +kernel) (by decide +kernel), WA_of (i := 578) (by decide +kernel) (by decide +kernel)⟩
def mxX0_rankOf : Nat := 4
theorem kvX0_rankOf : (Cond.code yX0_rankOf cX0_rankOf 4 (some .int) ∈ WA) ∧ (Cond.initialized yX0_rankOf.cls ∈ WA) ∧ (yX0_rankOf.cls ≠ "java/lang/invoke/MethodHandle" ∧ yX0_rankOf.cls ≠ "java/lang/invoke/VarHandle" ∧ (parseMethodDescriptor yX0_rankOf.desc).map (fun d => d.parameters.length) = some 1) := ⟨WA_of (i := 583) (by decide +kernel) (by decide +kernel), kini_CaseManager_Court, by decide +kernel, by decide +kernel, by decide +kernel⟩
theorem kiX0_rankOf : (Cond.instanceMethod yX0_rankOf ∈ WA) ∧ (Cond.selects yX0_rankOf.cls yX0_rankOf yX0_rankOf ∈ WA) := ⟨WA_of (i := 582) (by decide +kernel) (by decide +kernel), WA_of (i := 4) (by decide +kernel) (by decide +kernel)⟩
def mxX0_isMoreCredible : Nat := 5
theorem kvX0_isMoreCredible : (Cond.code yX0_isMoreCredible cX0_isMoreCredible 5 (some .boolean) ∈ WA) ∧ (Cond.initialized yX0_isMoreCredible.cls ∈ WA) ∧ (yX0_isMoreCredible.cls ≠ "java/lang/invoke/MethodHandle" ∧ yX0_isMoreCredible.cls ≠ "java/lang/invoke/VarHandle" ∧ (parseMethodDescriptor yX0_isMoreCredible.desc).map (fun d => d.parameters.length) = some 2) := ⟨WA_of (i := 587) (by decide +kernel) (by decide +kernel), kini_CaseManager_Court, by decide +kernel, by decide +kernel, by decide +kernel⟩
theorem kiX0_isMoreCredible : (Cond.instanceMethod yX0_isMoreCredible ∈ WA) ∧ (Cond.selects yX0_isMoreCredible.cls yX0_isMoreCredible yX0_isMoreCredible ∈ WA) := ⟨WA_of (i := 586) (by decide +kernel) (by decide +kernel), WA_of (i := 5) (by decide +kernel) (by decide +kernel)⟩
def mxX0_credibilitySum : Nat := 3
theorem kvX0_credibilitySum : (Cond.code yX0_credibilitySum cX0_credibilitySum 3 (some .int) ∈ WA) ∧ (Cond.initialized yX0_credibilitySum.cls ∈ WA) ∧ (yX0_credibilitySum.cls ≠ "java/lang/invoke/MethodHandle" ∧ yX0_credibilitySum.cls ≠ "java/lang/invoke/VarHandle" ∧ (parseMethodDescriptor yX0_credibilitySum.desc).map (fun d => d.parameters.length) = some 0) := ⟨WA_of (i := 822) (by decide +kernel) (by decide +kernel), kini_CaseManager_Court, by decide +kernel, by decide +kernel, by decide +kernel⟩
theorem kiX0_credibilitySum : (Cond.instanceMethod yX0_credibilitySum ∈ WA) ∧ (Cond.selects yX0_credibilitySum.cls yX0_credibilitySum yX0_credibilitySum ∈ WA) := ⟨WA_of (i := 820) (by decide +kernel) (by decide +kernel), WA_of (i := 821) (by decide +kernel) (by decide +kernel)⟩
def mxX0_addedSentence : Nat := 4
theorem kvX0_addedSentence : (Cond.code yX0_addedSentence cX0_addedSentence 4 (some .int) ∈ WA) ∧ (Cond.initialized yX0_addedSentence.cls ∈ WA) ∧ (yX0_addedSentence.cls ≠ "java/lang/invoke/MethodHandle" ∧ yX0_addedSentence.cls ≠ "java/lang/invoke/VarHandle" ∧ (parseMethodDescriptor yX0_addedSentence.desc).map (fun d => d.parameters.length) = some 1) := ⟨WA_of (i := 719) (by decide +kernel) (by decide +kernel), kini_CaseManager_Court, by decide +kernel, by decide +kernel, by decide +kernel⟩
theorem kiX0_addedSentence : (Cond.instanceMethod yX0_addedSentence ∈ WA) ∧ (Cond.selects yX0_addedSentence.cls yX0_addedSentence yX0_addedSentence ∈ WA) := ⟨WA_of (i := 717) (by decide +kernel) (by decide +kernel), WA_of (i := 718) (by decide +kernel) (by decide +kernel)⟩
def mxX0_countIn : Nat := 4
theorem kvX0_countIn : (Cond.code yX0_countIn cX0_countIn 4 (some .int) ∈ WA) ∧ (Cond.initialized yX0_countIn.cls ∈ WA) ∧ (yX0_countIn.cls ≠ "java/lang/invoke/MethodHandle" ∧ yX0_countIn.cls ≠ "java/lang/invoke/VarHandle" ∧ (parseMethodDescriptor yX0_countIn.desc).map (fun d => d.parameters.length) = some 1) := ⟨WA_of (i := 736) (by decide +kernel) (by decide +kernel), kini_CaseManager_Court, by decide +kernel, by decide +kernel, by decide +kernel⟩
theorem kiX0_countIn : (Cond.instanceMethod yX0_countIn ∈ WA) ∧ (Cond.selects yX0_countIn.cls yX0_countIn yX0_countIn ∈ WA) := ⟨WA_of (i := 734) (by decide +kernel) (by decide +kernel), WA_of (i := 735) (by decide +kernel) (by decide +kernel)⟩
def mxX0_countGuilty : Nat := 3
theorem kvX0_countGuilty : (Cond.code yX0_countGuilty cX0_countGuilty 3 (some .int) ∈ WA) ∧ (Cond.initialized yX0_countGuilty.cls ∈ WA) ∧ (yX0_countGuilty.cls ≠ "java/lang/invoke/MethodHandle" ∧ yX0_countGuilty.cls ≠ "java/lang/invoke/VarHandle" ∧ (parseMethodDescriptor yX0_countGuilty.desc).map (fun d => d.parameters.length) = some 0) := ⟨WA_of (i := 794) (by decide +kernel) (by decide +kernel), kini_CaseManager_Court, by decide +kernel, by decide +kernel, by decide +kernel⟩
theorem kiX0_countGuilty : (Cond.instanceMethod yX0_countGuilty ∈ WA) ∧ (Cond.selects yX0_countGuilty.cls yX0_countGuilty yX0_countGuilty ∈ WA) := ⟨WA_of (i := 792) (by decide +kernel) (by decide +kernel), WA_of (i := 793) (by decide +kernel) (by decide +kernel)⟩
def mxX0_openCasesBefore : Nat := 4
theorem kvX0_openCasesBefore : (Cond.code yX0_openCasesBefore cX0_openCasesBefore 4 (some .int) ∈ WA) ∧ (Cond.initialized yX0_openCasesBefore.cls ∈ WA) ∧ (yX0_openCasesBefore.cls ≠ "java/lang/invoke/MethodHandle" ∧ yX0_openCasesBefore.cls ≠ "java/lang/invoke/VarHandle" ∧ (parseMethodDescriptor yX0_openCasesBefore.desc).map (fun d => d.parameters.length) = some 1) := ⟨WA_of (i := 781) (by decide +kernel) (by decide +kernel), kini_CaseManager_Court, by decide +kernel, by decide +kernel, by decide +kernel⟩
theorem kiX0_openCasesBefore : (Cond.instanceMethod yX0_openCasesBefore ∈ WA) ∧ (Cond.selects yX0_openCasesBefore.cls yX0_openCasesBefore yX0_openCasesBefore ∈ WA) := ⟨WA_of (i := 779) (by decide +kernel) (by decide +kernel), WA_of (i := 780) (by decide +kernel) (by decide +kernel)⟩
def mxX0_comesBefore : Nat := 3
theorem kvX0_comesBefore : (Cond.code yX0_comesBefore cX0_comesBefore 3 (some .boolean) ∈ WA) ∧ (Cond.initialized yX0_comesBefore.cls ∈ WA) ∧ (yX0_comesBefore.cls ≠ "java/lang/invoke/MethodHandle" ∧ yX0_comesBefore.cls ≠ "java/lang/invoke/VarHandle" ∧ (parseMethodDescriptor yX0_comesBefore.desc).map (fun d => d.parameters.length) = some 2) := ⟨WA_of (i := 755) (by decide +kernel) (by decide +kernel), kini_CaseManager_Court, by decide +kernel, by decide +kernel, by decide +kernel⟩
theorem kiX0_comesBefore : (Cond.instanceMethod yX0_comesBefore ∈ WA) ∧ (Cond.selects yX0_comesBefore.cls yX0_comesBefore yX0_comesBefore ∈ WA) := ⟨WA_of (i := 753) (by decide +kernel) (by decide +kernel), WA_of (i := 754) (by decide +kernel) (by decide +kernel)⟩
def mxX1_init : Nat := 1
theorem kvX1_init : (Cond.code yX1_init cX1_init 1 none ∈ WA) ∧ (Cond.initialized yX1_init.cls ∈ WA) ∧ (yX1_init.cls ≠ "java/lang/invoke/MethodHandle" ∧ yX1_init.cls ≠ "java/lang/invoke/VarHandle" ∧ (parseMethodDescriptor yX1_init.desc).map (fun d => d.parameters.length) = some 0) := ⟨WA_of (i := 195) (by decide +kernel) (by decide +kernel), kini_CaseManager_Docket, by decide +kernel, by decide +kernel, by decide +kernel⟩
theorem kiiX1_init : Cond.instanceMethod yX1_init ∈ WA := WA_of (i := 194) (by decide +kernel) (by decide +kernel)
def mxX1_fill : Nat := 3
theorem kvX1_fill : (Cond.code yX1_fill cX1_fill 3 none ∈ WA) ∧ (Cond.initialized yX1_fill.cls ∈ WA) ∧ (yX1_fill.cls ≠ "java/lang/invoke/MethodHandle" ∧ yX1_fill.cls ≠ "java/lang/invoke/VarHandle" ∧ (parseMethodDescriptor yX1_fill.desc).map (fun d => d.parameters.length) = some 1) := ⟨WA_of (i := 745) (by decide +kernel) (by decide +kernel), kini_CaseManager_Docket, by decide +kernel, by decide +kernel, by decide +kernel⟩
theorem kiX1_fill : (Cond.instanceMethod yX1_fill ∈ WA) ∧ (Cond.selects yX1_fill.cls yX1_fill yX1_fill ∈ WA) := ⟨WA_of (i := 743) (by decide +kernel) (by decide +kernel), WA_of (i := 744) (by decide +kernel) (by decide +kernel)⟩
def mxX1_insert : Nat := 4
theorem kvX1_insert : (Cond.code yX1_insert cX1_insert 4 none ∈ WA) ∧ (Cond.initialized yX1_insert.cls ∈ WA) ∧ (yX1_insert.cls ≠ "java/lang/invoke/MethodHandle" ∧ yX1_insert.cls ≠ "java/lang/invoke/VarHandle" ∧ (parseMethodDescriptor yX1_insert.desc).map (fun d => d.parameters.length) = some 2) := ⟨WA_of (i := 750) (by decide +kernel) (by decide +kernel), kini_CaseManager_Docket, by decide +kernel, by decide +kernel, by decide +kernel⟩
theorem kiX1_insert : (Cond.instanceMethod yX1_insert ∈ WA) ∧ (Cond.selects yX1_insert.cls yX1_insert yX1_insert ∈ WA) := ⟨WA_of (i := 749) (by decide +kernel) (by decide +kernel), WA_of (i := 10) (by decide +kernel) (by decide +kernel)⟩
def mxX1_holdsAt : Nat := 3
theorem kvX1_holdsAt : (Cond.code yX1_holdsAt cX1_holdsAt 3 (some .boolean) ∈ WA) ∧ (Cond.initialized yX1_holdsAt.cls ∈ WA) ∧ (yX1_holdsAt.cls ≠ "java/lang/invoke/MethodHandle" ∧ yX1_holdsAt.cls ≠ "java/lang/invoke/VarHandle" ∧ (parseMethodDescriptor yX1_holdsAt.desc).map (fun d => d.parameters.length) = some 2) := ⟨WA_of (i := 851) (by decide +kernel) (by decide +kernel), kini_CaseManager_Docket, by decide +kernel, by decide +kernel, by decide +kernel⟩
theorem kiX1_holdsAt : (Cond.instanceMethod yX1_holdsAt ∈ WA) ∧ (Cond.selects yX1_holdsAt.cls yX1_holdsAt yX1_holdsAt ∈ WA) := ⟨WA_of (i := 849) (by decide +kernel) (by decide +kernel), WA_of (i := 850) (by decide +kernel) (by decide +kernel)⟩
def mxX1_firstHeard : Nat := 3
theorem kvX1_firstHeard : (Cond.code yX1_firstHeard cX1_firstHeard 3 (some .int) ∈ WA) ∧ (Cond.initialized yX1_firstHeard.cls ∈ WA) ∧ (yX1_firstHeard.cls ≠ "java/lang/invoke/MethodHandle" ∧ yX1_firstHeard.cls ≠ "java/lang/invoke/VarHandle" ∧ (parseMethodDescriptor yX1_firstHeard.desc).map (fun d => d.parameters.length) = some 1) := ⟨WA_of (i := 1199) (by decide +kernel) (by decide +kernel), kini_CaseManager_Docket, by decide +kernel, by decide +kernel, by decide +kernel⟩
theorem kiX1_firstHeard : (Cond.instanceMethod yX1_firstHeard ∈ WA) ∧ (Cond.selects yX1_firstHeard.cls yX1_firstHeard yX1_firstHeard ∈ WA) := ⟨WA_of (i := 1197) (by decide +kernel) (by decide +kernel), WA_of (i := 1198) (by decide +kernel) (by decide +kernel)⟩
def mxX3_init : Nat := 1
theorem kvX3_init : (Cond.code yX3_init cX3_init 1 none ∈ WA) ∧ (Cond.initialized yX3_init.cls ∈ WA) ∧ (yX3_init.cls ≠ "java/lang/invoke/MethodHandle" ∧ yX3_init.cls ≠ "java/lang/invoke/VarHandle" ∧ (parseMethodDescriptor yX3_init.desc).map (fun d => d.parameters.length) = some 0) := ⟨WA_of (i := 95) (by decide +kernel) (by decide +kernel), kini_CaseManager_Groups, by decide +kernel, by decide +kernel, by decide +kernel⟩
theorem kiiX3_init : Cond.instanceMethod yX3_init ∈ WA := WA_of (i := 94) (by decide +kernel) (by decide +kernel)
def mxX3_found : Nat := 2
theorem kvX3_found : (Cond.code yX3_found cX3_found 2 none ∈ WA) ∧ (Cond.initialized yX3_found.cls ∈ WA) ∧ (yX3_found.cls ≠ "java/lang/invoke/MethodHandle" ∧ yX3_found.cls ≠ "java/lang/invoke/VarHandle" ∧ (parseMethodDescriptor yX3_found.desc).map (fun d => d.parameters.length) = some 1) := ⟨WA_of (i := 1338) (by decide +kernel) (by decide +kernel), kini_CaseManager_Groups, by decide +kernel, by decide +kernel, by decide +kernel⟩
theorem kiX3_found : (Cond.instanceMethod yX3_found ∈ WA) ∧ (Cond.selects yX3_found.cls yX3_found yX3_found ∈ WA) := ⟨WA_of (i := 1336) (by decide +kernel) (by decide +kernel), WA_of (i := 1337) (by decide +kernel) (by decide +kernel)⟩
def mxX3_unite : Nat := 3
theorem kvX3_unite : (Cond.code yX3_unite cX3_unite 3 none ∈ WA) ∧ (Cond.initialized yX3_unite.cls ∈ WA) ∧ (yX3_unite.cls ≠ "java/lang/invoke/MethodHandle" ∧ yX3_unite.cls ≠ "java/lang/invoke/VarHandle" ∧ (parseMethodDescriptor yX3_unite.desc).map (fun d => d.parameters.length) = some 2) := ⟨WA_of (i := 1348) (by decide +kernel) (by decide +kernel), kini_CaseManager_Groups, by decide +kernel, by decide +kernel, by decide +kernel⟩
theorem kiX3_unite : (Cond.instanceMethod yX3_unite ∈ WA) ∧ (Cond.selects yX3_unite.cls yX3_unite yX3_unite ∈ WA) := ⟨WA_of (i := 1346) (by decide +kernel) (by decide +kernel), WA_of (i := 1347) (by decide +kernel) (by decide +kernel)⟩
def mxX3_areUnited : Nat := 3
theorem kvX3_areUnited : (Cond.code yX3_areUnited cX3_areUnited 3 (some .boolean) ∈ WA) ∧ (Cond.initialized yX3_areUnited.cls ∈ WA) ∧ (yX3_areUnited.cls ≠ "java/lang/invoke/MethodHandle" ∧ yX3_areUnited.cls ≠ "java/lang/invoke/VarHandle" ∧ (parseMethodDescriptor yX3_areUnited.desc).map (fun d => d.parameters.length) = some 2) := ⟨WA_of (i := 606) (by decide +kernel) (by decide +kernel), kini_CaseManager_Groups, by decide +kernel, by decide +kernel, by decide +kernel⟩
theorem kiX3_areUnited : (Cond.instanceMethod yX3_areUnited ∈ WA) ∧ (Cond.selects yX3_areUnited.cls yX3_areUnited yX3_areUnited ∈ WA) := ⟨WA_of (i := 604) (by decide +kernel) (by decide +kernel), WA_of (i := 605) (by decide +kernel) (by decide +kernel)⟩
def mxX3_sizeAround : Nat := 5
theorem kvX3_sizeAround : (Cond.code yX3_sizeAround cX3_sizeAround 5 (some .int) ∈ WA) ∧ (Cond.initialized yX3_sizeAround.cls ∈ WA) ∧ (yX3_sizeAround.cls ≠ "java/lang/invoke/MethodHandle" ∧ yX3_sizeAround.cls ≠ "java/lang/invoke/VarHandle" ∧ (parseMethodDescriptor yX3_sizeAround.desc).map (fun d => d.parameters.length) = some 2) := ⟨WA_of (i := 654) (by decide +kernel) (by decide +kernel), kini_CaseManager_Groups, by decide +kernel, by decide +kernel, by decide +kernel⟩
theorem kiX3_sizeAround : (Cond.instanceMethod yX3_sizeAround ∈ WA) ∧ (Cond.selects yX3_sizeAround.cls yX3_sizeAround yX3_sizeAround ∈ WA) := ⟨WA_of (i := 652) (by decide +kernel) (by decide +kernel), WA_of (i := 653) (by decide +kernel) (by decide +kernel)⟩
def mxX3_countAmong : Nat := 4
theorem kvX3_countAmong : (Cond.code yX3_countAmong cX3_countAmong 4 (some .int) ∈ WA) ∧ (Cond.initialized yX3_countAmong.cls ∈ WA) ∧ (yX3_countAmong.cls ≠ "java/lang/invoke/MethodHandle" ∧ yX3_countAmong.cls ≠ "java/lang/invoke/VarHandle" ∧ (parseMethodDescriptor yX3_countAmong.desc).map (fun d => d.parameters.length) = some 1) := ⟨WA_of (i := 663) (by decide +kernel) (by decide +kernel), kini_CaseManager_Groups, by decide +kernel, by decide +kernel, by decide +kernel⟩
theorem kiX3_countAmong : (Cond.instanceMethod yX3_countAmong ∈ WA) ∧ (Cond.selects yX3_countAmong.cls yX3_countAmong yX3_countAmong ∈ WA) := ⟨WA_of (i := 661) (by decide +kernel) (by decide +kernel), WA_of (i := 662) (by decide +kernel) (by decide +kernel)⟩
def mxX3_rootOf : Nat := 4
theorem kvX3_rootOf : (Cond.code yX3_rootOf cX3_rootOf 4 (some .int) ∈ WA) ∧ (Cond.initialized yX3_rootOf.cls ∈ WA) ∧ (yX3_rootOf.cls ≠ "java/lang/invoke/MethodHandle" ∧ yX3_rootOf.cls ≠ "java/lang/invoke/VarHandle" ∧ (parseMethodDescriptor yX3_rootOf.desc).map (fun d => d.parameters.length) = some 1) := ⟨WA_of (i := 610) (by decide +kernel) (by decide +kernel), kini_CaseManager_Groups, by decide +kernel, by decide +kernel, by decide +kernel⟩
theorem kiX3_rootOf : (Cond.instanceMethod yX3_rootOf ∈ WA) ∧ (Cond.selects yX3_rootOf.cls yX3_rootOf yX3_rootOf ∈ WA) := ⟨WA_of (i := 609) (by decide +kernel) (by decide +kernel), WA_of (i := 6) (by decide +kernel) (by decide +kernel)⟩
def mxX4_init : Nat := 2
theorem kvX4_init : (Cond.code yX4_init cX4_init 2 none ∈ WA) ∧ (Cond.initialized yX4_init.cls ∈ WA) ∧ (yX4_init.cls ≠ "java/lang/invoke/MethodHandle" ∧ yX4_init.cls ≠ "java/lang/invoke/VarHandle" ∧ (parseMethodDescriptor yX4_init.desc).map (fun d => d.parameters.length) = some 0) := ⟨WA_of (i := 176) (by decide +kernel) (by decide +kernel), kini_CaseManager_History, by decide +kernel, by decide +kernel, by decide +kernel⟩
theorem kiiX4_init : Cond.instanceMethod yX4_init ∈ WA := WA_of (i := 175) (by decide +kernel) (by decide +kernel)
def mxX4_keep : Nat := 3
theorem kvX4_keep : (Cond.code yX4_keep cX4_keep 3 none ∈ WA) ∧ (Cond.initialized yX4_keep.cls ∈ WA) ∧ (yX4_keep.cls ≠ "java/lang/invoke/MethodHandle" ∧ yX4_keep.cls ≠ "java/lang/invoke/VarHandle" ∧ (parseMethodDescriptor yX4_keep.desc).map (fun d => d.parameters.length) = some 1) := ⟨WA_of (i := 1306) (by decide +kernel) (by decide +kernel), kini_CaseManager_History, by decide +kernel, by decide +kernel, by decide +kernel⟩
theorem kiX4_keep : (Cond.instanceMethod yX4_keep ∈ WA) ∧ (Cond.selects yX4_keep.cls yX4_keep yX4_keep ∈ WA) := ⟨WA_of (i := 1304) (by decide +kernel) (by decide +kernel), WA_of (i := 1305) (by decide +kernel) (by decide +kernel)⟩
def mxX4_placeAt : Nat := 2
theorem kvX4_placeAt : (Cond.code yX4_placeAt cX4_placeAt 2 (some (.object "CaseManager$Court")) ∈ WA) ∧ (Cond.initialized yX4_placeAt.cls ∈ WA) ∧ (yX4_placeAt.cls ≠ "java/lang/invoke/MethodHandle" ∧ yX4_placeAt.cls ≠ "java/lang/invoke/VarHandle" ∧ (parseMethodDescriptor yX4_placeAt.desc).map (fun d => d.parameters.length) = some 1) := ⟨WA_of (i := 1310) (by decide +kernel) (by decide +kernel), kini_CaseManager_History, by decide +kernel, by decide +kernel, by decide +kernel⟩
theorem kiX4_placeAt : (Cond.instanceMethod yX4_placeAt ∈ WA) ∧ (Cond.selects yX4_placeAt.cls yX4_placeAt yX4_placeAt ∈ WA) := ⟨WA_of (i := 1309) (by decide +kernel) (by decide +kernel), WA_of (i := 24) (by decide +kernel) (by decide +kernel)⟩
def mxX5_init : Nat := 1
theorem kvX5_init : (Cond.code yX5_init cX5_init 1 none ∈ WA) ∧ (Cond.initialized yX5_init.cls ∈ WA) ∧ (yX5_init.cls ≠ "java/lang/invoke/MethodHandle" ∧ yX5_init.cls ≠ "java/lang/invoke/VarHandle" ∧ (parseMethodDescriptor yX5_init.desc).map (fun d => d.parameters.length) = some 0) := ⟨WA_of (i := 230) (by decide +kernel) (by decide +kernel), kini_CaseManager_Program, by decide +kernel, by decide +kernel, by decide +kernel⟩
theorem kiiX5_init : Cond.instanceMethod yX5_init ∈ WA := WA_of (i := 229) (by decide +kernel) (by decide +kernel)
def mxX6_init : Nat := 2
theorem kvX6_init : (Cond.code yX6_init cX6_init 2 none ∈ WA) ∧ (Cond.initialized yX6_init.cls ∈ WA) ∧ (yX6_init.cls ≠ "java/lang/invoke/MethodHandle" ∧ yX6_init.cls ≠ "java/lang/invoke/VarHandle" ∧ (parseMethodDescriptor yX6_init.desc).map (fun d => d.parameters.length) = some 1) := ⟨WA_of (i := 84) (by decide +kernel) (by decide +kernel), kini_CaseManager_Row, by decide +kernel, by decide +kernel, by decide +kernel⟩
theorem kiiX6_init : Cond.instanceMethod yX6_init ∈ WA := WA_of (i := 83) (by decide +kernel) (by decide +kernel)
def mxX6_get : Nat := 2
theorem kvX6_get : (Cond.code yX6_get cX6_get 2 (some .int) ∈ WA) ∧ (Cond.initialized yX6_get.cls ∈ WA) ∧ (yX6_get.cls ≠ "java/lang/invoke/MethodHandle" ∧ yX6_get.cls ≠ "java/lang/invoke/VarHandle" ∧ (parseMethodDescriptor yX6_get.desc).map (fun d => d.parameters.length) = some 1) := ⟨WA_of (i := 423) (by decide +kernel) (by decide +kernel), kini_CaseManager_Row, by decide +kernel, by decide +kernel, by decide +kernel⟩
theorem kiX6_get : (Cond.instanceMethod yX6_get ∈ WA) ∧ (Cond.selects yX6_get.cls yX6_get yX6_get ∈ WA) := ⟨WA_of (i := 421) (by decide +kernel) (by decide +kernel), WA_of (i := 422) (by decide +kernel) (by decide +kernel)⟩
def mxX6_put : Nat := 3
theorem kvX6_put : (Cond.code yX6_put cX6_put 3 none ∈ WA) ∧ (Cond.initialized yX6_put.cls ∈ WA) ∧ (yX6_put.cls ≠ "java/lang/invoke/MethodHandle" ∧ yX6_put.cls ≠ "java/lang/invoke/VarHandle" ∧ (parseMethodDescriptor yX6_put.desc).map (fun d => d.parameters.length) = some 2) := ⟨WA_of (i := 632) (by decide +kernel) (by decide +kernel), kini_CaseManager_Row, by decide +kernel, by decide +kernel, by decide +kernel⟩
theorem kiX6_put : (Cond.instanceMethod yX6_put ∈ WA) ∧ (Cond.selects yX6_put.cls yX6_put yX6_put ∈ WA) := ⟨WA_of (i := 630) (by decide +kernel) (by decide +kernel), WA_of (i := 631) (by decide +kernel) (by decide +kernel)⟩
def mxX6_add : Nat := 3
theorem kvX6_add : (Cond.code yX6_add cX6_add 3 none ∈ WA) ∧ (Cond.initialized yX6_add.cls ∈ WA) ∧ (yX6_add.cls ≠ "java/lang/invoke/MethodHandle" ∧ yX6_add.cls ≠ "java/lang/invoke/VarHandle" ∧ (parseMethodDescriptor yX6_add.desc).map (fun d => d.parameters.length) = some 2) := ⟨WA_of (i := 1358) (by decide +kernel) (by decide +kernel), kini_CaseManager_Row, by decide +kernel, by decide +kernel, by decide +kernel⟩
theorem kiX6_add : (Cond.instanceMethod yX6_add ∈ WA) ∧ (Cond.selects yX6_add.cls yX6_add yX6_add ∈ WA) := ⟨WA_of (i := 1356) (by decide +kernel) (by decide +kernel), WA_of (i := 1357) (by decide +kernel) (by decide +kernel)⟩
def mxX6_clear : Nat := 2
theorem kvX6_clear : (Cond.code yX6_clear cX6_clear 2 none ∈ WA) ∧ (Cond.initialized yX6_clear.cls ∈ WA) ∧ (yX6_clear.cls ≠ "java/lang/invoke/MethodHandle" ∧ yX6_clear.cls ≠ "java/lang/invoke/VarHandle" ∧ (parseMethodDescriptor yX6_clear.desc).map (fun d => d.parameters.length) = some 0) := ⟨WA_of (i := 623) (by decide +kernel) (by decide +kernel), kini_CaseManager_Row, by decide +kernel, by decide +kernel, by decide +kernel⟩
theorem kiX6_clear : (Cond.instanceMethod yX6_clear ∈ WA) ∧ (Cond.selects yX6_clear.cls yX6_clear yX6_clear ∈ WA) := ⟨WA_of (i := 621) (by decide +kernel) (by decide +kernel), WA_of (i := 622) (by decide +kernel) (by decide +kernel)⟩
def mxX6_copyFrom : Nat := 2
theorem kvX6_copyFrom : (Cond.code yX6_copyFrom cX6_copyFrom 2 none ∈ WA) ∧ (Cond.initialized yX6_copyFrom.cls ∈ WA) ∧ (yX6_copyFrom.cls ≠ "java/lang/invoke/MethodHandle" ∧ yX6_copyFrom.cls ≠ "java/lang/invoke/VarHandle" ∧ (parseMethodDescriptor yX6_copyFrom.desc).map (fun d => d.parameters.length) = some 1) := ⟨WA_of (i := 1318) (by decide +kernel) (by decide +kernel), kini_CaseManager_Row, by decide +kernel, by decide +kernel, by decide +kernel⟩
theorem kiX6_copyFrom : (Cond.instanceMethod yX6_copyFrom ∈ WA) ∧ (Cond.selects yX6_copyFrom.cls yX6_copyFrom yX6_copyFrom ∈ WA) := ⟨WA_of (i := 1316) (by decide +kernel) (by decide +kernel), WA_of (i := 1317) (by decide +kernel) (by decide +kernel)⟩
def mxX7_init : Nat := 1
theorem kvX7_init : (Cond.code yX7_init cX7_init 1 none ∈ WA) ∧ (Cond.initialized yX7_init.cls ∈ WA) ∧ (yX7_init.cls ≠ "java/lang/invoke/MethodHandle" ∧ yX7_init.cls ≠ "java/lang/invoke/VarHandle" ∧ (parseMethodDescriptor yX7_init.desc).map (fun d => d.parameters.length) = some 0) := ⟨WA_of (i := 212) (by decide +kernel) (by decide +kernel), kini_CaseManager_Search, by decide +kernel, by decide +kernel, by decide +kernel⟩
theorem kiiX7_init : Cond.instanceMethod yX7_init ∈ WA := WA_of (i := 211) (by decide +kernel) (by decide +kernel)
def mxX7_startAt : Nat := 4
theorem kvX7_startAt : (Cond.code yX7_startAt cX7_startAt 4 none ∈ WA) ∧ (Cond.initialized yX7_startAt.cls ∈ WA) ∧ (yX7_startAt.cls ≠ "java/lang/invoke/MethodHandle" ∧ yX7_startAt.cls ≠ "java/lang/invoke/VarHandle" ∧ (parseMethodDescriptor yX7_startAt.desc).map (fun d => d.parameters.length) = some 2) := ⟨WA_of (i := 619) (by decide +kernel) (by decide +kernel), kini_CaseManager_Search, by decide +kernel, by decide +kernel, by decide +kernel⟩
theorem kiX7_startAt : (Cond.instanceMethod yX7_startAt ∈ WA) ∧ (Cond.selects yX7_startAt.cls yX7_startAt yX7_startAt ∈ WA) := ⟨WA_of (i := 617) (by decide +kernel) (by decide +kernel), WA_of (i := 618) (by decide +kernel) (by decide +kernel)⟩
def mxX7_hasReached : Nat := 2
theorem kvX7_hasReached : (Cond.code yX7_hasReached cX7_hasReached 2 (some .boolean) ∈ WA) ∧ (Cond.initialized yX7_hasReached.cls ∈ WA) ∧ (yX7_hasReached.cls ≠ "java/lang/invoke/MethodHandle" ∧ yX7_hasReached.cls ≠ "java/lang/invoke/VarHandle" ∧ (parseMethodDescriptor yX7_hasReached.desc).map (fun d => d.parameters.length) = some 1) := ⟨WA_of (i := 646) (by decide +kernel) (by decide +kernel), kini_CaseManager_Search, by decide +kernel, by decide +kernel, by decide +kernel⟩
theorem kiX7_hasReached : (Cond.instanceMethod yX7_hasReached ∈ WA) ∧ (Cond.selects yX7_hasReached.cls yX7_hasReached yX7_hasReached ∈ WA) := ⟨WA_of (i := 644) (by decide +kernel) (by decide +kernel), WA_of (i := 645) (by decide +kernel) (by decide +kernel)⟩
def mxX7_spreadFrom : Nat := 4
theorem kvX7_spreadFrom : (Cond.code yX7_spreadFrom cX7_spreadFrom 4 none ∈ WA) ∧ (Cond.initialized yX7_spreadFrom.cls ∈ WA) ∧ (yX7_spreadFrom.cls ≠ "java/lang/invoke/MethodHandle" ∧ yX7_spreadFrom.cls ≠ "java/lang/invoke/VarHandle" ∧ (parseMethodDescriptor yX7_spreadFrom.desc).map (fun d => d.parameters.length) = some 2) := ⟨WA_of (i := 636) (by decide +kernel) (by decide +kernel), kini_CaseManager_Search, by decide +kernel, by decide +kernel, by decide +kernel⟩
theorem kiX7_spreadFrom : (Cond.instanceMethod yX7_spreadFrom ∈ WA) ∧ (Cond.selects yX7_spreadFrom.cls yX7_spreadFrom yX7_spreadFrom ∈ WA) := ⟨WA_of (i := 635) (by decide +kernel) (by decide +kernel), WA_of (i := 8) (by decide +kernel) (by decide +kernel)⟩
def mxX7_reachAllOf : Nat := 4
theorem kvX7_reachAllOf : (Cond.code yX7_reachAllOf cX7_reachAllOf 4 none ∈ WA) ∧ (Cond.initialized yX7_reachAllOf.cls ∈ WA) ∧ (yX7_reachAllOf.cls ≠ "java/lang/invoke/MethodHandle" ∧ yX7_reachAllOf.cls ≠ "java/lang/invoke/VarHandle" ∧ (parseMethodDescriptor yX7_reachAllOf.desc).map (fun d => d.parameters.length) = some 2) := ⟨WA_of (i := 641) (by decide +kernel) (by decide +kernel), kini_CaseManager_Search, by decide +kernel, by decide +kernel, by decide +kernel⟩
theorem kiX7_reachAllOf : (Cond.instanceMethod yX7_reachAllOf ∈ WA) ∧ (Cond.selects yX7_reachAllOf.cls yX7_reachAllOf yX7_reachAllOf ∈ WA) := ⟨WA_of (i := 640) (by decide +kernel) (by decide +kernel), WA_of (i := 9) (by decide +kernel) (by decide +kernel)⟩
def mxX7_reach : Nat := 2
theorem kvX7_reach : (Cond.code yX7_reach cX7_reach 2 none ∈ WA) ∧ (Cond.initialized yX7_reach.cls ∈ WA) ∧ (yX7_reach.cls ≠ "java/lang/invoke/MethodHandle" ∧ yX7_reach.cls ≠ "java/lang/invoke/VarHandle" ∧ (parseMethodDescriptor yX7_reach.desc).map (fun d => d.parameters.length) = some 1) := ⟨WA_of (i := 627) (by decide +kernel) (by decide +kernel), kini_CaseManager_Search, by decide +kernel, by decide +kernel, by decide +kernel⟩
theorem kiX7_reach : (Cond.instanceMethod yX7_reach ∈ WA) ∧ (Cond.selects yX7_reach.cls yX7_reach yX7_reach ∈ WA) := ⟨WA_of (i := 626) (by decide +kernel) (by decide +kernel), WA_of (i := 7) (by decide +kernel) (by decide +kernel)⟩
def mxX8_ofSide : Nat := 6
theorem kvX8_ofSide : (Cond.code yX8_ofSide cX8_ofSide 6 (some .int) ∈ WA) ∧ (Cond.initialized yX8_ofSide.cls ∈ WA) ∧ (yX8_ofSide.cls ≠ "java/lang/invoke/MethodHandle" ∧ yX8_ofSide.cls ≠ "java/lang/invoke/VarHandle" ∧ (parseMethodDescriptor yX8_ofSide.desc).map (fun d => d.parameters.length) = some 3) := ⟨WA_of (i := 670) (by decide +kernel) (by decide +kernel), kini_CaseManager_Weights, by decide +kernel, by decide +kernel, by decide +kernel⟩
theorem ksX8_ofSide : Cond.static yX8_ofSide ∈ WA := WA_of (i := 669) (by decide +kernel) (by decide +kernel)
def mxX8_marginByTestimony : Nat := 5
theorem kvX8_marginByTestimony : (Cond.code yX8_marginByTestimony cX8_marginByTestimony 5 (some .int) ∈ WA) ∧ (Cond.initialized yX8_marginByTestimony.cls ∈ WA) ∧ (yX8_marginByTestimony.cls ≠ "java/lang/invoke/MethodHandle" ∧ yX8_marginByTestimony.cls ≠ "java/lang/invoke/VarHandle" ∧ (parseMethodDescriptor yX8_marginByTestimony.desc).map (fun d => d.parameters.length) = some 2) := ⟨WA_of (i := 688) (by decide +kernel) (by decide +kernel), kini_CaseManager_Weights, by decide +kernel, by decide +kernel, by decide +kernel⟩
theorem ksX8_marginByTestimony : Cond.static yX8_marginByTestimony ∈ WA := WA_of (i := 687) (by decide +kernel) (by decide +kernel)
def mxX8_marginByLevel : Nat := 4
theorem kvX8_marginByLevel : (Cond.code yX8_marginByLevel cX8_marginByLevel 4 (some .int) ∈ WA) ∧ (Cond.initialized yX8_marginByLevel.cls ∈ WA) ∧ (yX8_marginByLevel.cls ≠ "java/lang/invoke/MethodHandle" ∧ yX8_marginByLevel.cls ≠ "java/lang/invoke/VarHandle" ∧ (parseMethodDescriptor yX8_marginByLevel.desc).map (fun d => d.parameters.length) = some 2) := ⟨WA_of (i := 699) (by decide +kernel) (by decide +kernel), kini_CaseManager_Weights, by decide +kernel, by decide +kernel, by decide +kernel⟩
theorem ksX8_marginByLevel : Cond.static yX8_marginByLevel ∈ WA := WA_of (i := 698) (by decide +kernel) (by decide +kernel)
def mxX8_signedStrengthsAt : Nat := 6
theorem kvX8_signedStrengthsAt : (Cond.code yX8_signedStrengthsAt cX8_signedStrengthsAt 6 (some .int) ∈ WA) ∧ (Cond.initialized yX8_signedStrengthsAt.cls ∈ WA) ∧ (yX8_signedStrengthsAt.cls ≠ "java/lang/invoke/MethodHandle" ∧ yX8_signedStrengthsAt.cls ≠ "java/lang/invoke/VarHandle" ∧ (parseMethodDescriptor yX8_signedStrengthsAt.desc).map (fun d => d.parameters.length) = some 3) := ⟨WA_of (i := 702) (by decide +kernel) (by decide +kernel), kini_CaseManager_Weights, by decide +kernel, by decide +kernel, by decide +kernel⟩
theorem ksX8_signedStrengthsAt : Cond.static yX8_signedStrengthsAt ∈ WA := WA_of (i := 701) (by decide +kernel) (by decide +kernel)
def mxX8_heaviestIn : Nat := 5
theorem kvX8_heaviestIn : (Cond.code yX8_heaviestIn cX8_heaviestIn 5 (some .int) ∈ WA) ∧ (Cond.initialized yX8_heaviestIn.cls ∈ WA) ∧ (yX8_heaviestIn.cls ≠ "java/lang/invoke/MethodHandle" ∧ yX8_heaviestIn.cls ≠ "java/lang/invoke/VarHandle" ∧ (parseMethodDescriptor yX8_heaviestIn.desc).map (fun d => d.parameters.length) = some 2) := ⟨WA_of (i := 1188) (by decide +kernel) (by decide +kernel), kini_CaseManager_Weights, by decide +kernel, by decide +kernel, by decide +kernel⟩
theorem ksX8_heaviestIn : Cond.static yX8_heaviestIn ∈ WA := WA_of (i := 1187) (by decide +kernel) (by decide +kernel)
def mxX8_firmAnswersNeeded : Nat := 7
theorem kvX8_firmAnswersNeeded : (Cond.code yX8_firmAnswersNeeded cX8_firmAnswersNeeded 7 (some .int) ∈ WA) ∧ (Cond.initialized yX8_firmAnswersNeeded.cls ∈ WA) ∧ (yX8_firmAnswersNeeded.cls ≠ "java/lang/invoke/MethodHandle" ∧ yX8_firmAnswersNeeded.cls ≠ "java/lang/invoke/VarHandle" ∧ (parseMethodDescriptor yX8_firmAnswersNeeded.desc).map (fun d => d.parameters.length) = some 3) := ⟨WA_of (i := 1210) (by decide +kernel) (by decide +kernel), kini_CaseManager_Weights, by decide +kernel, by decide +kernel, by decide +kernel⟩
theorem ksX8_firmAnswersNeeded : Cond.static yX8_firmAnswersNeeded ∈ WA := WA_of (i := 1209) (by decide +kernel) (by decide +kernel)
def mxX9_init : Nat := 1
theorem kvX9_init : (Cond.code yX9_init cX9_init 1 none ∈ WA) ∧ (Cond.initialized yX9_init.cls ∈ WA) ∧ (yX9_init.cls ≠ "java/lang/invoke/MethodHandle" ∧ yX9_init.cls ≠ "java/lang/invoke/VarHandle" ∧ (parseMethodDescriptor yX9_init.desc).map (fun d => d.parameters.length) = some 0) := ⟨WA_of (i := 70) (by decide +kernel) (by decide +kernel), kini_CaseManager, by decide +kernel, by decide +kernel, by decide +kernel⟩
theorem kiiX9_init : Cond.instanceMethod yX9_init ∈ WA := WA_of (i := 69) (by decide +kernel) (by decide +kernel)
def mxX9_charge : Nat := 3
theorem kvX9_charge : (Cond.code yX9_charge cX9_charge 3 (some .int) ∈ WA) ∧ (Cond.initialized yX9_charge.cls ∈ WA) ∧ (yX9_charge.cls ≠ "java/lang/invoke/MethodHandle" ∧ yX9_charge.cls ≠ "java/lang/invoke/VarHandle" ∧ (parseMethodDescriptor yX9_charge.desc).map (fun d => d.parameters.length) = some 2) := ⟨WA_of (i := 1381) (by decide +kernel) (by decide +kernel), kini_CaseManager, by decide +kernel, by decide +kernel, by decide +kernel⟩
theorem kiX9_charge : (Cond.instanceMethod yX9_charge ∈ WA) ∧ (Cond.selects yX9_charge.cls yX9_charge yX9_charge ∈ WA) := ⟨WA_of (i := 1379) (by decide +kernel) (by decide +kernel), WA_of (i := 1380) (by decide +kernel) (by decide +kernel)⟩
def mxX9_addWitness : Nat := 2
theorem kvX9_addWitness : (Cond.code yX9_addWitness cX9_addWitness 2 (some .int) ∈ WA) ∧ (Cond.initialized yX9_addWitness.cls ∈ WA) ∧ (yX9_addWitness.cls ≠ "java/lang/invoke/MethodHandle" ∧ yX9_addWitness.cls ≠ "java/lang/invoke/VarHandle" ∧ (parseMethodDescriptor yX9_addWitness.desc).map (fun d => d.parameters.length) = some 1) := ⟨WA_of (i := 1244) (by decide +kernel) (by decide +kernel), kini_CaseManager, by decide +kernel, by decide +kernel, by decide +kernel⟩
theorem kiX9_addWitness : (Cond.instanceMethod yX9_addWitness ∈ WA) ∧ (Cond.selects yX9_addWitness.cls yX9_addWitness yX9_addWitness ∈ WA) := ⟨WA_of (i := 1242) (by decide +kernel) (by decide +kernel), WA_of (i := 1243) (by decide +kernel) (by decide +kernel)⟩
def mxX9_testify : Nat := 5
theorem kvX9_testify : (Cond.code yX9_testify cX9_testify 5 (some .int) ∈ WA) ∧ (Cond.initialized yX9_testify.cls ∈ WA) ∧ (yX9_testify.cls ≠ "java/lang/invoke/MethodHandle" ∧ yX9_testify.cls ≠ "java/lang/invoke/VarHandle" ∧ (parseMethodDescriptor yX9_testify.desc).map (fun d => d.parameters.length) = some 4) := ⟨WA_of (i := 1391) (by decide +kernel) (by decide +kernel), kini_CaseManager, by decide +kernel, by decide +kernel, by decide +kernel⟩
theorem kiX9_testify : (Cond.instanceMethod yX9_testify ∈ WA) ∧ (Cond.selects yX9_testify.cls yX9_testify yX9_testify ∈ WA) := ⟨WA_of (i := 1389) (by decide +kernel) (by decide +kernel), WA_of (i := 1390) (by decide +kernel) (by decide +kernel)⟩
def mxX9_question : Nat := 4
theorem kvX9_question : (Cond.code yX9_question cX9_question 4 (some .int) ∈ WA) ∧ (Cond.initialized yX9_question.cls ∈ WA) ∧ (yX9_question.cls ≠ "java/lang/invoke/MethodHandle" ∧ yX9_question.cls ≠ "java/lang/invoke/VarHandle" ∧ (parseMethodDescriptor yX9_question.desc).map (fun d => d.parameters.length) = some 3) := ⟨WA_of (i := 1398) (by decide +kernel) (by decide +kernel), kini_CaseManager, by decide +kernel, by decide +kernel, by decide +kernel⟩
theorem kiX9_question : (Cond.instanceMethod yX9_question ∈ WA) ∧ (Cond.selects yX9_question.cls yX9_question yX9_question ∈ WA) := ⟨WA_of (i := 1396) (by decide +kernel) (by decide +kernel), WA_of (i := 1397) (by decide +kernel) (by decide +kernel)⟩
def mxX9_decide : Nat := 2
theorem kvX9_decide : (Cond.code yX9_decide cX9_decide 2 (some .boolean) ∈ WA) ∧ (Cond.initialized yX9_decide.cls ∈ WA) ∧ (yX9_decide.cls ≠ "java/lang/invoke/MethodHandle" ∧ yX9_decide.cls ≠ "java/lang/invoke/VarHandle" ∧ (parseMethodDescriptor yX9_decide.desc).map (fun d => d.parameters.length) = some 1) := ⟨WA_of (i := 1405) (by decide +kernel) (by decide +kernel), kini_CaseManager, by decide +kernel, by decide +kernel, by decide +kernel⟩
theorem kiX9_decide : (Cond.instanceMethod yX9_decide ∈ WA) ∧ (Cond.selects yX9_decide.cls yX9_decide yX9_decide ∈ WA) := ⟨WA_of (i := 1403) (by decide +kernel) (by decide +kernel), WA_of (i := 1404) (by decide +kernel) (by decide +kernel)⟩
def mxX9_appeal : Nat := 2
theorem kvX9_appeal : (Cond.code yX9_appeal cX9_appeal 2 (some .int) ∈ WA) ∧ (Cond.initialized yX9_appeal.cls ∈ WA) ∧ (yX9_appeal.cls ≠ "java/lang/invoke/MethodHandle" ∧ yX9_appeal.cls ≠ "java/lang/invoke/VarHandle" ∧ (parseMethodDescriptor yX9_appeal.desc).map (fun d => d.parameters.length) = some 1) := ⟨WA_of (i := 1412) (by decide +kernel) (by decide +kernel), kini_CaseManager, by decide +kernel, by decide +kernel, by decide +kernel⟩
theorem kiX9_appeal : (Cond.instanceMethod yX9_appeal ∈ WA) ∧ (Cond.selects yX9_appeal.cls yX9_appeal yX9_appeal ∈ WA) := ⟨WA_of (i := 1410) (by decide +kernel) (by decide +kernel), WA_of (i := 1411) (by decide +kernel) (by decide +kernel)⟩
def mxX9_close : Nat := 2
theorem kvX9_close : (Cond.code yX9_close cX9_close 2 (some .int) ∈ WA) ∧ (Cond.initialized yX9_close.cls ∈ WA) ∧ (yX9_close.cls ≠ "java/lang/invoke/MethodHandle" ∧ yX9_close.cls ≠ "java/lang/invoke/VarHandle" ∧ (parseMethodDescriptor yX9_close.desc).map (fun d => d.parameters.length) = some 1) := ⟨WA_of (i := 1419) (by decide +kernel) (by decide +kernel), kini_CaseManager, by decide +kernel, by decide +kernel, by decide +kernel⟩
theorem kiX9_close : (Cond.instanceMethod yX9_close ∈ WA) ∧ (Cond.selects yX9_close.cls yX9_close yX9_close ∈ WA) := ⟨WA_of (i := 1417) (by decide +kernel) (by decide +kernel), WA_of (i := 1418) (by decide +kernel) (by decide +kernel)⟩
def mxX9_caseCount : Nat := 1
theorem kvX9_caseCount : (Cond.code yX9_caseCount cX9_caseCount 1 (some .int) ∈ WA) ∧ (Cond.initialized yX9_caseCount.cls ∈ WA) ∧ (yX9_caseCount.cls ≠ "java/lang/invoke/MethodHandle" ∧ yX9_caseCount.cls ≠ "java/lang/invoke/VarHandle" ∧ (parseMethodDescriptor yX9_caseCount.desc).map (fun d => d.parameters.length) = some 0) := ⟨WA_of (i := 334) (by decide +kernel) (by decide +kernel), kini_CaseManager, by decide +kernel, by decide +kernel, by decide +kernel⟩
theorem kiX9_caseCount : (Cond.instanceMethod yX9_caseCount ∈ WA) ∧ (Cond.selects yX9_caseCount.cls yX9_caseCount yX9_caseCount ∈ WA) := ⟨WA_of (i := 332) (by decide +kernel) (by decide +kernel), WA_of (i := 333) (by decide +kernel) (by decide +kernel)⟩
def mxX9_caseOf : Nat := 4
theorem kvX9_caseOf : (Cond.code yX9_caseOf cX9_caseOf 4 (some .int) ∈ WA) ∧ (Cond.initialized yX9_caseOf.cls ∈ WA) ∧ (yX9_caseOf.cls ≠ "java/lang/invoke/MethodHandle" ∧ yX9_caseOf.cls ≠ "java/lang/invoke/VarHandle" ∧ (parseMethodDescriptor yX9_caseOf.desc).map (fun d => d.parameters.length) = some 2) := ⟨WA_of (i := 338) (by decide +kernel) (by decide +kernel), kini_CaseManager, by decide +kernel, by decide +kernel, by decide +kernel⟩
theorem kiX9_caseOf : (Cond.instanceMethod yX9_caseOf ∈ WA) ∧ (Cond.selects yX9_caseOf.cls yX9_caseOf yX9_caseOf ∈ WA) := ⟨WA_of (i := 336) (by decide +kernel) (by decide +kernel), WA_of (i := 337) (by decide +kernel) (by decide +kernel)⟩
def mxX9_defendantOf : Nat := 2
theorem kvX9_defendantOf : (Cond.code yX9_defendantOf cX9_defendantOf 2 (some .int) ∈ WA) ∧ (Cond.initialized yX9_defendantOf.cls ∈ WA) ∧ (yX9_defendantOf.cls ≠ "java/lang/invoke/MethodHandle" ∧ yX9_defendantOf.cls ≠ "java/lang/invoke/VarHandle" ∧ (parseMethodDescriptor yX9_defendantOf.desc).map (fun d => d.parameters.length) = some 1) := ⟨WA_of (i := 443) (by decide +kernel) (by decide +kernel), kini_CaseManager, by decide +kernel, by decide +kernel, by decide +kernel⟩
theorem kiX9_defendantOf : (Cond.instanceMethod yX9_defendantOf ∈ WA) ∧ (Cond.selects yX9_defendantOf.cls yX9_defendantOf yX9_defendantOf ∈ WA) := ⟨WA_of (i := 441) (by decide +kernel) (by decide +kernel), WA_of (i := 442) (by decide +kernel) (by decide +kernel)⟩
def mxX9_offenceOf : Nat := 2
theorem kvX9_offenceOf : (Cond.code yX9_offenceOf cX9_offenceOf 2 (some .int) ∈ WA) ∧ (Cond.initialized yX9_offenceOf.cls ∈ WA) ∧ (yX9_offenceOf.cls ≠ "java/lang/invoke/MethodHandle" ∧ yX9_offenceOf.cls ≠ "java/lang/invoke/VarHandle" ∧ (parseMethodDescriptor yX9_offenceOf.desc).map (fun d => d.parameters.length) = some 1) := ⟨WA_of (i := 472) (by decide +kernel) (by decide +kernel), kini_CaseManager, by decide +kernel, by decide +kernel, by decide +kernel⟩
theorem kiX9_offenceOf : (Cond.instanceMethod yX9_offenceOf ∈ WA) ∧ (Cond.selects yX9_offenceOf.cls yX9_offenceOf yX9_offenceOf ∈ WA) := ⟨WA_of (i := 470) (by decide +kernel) (by decide +kernel), WA_of (i := 471) (by decide +kernel) (by decide +kernel)⟩
def mxX9_isOpen : Nat := 2
theorem kvX9_isOpen : (Cond.code yX9_isOpen cX9_isOpen 2 (some .boolean) ∈ WA) ∧ (Cond.initialized yX9_isOpen.cls ∈ WA) ∧ (yX9_isOpen.cls ≠ "java/lang/invoke/MethodHandle" ∧ yX9_isOpen.cls ≠ "java/lang/invoke/VarHandle" ∧ (parseMethodDescriptor yX9_isOpen.desc).map (fun d => d.parameters.length) = some 1) := ⟨WA_of (i := 476) (by decide +kernel) (by decide +kernel), kini_CaseManager, by decide +kernel, by decide +kernel, by decide +kernel⟩
theorem kiX9_isOpen : (Cond.instanceMethod yX9_isOpen ∈ WA) ∧ (Cond.selects yX9_isOpen.cls yX9_isOpen yX9_isOpen ∈ WA) := ⟨WA_of (i := 474) (by decide +kernel) (by decide +kernel), WA_of (i := 475) (by decide +kernel) (by decide +kernel)⟩
def mxX9_isDecided : Nat := 2
theorem kvX9_isDecided : (Cond.code yX9_isDecided cX9_isDecided 2 (some .boolean) ∈ WA) ∧ (Cond.initialized yX9_isDecided.cls ∈ WA) ∧ (yX9_isDecided.cls ≠ "java/lang/invoke/MethodHandle" ∧ yX9_isDecided.cls ≠ "java/lang/invoke/VarHandle" ∧ (parseMethodDescriptor yX9_isDecided.desc).map (fun d => d.parameters.length) = some 1) := ⟨WA_of (i := 484) (by decide +kernel) (by decide +kernel), kini_CaseManager, by decide +kernel, by decide +kernel, by decide +kernel⟩
theorem kiX9_isDecided : (Cond.instanceMethod yX9_isDecided ∈ WA) ∧ (Cond.selects yX9_isDecided.cls yX9_isDecided yX9_isDecided ∈ WA) := ⟨WA_of (i := 482) (by decide +kernel) (by decide +kernel), WA_of (i := 483) (by decide +kernel) (by decide +kernel)⟩
def mxX9_isClosed : Nat := 2
theorem kvX9_isClosed : (Cond.code yX9_isClosed cX9_isClosed 2 (some .boolean) ∈ WA) ∧ (Cond.initialized yX9_isClosed.cls ∈ WA) ∧ (yX9_isClosed.cls ≠ "java/lang/invoke/MethodHandle" ∧ yX9_isClosed.cls ≠ "java/lang/invoke/VarHandle" ∧ (parseMethodDescriptor yX9_isClosed.desc).map (fun d => d.parameters.length) = some 1) := ⟨WA_of (i := 488) (by decide +kernel) (by decide +kernel), kini_CaseManager, by decide +kernel, by decide +kernel, by decide +kernel⟩
theorem kiX9_isClosed : (Cond.instanceMethod yX9_isClosed ∈ WA) ∧ (Cond.selects yX9_isClosed.cls yX9_isClosed yX9_isClosed ∈ WA) := ⟨WA_of (i := 486) (by decide +kernel) (by decide +kernel), WA_of (i := 487) (by decide +kernel) (by decide +kernel)⟩
def mxX9_isGuilty : Nat := 2
theorem kvX9_isGuilty : (Cond.code yX9_isGuilty cX9_isGuilty 2 (some .boolean) ∈ WA) ∧ (Cond.initialized yX9_isGuilty.cls ∈ WA) ∧ (yX9_isGuilty.cls ≠ "java/lang/invoke/MethodHandle" ∧ yX9_isGuilty.cls ≠ "java/lang/invoke/VarHandle" ∧ (parseMethodDescriptor yX9_isGuilty.desc).map (fun d => d.parameters.length) = some 1) := ⟨WA_of (i := 1226) (by decide +kernel) (by decide +kernel), kini_CaseManager, by decide +kernel, by decide +kernel, by decide +kernel⟩
theorem kiX9_isGuilty : (Cond.instanceMethod yX9_isGuilty ∈ WA) ∧ (Cond.selects yX9_isGuilty.cls yX9_isGuilty yX9_isGuilty ∈ WA) := ⟨WA_of (i := 1224) (by decide +kernel) (by decide +kernel), WA_of (i := 1225) (by decide +kernel) (by decide +kernel)⟩
def mxX9_appealCount : Nat := 2
theorem kvX9_appealCount : (Cond.code yX9_appealCount cX9_appealCount 2 (some .int) ∈ WA) ∧ (Cond.initialized yX9_appealCount.cls ∈ WA) ∧ (yX9_appealCount.cls ≠ "java/lang/invoke/MethodHandle" ∧ yX9_appealCount.cls ≠ "java/lang/invoke/VarHandle" ∧ (parseMethodDescriptor yX9_appealCount.desc).map (fun d => d.parameters.length) = some 1) := ⟨WA_of (i := 492) (by decide +kernel) (by decide +kernel), kini_CaseManager, by decide +kernel, by decide +kernel, by decide +kernel⟩
theorem kiX9_appealCount : (Cond.instanceMethod yX9_appealCount ∈ WA) ∧ (Cond.selects yX9_appealCount.cls yX9_appealCount yX9_appealCount ∈ WA) := ⟨WA_of (i := 490) (by decide +kernel) (by decide +kernel), WA_of (i := 491) (by decide +kernel) (by decide +kernel)⟩
def mxX9_testimonyCount : Nat := 2
theorem kvX9_testimonyCount : (Cond.code yX9_testimonyCount cX9_testimonyCount 2 (some .int) ∈ WA) ∧ (Cond.initialized yX9_testimonyCount.cls ∈ WA) ∧ (yX9_testimonyCount.cls ≠ "java/lang/invoke/MethodHandle" ∧ yX9_testimonyCount.cls ≠ "java/lang/invoke/VarHandle" ∧ (parseMethodDescriptor yX9_testimonyCount.desc).map (fun d => d.parameters.length) = some 1) := ⟨WA_of (i := 496) (by decide +kernel) (by decide +kernel), kini_CaseManager, by decide +kernel, by decide +kernel, by decide +kernel⟩
theorem kiX9_testimonyCount : (Cond.instanceMethod yX9_testimonyCount ∈ WA) ∧ (Cond.selects yX9_testimonyCount.cls yX9_testimonyCount yX9_testimonyCount ∈ WA) := ⟨WA_of (i := 494) (by decide +kernel) (by decide +kernel), WA_of (i := 495) (by decide +kernel) (by decide +kernel)⟩
def mxX9_witnessAt : Nat := 3
theorem kvX9_witnessAt : (Cond.code yX9_witnessAt cX9_witnessAt 3 (some .int) ∈ WA) ∧ (Cond.initialized yX9_witnessAt.cls ∈ WA) ∧ (yX9_witnessAt.cls ≠ "java/lang/invoke/MethodHandle" ∧ yX9_witnessAt.cls ≠ "java/lang/invoke/VarHandle" ∧ (parseMethodDescriptor yX9_witnessAt.desc).map (fun d => d.parameters.length) = some 2) := ⟨WA_of (i := 500) (by decide +kernel) (by decide +kernel), kini_CaseManager, by decide +kernel, by decide +kernel, by decide +kernel⟩
theorem kiX9_witnessAt : (Cond.instanceMethod yX9_witnessAt ∈ WA) ∧ (Cond.selects yX9_witnessAt.cls yX9_witnessAt yX9_witnessAt ∈ WA) := ⟨WA_of (i := 498) (by decide +kernel) (by decide +kernel), WA_of (i := 499) (by decide +kernel) (by decide +kernel)⟩
def mxX9_hasTestified : Nat := 3
theorem kvX9_hasTestified : (Cond.code yX9_hasTestified cX9_hasTestified 3 (some .boolean) ∈ WA) ∧ (Cond.initialized yX9_hasTestified.cls ∈ WA) ∧ (yX9_hasTestified.cls ≠ "java/lang/invoke/MethodHandle" ∧ yX9_hasTestified.cls ≠ "java/lang/invoke/VarHandle" ∧ (parseMethodDescriptor yX9_hasTestified.desc).map (fun d => d.parameters.length) = some 2) := ⟨WA_of (i := 509) (by decide +kernel) (by decide +kernel), kini_CaseManager, by decide +kernel, by decide +kernel, by decide +kernel⟩
theorem kiX9_hasTestified : (Cond.instanceMethod yX9_hasTestified ∈ WA) ∧ (Cond.selects yX9_hasTestified.cls yX9_hasTestified yX9_hasTestified ∈ WA) := ⟨WA_of (i := 507) (by decide +kernel) (by decide +kernel), WA_of (i := 508) (by decide +kernel) (by decide +kernel)⟩
def mxX9_isForProsecution : Nat := 3
theorem kvX9_isForProsecution : (Cond.code yX9_isForProsecution cX9_isForProsecution 3 (some .boolean) ∈ WA) ∧ (Cond.initialized yX9_isForProsecution.cls ∈ WA) ∧ (yX9_isForProsecution.cls ≠ "java/lang/invoke/MethodHandle" ∧ yX9_isForProsecution.cls ≠ "java/lang/invoke/VarHandle" ∧ (parseMethodDescriptor yX9_isForProsecution.desc).map (fun d => d.parameters.length) = some 2) := ⟨WA_of (i := 529) (by decide +kernel) (by decide +kernel), kini_CaseManager, by decide +kernel, by decide +kernel, by decide +kernel⟩
theorem kiX9_isForProsecution : (Cond.instanceMethod yX9_isForProsecution ∈ WA) ∧ (Cond.selects yX9_isForProsecution.cls yX9_isForProsecution yX9_isForProsecution ∈ WA) := ⟨WA_of (i := 527) (by decide +kernel) (by decide +kernel), WA_of (i := 528) (by decide +kernel) (by decide +kernel)⟩
def mxX9_strength : Nat := 3
theorem kvX9_strength : (Cond.code yX9_strength cX9_strength 3 (some .int) ∈ WA) ∧ (Cond.initialized yX9_strength.cls ∈ WA) ∧ (yX9_strength.cls ≠ "java/lang/invoke/MethodHandle" ∧ yX9_strength.cls ≠ "java/lang/invoke/VarHandle" ∧ (parseMethodDescriptor yX9_strength.desc).map (fun d => d.parameters.length) = some 2) := ⟨WA_of (i := 542) (by decide +kernel) (by decide +kernel), kini_CaseManager, by decide +kernel, by decide +kernel, by decide +kernel⟩
theorem kiX9_strength : (Cond.instanceMethod yX9_strength ∈ WA) ∧ (Cond.selects yX9_strength.cls yX9_strength yX9_strength ∈ WA) := ⟨WA_of (i := 540) (by decide +kernel) (by decide +kernel), WA_of (i := 541) (by decide +kernel) (by decide +kernel)⟩
def mxX9_questionCount : Nat := 3
theorem kvX9_questionCount : (Cond.code yX9_questionCount cX9_questionCount 3 (some .int) ∈ WA) ∧ (Cond.initialized yX9_questionCount.cls ∈ WA) ∧ (yX9_questionCount.cls ≠ "java/lang/invoke/MethodHandle" ∧ yX9_questionCount.cls ≠ "java/lang/invoke/VarHandle" ∧ (parseMethodDescriptor yX9_questionCount.desc).map (fun d => d.parameters.length) = some 2) := ⟨WA_of (i := 550) (by decide +kernel) (by decide +kernel), kini_CaseManager, by decide +kernel, by decide +kernel, by decide +kernel⟩
theorem kiX9_questionCount : (Cond.instanceMethod yX9_questionCount ∈ WA) ∧ (Cond.selects yX9_questionCount.cls yX9_questionCount yX9_questionCount ∈ WA) := ⟨WA_of (i := 548) (by decide +kernel) (by decide +kernel), WA_of (i := 549) (by decide +kernel) (by decide +kernel)⟩
def mxX9_witnessCount : Nat := 1
theorem kvX9_witnessCount : (Cond.code yX9_witnessCount cX9_witnessCount 1 (some .int) ∈ WA) ∧ (Cond.initialized yX9_witnessCount.cls ∈ WA) ∧ (yX9_witnessCount.cls ≠ "java/lang/invoke/MethodHandle" ∧ yX9_witnessCount.cls ≠ "java/lang/invoke/VarHandle" ∧ (parseMethodDescriptor yX9_witnessCount.desc).map (fun d => d.parameters.length) = some 0) := ⟨WA_of (i := 558) (by decide +kernel) (by decide +kernel), kini_CaseManager, by decide +kernel, by decide +kernel, by decide +kernel⟩
theorem kiX9_witnessCount : (Cond.instanceMethod yX9_witnessCount ∈ WA) ∧ (Cond.selects yX9_witnessCount.cls yX9_witnessCount yX9_witnessCount ∈ WA) := ⟨WA_of (i := 556) (by decide +kernel) (by decide +kernel), WA_of (i := 557) (by decide +kernel) (by decide +kernel)⟩
def mxX9_credibility : Nat := 2
theorem kvX9_credibility : (Cond.code yX9_credibility cX9_credibility 2 (some .int) ∈ WA) ∧ (Cond.initialized yX9_credibility.cls ∈ WA) ∧ (yX9_credibility.cls ≠ "java/lang/invoke/MethodHandle" ∧ yX9_credibility.cls ≠ "java/lang/invoke/VarHandle" ∧ (parseMethodDescriptor yX9_credibility.desc).map (fun d => d.parameters.length) = some 1) := ⟨WA_of (i := 562) (by decide +kernel) (by decide +kernel), kini_CaseManager, by decide +kernel, by decide +kernel, by decide +kernel⟩
theorem kiX9_credibility : (Cond.instanceMethod yX9_credibility ∈ WA) ∧ (Cond.selects yX9_credibility.cls yX9_credibility yX9_credibility ∈ WA) := ⟨WA_of (i := 560) (by decide +kernel) (by decide +kernel), WA_of (i := 561) (by decide +kernel) (by decide +kernel)⟩
def mxX9_casesOfWitness : Nat := 2
theorem kvX9_casesOfWitness : (Cond.code yX9_casesOfWitness cX9_casesOfWitness 2 (some .int) ∈ WA) ∧ (Cond.initialized yX9_casesOfWitness.cls ∈ WA) ∧ (yX9_casesOfWitness.cls ≠ "java/lang/invoke/MethodHandle" ∧ yX9_casesOfWitness.cls ≠ "java/lang/invoke/VarHandle" ∧ (parseMethodDescriptor yX9_casesOfWitness.desc).map (fun d => d.parameters.length) = some 1) := ⟨WA_of (i := 566) (by decide +kernel) (by decide +kernel), kini_CaseManager, by decide +kernel, by decide +kernel, by decide +kernel⟩
theorem kiX9_casesOfWitness : (Cond.instanceMethod yX9_casesOfWitness ∈ WA) ∧ (Cond.selects yX9_casesOfWitness.cls yX9_casesOfWitness yX9_casesOfWitness ∈ WA) := ⟨WA_of (i := 564) (by decide +kernel) (by decide +kernel), WA_of (i := 565) (by decide +kernel) (by decide +kernel)⟩
def mxX9_mostCredible : Nat := 3
theorem kvX9_mostCredible : (Cond.code yX9_mostCredible cX9_mostCredible 3 (some .int) ∈ WA) ∧ (Cond.initialized yX9_mostCredible.cls ∈ WA) ∧ (yX9_mostCredible.cls ≠ "java/lang/invoke/MethodHandle" ∧ yX9_mostCredible.cls ≠ "java/lang/invoke/VarHandle" ∧ (parseMethodDescriptor yX9_mostCredible.desc).map (fun d => d.parameters.length) = some 1) := ⟨WA_of (i := 575) (by decide +kernel) (by decide +kernel), kini_CaseManager, by decide +kernel, by decide +kernel, by decide +kernel⟩
theorem kiX9_mostCredible : (Cond.instanceMethod yX9_mostCredible ∈ WA) ∧ (Cond.selects yX9_mostCredible.cls yX9_mostCredible yX9_mostCredible ∈ WA) := ⟨WA_of (i := 573) (by decide +kernel) (by decide +kernel), WA_of (i := 574) (by decide +kernel) (by decide +kernel)⟩
def mxX9_agreement : Nat := 3
theorem kvX9_agreement : (Cond.code yX9_agreement cX9_agreement 3 (some .int) ∈ WA) ∧ (Cond.initialized yX9_agreement.cls ∈ WA) ∧ (yX9_agreement.cls ≠ "java/lang/invoke/MethodHandle" ∧ yX9_agreement.cls ≠ "java/lang/invoke/VarHandle" ∧ (parseMethodDescriptor yX9_agreement.desc).map (fun d => d.parameters.length) = some 2) := ⟨WA_of (i := 593) (by decide +kernel) (by decide +kernel), kini_CaseManager, by decide +kernel, by decide +kernel, by decide +kernel⟩
theorem kiX9_agreement : (Cond.instanceMethod yX9_agreement ∈ WA) ∧ (Cond.selects yX9_agreement.cls yX9_agreement yX9_agreement ∈ WA) := ⟨WA_of (i := 591) (by decide +kernel) (by decide +kernel), WA_of (i := 592) (by decide +kernel) (by decide +kernel)⟩
def mxX9_areConnected : Nat := 3
theorem kvX9_areConnected : (Cond.code yX9_areConnected cX9_areConnected 3 (some .boolean) ∈ WA) ∧ (Cond.initialized yX9_areConnected.cls ∈ WA) ∧ (yX9_areConnected.cls ≠ "java/lang/invoke/MethodHandle" ∧ yX9_areConnected.cls ≠ "java/lang/invoke/VarHandle" ∧ (parseMethodDescriptor yX9_areConnected.desc).map (fun d => d.parameters.length) = some 2) := ⟨WA_of (i := 602) (by decide +kernel) (by decide +kernel), kini_CaseManager, by decide +kernel, by decide +kernel, by decide +kernel⟩
theorem kiX9_areConnected : (Cond.instanceMethod yX9_areConnected ∈ WA) ∧ (Cond.selects yX9_areConnected.cls yX9_areConnected yX9_areConnected ∈ WA) := ⟨WA_of (i := 600) (by decide +kernel) (by decide +kernel), WA_of (i := 601) (by decide +kernel) (by decide +kernel)⟩
def mxX9_areConnectedBySearch : Nat := 3
theorem kvX9_areConnectedBySearch : (Cond.code yX9_areConnectedBySearch cX9_areConnectedBySearch 3 (some .boolean) ∈ WA) ∧ (Cond.initialized yX9_areConnectedBySearch.cls ∈ WA) ∧ (yX9_areConnectedBySearch.cls ≠ "java/lang/invoke/MethodHandle" ∧ yX9_areConnectedBySearch.cls ≠ "java/lang/invoke/VarHandle" ∧ (parseMethodDescriptor yX9_areConnectedBySearch.desc).map (fun d => d.parameters.length) = some 2) := ⟨WA_of (i := 615) (by decide +kernel) (by decide +kernel), kini_CaseManager, by decide +kernel, by decide +kernel, by decide +kernel⟩
theorem kiX9_areConnectedBySearch : (Cond.instanceMethod yX9_areConnectedBySearch ∈ WA) ∧ (Cond.selects yX9_areConnectedBySearch.cls yX9_areConnectedBySearch yX9_areConnectedBySearch ∈ WA) := ⟨WA_of (i := 613) (by decide +kernel) (by decide +kernel), WA_of (i := 614) (by decide +kernel) (by decide +kernel)⟩
def mxX9_groupSize : Nat := 2
theorem kvX9_groupSize : (Cond.code yX9_groupSize cX9_groupSize 2 (some .int) ∈ WA) ∧ (Cond.initialized yX9_groupSize.cls ∈ WA) ∧ (yX9_groupSize.cls ≠ "java/lang/invoke/MethodHandle" ∧ yX9_groupSize.cls ≠ "java/lang/invoke/VarHandle" ∧ (parseMethodDescriptor yX9_groupSize.desc).map (fun d => d.parameters.length) = some 1) := ⟨WA_of (i := 650) (by decide +kernel) (by decide +kernel), kini_CaseManager, by decide +kernel, by decide +kernel, by decide +kernel⟩
theorem kiX9_groupSize : (Cond.instanceMethod yX9_groupSize ∈ WA) ∧ (Cond.selects yX9_groupSize.cls yX9_groupSize yX9_groupSize ∈ WA) := ⟨WA_of (i := 648) (by decide +kernel) (by decide +kernel), WA_of (i := 649) (by decide +kernel) (by decide +kernel)⟩
def mxX9_groupCount : Nat := 1
theorem kvX9_groupCount : (Cond.code yX9_groupCount cX9_groupCount 1 (some .int) ∈ WA) ∧ (Cond.initialized yX9_groupCount.cls ∈ WA) ∧ (yX9_groupCount.cls ≠ "java/lang/invoke/MethodHandle" ∧ yX9_groupCount.cls ≠ "java/lang/invoke/VarHandle" ∧ (parseMethodDescriptor yX9_groupCount.desc).map (fun d => d.parameters.length) = some 0) := ⟨WA_of (i := 659) (by decide +kernel) (by decide +kernel), kini_CaseManager, by decide +kernel, by decide +kernel, by decide +kernel⟩
theorem kiX9_groupCount : (Cond.instanceMethod yX9_groupCount ∈ WA) ∧ (Cond.selects yX9_groupCount.cls yX9_groupCount yX9_groupCount ∈ WA) := ⟨WA_of (i := 657) (by decide +kernel) (by decide +kernel), WA_of (i := 658) (by decide +kernel) (by decide +kernel)⟩
def mxX9_heaviestWitness : Nat := 2
theorem kvX9_heaviestWitness : (Cond.code yX9_heaviestWitness cX9_heaviestWitness 2 (some .int) ∈ WA) ∧ (Cond.initialized yX9_heaviestWitness.cls ∈ WA) ∧ (yX9_heaviestWitness.cls ≠ "java/lang/invoke/MethodHandle" ∧ yX9_heaviestWitness.cls ≠ "java/lang/invoke/VarHandle" ∧ (parseMethodDescriptor yX9_heaviestWitness.desc).map (fun d => d.parameters.length) = some 1) := ⟨WA_of (i := 1184) (by decide +kernel) (by decide +kernel), kini_CaseManager, by decide +kernel, by decide +kernel, by decide +kernel⟩
theorem kiX9_heaviestWitness : (Cond.instanceMethod yX9_heaviestWitness ∈ WA) ∧ (Cond.selects yX9_heaviestWitness.cls yX9_heaviestWitness yX9_heaviestWitness ∈ WA) := ⟨WA_of (i := 1182) (by decide +kernel) (by decide +kernel), WA_of (i := 1183) (by decide +kernel) (by decide +kernel)⟩
def mxX9_nextToDecide : Nat := 2
theorem kvX9_nextToDecide : (Cond.code yX9_nextToDecide cX9_nextToDecide 2 (some .int) ∈ WA) ∧ (Cond.initialized yX9_nextToDecide.cls ∈ WA) ∧ (yX9_nextToDecide.cls ≠ "java/lang/invoke/MethodHandle" ∧ yX9_nextToDecide.cls ≠ "java/lang/invoke/VarHandle" ∧ (parseMethodDescriptor yX9_nextToDecide.desc).map (fun d => d.parameters.length) = some 0) := ⟨WA_of (i := 1195) (by decide +kernel) (by decide +kernel), kini_CaseManager, by decide +kernel, by decide +kernel, by decide +kernel⟩
theorem kiX9_nextToDecide : (Cond.instanceMethod yX9_nextToDecide ∈ WA) ∧ (Cond.selects yX9_nextToDecide.cls yX9_nextToDecide yX9_nextToDecide ∈ WA) := ⟨WA_of (i := 1193) (by decide +kernel) (by decide +kernel), WA_of (i := 1194) (by decide +kernel) (by decide +kernel)⟩
def mxX9_prosecutionWeight : Nat := 2
theorem kvX9_prosecutionWeight : (Cond.code yX9_prosecutionWeight cX9_prosecutionWeight 2 (some .int) ∈ WA) ∧ (Cond.initialized yX9_prosecutionWeight.cls ∈ WA) ∧ (yX9_prosecutionWeight.cls ≠ "java/lang/invoke/MethodHandle" ∧ yX9_prosecutionWeight.cls ≠ "java/lang/invoke/VarHandle" ∧ (parseMethodDescriptor yX9_prosecutionWeight.desc).map (fun d => d.parameters.length) = some 1) := ⟨WA_of (i := 667) (by decide +kernel) (by decide +kernel), kini_CaseManager, by decide +kernel, by decide +kernel, by decide +kernel⟩
theorem kiX9_prosecutionWeight : (Cond.instanceMethod yX9_prosecutionWeight ∈ WA) ∧ (Cond.selects yX9_prosecutionWeight.cls yX9_prosecutionWeight yX9_prosecutionWeight ∈ WA) := ⟨WA_of (i := 665) (by decide +kernel) (by decide +kernel), WA_of (i := 666) (by decide +kernel) (by decide +kernel)⟩
def mxX9_defenceWeight : Nat := 2
theorem kvX9_defenceWeight : (Cond.code yX9_defenceWeight cX9_defenceWeight 2 (some .int) ∈ WA) ∧ (Cond.initialized yX9_defenceWeight.cls ∈ WA) ∧ (yX9_defenceWeight.cls ≠ "java/lang/invoke/MethodHandle" ∧ yX9_defenceWeight.cls ≠ "java/lang/invoke/VarHandle" ∧ (parseMethodDescriptor yX9_defenceWeight.desc).map (fun d => d.parameters.length) = some 1) := ⟨WA_of (i := 681) (by decide +kernel) (by decide +kernel), kini_CaseManager, by decide +kernel, by decide +kernel, by decide +kernel⟩
theorem kiX9_defenceWeight : (Cond.instanceMethod yX9_defenceWeight ∈ WA) ∧ (Cond.selects yX9_defenceWeight.cls yX9_defenceWeight yX9_defenceWeight ∈ WA) := ⟨WA_of (i := 679) (by decide +kernel) (by decide +kernel), WA_of (i := 680) (by decide +kernel) (by decide +kernel)⟩
def mxX9_margin : Nat := 2
theorem kvX9_margin : (Cond.code yX9_margin cX9_margin 2 (some .int) ∈ WA) ∧ (Cond.initialized yX9_margin.cls ∈ WA) ∧ (yX9_margin.cls ≠ "java/lang/invoke/MethodHandle" ∧ yX9_margin.cls ≠ "java/lang/invoke/VarHandle" ∧ (parseMethodDescriptor yX9_margin.desc).map (fun d => d.parameters.length) = some 1) := ⟨WA_of (i := 685) (by decide +kernel) (by decide +kernel), kini_CaseManager, by decide +kernel, by decide +kernel, by decide +kernel⟩
theorem kiX9_margin : (Cond.instanceMethod yX9_margin ∈ WA) ∧ (Cond.selects yX9_margin.cls yX9_margin yX9_margin ∈ WA) := ⟨WA_of (i := 683) (by decide +kernel) (by decide +kernel), WA_of (i := 684) (by decide +kernel) (by decide +kernel)⟩
def mxX9_marginByCredibility : Nat := 2
theorem kvX9_marginByCredibility : (Cond.code yX9_marginByCredibility cX9_marginByCredibility 2 (some .int) ∈ WA) ∧ (Cond.initialized yX9_marginByCredibility.cls ∈ WA) ∧ (yX9_marginByCredibility.cls ≠ "java/lang/invoke/MethodHandle" ∧ yX9_marginByCredibility.cls ≠ "java/lang/invoke/VarHandle" ∧ (parseMethodDescriptor yX9_marginByCredibility.desc).map (fun d => d.parameters.length) = some 1) := ⟨WA_of (i := 696) (by decide +kernel) (by decide +kernel), kini_CaseManager, by decide +kernel, by decide +kernel, by decide +kernel⟩
theorem kiX9_marginByCredibility : (Cond.instanceMethod yX9_marginByCredibility ∈ WA) ∧ (Cond.selects yX9_marginByCredibility.cls yX9_marginByCredibility yX9_marginByCredibility ∈ WA) := ⟨WA_of (i := 694) (by decide +kernel) (by decide +kernel), WA_of (i := 695) (by decide +kernel) (by decide +kernel)⟩
def mxX9_firmAnswersToGuilty : Nat := 4
theorem kvX9_firmAnswersToGuilty : (Cond.code yX9_firmAnswersToGuilty cX9_firmAnswersToGuilty 4 (some .int) ∈ WA) ∧ (Cond.initialized yX9_firmAnswersToGuilty.cls ∈ WA) ∧ (yX9_firmAnswersToGuilty.cls ≠ "java/lang/invoke/MethodHandle" ∧ yX9_firmAnswersToGuilty.cls ≠ "java/lang/invoke/VarHandle" ∧ (parseMethodDescriptor yX9_firmAnswersToGuilty.desc).map (fun d => d.parameters.length) = some 2) := ⟨WA_of (i := 1207) (by decide +kernel) (by decide +kernel), kini_CaseManager, by decide +kernel, by decide +kernel, by decide +kernel⟩
theorem kiX9_firmAnswersToGuilty : (Cond.instanceMethod yX9_firmAnswersToGuilty ∈ WA) ∧ (Cond.selects yX9_firmAnswersToGuilty.cls yX9_firmAnswersToGuilty yX9_firmAnswersToGuilty ∈ WA) := ⟨WA_of (i := 1205) (by decide +kernel) (by decide +kernel), WA_of (i := 1206) (by decide +kernel) (by decide +kernel)⟩
def mxX9_sentence : Nat := 2
theorem kvX9_sentence : (Cond.code yX9_sentence cX9_sentence 2 (some .int) ∈ WA) ∧ (Cond.initialized yX9_sentence.cls ∈ WA) ∧ (yX9_sentence.cls ≠ "java/lang/invoke/MethodHandle" ∧ yX9_sentence.cls ≠ "java/lang/invoke/VarHandle" ∧ (parseMethodDescriptor yX9_sentence.desc).map (fun d => d.parameters.length) = some 1) := ⟨WA_of (i := 707) (by decide +kernel) (by decide +kernel), kini_CaseManager, by decide +kernel, by decide +kernel, by decide +kernel⟩
theorem kiX9_sentence : (Cond.instanceMethod yX9_sentence ∈ WA) ∧ (Cond.selects yX9_sentence.cls yX9_sentence yX9_sentence ∈ WA) := ⟨WA_of (i := 705) (by decide +kernel) (by decide +kernel), WA_of (i := 706) (by decide +kernel) (by decide +kernel)⟩
def mxX9_sentenceByCases : Nat := 2
theorem kvX9_sentenceByCases : (Cond.code yX9_sentenceByCases cX9_sentenceByCases 2 (some .int) ∈ WA) ∧ (Cond.initialized yX9_sentenceByCases.cls ∈ WA) ∧ (yX9_sentenceByCases.cls ≠ "java/lang/invoke/MethodHandle" ∧ yX9_sentenceByCases.cls ≠ "java/lang/invoke/VarHandle" ∧ (parseMethodDescriptor yX9_sentenceByCases.desc).map (fun d => d.parameters.length) = some 1) := ⟨WA_of (i := 715) (by decide +kernel) (by decide +kernel), kini_CaseManager, by decide +kernel, by decide +kernel, by decide +kernel⟩
theorem kiX9_sentenceByCases : (Cond.instanceMethod yX9_sentenceByCases ∈ WA) ∧ (Cond.selects yX9_sentenceByCases.cls yX9_sentenceByCases yX9_sentenceByCases ∈ WA) := ⟨WA_of (i := 713) (by decide +kernel) (by decide +kernel), WA_of (i := 714) (by decide +kernel) (by decide +kernel)⟩
def mxX9_mostSentenced : Nat := 3
theorem kvX9_mostSentenced : (Cond.code yX9_mostSentenced cX9_mostSentenced 3 (some .int) ∈ WA) ∧ (Cond.initialized yX9_mostSentenced.cls ∈ WA) ∧ (yX9_mostSentenced.cls ≠ "java/lang/invoke/MethodHandle" ∧ yX9_mostSentenced.cls ≠ "java/lang/invoke/VarHandle" ∧ (parseMethodDescriptor yX9_mostSentenced.desc).map (fun d => d.parameters.length) = some 0) := ⟨WA_of (i := 728) (by decide +kernel) (by decide +kernel), kini_CaseManager, by decide +kernel, by decide +kernel, by decide +kernel⟩
theorem kiX9_mostSentenced : (Cond.instanceMethod yX9_mostSentenced ∈ WA) ∧ (Cond.selects yX9_mostSentenced.cls yX9_mostSentenced yX9_mostSentenced ∈ WA) := ⟨WA_of (i := 726) (by decide +kernel) (by decide +kernel), WA_of (i := 727) (by decide +kernel) (by decide +kernel)⟩
def mxX9_docketLength : Nat := 1
theorem kvX9_docketLength : (Cond.code yX9_docketLength cX9_docketLength 1 (some .int) ∈ WA) ∧ (Cond.initialized yX9_docketLength.cls ∈ WA) ∧ (yX9_docketLength.cls ≠ "java/lang/invoke/MethodHandle" ∧ yX9_docketLength.cls ≠ "java/lang/invoke/VarHandle" ∧ (parseMethodDescriptor yX9_docketLength.desc).map (fun d => d.parameters.length) = some 0) := ⟨WA_of (i := 732) (by decide +kernel) (by decide +kernel), kini_CaseManager, by decide +kernel, by decide +kernel, by decide +kernel⟩
theorem kiX9_docketLength : (Cond.instanceMethod yX9_docketLength ∈ WA) ∧ (Cond.selects yX9_docketLength.cls yX9_docketLength yX9_docketLength ∈ WA) := ⟨WA_of (i := 730) (by decide +kernel) (by decide +kernel), WA_of (i := 731) (by decide +kernel) (by decide +kernel)⟩
def mxX9_docketAt : Nat := 2
theorem kvX9_docketAt : (Cond.code yX9_docketAt cX9_docketAt 2 (some .int) ∈ WA) ∧ (Cond.initialized yX9_docketAt.cls ∈ WA) ∧ (yX9_docketAt.cls ≠ "java/lang/invoke/MethodHandle" ∧ yX9_docketAt.cls ≠ "java/lang/invoke/VarHandle" ∧ (parseMethodDescriptor yX9_docketAt.desc).map (fun d => d.parameters.length) = some 1) := ⟨WA_of (i := 741) (by decide +kernel) (by decide +kernel), kini_CaseManager, by decide +kernel, by decide +kernel, by decide +kernel⟩
theorem kiX9_docketAt : (Cond.instanceMethod yX9_docketAt ∈ WA) ∧ (Cond.selects yX9_docketAt.cls yX9_docketAt yX9_docketAt ∈ WA) := ⟨WA_of (i := 739) (by decide +kernel) (by decide +kernel), WA_of (i := 740) (by decide +kernel) (by decide +kernel)⟩
def mxX9_docketPosition : Nat := 2
theorem kvX9_docketPosition : (Cond.code yX9_docketPosition cX9_docketPosition 2 (some .int) ∈ WA) ∧ (Cond.initialized yX9_docketPosition.cls ∈ WA) ∧ (yX9_docketPosition.cls ≠ "java/lang/invoke/MethodHandle" ∧ yX9_docketPosition.cls ≠ "java/lang/invoke/VarHandle" ∧ (parseMethodDescriptor yX9_docketPosition.desc).map (fun d => d.parameters.length) = some 1) := ⟨WA_of (i := 761) (by decide +kernel) (by decide +kernel), kini_CaseManager, by decide +kernel, by decide +kernel, by decide +kernel⟩
theorem kiX9_docketPosition : (Cond.instanceMethod yX9_docketPosition ∈ WA) ∧ (Cond.selects yX9_docketPosition.cls yX9_docketPosition yX9_docketPosition ∈ WA) := ⟨WA_of (i := 759) (by decide +kernel) (by decide +kernel), WA_of (i := 760) (by decide +kernel) (by decide +kernel)⟩
def mxX9_closedCount : Nat := 1
theorem kvX9_closedCount : (Cond.code yX9_closedCount cX9_closedCount 1 (some .int) ∈ WA) ∧ (Cond.initialized yX9_closedCount.cls ∈ WA) ∧ (yX9_closedCount.cls ≠ "java/lang/invoke/MethodHandle" ∧ yX9_closedCount.cls ≠ "java/lang/invoke/VarHandle" ∧ (parseMethodDescriptor yX9_closedCount.desc).map (fun d => d.parameters.length) = some 0) := ⟨WA_of (i := 786) (by decide +kernel) (by decide +kernel), kini_CaseManager, by decide +kernel, by decide +kernel, by decide +kernel⟩
theorem kiX9_closedCount : (Cond.instanceMethod yX9_closedCount ∈ WA) ∧ (Cond.selects yX9_closedCount.cls yX9_closedCount yX9_closedCount ∈ WA) := ⟨WA_of (i := 784) (by decide +kernel) (by decide +kernel), WA_of (i := 785) (by decide +kernel) (by decide +kernel)⟩
def mxX9_guiltyCount : Nat := 1
theorem kvX9_guiltyCount : (Cond.code yX9_guiltyCount cX9_guiltyCount 1 (some .int) ∈ WA) ∧ (Cond.initialized yX9_guiltyCount.cls ∈ WA) ∧ (yX9_guiltyCount.cls ≠ "java/lang/invoke/MethodHandle" ∧ yX9_guiltyCount.cls ≠ "java/lang/invoke/VarHandle" ∧ (parseMethodDescriptor yX9_guiltyCount.desc).map (fun d => d.parameters.length) = some 0) := ⟨WA_of (i := 790) (by decide +kernel) (by decide +kernel), kini_CaseManager, by decide +kernel, by decide +kernel, by decide +kernel⟩
theorem kiX9_guiltyCount : (Cond.instanceMethod yX9_guiltyCount ∈ WA) ∧ (Cond.selects yX9_guiltyCount.cls yX9_guiltyCount yX9_guiltyCount ∈ WA) := ⟨WA_of (i := 788) (by decide +kernel) (by decide +kernel), WA_of (i := 789) (by decide +kernel) (by decide +kernel)⟩
def mxX9_decisionCount : Nat := 1
theorem kvX9_decisionCount : (Cond.code yX9_decisionCount cX9_decisionCount 1 (some .int) ∈ WA) ∧ (Cond.initialized yX9_decisionCount.cls ∈ WA) ∧ (yX9_decisionCount.cls ≠ "java/lang/invoke/MethodHandle" ∧ yX9_decisionCount.cls ≠ "java/lang/invoke/VarHandle" ∧ (parseMethodDescriptor yX9_decisionCount.desc).map (fun d => d.parameters.length) = some 0) := ⟨WA_of (i := 798) (by decide +kernel) (by decide +kernel), kini_CaseManager, by decide +kernel, by decide +kernel, by decide +kernel⟩
theorem kiX9_decisionCount : (Cond.instanceMethod yX9_decisionCount ∈ WA) ∧ (Cond.selects yX9_decisionCount.cls yX9_decisionCount yX9_decisionCount ∈ WA) := ⟨WA_of (i := 796) (by decide +kernel) (by decide +kernel), WA_of (i := 797) (by decide +kernel) (by decide +kernel)⟩
def mxX9_meanCredibility : Nat := 1
theorem kvX9_meanCredibility : (Cond.code yX9_meanCredibility cX9_meanCredibility 1 (some .double) ∈ WA) ∧ (Cond.initialized yX9_meanCredibility.cls ∈ WA) ∧ (yX9_meanCredibility.cls ≠ "java/lang/invoke/MethodHandle" ∧ yX9_meanCredibility.cls ≠ "java/lang/invoke/VarHandle" ∧ (parseMethodDescriptor yX9_meanCredibility.desc).map (fun d => d.parameters.length) = some 0) := ⟨WA_of (i := 802) (by decide +kernel) (by decide +kernel), kini_CaseManager, by decide +kernel, by decide +kernel, by decide +kernel⟩
theorem kiX9_meanCredibility : (Cond.instanceMethod yX9_meanCredibility ∈ WA) ∧ (Cond.selects yX9_meanCredibility.cls yX9_meanCredibility yX9_meanCredibility ∈ WA) := ⟨WA_of (i := 800) (by decide +kernel) (by decide +kernel), WA_of (i := 801) (by decide +kernel) (by decide +kernel)⟩
def mxX9_guiltyShare : Nat := 2
theorem kvX9_guiltyShare : (Cond.code yX9_guiltyShare cX9_guiltyShare 2 (some .float) ∈ WA) ∧ (Cond.initialized yX9_guiltyShare.cls ∈ WA) ∧ (yX9_guiltyShare.cls ≠ "java/lang/invoke/MethodHandle" ∧ yX9_guiltyShare.cls ≠ "java/lang/invoke/VarHandle" ∧ (parseMethodDescriptor yX9_guiltyShare.desc).map (fun d => d.parameters.length) = some 0) := ⟨WA_of (i := 826) (by decide +kernel) (by decide +kernel), kini_CaseManager, by decide +kernel, by decide +kernel, by decide +kernel⟩
theorem kiX9_guiltyShare : (Cond.instanceMethod yX9_guiltyShare ∈ WA) ∧ (Cond.selects yX9_guiltyShare.cls yX9_guiltyShare yX9_guiltyShare ∈ WA) := ⟨WA_of (i := 824) (by decide +kernel) (by decide +kernel), WA_of (i := 825) (by decide +kernel) (by decide +kernel)⟩
def mxX9_isConsistent : Nat := 1
theorem kvX9_isConsistent : (Cond.code yX9_isConsistent cX9_isConsistent 1 (some .boolean) ∈ WA) ∧ (Cond.initialized yX9_isConsistent.cls ∈ WA) ∧ (yX9_isConsistent.cls ≠ "java/lang/invoke/MethodHandle" ∧ yX9_isConsistent.cls ≠ "java/lang/invoke/VarHandle" ∧ (parseMethodDescriptor yX9_isConsistent.desc).map (fun d => d.parameters.length) = some 0) := ⟨WA_of (i := 831) (by decide +kernel) (by decide +kernel), kini_CaseManager, by decide +kernel, by decide +kernel, by decide +kernel⟩
theorem kiX9_isConsistent : (Cond.instanceMethod yX9_isConsistent ∈ WA) ∧ (Cond.selects yX9_isConsistent.cls yX9_isConsistent yX9_isConsistent ∈ WA) := ⟨WA_of (i := 829) (by decide +kernel) (by decide +kernel), WA_of (i := 830) (by decide +kernel) (by decide +kernel)⟩
def mxX9_formatCase : Nat := 3
theorem kvX9_formatCase : (Cond.code yX9_formatCase cX9_formatCase 3 (some .int) ∈ WA) ∧ (Cond.initialized yX9_formatCase.cls ∈ WA) ∧ (yX9_formatCase.cls ≠ "java/lang/invoke/MethodHandle" ∧ yX9_formatCase.cls ≠ "java/lang/invoke/VarHandle" ∧ (parseMethodDescriptor yX9_formatCase.desc).map (fun d => d.parameters.length) = some 1) := ⟨WA_of (i := 855) (by decide +kernel) (by decide +kernel), kini_CaseManager, by decide +kernel, by decide +kernel, by decide +kernel⟩
theorem kiX9_formatCase : (Cond.instanceMethod yX9_formatCase ∈ WA) ∧ (Cond.selects yX9_formatCase.cls yX9_formatCase yX9_formatCase ∈ WA) := ⟨WA_of (i := 853) (by decide +kernel) (by decide +kernel), WA_of (i := 854) (by decide +kernel) (by decide +kernel)⟩
def mxX9_formatWitness : Nat := 2
theorem kvX9_formatWitness : (Cond.code yX9_formatWitness cX9_formatWitness 2 (some .int) ∈ WA) ∧ (Cond.initialized yX9_formatWitness.cls ∈ WA) ∧ (yX9_formatWitness.cls ≠ "java/lang/invoke/MethodHandle" ∧ yX9_formatWitness.cls ≠ "java/lang/invoke/VarHandle" ∧ (parseMethodDescriptor yX9_formatWitness.desc).map (fun d => d.parameters.length) = some 1) := ⟨WA_of (i := 1167) (by decide +kernel) (by decide +kernel), kini_CaseManager, by decide +kernel, by decide +kernel, by decide +kernel⟩
theorem kiX9_formatWitness : (Cond.instanceMethod yX9_formatWitness ∈ WA) ∧ (Cond.selects yX9_formatWitness.cls yX9_formatWitness yX9_formatWitness ∈ WA) := ⟨WA_of (i := 1165) (by decide +kernel) (by decide +kernel), WA_of (i := 1166) (by decide +kernel) (by decide +kernel)⟩
def mxX9_lineChar : Nat := 2
theorem kvX9_lineChar : (Cond.code yX9_lineChar cX9_lineChar 2 (some .char) ∈ WA) ∧ (Cond.initialized yX9_lineChar.cls ∈ WA) ∧ (yX9_lineChar.cls ≠ "java/lang/invoke/MethodHandle" ∧ yX9_lineChar.cls ≠ "java/lang/invoke/VarHandle" ∧ (parseMethodDescriptor yX9_lineChar.desc).map (fun d => d.parameters.length) = some 1) := ⟨WA_of (i := 1430) (by decide +kernel) (by decide +kernel), kini_CaseManager, by decide +kernel, by decide +kernel, by decide +kernel⟩
theorem kiX9_lineChar : (Cond.instanceMethod yX9_lineChar ∈ WA) ∧ (Cond.selects yX9_lineChar.cls yX9_lineChar yX9_lineChar ∈ WA) := ⟨WA_of (i := 1428) (by decide +kernel) (by decide +kernel), WA_of (i := 1429) (by decide +kernel) (by decide +kernel)⟩
def mxX9_change : Nat := 6
theorem kvX9_change : (Cond.code yX9_change cX9_change 6 (some .int) ∈ WA) ∧ (Cond.initialized yX9_change.cls ∈ WA) ∧ (yX9_change.cls ≠ "java/lang/invoke/MethodHandle" ∧ yX9_change.cls ≠ "java/lang/invoke/VarHandle" ∧ (parseMethodDescriptor yX9_change.desc).map (fun d => d.parameters.length) = some 5) := ⟨WA_of (i := 1248) (by decide +kernel) (by decide +kernel), kini_CaseManager, by decide +kernel, by decide +kernel, by decide +kernel⟩
theorem kiX9_change : (Cond.instanceMethod yX9_change ∈ WA) ∧ (Cond.selects yX9_change.cls yX9_change yX9_change ∈ WA) := ⟨WA_of (i := 1247) (by decide +kernel) (by decide +kernel), WA_of (i := 17) (by decide +kernel) (by decide +kernel)⟩
def mxX9_refuse : Nat := 1
theorem kvX9_refuse : (Cond.code yX9_refuse cX9_refuse 1 none ∈ WA) ∧ (Cond.initialized yX9_refuse.cls ∈ WA) ∧ (yX9_refuse.cls ≠ "java/lang/invoke/MethodHandle" ∧ yX9_refuse.cls ≠ "java/lang/invoke/VarHandle" ∧ (parseMethodDescriptor yX9_refuse.desc).map (fun d => d.parameters.length) = some 1) := ⟨WA_of (i := 1295) (by decide +kernel) (by decide +kernel), kini_CaseManager, by decide +kernel, by decide +kernel, by decide +kernel⟩
theorem ksX9_refuse : Cond.static yX9_refuse ∈ WA := WA_of (i := 1294) (by decide +kernel) (by decide +kernel)
def mxX9_needCase : Nat := 2
theorem kvX9_needCase : (Cond.code yX9_needCase cX9_needCase 2 none ∈ WA) ∧ (Cond.initialized yX9_needCase.cls ∈ WA) ∧ (yX9_needCase.cls ≠ "java/lang/invoke/MethodHandle" ∧ yX9_needCase.cls ≠ "java/lang/invoke/VarHandle" ∧ (parseMethodDescriptor yX9_needCase.desc).map (fun d => d.parameters.length) = some 1) := ⟨WA_of (i := 447) (by decide +kernel) (by decide +kernel), kini_CaseManager, by decide +kernel, by decide +kernel, by decide +kernel⟩
theorem kiX9_needCase : (Cond.instanceMethod yX9_needCase ∈ WA) ∧ (Cond.selects yX9_needCase.cls yX9_needCase yX9_needCase ∈ WA) := ⟨WA_of (i := 446) (by decide +kernel) (by decide +kernel), WA_of (i := 1) (by decide +kernel) (by decide +kernel)⟩
def mxX9_needWitness : Nat := 2
theorem kvX9_needWitness : (Cond.code yX9_needWitness cX9_needWitness 2 none ∈ WA) ∧ (Cond.initialized yX9_needWitness.cls ∈ WA) ∧ (yX9_needWitness.cls ≠ "java/lang/invoke/MethodHandle" ∧ yX9_needWitness.cls ≠ "java/lang/invoke/VarHandle" ∧ (parseMethodDescriptor yX9_needWitness.desc).map (fun d => d.parameters.length) = some 1) := ⟨WA_of (i := 513) (by decide +kernel) (by decide +kernel), kini_CaseManager, by decide +kernel, by decide +kernel, by decide +kernel⟩
theorem kiX9_needWitness : (Cond.instanceMethod yX9_needWitness ∈ WA) ∧ (Cond.selects yX9_needWitness.cls yX9_needWitness yX9_needWitness ∈ WA) := ⟨WA_of (i := 512) (by decide +kernel) (by decide +kernel), WA_of (i := 2) (by decide +kernel) (by decide +kernel)⟩
def mxX9_needTestimony : Nat := 3
theorem kvX9_needTestimony : (Cond.code yX9_needTestimony cX9_needTestimony 3 none ∈ WA) ∧ (Cond.initialized yX9_needTestimony.cls ∈ WA) ∧ (yX9_needTestimony.cls ≠ "java/lang/invoke/MethodHandle" ∧ yX9_needTestimony.cls ≠ "java/lang/invoke/VarHandle" ∧ (parseMethodDescriptor yX9_needTestimony.desc).map (fun d => d.parameters.length) = some 2) := ⟨WA_of (i := 533) (by decide +kernel) (by decide +kernel), kini_CaseManager, by decide +kernel, by decide +kernel, by decide +kernel⟩
theorem kiX9_needTestimony : (Cond.instanceMethod yX9_needTestimony ∈ WA) ∧ (Cond.selects yX9_needTestimony.cls yX9_needTestimony yX9_needTestimony ∈ WA) := ⟨WA_of (i := 532) (by decide +kernel) (by decide +kernel), WA_of (i := 3) (by decide +kernel) (by decide +kernel)⟩
def mxX9_needDefendant : Nat := 1
theorem kvX9_needDefendant : (Cond.code yX9_needDefendant cX9_needDefendant 1 none ∈ WA) ∧ (Cond.initialized yX9_needDefendant.cls ∈ WA) ∧ (yX9_needDefendant.cls ≠ "java/lang/invoke/MethodHandle" ∧ yX9_needDefendant.cls ≠ "java/lang/invoke/VarHandle" ∧ (parseMethodDescriptor yX9_needDefendant.desc).map (fun d => d.parameters.length) = some 1) := ⟨WA_of (i := 710) (by decide +kernel) (by decide +kernel), kini_CaseManager, by decide +kernel, by decide +kernel, by decide +kernel⟩
theorem ksX9_needDefendant : Cond.static yX9_needDefendant ∈ WA := WA_of (i := 709) (by decide +kernel) (by decide +kernel)
def mxX9_isDefendant : Nat := 1
theorem kvX9_isDefendant : (Cond.code yX9_isDefendant cX9_isDefendant 1 (some .boolean) ∈ WA) ∧ (Cond.initialized yX9_isDefendant.cls ∈ WA) ∧ (yX9_isDefendant.cls ≠ "java/lang/invoke/MethodHandle" ∧ yX9_isDefendant.cls ≠ "java/lang/invoke/VarHandle" ∧ (parseMethodDescriptor yX9_isDefendant.desc).map (fun d => d.parameters.length) = some 1) := ⟨WA_of (i := 341) (by decide +kernel) (by decide +kernel), kini_CaseManager, by decide +kernel, by decide +kernel, by decide +kernel⟩
theorem ksX9_isDefendant : Cond.static yX9_isDefendant ∈ WA := WA_of (i := 340) (by decide +kernel) (by decide +kernel)
def mxX9_isOffence : Nat := 1
theorem kvX9_isOffence : (Cond.code yX9_isOffence cX9_isOffence 1 (some .boolean) ∈ WA) ∧ (Cond.initialized yX9_isOffence.cls ∈ WA) ∧ (yX9_isOffence.cls ≠ "java/lang/invoke/MethodHandle" ∧ yX9_isOffence.cls ≠ "java/lang/invoke/VarHandle" ∧ (parseMethodDescriptor yX9_isOffence.desc).map (fun d => d.parameters.length) = some 1) := ⟨WA_of (i := 344) (by decide +kernel) (by decide +kernel), kini_CaseManager, by decide +kernel, by decide +kernel, by decide +kernel⟩
theorem ksX9_isOffence : Cond.static yX9_isOffence ∈ WA := WA_of (i := 343) (by decide +kernel) (by decide +kernel)
def mxX9_writeHead : Nat := 2
theorem kvX9_writeHead : (Cond.code yX9_writeHead cX9_writeHead 2 none ∈ WA) ∧ (Cond.initialized yX9_writeHead.cls ∈ WA) ∧ (yX9_writeHead.cls ≠ "java/lang/invoke/MethodHandle" ∧ yX9_writeHead.cls ≠ "java/lang/invoke/VarHandle" ∧ (parseMethodDescriptor yX9_writeHead.desc).map (fun d => d.parameters.length) = some 1) := ⟨WA_of (i := 1134) (by decide +kernel) (by decide +kernel), kini_CaseManager, by decide +kernel, by decide +kernel, by decide +kernel⟩
theorem kiX9_writeHead : (Cond.instanceMethod yX9_writeHead ∈ WA) ∧ (Cond.selects yX9_writeHead.cls yX9_writeHead yX9_writeHead ∈ WA) := ⟨WA_of (i := 1133) (by decide +kernel) (by decide +kernel), WA_of (i := 15) (by decide +kernel) (by decide +kernel)⟩
def mxX9_writeTestimony : Nat := 3
theorem kvX9_writeTestimony : (Cond.code yX9_writeTestimony cX9_writeTestimony 3 none ∈ WA) ∧ (Cond.initialized yX9_writeTestimony.cls ∈ WA) ∧ (yX9_writeTestimony.cls ≠ "java/lang/invoke/MethodHandle" ∧ yX9_writeTestimony.cls ≠ "java/lang/invoke/VarHandle" ∧ (parseMethodDescriptor yX9_writeTestimony.desc).map (fun d => d.parameters.length) = some 2) := ⟨WA_of (i := 1162) (by decide +kernel) (by decide +kernel), kini_CaseManager, by decide +kernel, by decide +kernel, by decide +kernel⟩
theorem kiX9_writeTestimony : (Cond.instanceMethod yX9_writeTestimony ∈ WA) ∧ (Cond.selects yX9_writeTestimony.cls yX9_writeTestimony yX9_writeTestimony ∈ WA) := ⟨WA_of (i := 1161) (by decide +kernel) (by decide +kernel), WA_of (i := 16) (by decide +kernel) (by decide +kernel)⟩
def mxX9_doMarginsAgree : Nat := 2
theorem kvX9_doMarginsAgree : (Cond.code yX9_doMarginsAgree cX9_doMarginsAgree 2 (some .boolean) ∈ WA) ∧ (Cond.initialized yX9_doMarginsAgree.cls ∈ WA) ∧ (yX9_doMarginsAgree.cls ≠ "java/lang/invoke/MethodHandle" ∧ yX9_doMarginsAgree.cls ≠ "java/lang/invoke/VarHandle" ∧ (parseMethodDescriptor yX9_doMarginsAgree.desc).map (fun d => d.parameters.length) = some 0) := ⟨WA_of (i := 835) (by decide +kernel) (by decide +kernel), kini_CaseManager, by decide +kernel, by decide +kernel, by decide +kernel⟩
theorem kiX9_doMarginsAgree : (Cond.instanceMethod yX9_doMarginsAgree ∈ WA) ∧ (Cond.selects yX9_doMarginsAgree.cls yX9_doMarginsAgree yX9_doMarginsAgree ∈ WA) := ⟨WA_of (i := 834) (by decide +kernel) (by decide +kernel), WA_of (i := 11) (by decide +kernel) (by decide +kernel)⟩
def mxX9_doSentencesAgree : Nat := 2
theorem kvX9_doSentencesAgree : (Cond.code yX9_doSentencesAgree cX9_doSentencesAgree 2 (some .boolean) ∈ WA) ∧ (Cond.initialized yX9_doSentencesAgree.cls ∈ WA) ∧ (yX9_doSentencesAgree.cls ≠ "java/lang/invoke/MethodHandle" ∧ yX9_doSentencesAgree.cls ≠ "java/lang/invoke/VarHandle" ∧ (parseMethodDescriptor yX9_doSentencesAgree.desc).map (fun d => d.parameters.length) = some 0) := ⟨WA_of (i := 839) (by decide +kernel) (by decide +kernel), kini_CaseManager, by decide +kernel, by decide +kernel, by decide +kernel⟩
theorem kiX9_doSentencesAgree : (Cond.instanceMethod yX9_doSentencesAgree ∈ WA) ∧ (Cond.selects yX9_doSentencesAgree.cls yX9_doSentencesAgree yX9_doSentencesAgree ∈ WA) := ⟨WA_of (i := 838) (by decide +kernel) (by decide +kernel), WA_of (i := 12) (by decide +kernel) (by decide +kernel)⟩
def mxX9_doConnectionsAgree : Nat := 3
theorem kvX9_doConnectionsAgree : (Cond.code yX9_doConnectionsAgree cX9_doConnectionsAgree 3 (some .boolean) ∈ WA) ∧ (Cond.initialized yX9_doConnectionsAgree.cls ∈ WA) ∧ (yX9_doConnectionsAgree.cls ≠ "java/lang/invoke/MethodHandle" ∧ yX9_doConnectionsAgree.cls ≠ "java/lang/invoke/VarHandle" ∧ (parseMethodDescriptor yX9_doConnectionsAgree.desc).map (fun d => d.parameters.length) = some 0) := ⟨WA_of (i := 843) (by decide +kernel) (by decide +kernel), kini_CaseManager, by decide +kernel, by decide +kernel, by decide +kernel⟩
theorem kiX9_doConnectionsAgree : (Cond.instanceMethod yX9_doConnectionsAgree ∈ WA) ∧ (Cond.selects yX9_doConnectionsAgree.cls yX9_doConnectionsAgree yX9_doConnectionsAgree ∈ WA) := ⟨WA_of (i := 842) (by decide +kernel) (by decide +kernel), WA_of (i := 13) (by decide +kernel) (by decide +kernel)⟩
def mxX9_doesDocketAgree : Nat := 2
theorem kvX9_doesDocketAgree : (Cond.code yX9_doesDocketAgree cX9_doesDocketAgree 2 (some .boolean) ∈ WA) ∧ (Cond.initialized yX9_doesDocketAgree.cls ∈ WA) ∧ (yX9_doesDocketAgree.cls ≠ "java/lang/invoke/MethodHandle" ∧ yX9_doesDocketAgree.cls ≠ "java/lang/invoke/VarHandle" ∧ (parseMethodDescriptor yX9_doesDocketAgree.desc).map (fun d => d.parameters.length) = some 0) := ⟨WA_of (i := 847) (by decide +kernel) (by decide +kernel), kini_CaseManager, by decide +kernel, by decide +kernel, by decide +kernel⟩
theorem kiX9_doesDocketAgree : (Cond.instanceMethod yX9_doesDocketAgree ∈ WA) ∧ (Cond.selects yX9_doesDocketAgree.cls yX9_doesDocketAgree yX9_doesDocketAgree ∈ WA) := ⟨WA_of (i := 846) (by decide +kernel) (by decide +kernel), WA_of (i := 14) (by decide +kernel) (by decide +kernel)⟩
def mxJ5_init_d00df : Nat := 2
theorem kvJ5_init_d00df : (Cond.code yJ5_init_d00df cJ5_init_d00df 2 none ∈ WA) ∧ (Cond.initialized yJ5_init_d00df.cls ∈ WA) ∧ (yJ5_init_d00df.cls ≠ "java/lang/invoke/MethodHandle" ∧ yJ5_init_d00df.cls ≠ "java/lang/invoke/VarHandle" ∧ (parseMethodDescriptor yJ5_init_d00df.desc).map (fun d => d.parameters.length) = some 1) := ⟨WA_of (i := 239) (by decide +kernel) (by decide +kernel), kini_java_lang_AbstractStringBuilder, by decide +kernel, by decide +kernel, by decide +kernel⟩
theorem kiiJ5_init_d00df : Cond.instanceMethod yJ5_init_d00df ∈ WA := WA_of (i := 238) (by decide +kernel) (by decide +kernel)
def mxJ5_length_8abf5 : Nat := 1
theorem kvJ5_length_8abf5 : (Cond.code yJ5_length_8abf5 cJ5_length_8abf5 1 (some .int) ∈ WA) ∧ (Cond.initialized yJ5_length_8abf5.cls ∈ WA) ∧ (yJ5_length_8abf5.cls ≠ "java/lang/invoke/MethodHandle" ∧ yJ5_length_8abf5.cls ≠ "java/lang/invoke/VarHandle" ∧ (parseMethodDescriptor yJ5_length_8abf5.desc).map (fun d => d.parameters.length) = some 0) := ⟨WA_of (i := 1041) (by decide +kernel) (by decide +kernel), kini_java_lang_AbstractStringBuilder, by decide +kernel, by decide +kernel, by decide +kernel⟩
theorem kiiJ5_length_8abf5 : Cond.instanceMethod yJ5_length_8abf5 ∈ WA := WA_of (i := 1035) (by decide +kernel) (by decide +kernel)
def mxJ5_ensureCapacityInternal_d00df : Nat := 3
theorem kvJ5_ensureCapacityInternal_d00df : (Cond.code yJ5_ensureCapacityInternal_d00df cJ5_ensureCapacityInternal_d00df 3 none ∈ WA) ∧ (Cond.initialized yJ5_ensureCapacityInternal_d00df.cls ∈ WA) ∧ (yJ5_ensureCapacityInternal_d00df.cls ≠ "java/lang/invoke/MethodHandle" ∧ yJ5_ensureCapacityInternal_d00df.cls ≠ "java/lang/invoke/VarHandle" ∧ (parseMethodDescriptor yJ5_ensureCapacityInternal_d00df.desc).map (fun d => d.parameters.length) = some 1) := ⟨WA_of (i := 885) (by decide +kernel) (by decide +kernel), kini_java_lang_AbstractStringBuilder, by decide +kernel, by decide +kernel, by decide +kernel⟩
theorem kiiJ5_ensureCapacityInternal_d00df : Cond.instanceMethod yJ5_ensureCapacityInternal_d00df ∈ WA := WA_of (i := 884) (by decide +kernel) (by decide +kernel)
def mxJ5_newCapacity_0f7a4 : Nat := 6
theorem kvJ5_newCapacity_0f7a4 : (Cond.code yJ5_newCapacity_0f7a4 cJ5_newCapacity_0f7a4 6 (some .int) ∈ WA) ∧ (Cond.initialized yJ5_newCapacity_0f7a4.cls ∈ WA) ∧ (yJ5_newCapacity_0f7a4.cls ≠ "java/lang/invoke/MethodHandle" ∧ yJ5_newCapacity_0f7a4.cls ≠ "java/lang/invoke/VarHandle" ∧ (parseMethodDescriptor yJ5_newCapacity_0f7a4.desc).map (fun d => d.parameters.length) = some 1) := ⟨WA_of (i := 889) (by decide +kernel) (by decide +kernel), kini_java_lang_AbstractStringBuilder, by decide +kernel, by decide +kernel, by decide +kernel⟩
theorem kiiJ5_newCapacity_0f7a4 : Cond.instanceMethod yJ5_newCapacity_0f7a4 ∈ WA := WA_of (i := 888) (by decide +kernel) (by decide +kernel)
def mxJ5_inflate_da8c8 : Nat := 2
theorem kvJ5_inflate_da8c8 : (Cond.code yJ5_inflate_da8c8 cJ5_inflate_da8c8 2 none ∈ WA) ∧ (Cond.initialized yJ5_inflate_da8c8.cls ∈ WA) ∧ (yJ5_inflate_da8c8.cls ≠ "java/lang/invoke/MethodHandle" ∧ yJ5_inflate_da8c8.cls ≠ "java/lang/invoke/VarHandle" ∧ (parseMethodDescriptor yJ5_inflate_da8c8.desc).map (fun d => d.parameters.length) = some 0) := ⟨WA_of (i := 969) (by decide +kernel) (by decide +kernel), kini_java_lang_AbstractStringBuilder, by decide +kernel, by decide +kernel, by decide +kernel⟩
theorem kiiJ5_inflate_da8c8 : Cond.instanceMethod yJ5_inflate_da8c8 ∈ WA := WA_of (i := 968) (by decide +kernel) (by decide +kernel)
def mxJ5_setLength_d00df : Nat := 2
theorem kvJ5_setLength_d00df : (Cond.code yJ5_setLength_d00df cJ5_setLength_d00df 2 none ∈ WA) ∧ (Cond.initialized yJ5_setLength_d00df.cls ∈ WA) ∧ (yJ5_setLength_d00df.cls ≠ "java/lang/invoke/MethodHandle" ∧ yJ5_setLength_d00df.cls ≠ "java/lang/invoke/VarHandle" ∧ (parseMethodDescriptor yJ5_setLength_d00df.desc).map (fun d => d.parameters.length) = some 1) := ⟨WA_of (i := 862) (by decide +kernel) (by decide +kernel), kini_java_lang_AbstractStringBuilder, by decide +kernel, by decide +kernel, by decide +kernel⟩
theorem kiiJ5_setLength_d00df : Cond.instanceMethod yJ5_setLength_d00df ∈ WA := WA_of (i := 861) (by decide +kernel) (by decide +kernel)
def mxJ5_charAt_5068e : Nat := 5
theorem kvJ5_charAt_5068e : (Cond.code yJ5_charAt_5068e cJ5_charAt_5068e 5 (some .char) ∈ WA) ∧ (Cond.initialized yJ5_charAt_5068e.cls ∈ WA) ∧ (yJ5_charAt_5068e.cls ≠ "java/lang/invoke/MethodHandle" ∧ yJ5_charAt_5068e.cls ≠ "java/lang/invoke/VarHandle" ∧ (parseMethodDescriptor yJ5_charAt_5068e.desc).map (fun d => d.parameters.length) = some 1) := ⟨WA_of (i := 1438) (by decide +kernel) (by decide +kernel), kini_java_lang_AbstractStringBuilder, by decide +kernel, by decide +kernel, by decide +kernel⟩
theorem kiiJ5_charAt_5068e : Cond.instanceMethod yJ5_charAt_5068e ∈ WA := WA_of (i := 1437) (by decide +kernel) (by decide +kernel)
def mxJ5_append_cf1ce : Nat := 3
theorem kvJ5_append_cf1ce : (Cond.code yJ5_append_cf1ce cJ5_append_cf1ce 3 (some (.object "java/lang/AbstractStringBuilder")) ∈ WA) ∧ (Cond.initialized yJ5_append_cf1ce.cls ∈ WA) ∧ (yJ5_append_cf1ce.cls ≠ "java/lang/invoke/MethodHandle" ∧ yJ5_append_cf1ce.cls ≠ "java/lang/invoke/VarHandle" ∧ (parseMethodDescriptor yJ5_append_cf1ce.desc).map (fun d => d.parameters.length) = some 1) := ⟨WA_of (i := 877) (by decide +kernel) (by decide +kernel), kini_java_lang_AbstractStringBuilder, by decide +kernel, by decide +kernel, by decide +kernel⟩
theorem kiiJ5_append_cf1ce : Cond.instanceMethod yJ5_append_cf1ce ∈ WA := WA_of (i := 876) (by decide +kernel) (by decide +kernel)
def mxJ5_appendNull_278bc : Nat := 3
theorem kvJ5_appendNull_278bc : (Cond.code yJ5_appendNull_278bc cJ5_appendNull_278bc 3 (some (.object "java/lang/AbstractStringBuilder")) ∈ WA) ∧ (Cond.initialized yJ5_appendNull_278bc.cls ∈ WA) ∧ (yJ5_appendNull_278bc.cls ≠ "java/lang/invoke/MethodHandle" ∧ yJ5_appendNull_278bc.cls ≠ "java/lang/invoke/VarHandle" ∧ (parseMethodDescriptor yJ5_appendNull_278bc.desc).map (fun d => d.parameters.length) = some 0) := ⟨WA_of (i := 881) (by decide +kernel) (by decide +kernel), kini_java_lang_AbstractStringBuilder, by decide +kernel, by decide +kernel, by decide +kernel⟩
theorem kiiJ5_appendNull_278bc : Cond.instanceMethod yJ5_appendNull_278bc ∈ WA := WA_of (i := 880) (by decide +kernel) (by decide +kernel)
def mxJ5_append_3fe6f : Nat := 2
theorem kvJ5_append_3fe6f : (Cond.code yJ5_append_3fe6f cJ5_append_3fe6f 2 (some (.object "java/lang/AbstractStringBuilder")) ∈ WA) ∧ (Cond.initialized yJ5_append_3fe6f.cls ∈ WA) ∧ (yJ5_append_3fe6f.cls ≠ "java/lang/invoke/MethodHandle" ∧ yJ5_append_3fe6f.cls ≠ "java/lang/invoke/VarHandle" ∧ (parseMethodDescriptor yJ5_append_3fe6f.desc).map (fun d => d.parameters.length) = some 1) := ⟨WA_of (i := 1142) (by decide +kernel) (by decide +kernel), kini_java_lang_AbstractStringBuilder, by decide +kernel, by decide +kernel, by decide +kernel⟩
theorem kiiJ5_append_3fe6f : Cond.instanceMethod yJ5_append_3fe6f ∈ WA := WA_of (i := 1141) (by decide +kernel) (by decide +kernel)
def mxJ5_append_c97b9 : Nat := 4
theorem kvJ5_append_c97b9 : (Cond.code yJ5_append_c97b9 cJ5_append_c97b9 4 (some (.object "java/lang/AbstractStringBuilder")) ∈ WA) ∧ (Cond.initialized yJ5_append_c97b9.cls ∈ WA) ∧ (yJ5_append_c97b9.cls ≠ "java/lang/invoke/MethodHandle" ∧ yJ5_append_c97b9.cls ≠ "java/lang/invoke/VarHandle" ∧ (parseMethodDescriptor yJ5_append_c97b9.desc).map (fun d => d.parameters.length) = some 1) := ⟨WA_of (i := 997) (by decide +kernel) (by decide +kernel), kini_java_lang_AbstractStringBuilder, by decide +kernel, by decide +kernel, by decide +kernel⟩
theorem kiiJ5_append_c97b9 : Cond.instanceMethod yJ5_append_c97b9 ∈ WA := WA_of (i := 996) (by decide +kernel) (by decide +kernel)
def mxJ5_getValue_6d5f1 : Nat := 1
theorem kvJ5_getValue_6d5f1 : (Cond.code yJ5_getValue_6d5f1 cJ5_getValue_6d5f1 1 (some (.array .byte)) ∈ WA) ∧ (Cond.initialized yJ5_getValue_6d5f1.cls ∈ WA) ∧ (yJ5_getValue_6d5f1.cls ≠ "java/lang/invoke/MethodHandle" ∧ yJ5_getValue_6d5f1.cls ≠ "java/lang/invoke/VarHandle" ∧ (parseMethodDescriptor yJ5_getValue_6d5f1.desc).map (fun d => d.parameters.length) = some 0) := ⟨WA_of (i := 1033) (by decide +kernel) (by decide +kernel), kini_java_lang_AbstractStringBuilder, by decide +kernel, by decide +kernel, by decide +kernel⟩
theorem kiiJ5_getValue_6d5f1 : Cond.instanceMethod yJ5_getValue_6d5f1 ∈ WA := WA_of (i := 1030) (by decide +kernel) (by decide +kernel)
def mxJ5_isLatin1_aae02 : Nat := 1
theorem kvJ5_isLatin1_aae02 : (Cond.code yJ5_isLatin1_aae02 cJ5_isLatin1_aae02 1 (some .boolean) ∈ WA) ∧ (Cond.initialized yJ5_isLatin1_aae02.cls ∈ WA) ∧ (yJ5_isLatin1_aae02.cls ≠ "java/lang/invoke/MethodHandle" ∧ yJ5_isLatin1_aae02.cls ≠ "java/lang/invoke/VarHandle" ∧ (parseMethodDescriptor yJ5_isLatin1_aae02.desc).map (fun d => d.parameters.length) = some 0) := ⟨WA_of (i := 921) (by decide +kernel) (by decide +kernel), kini_java_lang_AbstractStringBuilder, by decide +kernel, by decide +kernel, by decide +kernel⟩
theorem kiiJ5_isLatin1_aae02 : Cond.instanceMethod yJ5_isLatin1_aae02 ∈ WA := WA_of (i := 918) (by decide +kernel) (by decide +kernel)
def mxJ5_inflateIfNeededFor_a7421 : Nat := 2
theorem kvJ5_inflateIfNeededFor_a7421 : (Cond.code yJ5_inflateIfNeededFor_a7421 cJ5_inflateIfNeededFor_a7421 2 none ∈ WA) ∧ (Cond.initialized yJ5_inflateIfNeededFor_a7421.cls ∈ WA) ∧ (yJ5_inflateIfNeededFor_a7421.cls ≠ "java/lang/invoke/MethodHandle" ∧ yJ5_inflateIfNeededFor_a7421.cls ≠ "java/lang/invoke/VarHandle" ∧ (parseMethodDescriptor yJ5_inflateIfNeededFor_a7421.desc).map (fun d => d.parameters.length) = some 1) := ⟨WA_of (i := 964) (by decide +kernel) (by decide +kernel), kini_java_lang_AbstractStringBuilder, by decide +kernel, by decide +kernel, by decide +kernel⟩
theorem kiiJ5_inflateIfNeededFor_a7421 : Cond.instanceMethod yJ5_inflateIfNeededFor_a7421 ∈ WA := WA_of (i := 963) (by decide +kernel) (by decide +kernel)
def mxJ5_putStringAt_47b60 : Nat := 3
theorem kvJ5_putStringAt_47b60 : (Cond.code yJ5_putStringAt_47b60 cJ5_putStringAt_47b60 3 none ∈ WA) ∧ (Cond.initialized yJ5_putStringAt_47b60.cls ∈ WA) ∧ (yJ5_putStringAt_47b60.cls ≠ "java/lang/invoke/MethodHandle" ∧ yJ5_putStringAt_47b60.cls ≠ "java/lang/invoke/VarHandle" ∧ (parseMethodDescriptor yJ5_putStringAt_47b60.desc).map (fun d => d.parameters.length) = some 2) := ⟨WA_of (i := 960) (by decide +kernel) (by decide +kernel), kini_java_lang_AbstractStringBuilder, by decide +kernel, by decide +kernel, by decide +kernel⟩
theorem kiiJ5_putStringAt_47b60 : Cond.instanceMethod yJ5_putStringAt_47b60 ∈ WA := WA_of (i := 959) (by decide +kernel) (by decide +kernel)
def mxJx00060_init_a7421 : Nat := 2
theorem kvJx00060_init_a7421 : (Cond.code yJx00060_init_a7421 cJx00060_init_a7421 2 none ∈ WA) ∧ (Cond.initialized yJx00060_init_a7421.cls ∈ WA) ∧ (yJx00060_init_a7421.cls ≠ "java/lang/invoke/MethodHandle" ∧ yJx00060_init_a7421.cls ≠ "java/lang/invoke/VarHandle" ∧ (parseMethodDescriptor yJx00060_init_a7421.desc).map (fun d => d.parameters.length) = some 1) := ⟨WA_of (i := 1173) (by decide +kernel) (by decide +kernel), kini_java_lang_ArrayIndexOutOfBoundsException, by decide +kernel, by decide +kernel, by decide +kernel⟩
theorem kiiJx00060_init_a7421 : Cond.instanceMethod yJx00060_init_a7421 ∈ WA := WA_of (i := 1172) (by decide +kernel) (by decide +kernel)
def mxJx00060_init_d00df : Nat := 2
theorem kvJx00060_init_d00df : (Cond.code yJx00060_init_d00df cJx00060_init_d00df 2 none ∈ WA) ∧ (Cond.initialized yJx00060_init_d00df.cls ∈ WA) ∧ (yJx00060_init_d00df.cls ≠ "java/lang/invoke/MethodHandle" ∧ yJx00060_init_d00df.cls ≠ "java/lang/invoke/VarHandle" ∧ (parseMethodDescriptor yJx00060_init_d00df.desc).map (fun d => d.parameters.length) = some 1) := ⟨WA_of (i := 1117) (by decide +kernel) (by decide +kernel), kini_java_lang_ArrayIndexOutOfBoundsException, by decide +kernel, by decide +kernel, by decide +kernel⟩
theorem kiiJx00060_init_d00df : Cond.instanceMethod yJx00060_init_d00df ∈ WA := WA_of (i := 1116) (by decide +kernel) (by decide +kernel)
def mxJ6_getChars_ba4f3 : Nat := 7
theorem kvJ6_getChars_ba4f3 : (Cond.code yJ6_getChars_ba4f3 cJ6_getChars_ba4f3 7 (some .int) ∈ WA) ∧ (Cond.initialized yJ6_getChars_ba4f3.cls ∈ WA) ∧ (yJ6_getChars_ba4f3.cls ≠ "java/lang/invoke/MethodHandle" ∧ yJ6_getChars_ba4f3.cls ≠ "java/lang/invoke/VarHandle" ∧ (parseMethodDescriptor yJ6_getChars_ba4f3.desc).map (fun d => d.parameters.length) = some 3) := ⟨WA_of (i := 1003) (by decide +kernel) (by decide +kernel), kini_java_lang_Integer, by decide +kernel, by decide +kernel, by decide +kernel⟩
theorem ksJ6_getChars_ba4f3 : Cond.static yJ6_getChars_ba4f3 ∈ WA := WA_of (i := 1002) (by decide +kernel) (by decide +kernel)
def mxJ6_stringSize_0f7a4 : Nat := 4
theorem kvJ6_stringSize_0f7a4 : (Cond.code yJ6_stringSize_0f7a4 cJ6_stringSize_0f7a4 4 (some .int) ∈ WA) ∧ (Cond.initialized yJ6_stringSize_0f7a4.cls ∈ WA) ∧ (yJ6_stringSize_0f7a4.cls ≠ "java/lang/invoke/MethodHandle" ∧ yJ6_stringSize_0f7a4.cls ≠ "java/lang/invoke/VarHandle" ∧ (parseMethodDescriptor yJ6_stringSize_0f7a4.desc).map (fun d => d.parameters.length) = some 1) := ⟨WA_of (i := 1000) (by decide +kernel) (by decide +kernel), kini_java_lang_Integer, by decide +kernel, by decide +kernel, by decide +kernel⟩
theorem ksJ6_stringSize_0f7a4 : Cond.static yJ6_stringSize_0f7a4 ∈ WA := WA_of (i := 999) (by decide +kernel) (by decide +kernel)
def mxJ6_numberOfTrailingZeros_0f7a4 : Nat := 2
theorem kvJ6_numberOfTrailingZeros_0f7a4 : (Cond.code yJ6_numberOfTrailingZeros_0f7a4 cJ6_numberOfTrailingZeros_0f7a4 2 (some .int) ∈ WA) ∧ (Cond.initialized yJ6_numberOfTrailingZeros_0f7a4.cls ∈ WA) ∧ (yJ6_numberOfTrailingZeros_0f7a4.cls ≠ "java/lang/invoke/MethodHandle" ∧ yJ6_numberOfTrailingZeros_0f7a4.cls ≠ "java/lang/invoke/VarHandle" ∧ (parseMethodDescriptor yJ6_numberOfTrailingZeros_0f7a4.desc).map (fun d => d.parameters.length) = some 1) := ⟨WA_of (i := 1459) (by decide +kernel) (by decide +kernel), kini_java_lang_Integer, by decide +kernel, by decide +kernel, by decide +kernel⟩
theorem ksJ6_numberOfTrailingZeros_0f7a4 : Cond.static yJ6_numberOfTrailingZeros_0f7a4 ∈ WA := WA_of (i := 1458) (by decide +kernel) (by decide +kernel)
def mxJ6_bitCount_0f7a4 : Nat := 1
theorem kvJ6_bitCount_0f7a4 : (Cond.code yJ6_bitCount_0f7a4 cJ6_bitCount_0f7a4 1 (some .int) ∈ WA) ∧ (Cond.initialized yJ6_bitCount_0f7a4.cls ∈ WA) ∧ (yJ6_bitCount_0f7a4.cls ≠ "java/lang/invoke/MethodHandle" ∧ yJ6_bitCount_0f7a4.cls ≠ "java/lang/invoke/VarHandle" ∧ (parseMethodDescriptor yJ6_bitCount_0f7a4.desc).map (fun d => d.parameters.length) = some 1) := ⟨WA_of (i := 1463) (by decide +kernel) (by decide +kernel), kini_java_lang_Integer, by decide +kernel, by decide +kernel, by decide +kernel⟩
theorem ksJ6_bitCount_0f7a4 : Cond.static yJ6_bitCount_0f7a4 ∈ WA := WA_of (i := 1462) (by decide +kernel) (by decide +kernel)
def mxJ9_max_7cf53 : Nat := 2
theorem kvJ9_max_7cf53 : (Cond.code yJ9_max_7cf53 cJ9_max_7cf53 2 (some .int) ∈ WA) ∧ (Cond.initialized yJ9_max_7cf53.cls ∈ WA) ∧ (yJ9_max_7cf53.cls ≠ "java/lang/invoke/MethodHandle" ∧ yJ9_max_7cf53.cls ≠ "java/lang/invoke/VarHandle" ∧ (parseMethodDescriptor yJ9_max_7cf53.desc).map (fun d => d.parameters.length) = some 2) := ⟨WA_of (i := 895) (by decide +kernel) (by decide +kernel), kini_java_lang_Math, by decide +kernel, by decide +kernel, by decide +kernel⟩
theorem ksJ9_max_7cf53 : Cond.static yJ9_max_7cf53 ∈ WA := WA_of (i := 894) (by decide +kernel) (by decide +kernel)
def mxJ9_min_7cf53 : Nat := 2
theorem kvJ9_min_7cf53 : (Cond.code yJ9_min_7cf53 cJ9_min_7cf53 2 (some .int) ∈ WA) ∧ (Cond.initialized yJ9_min_7cf53.cls ∈ WA) ∧ (yJ9_min_7cf53.cls ≠ "java/lang/invoke/MethodHandle" ∧ yJ9_min_7cf53.cls ≠ "java/lang/invoke/VarHandle" ∧ (parseMethodDescriptor yJ9_min_7cf53.desc).map (fun d => d.parameters.length) = some 2) := ⟨WA_of (i := 913) (by decide +kernel) (by decide +kernel), kini_java_lang_Math, by decide +kernel, by decide +kernel, by decide +kernel⟩
theorem ksJ9_min_7cf53 : Cond.static yJ9_min_7cf53 ∈ WA := WA_of (i := 912) (by decide +kernel) (by decide +kernel)
def mxJ0_init_81219 : Nat := 2
theorem kvJ0_init_81219 : (Cond.code yJ0_init_81219 cJ0_init_81219 2 none ∈ WA) ∧ (Cond.initialized yJ0_init_81219.cls ∈ WA) ∧ (yJ0_init_81219.cls ≠ "java/lang/invoke/MethodHandle" ∧ yJ0_init_81219.cls ≠ "java/lang/invoke/VarHandle" ∧ (parseMethodDescriptor yJ0_init_81219.desc).map (fun d => d.parameters.length) = some 1) := ⟨WA_of (i := 1024) (by decide +kernel) (by decide +kernel), kini_java_lang_String, by decide +kernel, by decide +kernel, by decide +kernel⟩
theorem kiiJ0_init_81219 : Cond.instanceMethod yJ0_init_81219 ∈ WA := WA_of (i := 1023) (by decide +kernel) (by decide +kernel)
def mxJ0_length_8abf5 : Nat := 1
theorem kvJ0_length_8abf5 : (Cond.code yJ0_length_8abf5 cJ0_length_8abf5 1 (some .int) ∈ WA) ∧ (Cond.initialized yJ0_length_8abf5.cls ∈ WA) ∧ (yJ0_length_8abf5.cls ≠ "java/lang/invoke/MethodHandle" ∧ yJ0_length_8abf5.cls ≠ "java/lang/invoke/VarHandle" ∧ (parseMethodDescriptor yJ0_length_8abf5.desc).map (fun d => d.parameters.length) = some 0) := ⟨WA_of (i := 951) (by decide +kernel) (by decide +kernel), kini_java_lang_String, by decide +kernel, by decide +kernel, by decide +kernel⟩
theorem kiJ0_length_8abf5 : (Cond.instanceMethod yJ0_length_8abf5 ∈ WA) ∧ (Cond.selects yJ0_length_8abf5.cls yJ0_length_8abf5 yJ0_length_8abf5 ∈ WA) := ⟨WA_of (i := 949) (by decide +kernel) (by decide +kernel), WA_of (i := 950) (by decide +kernel) (by decide +kernel)⟩
def mxJ0_charAt_5068e : Nat := 2
theorem kvJ0_charAt_5068e : (Cond.code yJ0_charAt_5068e cJ0_charAt_5068e 2 (some .char) ∈ WA) ∧ (Cond.initialized yJ0_charAt_5068e.cls ∈ WA) ∧ (yJ0_charAt_5068e.cls ≠ "java/lang/invoke/MethodHandle" ∧ yJ0_charAt_5068e.cls ≠ "java/lang/invoke/VarHandle" ∧ (parseMethodDescriptor yJ0_charAt_5068e.desc).map (fun d => d.parameters.length) = some 1) := ⟨WA_of (i := 1445) (by decide +kernel) (by decide +kernel), kini_java_lang_String, by decide +kernel, by decide +kernel, by decide +kernel⟩
theorem kiJ0_charAt_5068e : (Cond.instanceMethod yJ0_charAt_5068e ∈ WA) ∧ (Cond.selects yJ0_charAt_5068e.cls yJ0_charAt_5068e yJ0_charAt_5068e ∈ WA) := ⟨WA_of (i := 1443) (by decide +kernel) (by decide +kernel), WA_of (i := 1444) (by decide +kernel) (by decide +kernel)⟩
def mxJ0_getBytes_840e7 : Nat := 4
theorem kvJ0_getBytes_840e7 : (Cond.code yJ0_getBytes_840e7 cJ0_getBytes_840e7 4 none ∈ WA) ∧ (Cond.initialized yJ0_getBytes_840e7.cls ∈ WA) ∧ (yJ0_getBytes_840e7.cls ≠ "java/lang/invoke/MethodHandle" ∧ yJ0_getBytes_840e7.cls ≠ "java/lang/invoke/VarHandle" ∧ (parseMethodDescriptor yJ0_getBytes_840e7.desc).map (fun d => d.parameters.length) = some 3) := ⟨WA_of (i := 988) (by decide +kernel) (by decide +kernel), kini_java_lang_String, by decide +kernel, by decide +kernel, by decide +kernel⟩
theorem kiJ0_getBytes_840e7 : (Cond.instanceMethod yJ0_getBytes_840e7 ∈ WA) ∧ (Cond.selects yJ0_getBytes_840e7.cls yJ0_getBytes_840e7 yJ0_getBytes_840e7 ∈ WA) := ⟨WA_of (i := 986) (by decide +kernel) (by decide +kernel), WA_of (i := 987) (by decide +kernel) (by decide +kernel)⟩
def mxJ0_init_db425 : Nat := 5
theorem kvJ0_init_db425 : (Cond.code yJ0_init_db425 cJ0_init_db425 5 none ∈ WA) ∧ (Cond.initialized yJ0_init_db425.cls ∈ WA) ∧ (yJ0_init_db425.cls ≠ "java/lang/invoke/MethodHandle" ∧ yJ0_init_db425.cls ≠ "java/lang/invoke/VarHandle" ∧ (parseMethodDescriptor yJ0_init_db425.desc).map (fun d => d.parameters.length) = some 2) := ⟨WA_of (i := 1027) (by decide +kernel) (by decide +kernel), kini_java_lang_String, by decide +kernel, by decide +kernel, by decide +kernel⟩
theorem kiiJ0_init_db425 : Cond.instanceMethod yJ0_init_db425 ∈ WA := WA_of (i := 1026) (by decide +kernel) (by decide +kernel)
def mxJ0_coder_7d493 : Nat := 1
theorem kvJ0_coder_7d493 : (Cond.code yJ0_coder_7d493 cJ0_coder_7d493 1 (some .byte) ∈ WA) ∧ (Cond.initialized yJ0_coder_7d493.cls ∈ WA) ∧ (yJ0_coder_7d493.cls ≠ "java/lang/invoke/MethodHandle" ∧ yJ0_coder_7d493.cls ≠ "java/lang/invoke/VarHandle" ∧ (parseMethodDescriptor yJ0_coder_7d493.desc).map (fun d => d.parameters.length) = some 0) := ⟨WA_of (i := 955) (by decide +kernel) (by decide +kernel), kini_java_lang_String, by decide +kernel, by decide +kernel, by decide +kernel⟩
theorem kiJ0_coder_7d493 : (Cond.instanceMethod yJ0_coder_7d493 ∈ WA) ∧ (Cond.selects yJ0_coder_7d493.cls yJ0_coder_7d493 yJ0_coder_7d493 ∈ WA) := ⟨WA_of (i := 953) (by decide +kernel) (by decide +kernel), WA_of (i := 954) (by decide +kernel) (by decide +kernel)⟩
def mxJ0_isLatin1_aae02 : Nat := 1
theorem kvJ0_isLatin1_aae02 : (Cond.code yJ0_isLatin1_aae02 cJ0_isLatin1_aae02 1 (some .boolean) ∈ WA) ∧ (Cond.initialized yJ0_isLatin1_aae02.cls ∈ WA) ∧ (yJ0_isLatin1_aae02.cls ≠ "java/lang/invoke/MethodHandle" ∧ yJ0_isLatin1_aae02.cls ≠ "java/lang/invoke/VarHandle" ∧ (parseMethodDescriptor yJ0_isLatin1_aae02.desc).map (fun d => d.parameters.length) = some 0) := ⟨WA_of (i := 1449) (by decide +kernel) (by decide +kernel), kini_java_lang_String, by decide +kernel, by decide +kernel, by decide +kernel⟩
theorem kiJ0_isLatin1_aae02 : (Cond.instanceMethod yJ0_isLatin1_aae02 ∈ WA) ∧ (Cond.selects yJ0_isLatin1_aae02.cls yJ0_isLatin1_aae02 yJ0_isLatin1_aae02 ∈ WA) := ⟨WA_of (i := 1447) (by decide +kernel) (by decide +kernel), WA_of (i := 1448) (by decide +kernel) (by decide +kernel)⟩
def mxJ0_checkIndex_df160 : Nat := 2
theorem kvJ0_checkIndex_df160 : (Cond.code yJ0_checkIndex_df160 cJ0_checkIndex_df160 2 none ∈ WA) ∧ (Cond.initialized yJ0_checkIndex_df160.cls ∈ WA) ∧ (yJ0_checkIndex_df160.cls ≠ "java/lang/invoke/MethodHandle" ∧ yJ0_checkIndex_df160.cls ≠ "java/lang/invoke/VarHandle" ∧ (parseMethodDescriptor yJ0_checkIndex_df160.desc).map (fun d => d.parameters.length) = some 2) := ⟨WA_of (i := 1154) (by decide +kernel) (by decide +kernel), kini_java_lang_String, by decide +kernel, by decide +kernel, by decide +kernel⟩
theorem ksJ0_checkIndex_df160 : Cond.static yJ0_checkIndex_df160 ∈ WA := WA_of (i := 1153) (by decide +kernel) (by decide +kernel)
def mxJ0_checkBoundsOffCount_cabcc : Nat := 3
theorem kvJ0_checkBoundsOffCount_cabcc : (Cond.code yJ0_checkBoundsOffCount_cabcc cJ0_checkBoundsOffCount_cabcc 3 (some .int) ∈ WA) ∧ (Cond.initialized yJ0_checkBoundsOffCount_cabcc.cls ∈ WA) ∧ (yJ0_checkBoundsOffCount_cabcc.cls ≠ "java/lang/invoke/MethodHandle" ∧ yJ0_checkBoundsOffCount_cabcc.cls ≠ "java/lang/invoke/VarHandle" ∧ (parseMethodDescriptor yJ0_checkBoundsOffCount_cabcc.desc).map (fun d => d.parameters.length) = some 3) := ⟨WA_of (i := 981) (by decide +kernel) (by decide +kernel), kini_java_lang_String, by decide +kernel, by decide +kernel, by decide +kernel⟩
theorem ksJ0_checkBoundsOffCount_cabcc : Cond.static yJ0_checkBoundsOffCount_cabcc ∈ WA := WA_of (i := 980) (by decide +kernel) (by decide +kernel)
def mxJ0_checkBoundsBeginEnd_23922 : Nat := 3
theorem kvJ0_checkBoundsBeginEnd_23922 : (Cond.code yJ0_checkBoundsBeginEnd_23922 cJ0_checkBoundsBeginEnd_23922 3 none ∈ WA) ∧ (Cond.initialized yJ0_checkBoundsBeginEnd_23922.cls ∈ WA) ∧ (yJ0_checkBoundsBeginEnd_23922.cls ≠ "java/lang/invoke/MethodHandle" ∧ yJ0_checkBoundsBeginEnd_23922.cls ≠ "java/lang/invoke/VarHandle" ∧ (parseMethodDescriptor yJ0_checkBoundsBeginEnd_23922.desc).map (fun d => d.parameters.length) = some 3) := ⟨WA_of (i := 933) (by decide +kernel) (by decide +kernel), kini_java_lang_String, by decide +kernel, by decide +kernel, by decide +kernel⟩
theorem ksJ0_checkBoundsBeginEnd_23922 : Cond.static yJ0_checkBoundsBeginEnd_23922 ∈ WA := WA_of (i := 932) (by decide +kernel) (by decide +kernel)
def mxJ4_init_da8c8 : Nat := 1
theorem kvJ4_init_da8c8 : (Cond.code yJ4_init_da8c8 cJ4_init_da8c8 1 none ∈ WA) ∧ (Cond.initialized yJ4_init_da8c8.cls ∈ WA) ∧ (yJ4_init_da8c8.cls ≠ "java/lang/invoke/MethodHandle" ∧ yJ4_init_da8c8.cls ≠ "java/lang/invoke/VarHandle" ∧ (parseMethodDescriptor yJ4_init_da8c8.desc).map (fun d => d.parameters.length) = some 0) := ⟨WA_of (i := 236) (by decide +kernel) (by decide +kernel), kini_java_lang_StringBuilder, by decide +kernel, by decide +kernel, by decide +kernel⟩
theorem kiiJ4_init_da8c8 : Cond.instanceMethod yJ4_init_da8c8 ∈ WA := WA_of (i := 235) (by decide +kernel) (by decide +kernel)
def mxJ4_append_15ec4 : Nat := 2
theorem kvJ4_append_15ec4 : (Cond.code yJ4_append_15ec4 cJ4_append_15ec4 2 (some (.object "java/lang/StringBuilder")) ∈ WA) ∧ (Cond.initialized yJ4_append_15ec4.cls ∈ WA) ∧ (yJ4_append_15ec4.cls ≠ "java/lang/invoke/MethodHandle" ∧ yJ4_append_15ec4.cls ≠ "java/lang/invoke/VarHandle" ∧ (parseMethodDescriptor yJ4_append_15ec4.desc).map (fun d => d.parameters.length) = some 1) := ⟨WA_of (i := 874) (by decide +kernel) (by decide +kernel), kini_java_lang_StringBuilder, by decide +kernel, by decide +kernel, by decide +kernel⟩
theorem kiJ4_append_15ec4 : (Cond.instanceMethod yJ4_append_15ec4 ∈ WA) ∧ (Cond.selects yJ4_append_15ec4.cls yJ4_append_15ec4 yJ4_append_15ec4 ∈ WA) := ⟨WA_of (i := 872) (by decide +kernel) (by decide +kernel), WA_of (i := 873) (by decide +kernel) (by decide +kernel)⟩
def mxJ4_append_cf468 : Nat := 2
theorem kvJ4_append_cf468 : (Cond.code yJ4_append_cf468 cJ4_append_cf468 2 (some (.object "java/lang/StringBuilder")) ∈ WA) ∧ (Cond.initialized yJ4_append_cf468.cls ∈ WA) ∧ (yJ4_append_cf468.cls ≠ "java/lang/invoke/MethodHandle" ∧ yJ4_append_cf468.cls ≠ "java/lang/invoke/VarHandle" ∧ (parseMethodDescriptor yJ4_append_cf468.desc).map (fun d => d.parameters.length) = some 1) := ⟨WA_of (i := 1139) (by decide +kernel) (by decide +kernel), kini_java_lang_StringBuilder, by decide +kernel, by decide +kernel, by decide +kernel⟩
theorem kiJ4_append_cf468 : (Cond.instanceMethod yJ4_append_cf468 ∈ WA) ∧ (Cond.selects yJ4_append_cf468.cls yJ4_append_cf468 yJ4_append_cf468 ∈ WA) := ⟨WA_of (i := 1137) (by decide +kernel) (by decide +kernel), WA_of (i := 1138) (by decide +kernel) (by decide +kernel)⟩
def mxJ4_append_bf812 : Nat := 2
theorem kvJ4_append_bf812 : (Cond.code yJ4_append_bf812 cJ4_append_bf812 2 (some (.object "java/lang/StringBuilder")) ∈ WA) ∧ (Cond.initialized yJ4_append_bf812.cls ∈ WA) ∧ (yJ4_append_bf812.cls ≠ "java/lang/invoke/MethodHandle" ∧ yJ4_append_bf812.cls ≠ "java/lang/invoke/VarHandle" ∧ (parseMethodDescriptor yJ4_append_bf812.desc).map (fun d => d.parameters.length) = some 1) := ⟨WA_of (i := 994) (by decide +kernel) (by decide +kernel), kini_java_lang_StringBuilder, by decide +kernel, by decide +kernel, by decide +kernel⟩
theorem kiJ4_append_bf812 : (Cond.instanceMethod yJ4_append_bf812 ∈ WA) ∧ (Cond.selects yJ4_append_bf812.cls yJ4_append_bf812 yJ4_append_bf812 ∈ WA) := ⟨WA_of (i := 992) (by decide +kernel) (by decide +kernel), WA_of (i := 993) (by decide +kernel) (by decide +kernel)⟩
def mxJ4_toString_0e30d : Nat := 1
theorem kvJ4_toString_0e30d : (Cond.code yJ4_toString_0e30d cJ4_toString_0e30d 1 (some (.object "java/lang/String")) ∈ WA) ∧ (Cond.initialized yJ4_toString_0e30d.cls ∈ WA) ∧ (yJ4_toString_0e30d.cls ≠ "java/lang/invoke/MethodHandle" ∧ yJ4_toString_0e30d.cls ≠ "java/lang/invoke/VarHandle" ∧ (parseMethodDescriptor yJ4_toString_0e30d.desc).map (fun d => d.parameters.length) = some 0) := ⟨WA_of (i := 1019) (by decide +kernel) (by decide +kernel), kini_java_lang_StringBuilder, by decide +kernel, by decide +kernel, by decide +kernel⟩
theorem kiJ4_toString_0e30d : (Cond.instanceMethod yJ4_toString_0e30d ∈ WA) ∧ (Cond.selects yJ4_toString_0e30d.cls yJ4_toString_0e30d yJ4_toString_0e30d ∈ WA) := ⟨WA_of (i := 1017) (by decide +kernel) (by decide +kernel), WA_of (i := 1018) (by decide +kernel) (by decide +kernel)⟩
def mxJ4_charAt_5068e : Nat := 2
theorem kvJ4_charAt_5068e : (Cond.code yJ4_charAt_5068e cJ4_charAt_5068e 2 (some .char) ∈ WA) ∧ (Cond.initialized yJ4_charAt_5068e.cls ∈ WA) ∧ (yJ4_charAt_5068e.cls ≠ "java/lang/invoke/MethodHandle" ∧ yJ4_charAt_5068e.cls ≠ "java/lang/invoke/VarHandle" ∧ (parseMethodDescriptor yJ4_charAt_5068e.desc).map (fun d => d.parameters.length) = some 1) := ⟨WA_of (i := 1435) (by decide +kernel) (by decide +kernel), kini_java_lang_StringBuilder, by decide +kernel, by decide +kernel, by decide +kernel⟩
theorem kiJ4_charAt_5068e : (Cond.instanceMethod yJ4_charAt_5068e ∈ WA) ∧ (Cond.selects yJ4_charAt_5068e.cls yJ4_charAt_5068e yJ4_charAt_5068e ∈ WA) := ⟨WA_of (i := 1433) (by decide +kernel) (by decide +kernel), WA_of (i := 1434) (by decide +kernel) (by decide +kernel)⟩
def mxJ4_setLength_d00df : Nat := 2
theorem kvJ4_setLength_d00df : (Cond.code yJ4_setLength_d00df cJ4_setLength_d00df 2 none ∈ WA) ∧ (Cond.initialized yJ4_setLength_d00df.cls ∈ WA) ∧ (yJ4_setLength_d00df.cls ≠ "java/lang/invoke/MethodHandle" ∧ yJ4_setLength_d00df.cls ≠ "java/lang/invoke/VarHandle" ∧ (parseMethodDescriptor yJ4_setLength_d00df.desc).map (fun d => d.parameters.length) = some 1) := ⟨WA_of (i := 859) (by decide +kernel) (by decide +kernel), kini_java_lang_StringBuilder, by decide +kernel, by decide +kernel, by decide +kernel⟩
theorem kiJ4_setLength_d00df : (Cond.instanceMethod yJ4_setLength_d00df ∈ WA) ∧ (Cond.selects yJ4_setLength_d00df.cls yJ4_setLength_d00df yJ4_setLength_d00df ∈ WA) := ⟨WA_of (i := 857) (by decide +kernel) (by decide +kernel), WA_of (i := 858) (by decide +kernel) (by decide +kernel)⟩
def mxJ4_length_8abf5 : Nat := 1
theorem kvJ4_length_8abf5 : (Cond.code yJ4_length_8abf5 cJ4_length_8abf5 1 (some .int) ∈ WA) ∧ (Cond.initialized yJ4_length_8abf5.cls ∈ WA) ∧ (yJ4_length_8abf5.cls ≠ "java/lang/invoke/MethodHandle" ∧ yJ4_length_8abf5.cls ≠ "java/lang/invoke/VarHandle" ∧ (parseMethodDescriptor yJ4_length_8abf5.desc).map (fun d => d.parameters.length) = some 0) := ⟨WA_of (i := 1039) (by decide +kernel) (by decide +kernel), kini_java_lang_StringBuilder, by decide +kernel, by decide +kernel, by decide +kernel⟩
theorem kiJ4_length_8abf5 : (Cond.instanceMethod yJ4_length_8abf5 ∈ WA) ∧ (Cond.selects yJ4_length_8abf5.cls yJ4_length_8abf5 yJ4_length_8abf5 ∈ WA) := ⟨WA_of (i := 1038) (by decide +kernel) (by decide +kernel), WA_of (i := 1496) (by decide +kernel) (by decide +kernel)⟩
def mxJx7c733_init_d00df : Nat := 2
theorem kvJx7c733_init_d00df : (Cond.code yJx7c733_init_d00df cJx7c733_init_d00df 2 none ∈ WA) ∧ (Cond.initialized yJx7c733_init_d00df.cls ∈ WA) ∧ (yJx7c733_init_d00df.cls ≠ "java/lang/invoke/MethodHandle" ∧ yJx7c733_init_d00df.cls ≠ "java/lang/invoke/VarHandle" ∧ (parseMethodDescriptor yJx7c733_init_d00df.desc).map (fun d => d.parameters.length) = some 1) := ⟨WA_of (i := 867) (by decide +kernel) (by decide +kernel), kini_java_lang_StringIndexOutOfBoundsException, by decide +kernel, by decide +kernel, by decide +kernel⟩
theorem kiiJx7c733_init_d00df : Cond.instanceMethod yJx7c733_init_d00df ∈ WA := WA_of (i := 866) (by decide +kernel) (by decide +kernel)
def mxJ1_charAt_3b067 : Nat := 2
theorem kvJ1_charAt_3b067 : (Cond.code yJ1_charAt_3b067 cJ1_charAt_3b067 2 (some .char) ∈ WA) ∧ (Cond.initialized yJ1_charAt_3b067.cls ∈ WA) ∧ (yJ1_charAt_3b067.cls ≠ "java/lang/invoke/MethodHandle" ∧ yJ1_charAt_3b067.cls ≠ "java/lang/invoke/VarHandle" ∧ (parseMethodDescriptor yJ1_charAt_3b067.desc).map (fun d => d.parameters.length) = some 2) := ⟨WA_of (i := 1452) (by decide +kernel) (by decide +kernel), kini_java_lang_StringLatin1, by decide +kernel, by decide +kernel, by decide +kernel⟩
theorem ksJ1_charAt_3b067 : Cond.static yJ1_charAt_3b067 ∈ WA := WA_of (i := 1451) (by decide +kernel) (by decide +kernel)
def mxJ1_canEncode_fc78d : Nat := 1
theorem kvJ1_canEncode_fc78d : (Cond.code yJ1_canEncode_fc78d cJ1_canEncode_fc78d 1 (some .boolean) ∈ WA) ∧ (Cond.initialized yJ1_canEncode_fc78d.cls ∈ WA) ∧ (yJ1_canEncode_fc78d.cls ≠ "java/lang/invoke/MethodHandle" ∧ yJ1_canEncode_fc78d.cls ≠ "java/lang/invoke/VarHandle" ∧ (parseMethodDescriptor yJ1_canEncode_fc78d.desc).map (fun d => d.parameters.length) = some 1) := ⟨WA_of (i := 1145) (by decide +kernel) (by decide +kernel), kini_java_lang_StringLatin1, by decide +kernel, by decide +kernel, by decide +kernel⟩
theorem ksJ1_canEncode_fc78d : Cond.static yJ1_canEncode_fc78d ∈ WA := WA_of (i := 1144) (by decide +kernel) (by decide +kernel)
def mxJ1_fillNull_b72d1 : Nat := 3
theorem kvJ1_fillNull_b72d1 : (Cond.code yJ1_fillNull_b72d1 cJ1_fillNull_b72d1 3 none ∈ WA) ∧ (Cond.initialized yJ1_fillNull_b72d1.cls ∈ WA) ∧ (yJ1_fillNull_b72d1.cls ≠ "java/lang/invoke/MethodHandle" ∧ yJ1_fillNull_b72d1.cls ≠ "java/lang/invoke/VarHandle" ∧ (parseMethodDescriptor yJ1_fillNull_b72d1.desc).map (fun d => d.parameters.length) = some 3) := ⟨WA_of (i := 1094) (by decide +kernel) (by decide +kernel), kini_java_lang_StringLatin1, by decide +kernel, by decide +kernel, by decide +kernel⟩
theorem ksJ1_fillNull_b72d1 : Cond.static yJ1_fillNull_b72d1 ∈ WA := WA_of (i := 1093) (by decide +kernel) (by decide +kernel)
def mxJ1_inflate_0e8fd : Nat := 5
theorem kvJ1_inflate_0e8fd : (Cond.code yJ1_inflate_0e8fd cJ1_inflate_0e8fd 5 none ∈ WA) ∧ (Cond.initialized yJ1_inflate_0e8fd.cls ∈ WA) ∧ (yJ1_inflate_0e8fd.cls ≠ "java/lang/invoke/MethodHandle" ∧ yJ1_inflate_0e8fd.cls ≠ "java/lang/invoke/VarHandle" ∧ (parseMethodDescriptor yJ1_inflate_0e8fd.desc).map (fun d => d.parameters.length) = some 5) := ⟨WA_of (i := 972) (by decide +kernel) (by decide +kernel), kini_java_lang_StringLatin1, by decide +kernel, by decide +kernel, by decide +kernel⟩
theorem ksJ1_inflate_0e8fd : Cond.static yJ1_inflate_0e8fd ∈ WA := WA_of (i := 971) (by decide +kernel) (by decide +kernel)
def mxJ2_newBytesFor_77867 : Nat := 1
theorem kvJ2_newBytesFor_77867 : (Cond.code yJ2_newBytesFor_77867 cJ2_newBytesFor_77867 1 (some (.array .byte)) ∈ WA) ∧ (Cond.initialized yJ2_newBytesFor_77867.cls ∈ WA) ∧ (yJ2_newBytesFor_77867.cls ≠ "java/lang/invoke/MethodHandle" ∧ yJ2_newBytesFor_77867.cls ≠ "java/lang/invoke/VarHandle" ∧ (parseMethodDescriptor yJ2_newBytesFor_77867.desc).map (fun d => d.parameters.length) = some 1) := ⟨WA_of (i := 245) (by decide +kernel) (by decide +kernel), kini_java_lang_StringUTF16, by decide +kernel, by decide +kernel, by decide +kernel⟩
theorem ksJ2_newBytesFor_77867 : Cond.static yJ2_newBytesFor_77867 ∈ WA := WA_of (i := 244) (by decide +kernel) (by decide +kernel)
def mxJ2_newBytesLength_0f7a4 : Nat := 1
theorem kvJ2_newBytesLength_0f7a4 : (Cond.code yJ2_newBytesLength_0f7a4 cJ2_newBytesLength_0f7a4 1 (some .int) ∈ WA) ∧ (Cond.initialized yJ2_newBytesLength_0f7a4.cls ∈ WA) ∧ (yJ2_newBytesLength_0f7a4.cls ≠ "java/lang/invoke/MethodHandle" ∧ yJ2_newBytesLength_0f7a4.cls ≠ "java/lang/invoke/VarHandle" ∧ (parseMethodDescriptor yJ2_newBytesLength_0f7a4.desc).map (fun d => d.parameters.length) = some 1) := ⟨WA_of (i := 248) (by decide +kernel) (by decide +kernel), kini_java_lang_StringUTF16, by decide +kernel, by decide +kernel, by decide +kernel⟩
theorem ksJ2_newBytesLength_0f7a4 : Cond.static yJ2_newBytesLength_0f7a4 ∈ WA := WA_of (i := 247) (by decide +kernel) (by decide +kernel)
def mxJ2_putChar_b72d1 : Nat := 3
theorem kvJ2_putChar_b72d1 : (Cond.code yJ2_putChar_b72d1 cJ2_putChar_b72d1 3 none ∈ WA) ∧ (Cond.initialized yJ2_putChar_b72d1.cls ∈ WA) ∧ (yJ2_putChar_b72d1.cls ≠ "java/lang/invoke/MethodHandle" ∧ yJ2_putChar_b72d1.cls ≠ "java/lang/invoke/VarHandle" ∧ (parseMethodDescriptor yJ2_putChar_b72d1.desc).map (fun d => d.parameters.length) = some 3) := ⟨WA_of (i := 941) (by decide +kernel) (by decide +kernel), kini_java_lang_StringUTF16, by decide +kernel, by decide +kernel, by decide +kernel⟩
theorem ksJ2_putChar_b72d1 : Cond.static yJ2_putChar_b72d1 ∈ WA := WA_of (i := 940) (by decide +kernel) (by decide +kernel)
def mxJ2_getChar_3b067 : Nat := 2
theorem kvJ2_getChar_3b067 : (Cond.code yJ2_getChar_3b067 cJ2_getChar_3b067 2 (some .char) ∈ WA) ∧ (Cond.initialized yJ2_getChar_3b067.cls ∈ WA) ∧ (yJ2_getChar_3b067.cls ≠ "java/lang/invoke/MethodHandle" ∧ yJ2_getChar_3b067.cls ≠ "java/lang/invoke/VarHandle" ∧ (parseMethodDescriptor yJ2_getChar_3b067.desc).map (fun d => d.parameters.length) = some 2) := ⟨WA_of (i := 1068) (by decide +kernel) (by decide +kernel), kini_java_lang_StringUTF16, by decide +kernel, by decide +kernel, by decide +kernel⟩
theorem ksJ2_getChar_3b067 : Cond.static yJ2_getChar_3b067 ∈ WA := WA_of (i := 1067) (by decide +kernel) (by decide +kernel)
def mxJ2_length_9d52b : Nat := 1
theorem kvJ2_length_9d52b : (Cond.code yJ2_length_9d52b cJ2_length_9d52b 1 (some .int) ∈ WA) ∧ (Cond.initialized yJ2_length_9d52b.cls ∈ WA) ∧ (yJ2_length_9d52b.cls ≠ "java/lang/invoke/MethodHandle" ∧ yJ2_length_9d52b.cls ≠ "java/lang/invoke/VarHandle" ∧ (parseMethodDescriptor yJ2_length_9d52b.desc).map (fun d => d.parameters.length) = some 1) := ⟨WA_of (i := 930) (by decide +kernel) (by decide +kernel), kini_java_lang_StringUTF16, by decide +kernel, by decide +kernel, by decide +kernel⟩
theorem ksJ2_length_9d52b : Cond.static yJ2_length_9d52b ∈ WA := WA_of (i := 929) (by decide +kernel) (by decide +kernel)
def mxJ2_coderFromArrayLen_85cad : Nat := 2
theorem kvJ2_coderFromArrayLen_85cad : (Cond.code yJ2_coderFromArrayLen_85cad cJ2_coderFromArrayLen_85cad 2 (some .byte) ∈ WA) ∧ (Cond.initialized yJ2_coderFromArrayLen_85cad.cls ∈ WA) ∧ (yJ2_coderFromArrayLen_85cad.cls ≠ "java/lang/invoke/MethodHandle" ∧ yJ2_coderFromArrayLen_85cad.cls ≠ "java/lang/invoke/VarHandle" ∧ (parseMethodDescriptor yJ2_coderFromArrayLen_85cad.desc).map (fun d => d.parameters.length) = some 2) := ⟨WA_of (i := 1072) (by decide +kernel) (by decide +kernel), kini_java_lang_StringUTF16, by decide +kernel, by decide +kernel, by decide +kernel⟩
theorem ksJ2_coderFromArrayLen_85cad : Cond.static yJ2_coderFromArrayLen_85cad ∈ WA := WA_of (i := 1071) (by decide +kernel) (by decide +kernel)
def mxJ2_compress_39247 : Nat := 6
theorem kvJ2_compress_39247 : (Cond.code yJ2_compress_39247 cJ2_compress_39247 6 (some (.array .byte)) ∈ WA) ∧ (Cond.initialized yJ2_compress_39247.cls ∈ WA) ∧ (yJ2_compress_39247.cls ≠ "java/lang/invoke/MethodHandle" ∧ yJ2_compress_39247.cls ≠ "java/lang/invoke/VarHandle" ∧ (parseMethodDescriptor yJ2_compress_39247.desc).map (fun d => d.parameters.length) = some 3) := ⟨WA_of (i := 1062) (by decide +kernel) (by decide +kernel), kini_java_lang_StringUTF16, by decide +kernel, by decide +kernel, by decide +kernel⟩
theorem ksJ2_compress_39247 : Cond.static yJ2_compress_39247 ∈ WA := WA_of (i := 1061) (by decide +kernel) (by decide +kernel)
def mxJ2_compress_5af95 : Nat := 7
theorem kvJ2_compress_5af95 : (Cond.code yJ2_compress_5af95 cJ2_compress_5af95 7 (some .int) ∈ WA) ∧ (Cond.initialized yJ2_compress_5af95.cls ∈ WA) ∧ (yJ2_compress_5af95.cls ≠ "java/lang/invoke/MethodHandle" ∧ yJ2_compress_5af95.cls ≠ "java/lang/invoke/VarHandle" ∧ (parseMethodDescriptor yJ2_compress_5af95.desc).map (fun d => d.parameters.length) = some 5) := ⟨WA_of (i := 1065) (by decide +kernel) (by decide +kernel), kini_java_lang_StringUTF16, by decide +kernel, by decide +kernel, by decide +kernel⟩
theorem ksJ2_compress_5af95 : Cond.static yJ2_compress_5af95 ∈ WA := WA_of (i := 1064) (by decide +kernel) (by decide +kernel)
def mxJ2_fillNull_b72d1 : Nat := 3
theorem kvJ2_fillNull_b72d1 : (Cond.code yJ2_fillNull_b72d1 cJ2_fillNull_b72d1 3 none ∈ WA) ∧ (Cond.initialized yJ2_fillNull_b72d1.cls ∈ WA) ∧ (yJ2_fillNull_b72d1.cls ≠ "java/lang/invoke/MethodHandle" ∧ yJ2_fillNull_b72d1.cls ≠ "java/lang/invoke/VarHandle" ∧ (parseMethodDescriptor yJ2_fillNull_b72d1.desc).map (fun d => d.parameters.length) = some 3) := ⟨WA_of (i := 1129) (by decide +kernel) (by decide +kernel), kini_java_lang_StringUTF16, by decide +kernel, by decide +kernel, by decide +kernel⟩
theorem ksJ2_fillNull_b72d1 : Cond.static yJ2_fillNull_b72d1 ∈ WA := WA_of (i := 1128) (by decide +kernel) (by decide +kernel)
def mxJ2_putCharSB_b72d1 : Nat := 3
theorem kvJ2_putCharSB_b72d1 : (Cond.code yJ2_putCharSB_b72d1 cJ2_putCharSB_b72d1 3 none ∈ WA) ∧ (Cond.initialized yJ2_putCharSB_b72d1.cls ∈ WA) ∧ (yJ2_putCharSB_b72d1.cls ≠ "java/lang/invoke/MethodHandle" ∧ yJ2_putCharSB_b72d1.cls ≠ "java/lang/invoke/VarHandle" ∧ (parseMethodDescriptor yJ2_putCharSB_b72d1.desc).map (fun d => d.parameters.length) = some 3) := ⟨WA_of (i := 1148) (by decide +kernel) (by decide +kernel), kini_java_lang_StringUTF16, by decide +kernel, by decide +kernel, by decide +kernel⟩
theorem ksJ2_putCharSB_b72d1 : Cond.static yJ2_putCharSB_b72d1 ∈ WA := WA_of (i := 1147) (by decide +kernel) (by decide +kernel)
def mxJ2_getChars_46870 : Nat := 5
theorem kvJ2_getChars_46870 : (Cond.code yJ2_getChars_46870 cJ2_getChars_46870 5 (some .int) ∈ WA) ∧ (Cond.initialized yJ2_getChars_46870.cls ∈ WA) ∧ (yJ2_getChars_46870.cls ≠ "java/lang/invoke/MethodHandle" ∧ yJ2_getChars_46870.cls ≠ "java/lang/invoke/VarHandle" ∧ (parseMethodDescriptor yJ2_getChars_46870.desc).map (fun d => d.parameters.length) = some 4) := ⟨WA_of (i := 1010) (by decide +kernel) (by decide +kernel), kini_java_lang_StringUTF16, by decide +kernel, by decide +kernel, by decide +kernel⟩
theorem ksJ2_getChars_46870 : Cond.static yJ2_getChars_46870 ∈ WA := WA_of (i := 1009) (by decide +kernel) (by decide +kernel)
def mxJ2_putCharsAt_cd4e5 : Nat := 7
theorem kvJ2_putCharsAt_cd4e5 : (Cond.code yJ2_putCharsAt_cd4e5 cJ2_putCharsAt_cd4e5 7 (some .int) ∈ WA) ∧ (Cond.initialized yJ2_putCharsAt_cd4e5.cls ∈ WA) ∧ (yJ2_putCharsAt_cd4e5.cls ≠ "java/lang/invoke/MethodHandle" ∧ yJ2_putCharsAt_cd4e5.cls ≠ "java/lang/invoke/VarHandle" ∧ (parseMethodDescriptor yJ2_putCharsAt_cd4e5.desc).map (fun d => d.parameters.length) = some 6) := ⟨WA_of (i := 924) (by decide +kernel) (by decide +kernel), kini_java_lang_StringUTF16, by decide +kernel, by decide +kernel, by decide +kernel⟩
theorem ksJ2_putCharsAt_cd4e5 : Cond.static yJ2_putCharsAt_cd4e5 ∈ WA := WA_of (i := 923) (by decide +kernel) (by decide +kernel)
def mxJ2_charAt_3b067 : Nat := 2
theorem kvJ2_charAt_3b067 : (Cond.code yJ2_charAt_3b067 cJ2_charAt_3b067 2 (some .char) ∈ WA) ∧ (Cond.initialized yJ2_charAt_3b067.cls ∈ WA) ∧ (yJ2_charAt_3b067.cls ≠ "java/lang/invoke/MethodHandle" ∧ yJ2_charAt_3b067.cls ≠ "java/lang/invoke/VarHandle" ∧ (parseMethodDescriptor yJ2_charAt_3b067.desc).map (fun d => d.parameters.length) = some 2) := ⟨WA_of (i := 1456) (by decide +kernel) (by decide +kernel), kini_java_lang_StringUTF16, by decide +kernel, by decide +kernel, by decide +kernel⟩
theorem ksJ2_charAt_3b067 : Cond.static yJ2_charAt_3b067 ∈ WA := WA_of (i := 1455) (by decide +kernel) (by decide +kernel)
def mxJ2_inflate_0e8fd : Nat := 6
theorem kvJ2_inflate_0e8fd : (Cond.code yJ2_inflate_0e8fd cJ2_inflate_0e8fd 6 none ∈ WA) ∧ (Cond.initialized yJ2_inflate_0e8fd.cls ∈ WA) ∧ (yJ2_inflate_0e8fd.cls ≠ "java/lang/invoke/MethodHandle" ∧ yJ2_inflate_0e8fd.cls ≠ "java/lang/invoke/VarHandle" ∧ (parseMethodDescriptor yJ2_inflate_0e8fd.desc).map (fun d => d.parameters.length) = some 5) := ⟨WA_of (i := 975) (by decide +kernel) (by decide +kernel), kini_java_lang_StringUTF16, by decide +kernel, by decide +kernel, by decide +kernel⟩
theorem ksJ2_inflate_0e8fd : Cond.static yJ2_inflate_0e8fd ∈ WA := WA_of (i := 974) (by decide +kernel) (by decide +kernel)
def mxJ2_getChars_ba4f3 : Nat := 7
theorem kvJ2_getChars_ba4f3 : (Cond.code yJ2_getChars_ba4f3 cJ2_getChars_ba4f3 7 (some .int) ∈ WA) ∧ (Cond.initialized yJ2_getChars_ba4f3.cls ∈ WA) ∧ (yJ2_getChars_ba4f3.cls ≠ "java/lang/invoke/MethodHandle" ∧ yJ2_getChars_ba4f3.cls ≠ "java/lang/invoke/VarHandle" ∧ (parseMethodDescriptor yJ2_getChars_ba4f3.desc).map (fun d => d.parameters.length) = some 3) := ⟨WA_of (i := 1013) (by decide +kernel) (by decide +kernel), kini_java_lang_StringUTF16, by decide +kernel, by decide +kernel, by decide +kernel⟩
theorem ksJ2_getChars_ba4f3 : Cond.static yJ2_getChars_ba4f3 ∈ WA := WA_of (i := 1012) (by decide +kernel) (by decide +kernel)
def mxJ2_checkIndex_2214a : Nat := 2
theorem kvJ2_checkIndex_2214a : (Cond.code yJ2_checkIndex_2214a cJ2_checkIndex_2214a 2 none ∈ WA) ∧ (Cond.initialized yJ2_checkIndex_2214a.cls ∈ WA) ∧ (yJ2_checkIndex_2214a.cls ≠ "java/lang/invoke/MethodHandle" ∧ yJ2_checkIndex_2214a.cls ≠ "java/lang/invoke/VarHandle" ∧ (parseMethodDescriptor yJ2_checkIndex_2214a.desc).map (fun d => d.parameters.length) = some 2) := ⟨WA_of (i := 1151) (by decide +kernel) (by decide +kernel), kini_java_lang_StringUTF16, by decide +kernel, by decide +kernel, by decide +kernel⟩
theorem ksJ2_checkIndex_2214a : Cond.static yJ2_checkIndex_2214a ∈ WA := WA_of (i := 1150) (by decide +kernel) (by decide +kernel)
def mxJ2_checkBoundsBeginEnd_d044e : Nat := 3
theorem kvJ2_checkBoundsBeginEnd_d044e : (Cond.code yJ2_checkBoundsBeginEnd_d044e cJ2_checkBoundsBeginEnd_d044e 3 none ∈ WA) ∧ (Cond.initialized yJ2_checkBoundsBeginEnd_d044e.cls ∈ WA) ∧ (yJ2_checkBoundsBeginEnd_d044e.cls ≠ "java/lang/invoke/MethodHandle" ∧ yJ2_checkBoundsBeginEnd_d044e.cls ≠ "java/lang/invoke/VarHandle" ∧ (parseMethodDescriptor yJ2_checkBoundsBeginEnd_d044e.desc).map (fun d => d.parameters.length) = some 3) := ⟨WA_of (i := 927) (by decide +kernel) (by decide +kernel), kini_java_lang_StringUTF16, by decide +kernel, by decide +kernel, by decide +kernel⟩
theorem ksJ2_checkBoundsBeginEnd_d044e : Cond.static yJ2_checkBoundsBeginEnd_d044e ∈ WA := WA_of (i := 926) (by decide +kernel) (by decide +kernel)
def mxJ2_checkBoundsOffCount_d044e : Nat := 3
theorem kvJ2_checkBoundsOffCount_d044e : (Cond.code yJ2_checkBoundsOffCount_d044e cJ2_checkBoundsOffCount_d044e 3 none ∈ WA) ∧ (Cond.initialized yJ2_checkBoundsOffCount_d044e.cls ∈ WA) ∧ (yJ2_checkBoundsOffCount_d044e.cls ≠ "java/lang/invoke/MethodHandle" ∧ yJ2_checkBoundsOffCount_d044e.cls ≠ "java/lang/invoke/VarHandle" ∧ (parseMethodDescriptor yJ2_checkBoundsOffCount_d044e.desc).map (fun d => d.parameters.length) = some 3) := ⟨WA_of (i := 978) (by decide +kernel) (by decide +kernel), kini_java_lang_StringUTF16, by decide +kernel, by decide +kernel, by decide +kernel⟩
theorem ksJ2_checkBoundsOffCount_d044e : Cond.static yJ2_checkBoundsOffCount_d044e ∈ WA := WA_of (i := 977) (by decide +kernel) (by decide +kernel)
def mxJ7_rangeCheck_23922 : Nat := 3
theorem kvJ7_rangeCheck_23922 : (Cond.code yJ7_rangeCheck_23922 cJ7_rangeCheck_23922 3 none ∈ WA) ∧ (Cond.initialized yJ7_rangeCheck_23922.cls ∈ WA) ∧ (yJ7_rangeCheck_23922.cls ≠ "java/lang/invoke/MethodHandle" ∧ yJ7_rangeCheck_23922.cls ≠ "java/lang/invoke/VarHandle" ∧ (parseMethodDescriptor yJ7_rangeCheck_23922.desc).map (fun d => d.parameters.length) = some 3) := ⟨WA_of (i := 1100) (by decide +kernel) (by decide +kernel), kini_java_util_Arrays, by decide +kernel, by decide +kernel, by decide +kernel⟩
theorem ksJ7_rangeCheck_23922 : Cond.static yJ7_rangeCheck_23922 ∈ WA := WA_of (i := 1099) (by decide +kernel) (by decide +kernel)
def mxJ7_fill_eb02e : Nat := 5
theorem kvJ7_fill_eb02e : (Cond.code yJ7_fill_eb02e cJ7_fill_eb02e 5 none ∈ WA) ∧ (Cond.initialized yJ7_fill_eb02e.cls ∈ WA) ∧ (yJ7_fill_eb02e.cls ≠ "java/lang/invoke/MethodHandle" ∧ yJ7_fill_eb02e.cls ≠ "java/lang/invoke/VarHandle" ∧ (parseMethodDescriptor yJ7_fill_eb02e.desc).map (fun d => d.parameters.length) = some 4) := ⟨WA_of (i := 1097) (by decide +kernel) (by decide +kernel), kini_java_util_Arrays, by decide +kernel, by decide +kernel, by decide +kernel⟩
theorem ksJ7_fill_eb02e : Cond.static yJ7_fill_eb02e ∈ WA := WA_of (i := 1096) (by decide +kernel) (by decide +kernel)
def mxJ7_copyOf_9075b : Nat := 3
theorem kvJ7_copyOf_9075b : (Cond.code yJ7_copyOf_9075b cJ7_copyOf_9075b 3 (some (.array .byte)) ∈ WA) ∧ (Cond.initialized yJ7_copyOf_9075b.cls ∈ WA) ∧ (yJ7_copyOf_9075b.cls ≠ "java/lang/invoke/MethodHandle" ∧ yJ7_copyOf_9075b.cls ≠ "java/lang/invoke/VarHandle" ∧ (parseMethodDescriptor yJ7_copyOf_9075b.desc).map (fun d => d.parameters.length) = some 2) := ⟨WA_of (i := 903) (by decide +kernel) (by decide +kernel), kini_java_util_Arrays, by decide +kernel, by decide +kernel, by decide +kernel⟩
theorem ksJ7_copyOf_9075b : Cond.static yJ7_copyOf_9075b ∈ WA := WA_of (i := 902) (by decide +kernel) (by decide +kernel)
def mxJ7_checkLength_df160 : Nat := 2
theorem kvJ7_checkLength_df160 : (Cond.code yJ7_checkLength_df160 cJ7_checkLength_df160 2 none ∈ WA) ∧ (Cond.initialized yJ7_checkLength_df160.cls ∈ WA) ∧ (yJ7_checkLength_df160.cls ≠ "java/lang/invoke/MethodHandle" ∧ yJ7_checkLength_df160.cls ≠ "java/lang/invoke/VarHandle" ∧ (parseMethodDescriptor yJ7_checkLength_df160.desc).map (fun d => d.parameters.length) = some 2) := ⟨WA_of (i := 1051) (by decide +kernel) (by decide +kernel), kini_java_util_Arrays, by decide +kernel, by decide +kernel, by decide +kernel⟩
theorem ksJ7_checkLength_df160 : Cond.static yJ7_checkLength_df160 ∈ WA := WA_of (i := 1050) (by decide +kernel) (by decide +kernel)
def mxJ7_copyOfRange_39247 : Nat := 3
theorem kvJ7_copyOfRange_39247 : (Cond.code yJ7_copyOfRange_39247 cJ7_copyOfRange_39247 3 (some (.array .byte)) ∈ WA) ∧ (Cond.initialized yJ7_copyOfRange_39247.cls ∈ WA) ∧ (yJ7_copyOfRange_39247.cls ≠ "java/lang/invoke/MethodHandle" ∧ yJ7_copyOfRange_39247.cls ≠ "java/lang/invoke/VarHandle" ∧ (parseMethodDescriptor yJ7_copyOfRange_39247.desc).map (fun d => d.parameters.length) = some 3) := ⟨WA_of (i := 1045) (by decide +kernel) (by decide +kernel), kini_java_util_Arrays, by decide +kernel, by decide +kernel, by decide +kernel⟩
theorem ksJ7_copyOfRange_39247 : Cond.static yJ7_copyOfRange_39247 ∈ WA := WA_of (i := 1044) (by decide +kernel) (by decide +kernel)
def mxJ7_copyOfRangeByte_39247 : Nat := 5
theorem kvJ7_copyOfRangeByte_39247 : (Cond.code yJ7_copyOfRangeByte_39247 cJ7_copyOfRangeByte_39247 5 (some (.array .byte)) ∈ WA) ∧ (Cond.initialized yJ7_copyOfRangeByte_39247.cls ∈ WA) ∧ (yJ7_copyOfRangeByte_39247.cls ≠ "java/lang/invoke/MethodHandle" ∧ yJ7_copyOfRangeByte_39247.cls ≠ "java/lang/invoke/VarHandle" ∧ (parseMethodDescriptor yJ7_copyOfRangeByte_39247.desc).map (fun d => d.parameters.length) = some 3) := ⟨WA_of (i := 1048) (by decide +kernel) (by decide +kernel), kini_java_util_Arrays, by decide +kernel, by decide +kernel, by decide +kernel⟩
theorem ksJ7_copyOfRangeByte_39247 : Cond.static yJ7_copyOfRangeByte_39247 ∈ WA := WA_of (i := 1047) (by decide +kernel) (by decide +kernel)
def mxJ8_newLength_cabcc : Nat := 4
theorem kvJ8_newLength_cabcc : (Cond.code yJ8_newLength_cabcc cJ8_newLength_cabcc 4 (some .int) ∈ WA) ∧ (Cond.initialized yJ8_newLength_cabcc.cls ∈ WA) ∧ (yJ8_newLength_cabcc.cls ≠ "java/lang/invoke/MethodHandle" ∧ yJ8_newLength_cabcc.cls ≠ "java/lang/invoke/VarHandle" ∧ (parseMethodDescriptor yJ8_newLength_cabcc.desc).map (fun d => d.parameters.length) = some 3) := ⟨WA_of (i := 892) (by decide +kernel) (by decide +kernel), kini_jdk_internal_util_ArraysSupport, by decide +kernel, by decide +kernel, by decide +kernel⟩
theorem ksJ8_newLength_cabcc : Cond.static yJ8_newLength_cabcc ∈ WA := WA_of (i := 891) (by decide +kernel) (by decide +kernel)
def mxJ8_hugeLength_7cf53 : Nat := 3
theorem kvJ8_hugeLength_7cf53 : (Cond.code yJ8_hugeLength_7cf53 cJ8_hugeLength_7cf53 3 (some .int) ∈ WA) ∧ (Cond.initialized yJ8_hugeLength_7cf53.cls ∈ WA) ∧ (yJ8_hugeLength_7cf53.cls ≠ "java/lang/invoke/MethodHandle" ∧ yJ8_hugeLength_7cf53.cls ≠ "java/lang/invoke/VarHandle" ∧ (parseMethodDescriptor yJ8_hugeLength_7cf53.desc).map (fun d => d.parameters.length) = some 2) := ⟨WA_of (i := 899) (by decide +kernel) (by decide +kernel), kini_jdk_internal_util_ArraysSupport, by decide +kernel, by decide +kernel, by decide +kernel⟩
theorem ksJ8_hugeLength_7cf53 : Cond.static yJ8_hugeLength_7cf53 ∈ WA := WA_of (i := 898) (by decide +kernel) (by decide +kernel)
def mxJ3_checkIndex_8e157 : Nat := 3
theorem kvJ3_checkIndex_8e157 : (Cond.code yJ3_checkIndex_8e157 cJ3_checkIndex_8e157 3 (some .int) ∈ WA) ∧ (Cond.initialized yJ3_checkIndex_8e157.cls ∈ WA) ∧ (yJ3_checkIndex_8e157.cls ≠ "java/lang/invoke/MethodHandle" ∧ yJ3_checkIndex_8e157.cls ≠ "java/lang/invoke/VarHandle" ∧ (parseMethodDescriptor yJ3_checkIndex_8e157.desc).map (fun d => d.parameters.length) = some 3) := ⟨WA_of (i := 1157) (by decide +kernel) (by decide +kernel), kini_jdk_internal_util_Preconditions, by decide +kernel, by decide +kernel, by decide +kernel⟩
theorem ksJ3_checkIndex_8e157 : Cond.static yJ3_checkIndex_8e157 ∈ WA := WA_of (i := 1156) (by decide +kernel) (by decide +kernel)
def mxJ3_checkFromToIndex_8c36e : Nat := 4
theorem kvJ3_checkFromToIndex_8c36e : (Cond.code yJ3_checkFromToIndex_8c36e cJ3_checkFromToIndex_8c36e 4 (some .int) ∈ WA) ∧ (Cond.initialized yJ3_checkFromToIndex_8c36e.cls ∈ WA) ∧ (yJ3_checkFromToIndex_8c36e.cls ≠ "java/lang/invoke/MethodHandle" ∧ yJ3_checkFromToIndex_8c36e.cls ≠ "java/lang/invoke/VarHandle" ∧ (parseMethodDescriptor yJ3_checkFromToIndex_8c36e.desc).map (fun d => d.parameters.length) = some 4) := ⟨WA_of (i := 938) (by decide +kernel) (by decide +kernel), kini_jdk_internal_util_Preconditions, by decide +kernel, by decide +kernel, by decide +kernel⟩
theorem ksJ3_checkFromToIndex_8c36e : Cond.static yJ3_checkFromToIndex_8c36e ∈ WA := WA_of (i := 937) (by decide +kernel) (by decide +kernel)
def mxJ3_checkFromIndexSize_8c36e : Nat := 4
theorem kvJ3_checkFromIndexSize_8c36e : (Cond.code yJ3_checkFromIndexSize_8c36e cJ3_checkFromIndexSize_8c36e 4 (some .int) ∈ WA) ∧ (Cond.initialized yJ3_checkFromIndexSize_8c36e.cls ∈ WA) ∧ (yJ3_checkFromIndexSize_8c36e.cls ≠ "java/lang/invoke/MethodHandle" ∧ yJ3_checkFromIndexSize_8c36e.cls ≠ "java/lang/invoke/VarHandle" ∧ (parseMethodDescriptor yJ3_checkFromIndexSize_8c36e.desc).map (fun d => d.parameters.length) = some 4) := ⟨WA_of (i := 984) (by decide +kernel) (by decide +kernel), kini_jdk_internal_util_Preconditions, by decide +kernel, by decide +kernel, by decide +kernel⟩
theorem ksJ3_checkFromIndexSize_8c36e : Cond.static yJ3_checkFromIndexSize_8c36e ∈ WA := WA_of (i := 983) (by decide +kernel) (by decide +kernel)
def mxL_cell : Nat := 2
theorem kvL_cell : (Cond.code yL_cell cL_cell 2 (some .int) ∈ WA) ∧ (Cond.initialized yL_cell.cls ∈ WA) ∧ (yL_cell.cls ≠ "java/lang/invoke/MethodHandle" ∧ yL_cell.cls ≠ "java/lang/invoke/VarHandle" ∧ (parseMethodDescriptor yL_cell.desc).map (fun d => d.parameters.length) = some 2) := ⟨WA_of (i := 1236) (by decide +kernel) (by decide +kernel), kini_CaseManagerLaw, by decide +kernel, by decide +kernel, by decide +kernel⟩
theorem ksL_cell : Cond.static yL_cell ∈ WA := WA_of (i := 1235) (by decide +kernel) (by decide +kernel)
def mxL_some : Nat := 3
theorem kvL_some : (Cond.code yL_some cL_some 3 (some .int) ∈ WA) ∧ (Cond.initialized yL_some.cls ∈ WA) ∧ (yL_some.cls ≠ "java/lang/invoke/MethodHandle" ∧ yL_some.cls ≠ "java/lang/invoke/VarHandle" ∧ (parseMethodDescriptor yL_some.desc).map (fun d => d.parameters.length) = some 3) := ⟨WA_of (i := 1233) (by decide +kernel) (by decide +kernel), kini_CaseManagerLaw, by decide +kernel, by decide +kernel, by decide +kernel⟩
theorem ksL_some : Cond.static yL_some ∈ WA := WA_of (i := 1232) (by decide +kernel) (by decide +kernel)
theorem ksL_charge : Cond.static yL_charge ∈ WA := WA_of (i := 1376) (by decide +kernel) (by decide +kernel)
theorem ksL_addWitness : Cond.static yL_addWitness ∈ WA := WA_of (i := 1238) (by decide +kernel) (by decide +kernel)
theorem ksL_testify : Cond.static yL_testify ∈ WA := WA_of (i := 1386) (by decide +kernel) (by decide +kernel)
theorem ksL_question : Cond.static yL_question ∈ WA := WA_of (i := 1393) (by decide +kernel) (by decide +kernel)
theorem ksL_appeal : Cond.static yL_appeal ∈ WA := WA_of (i := 1407) (by decide +kernel) (by decide +kernel)
theorem ksL_close : Cond.static yL_close ∈ WA := WA_of (i := 1414) (by decide +kernel) (by decide +kernel)
theorem ksL_witnessAt : Cond.static yL_witnessAt ∈ WA := WA_of (i := 1169) (by decide +kernel) (by decide +kernel)
theorem ksL_mostCredible : Cond.static yL_mostCredible ∈ WA := WA_of (i := 1176) (by decide +kernel) (by decide +kernel)
theorem ksL_heaviestWitness : Cond.static yL_heaviestWitness ∈ WA := WA_of (i := 1179) (by decide +kernel) (by decide +kernel)
theorem ksL_nextToDecide : Cond.static yL_nextToDecide ∈ WA := WA_of (i := 1190) (by decide +kernel) (by decide +kernel)
theorem ksL_firmAnswersToGuilty : Cond.static yL_firmAnswersToGuilty ∈ WA := WA_of (i := 1202) (by decide +kernel) (by decide +kernel)
theorem ksL_docketAt : Cond.static yL_docketAt ∈ WA := WA_of (i := 1214) (by decide +kernel) (by decide +kernel)
theorem ksL_docketPosition : Cond.static yL_docketPosition ∈ WA := WA_of (i := 1217) (by decide +kernel) (by decide +kernel)
theorem ksL_decide : Cond.static yL_decide ∈ WA := WA_of (i := 1400) (by decide +kernel) (by decide +kernel)
theorem ksL_verdict : Cond.static yL_verdict ∈ WA := WA_of (i := 1221) (by decide +kernel) (by decide +kernel)
def mxL_build : Nat := 4
theorem kvL_build : (Cond.code yL_build cL_build 4 none ∈ WA) ∧ (Cond.initialized yL_build.cls ∈ WA) ∧ (yL_build.cls ≠ "java/lang/invoke/MethodHandle" ∧ yL_build.cls ≠ "java/lang/invoke/VarHandle" ∧ (parseMethodDescriptor yL_build.desc).map (fun d => d.parameters.length) = some 2) := ⟨WA_of (i := 1230) (by decide +kernel) (by decide +kernel), kini_CaseManagerLaw, by decide +kernel, by decide +kernel, by decide +kernel⟩
theorem ksL_build : Cond.static yL_build ∈ WA := WA_of (i := 1229) (by decide +kernel) (by decide +kernel)
def mxL_acts : Nat := 7
theorem kvL_acts : (Cond.code yL_acts cL_acts 7 none ∈ WA) ∧ (Cond.initialized yL_acts.cls ∈ WA) ∧ (yL_acts.cls ≠ "java/lang/invoke/MethodHandle" ∧ yL_acts.cls ≠ "java/lang/invoke/VarHandle" ∧ (parseMethodDescriptor yL_acts.desc).map (fun d => d.parameters.length) = some 3) := ⟨WA_of (i := 1384) (by decide +kernel) (by decide +kernel), kini_CaseManagerLaw, by decide +kernel, by decide +kernel, by decide +kernel⟩
theorem ksL_acts : Cond.static yL_acts ∈ WA := WA_of (i := 1383) (by decide +kernel) (by decide +kernel)
def mxL_weight : Nat := 6
theorem kvL_weight : (Cond.code yL_weight cL_weight 6 (some .int) ∈ WA) ∧ (Cond.initialized yL_weight.cls ∈ WA) ∧ (yL_weight.cls ≠ "java/lang/invoke/MethodHandle" ∧ yL_weight.cls ≠ "java/lang/invoke/VarHandle" ∧ (parseMethodDescriptor yL_weight.desc).map (fun d => d.parameters.length) = some 3) := ⟨WA_of (i := 1422) (by decide +kernel) (by decide +kernel), kini_CaseManagerLaw, by decide +kernel, by decide +kernel, by decide +kernel⟩
theorem ksL_weight : Cond.static yL_weight ∈ WA := WA_of (i := 1421) (by decide +kernel) (by decide +kernel)
def mxL_isLine : Nat := 4
theorem kvL_isLine : (Cond.code yL_isLine cL_isLine 4 (some .boolean) ∈ WA) ∧ (Cond.initialized yL_isLine.cls ∈ WA) ∧ (yL_isLine.cls ≠ "java/lang/invoke/MethodHandle" ∧ yL_isLine.cls ≠ "java/lang/invoke/VarHandle" ∧ (parseMethodDescriptor yL_isLine.desc).map (fun d => d.parameters.length) = some 3) := ⟨WA_of (i := 1425) (by decide +kernel) (by decide +kernel), kini_CaseManagerLaw, by decide +kernel, by decide +kernel, by decide +kernel⟩
theorem ksL_isLine : Cond.static yL_isLine ∈ WA := WA_of (i := 1424) (by decide +kernel) (by decide +kernel)
theorem klay_X0_0 : u_lay RX0 TX0 0 ∈ WA := WA_of (i := 137) (by decide +kernel) (by decide +kernel)
theorem klay_X0_1 : u_lay RX0 TX0 1 ∈ WA := WA_of (i := 139) (by decide +kernel) (by decide +kernel)
theorem klay_X0_2 : u_lay RX0 TX0 2 ∈ WA := WA_of (i := 141) (by decide +kernel) (by decide +kernel)
theorem klay_X0_3 : u_lay RX0 TX0 3 ∈ WA := WA_of (i := 143) (by decide +kernel) (by decide +kernel)
theorem klay_X0_4 : u_lay RX0 TX0 4 ∈ WA := WA_of (i := 145) (by decide +kernel) (by decide +kernel)
theorem klay_X0_5 : u_lay RX0 TX0 5 ∈ WA := WA_of (i := 147) (by decide +kernel) (by decide +kernel)
theorem klay_X0_6 : u_lay RX0 TX0 6 ∈ WA := WA_of (i := 149) (by decide +kernel) (by decide +kernel)
theorem klay_X0_7 : u_lay RX0 TX0 7 ∈ WA := WA_of (i := 151) (by decide +kernel) (by decide +kernel)
theorem klay_X0_8 : u_lay RX0 TX0 8 ∈ WA := WA_of (i := 153) (by decide +kernel) (by decide +kernel)
theorem klay_X0_9 : u_lay RX0 TX0 9 ∈ WA := WA_of (i := 155) (by decide +kernel) (by decide +kernel)
theorem klay_X0_10 : u_lay RX0 TX0 10 ∈ WA := WA_of (i := 157) (by decide +kernel) (by decide +kernel)
theorem klay_X0_11 : u_lay RX0 TX0 11 ∈ WA := WA_of (i := 159) (by decide +kernel) (by decide +kernel)
theorem klay_X0_12 : u_lay RX0 TX0 12 ∈ WA := WA_of (i := 161) (by decide +kernel) (by decide +kernel)
theorem klay_X0_13 : u_lay RX0 TX0 13 ∈ WA := WA_of (i := 163) (by decide +kernel) (by decide +kernel)
theorem klay_X0_14 : u_lay RX0 TX0 14 ∈ WA := WA_of (i := 165) (by decide +kernel) (by decide +kernel)
theorem klay_X0_15 : u_lay RX0 TX0 15 ∈ WA := WA_of (i := 167) (by decide +kernel) (by decide +kernel)
theorem klay_X0_16 : u_lay RX0 TX0 16 ∈ WA := WA_of (i := 169) (by decide +kernel) (by decide +kernel)
theorem inX0 : ∀ w ∈ u_ws RX0 TX0 17, w ∈ WA := by
  intro w h
  obtain ⟨k, hk, rfl⟩ := List.mem_map.mp h
  have hk := List.mem_range.mp hk
  rcases (show k = 0 ∨ k = 1 ∨ k = 2 ∨ k = 3 ∨ k = 4 ∨ k = 5 ∨ k = 6 ∨ k = 7 ∨ k = 8 ∨ k = 9 ∨ k = 10 ∨ k = 11 ∨ k = 12 ∨ k = 13 ∨ k = 14 ∨ k = 15 ∨ k = 16 by omega) with rfl | rfl | rfl | rfl | rfl | rfl | rfl | rfl | rfl | rfl | rfl | rfl | rfl | rfl | rfl | rfl | rfl
  · exact klay_X0_0
  · exact klay_X0_1
  · exact klay_X0_2
  · exact klay_X0_3
  · exact klay_X0_4
  · exact klay_X0_5
  · exact klay_X0_6
  · exact klay_X0_7
  · exact klay_X0_8
  · exact klay_X0_9
  · exact klay_X0_10
  · exact klay_X0_11
  · exact klay_X0_12
  · exact klay_X0_13
  · exact klay_X0_14
  · exact klay_X0_15
  · exact klay_X0_16
theorem klay_X1_0 : u_lay RX1 TX1 0 ∈ WA := WA_of (i := 203) (by decide +kernel) (by decide +kernel)
theorem klay_X1_1 : u_lay RX1 TX1 1 ∈ WA := WA_of (i := 205) (by decide +kernel) (by decide +kernel)
theorem inX1 : ∀ w ∈ u_ws RX1 TX1 2, w ∈ WA := by
  intro w h
  obtain ⟨k, hk, rfl⟩ := List.mem_map.mp h
  have hk := List.mem_range.mp hk
  rcases (show k = 0 ∨ k = 1 by omega) with rfl | rfl
  · exact klay_X1_0
  · exact klay_X1_1
theorem klay_X3_0 : u_lay RX3 TX3 0 ∈ WA := WA_of (i := 101) (by decide +kernel) (by decide +kernel)
theorem inX3 : ∀ w ∈ u_ws RX3 TX3 1, w ∈ WA := by
  intro w h
  obtain ⟨k, hk, rfl⟩ := List.mem_map.mp h
  have hk := List.mem_range.mp hk
  rcases (show k = 0 by omega) with rfl
  · exact klay_X3_0
theorem klay_X4_0 : u_lay RX4 TX4 0 ∈ WA := WA_of (i := 184) (by decide +kernel) (by decide +kernel)
theorem klay_X4_1 : u_lay RX4 TX4 1 ∈ WA := WA_of (i := 186) (by decide +kernel) (by decide +kernel)
theorem klay_X4_2 : u_lay RX4 TX4 2 ∈ WA := WA_of (i := 188) (by decide +kernel) (by decide +kernel)
theorem inX4 : ∀ w ∈ u_ws RX4 TX4 3, w ∈ WA := by
  intro w h
  obtain ⟨k, hk, rfl⟩ := List.mem_map.mp h
  have hk := List.mem_range.mp hk
  rcases (show k = 0 ∨ k = 1 ∨ k = 2 by omega) with rfl | rfl | rfl
  · exact klay_X4_0
  · exact klay_X4_1
  · exact klay_X4_2
theorem klay_X5_0 : u_lay RX5 TX5 0 ∈ WA := WA_of (i := 275) (by decide +kernel) (by decide +kernel)
theorem klay_X5_1 : u_lay RX5 TX5 1 ∈ WA := WA_of (i := 277) (by decide +kernel) (by decide +kernel)
theorem klay_X5_2 : u_lay RX5 TX5 2 ∈ WA := WA_of (i := 279) (by decide +kernel) (by decide +kernel)
theorem klay_X5_3 : u_lay RX5 TX5 3 ∈ WA := WA_of (i := 281) (by decide +kernel) (by decide +kernel)
theorem klay_X5_4 : u_lay RX5 TX5 4 ∈ WA := WA_of (i := 283) (by decide +kernel) (by decide +kernel)
theorem klay_X5_5 : u_lay RX5 TX5 5 ∈ WA := WA_of (i := 285) (by decide +kernel) (by decide +kernel)
theorem klay_X5_6 : u_lay RX5 TX5 6 ∈ WA := WA_of (i := 287) (by decide +kernel) (by decide +kernel)
theorem klay_X5_7 : u_lay RX5 TX5 7 ∈ WA := WA_of (i := 289) (by decide +kernel) (by decide +kernel)
theorem inX5 : ∀ w ∈ u_ws RX5 TX5 8, w ∈ WA := by
  intro w h
  obtain ⟨k, hk, rfl⟩ := List.mem_map.mp h
  have hk := List.mem_range.mp hk
  rcases (show k = 0 ∨ k = 1 ∨ k = 2 ∨ k = 3 ∨ k = 4 ∨ k = 5 ∨ k = 6 ∨ k = 7 by omega) with rfl | rfl | rfl | rfl | rfl | rfl | rfl | rfl
  · exact klay_X5_0
  · exact klay_X5_1
  · exact klay_X5_2
  · exact klay_X5_3
  · exact klay_X5_4
  · exact klay_X5_5
  · exact klay_X5_6
  · exact klay_X5_7
theorem klay_X6_0 : u_lay RX6 TX6 0 ∈ WA := WA_of (i := 87) (by decide +kernel) (by decide +kernel)
theorem inX6 : ∀ w ∈ u_ws RX6 TX6 1, w ∈ WA := by
  intro w h
  obtain ⟨k, hk, rfl⟩ := List.mem_map.mp h
  have hk := List.mem_range.mp hk
  rcases (show k = 0 by omega) with rfl
  · exact klay_X6_0
theorem klay_X7_0 : u_lay RX7 TX7 0 ∈ WA := WA_of (i := 219) (by decide +kernel) (by decide +kernel)
theorem klay_X7_1 : u_lay RX7 TX7 1 ∈ WA := WA_of (i := 221) (by decide +kernel) (by decide +kernel)
theorem klay_X7_2 : u_lay RX7 TX7 2 ∈ WA := WA_of (i := 223) (by decide +kernel) (by decide +kernel)
theorem inX7 : ∀ w ∈ u_ws RX7 TX7 3, w ∈ WA := by
  intro w h
  obtain ⟨k, hk, rfl⟩ := List.mem_map.mp h
  have hk := List.mem_range.mp hk
  rcases (show k = 0 ∨ k = 1 ∨ k = 2 by omega) with rfl | rfl | rfl
  · exact klay_X7_0
  · exact klay_X7_1
  · exact klay_X7_2
theorem klay_X9_0 : u_lay RX9 TX9 0 ∈ WA := WA_of (i := 306) (by decide +kernel) (by decide +kernel)
theorem klay_X9_1 : u_lay RX9 TX9 1 ∈ WA := WA_of (i := 308) (by decide +kernel) (by decide +kernel)
theorem klay_X9_2 : u_lay RX9 TX9 2 ∈ WA := WA_of (i := 310) (by decide +kernel) (by decide +kernel)
theorem klay_X9_3 : u_lay RX9 TX9 3 ∈ WA := WA_of (i := 312) (by decide +kernel) (by decide +kernel)
theorem klay_X9_4 : u_lay RX9 TX9 4 ∈ WA := WA_of (i := 314) (by decide +kernel) (by decide +kernel)
theorem klay_X9_5 : u_lay RX9 TX9 5 ∈ WA := WA_of (i := 316) (by decide +kernel) (by decide +kernel)
theorem klay_X9_6 : u_lay RX9 TX9 6 ∈ WA := WA_of (i := 318) (by decide +kernel) (by decide +kernel)
theorem klay_X9_7 : u_lay RX9 TX9 7 ∈ WA := WA_of (i := 320) (by decide +kernel) (by decide +kernel)
theorem klay_X9_8 : u_lay RX9 TX9 8 ∈ WA := WA_of (i := 322) (by decide +kernel) (by decide +kernel)
theorem klay_X9_9 : u_lay RX9 TX9 9 ∈ WA := WA_of (i := 324) (by decide +kernel) (by decide +kernel)
theorem klay_X9_10 : u_lay RX9 TX9 10 ∈ WA := WA_of (i := 326) (by decide +kernel) (by decide +kernel)
theorem klay_X9_11 : u_lay RX9 TX9 11 ∈ WA := WA_of (i := 328) (by decide +kernel) (by decide +kernel)
theorem inX9 : ∀ w ∈ u_ws RX9 TX9 12, w ∈ WA := by
  intro w h
  obtain ⟨k, hk, rfl⟩ := List.mem_map.mp h
  have hk := List.mem_range.mp hk
  rcases (show k = 0 ∨ k = 1 ∨ k = 2 ∨ k = 3 ∨ k = 4 ∨ k = 5 ∨ k = 6 ∨ k = 7 ∨ k = 8 ∨ k = 9 ∨ k = 10 ∨ k = 11 by omega) with rfl | rfl | rfl | rfl | rfl | rfl | rfl | rfl | rfl | rfl | rfl | rfl
  · exact klay_X9_0
  · exact klay_X9_1
  · exact klay_X9_2
  · exact klay_X9_3
  · exact klay_X9_4
  · exact klay_X9_5
  · exact klay_X9_6
  · exact klay_X9_7
  · exact klay_X9_8
  · exact klay_X9_9
  · exact klay_X9_10
  · exact klay_X9_11
theorem klay_J4_0 : u_lay RJ4 TJ4 0 ∈ WA := WA_of (i := 255) (by decide +kernel) (by decide +kernel)
theorem klay_J4_1 : u_lay RJ4 TJ4 1 ∈ WA := WA_of (i := 257) (by decide +kernel) (by decide +kernel)
theorem klay_J4_2 : u_lay RJ4 TJ4 2 ∈ WA := WA_of (i := 259) (by decide +kernel) (by decide +kernel)
theorem klay_J4_3 : u_lay RJ4 TJ4 3 ∈ WA := WA_of (i := 261) (by decide +kernel) (by decide +kernel)
theorem inJ4 : ∀ w ∈ u_ws RJ4 TJ4 4, w ∈ WA := by
  intro w h
  obtain ⟨k, hk, rfl⟩ := List.mem_map.mp h
  have hk := List.mem_range.mp hk
  rcases (show k = 0 ∨ k = 1 ∨ k = 2 ∨ k = 3 by omega) with rfl | rfl | rfl | rfl
  · exact klay_J4_0
  · exact klay_J4_1
  · exact klay_J4_2
  · exact klay_J4_3
theorem klay_J0_0 : u_lay RJ0 TJ0 0 ∈ WA := WA_of (i := 1075) (by decide +kernel) (by decide +kernel)
theorem klay_J0_1 : u_lay RJ0 TJ0 1 ∈ WA := WA_of (i := 1077) (by decide +kernel) (by decide +kernel)
theorem klay_J0_2 : u_lay RJ0 TJ0 2 ∈ WA := WA_of (i := 1079) (by decide +kernel) (by decide +kernel)
theorem klay_J0_3 : u_lay RJ0 TJ0 3 ∈ WA := WA_of (i := 1081) (by decide +kernel) (by decide +kernel)
theorem inJ0 : ∀ w ∈ u_ws RJ0 TJ0 4, w ∈ WA := by
  intro w h
  obtain ⟨k, hk, rfl⟩ := List.mem_map.mp h
  have hk := List.mem_range.mp hk
  rcases (show k = 0 ∨ k = 1 ∨ k = 2 ∨ k = 3 by omega) with rfl | rfl | rfl | rfl
  · exact klay_J0_0
  · exact klay_J0_1
  · exact klay_J0_2
  · exact klay_J0_3
end
