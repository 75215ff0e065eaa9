/-! a contract's start and end as they are wanted; texts -/
theorem Mu.mono {l : Launch} {y : MethodName} {cy : ByteArray} {my : Nat} {ry : Option FieldType} {Lv mc ms : Nat} {E : Nat → Nat → Nat} {rs : List (Nat × Nat)} {av : List Value} {Pr Pr' : Heap → Prop} {Po Po' : Option Value → Heap → Prop} (h : Mu l y cy my ry Lv mc ms E rs av Pr Po) (hp : ∀ H, Pr' H → Pr H) (hq : ∀ v H, Po v H → Po' v H) : Mu l y cy my ry Lv mc ms E rs av Pr' Po' := by
  intro sz
  refine MetFree.mono (h sz) (fun a s q => ?_) (fun _ _ _ _ _ k => k) (fun a s o t _ q => ?_)
  · exact ⟨q.1, q.2.1, q.2.2.1, q.2.2.2.1, hp _ q.2.2.2.2⟩
  · obtain ⟨⟨v, h1, h2, h3⟩, h4⟩ := q
    exact ⟨⟨v, h1, hq _ _ h2, h3⟩, h4⟩
/-- the first n places of f hold T -/
def LT (f : Int → Int) (n : Int) (T : List Int) : Prop := n = (T.length : Int) ∧ ∀ j : Nat, j < T.length → T[j]? = some (f (j : Int))
theorem LT.nil {f : Int → Int} : LT f 0 [] := ⟨rfl, fun j h => by simp at h⟩
theorem LT.n0 {f : Int → Int} {n : Int} {T : List Int} (h : LT f n T) : 0 ≤ n := by rw [h.1]; omega
theorem LT.app {f f1 : Int → Int} {n x : Int} {T : List Int} (h : LT f n T) (h1 : ∀ j : Int, 0 ≤ j ∧ j < n → f1 j = f j) (h2 : f1 n = x) : LT f1 (n + 1) (T ++ [x]) := by
  obtain ⟨e, h⟩ := h
  refine ⟨by rw [e, List.length_append]; simp, fun j hj => ?_⟩
  rw [List.length_append] at hj
  have hj : j < T.length + 1 := hj
  by_cases q : j < T.length
  · rw [List.getElem?_append_left q, h j q, h1 j ⟨by omega, by omega⟩]
  · have ej : j = T.length := by omega
    subst ej
    rw [List.getElem?_append_right (Nat.le_refl _), ← e, h2]
    simp
theorem LT.at {f : Int → Int} {n : Int} {T : List Int} (h : LT f n T) {f1 : Int → Int} {n1 : Int} (h1 : LT f1 n1 T) : n = n1 ∧ ∀ j : Int, 0 ≤ j → j < n → f j = f1 j := by
  obtain ⟨e, h⟩ := h
  obtain ⟨e1, h1⟩ := h1
  refine ⟨by omega, fun j a b => ?_⟩
  have q := h j.toNat (by omega)
  have q1 := h1 j.toNat (by omega)
  rw [Int.toNat_of_nonneg a] at q q1
  exact Option.some.inj (q.symm.trans q1)
/-- a text in a row of bytes -/
def SBs (f : Int → Int) (N : Nat) (n : Int) (T : List Int) : Prop := (N = 16 ∨ N = 34 ∨ N = 70) ∧ n ≤ (N : Int) ∧ (∀ j : Int, 0 ≤ f j ∧ f j < 128) ∧ LT f n T
theorem SBs.n0 {f : Int → Int} {N : Nat} {n : Int} {T : List Int} (h : SBs f N n T) : 0 ≤ n := h.2.2.2.n0
def nmT (x : Int) : List Int := if x < 10 then [48 + x] else [48 + x / 10, 48 + x % 10]
theorem c_J4_appC (l : Launch) (E : Nat → Nat → Nat) (b : Nat) (v : Nat) (N : Nat) (f : Int → Int) (ml : Int) (n : Int) (z : Nat) (x : Int) (T : List Int) (x0 : 0 ≤ x) (x1 : x < 128) (n2 : n < 69) (hT : SBs f N n T) (hbz : b < z) (hd_sb_sa : b + 1 ≤ v ∨ v + 1 ≤ b) : Mu l yJ4_append_cf468 cJ4_append_cf468 2 (some (.object "java/lang/StringBuilder")) 5 1 70 E [(b, 1), (v, 1)] [.ref b, .int (zI x)] (fun H => PR E b [(b, .inr (1, [.ref v, .int (zI 0), .int (zI ml), .int (zI n)]))] H ∧ PR E v [(v, .inl (E 102 2, N, .inl (zA f)))] H ∧ z ≤ H.size) (fun rv H => ∃ v1 : Nat, ∃ N1 : Nat, ∃ f1 : Int → Int, rv = some (.ref b) ∧ (v1 = v ∨ z ≤ v1) ∧ SBs f1 N1 (n + 1) (T ++ [x]) ∧ PR E b [(b, .inr (1, [.ref v1, .int (zI 0), .int (zI ml), .int (zI (n + 1))]))] H ∧ PR E v1 [(v1, .inl (E 102 2, N1, .inl (zA f1)))] H) := Mu.mono (c_J4_append_cf468 l E b v N f ml n z x x0 x1 hT.n0 hT.2.1 (by omega) hT.1 hT.2.2.1 hbz hd_sb_sa) (fun H h => h) (fun rv H h => by obtain ⟨v1, N1, f1, h1, h2, h3, h4, h5, h6, h7, h8, h9⟩ := h; exact ⟨v1, N1, f1, h1, h2, ⟨h3, h4, h7, hT.2.2.2.app h5 h6⟩, h8, h9⟩)
theorem c_J4_appS (l : Launch) (E : Nat → Nat → Nat) (b : Nat) (v : Nat) (N : Nat) (f : Int → Int) (ml : Int) (n : Int) (z : Nat) (x : Int) (T : List Int) (x0 : 0 ≤ x) (x1 : x < 10) (n2 : n < 68) (hT : SBs f N n T) (hbz : b < z) (hd_sb_sa : b + 1 ≤ v ∨ v + 1 ≤ b) : Mu l yJ4_append_bf812 cJ4_append_bf812 2 (some (.object "java/lang/StringBuilder")) 5 1 70 E [(b, 1), (v, 1)] [.ref b, .int (zI x)] (fun H => PR E b [(b, .inr (1, [.ref v, .int (zI 0), .int (zI ml), .int (zI n)]))] H ∧ PR E v [(v, .inl (E 102 2, N, .inl (zA f)))] H ∧ z ≤ H.size) (fun rv H => ∃ v1 : Nat, ∃ N1 : Nat, ∃ f1 : Int → Int, rv = some (.ref b) ∧ (v1 = v ∨ z ≤ v1) ∧ SBs f1 N1 (n + 1) (T ++ [48 + x]) ∧ PR E b [(b, .inr (1, [.ref v1, .int (zI 0), .int (zI ml), .int (zI (n + 1))]))] H ∧ PR E v1 [(v1, .inl (E 102 2, N1, .inl (zA f1)))] H) := Mu.mono (c_J4_appendI_1 l E b v N f ml n z x x0 x1 hT.n0 hT.2.1 (by omega) hT.1 hT.2.2.1 hbz hd_sb_sa) (fun H h => h) (fun rv H h => by obtain ⟨v1, N1, f1, h1, h2, h3, h4, h5, h6, h7, h8, h9⟩ := h; exact ⟨v1, N1, f1, h1, h2, ⟨h3, h4, h7, hT.2.2.2.app h5 h6⟩, h8, h9⟩)
theorem c_J4_appN (l : Launch) (E : Nat → Nat → Nat) (b : Nat) (v : Nat) (N : Nat) (f : Int → Int) (ml : Int) (n : Int) (z : Nat) (x : Int) (T : List Int) (x0 : 0 ≤ x) (x1 : x < 100) (n2 : n < 68) (hT : SBs f N n T) (hbz : b < z) (hd_sb_sa : b + 1 ≤ v ∨ v + 1 ≤ b) : Mu l yJ4_append_bf812 cJ4_append_bf812 2 (some (.object "java/lang/StringBuilder")) 5 1 70 E [(b, 1), (v, 1)] [.ref b, .int (zI x)] (fun H => PR E b [(b, .inr (1, [.ref v, .int (zI 0), .int (zI ml), .int (zI n)]))] H ∧ PR E v [(v, .inl (E 102 2, N, .inl (zA f)))] H ∧ z ≤ H.size) (fun rv H => ∃ v1 : Nat, ∃ N1 : Nat, ∃ f1 : Int → Int, ∃ n1 : Int, rv = some (.ref b) ∧ (v1 = v ∨ z ≤ v1) ∧ SBs f1 N1 n1 (T ++ nmT x) ∧ (n + 1 ≤ n1 ∧ n1 ≤ n + 2) ∧ PR E b [(b, .inr (1, [.ref v1, .int (zI 0), .int (zI ml), .int (zI n1)]))] H ∧ PR E v1 [(v1, .inl (E 102 2, N1, .inl (zA f1)))] H) := by
  by_cases q : x < 10
  · refine Mu.mono (c_J4_appendI_1 l E b v N f ml n z x x0 q hT.n0 hT.2.1 (by omega) hT.1 hT.2.2.1 hbz hd_sb_sa) (fun H h => h) (fun rv H h => ?_)
    obtain ⟨v1, N1, f1, h1, h2, h3, h4, h5, h6, h7, h8, h9⟩ := h
    refine ⟨v1, N1, f1, n + 1, h1, h2, ⟨h3, h4, h7, ?_⟩, by omega, h8, h9⟩
    rw [nmT, if_pos q]
    exact hT.2.2.2.app h5 h6
  · refine Mu.mono (c_J4_appendI_2 l E b v N f ml n z x (by omega) x1 hT.n0 hT.2.1 (by omega) hT.1 hT.2.2.1 hbz hd_sb_sa) (fun H h => h) (fun rv H h => ?_)
    obtain ⟨v1, N1, f1, h1, h2, h3, h4, h5, h6, h7, h8, h9, h10⟩ := h
    refine ⟨v1, N1, f1, n + 2, h1, h2, ⟨h3, h4, h8, ?_⟩, by omega, h9, h10⟩
    rw [nmT, if_neg q]
    have e1 : LT f1 (n + 1) (T ++ [48 + x / 10]) := hT.2.2.2.app h5 h6
    have e2 : LT f1 (n + 1 + 1) ((T ++ [48 + x / 10]) ++ [48 + x % 10]) := e1.app (fun _ _ => rfl) h7
    rw [List.append_assoc, show n + 1 + 1 = n + 2 by omega] at e2
    exact e2
set_option maxHeartbeats 4000000 in
set_option maxRecDepth 20000 in
theorem c_J5_ensure0 (l : Launch) (E : Nat → Nat → Nat) (b : Nat) (v : Nat) (N : Nat) (f : Int → Int) (ml : Int) (n : Int) (n0 : 0 ≤ n) (n2 : n ≤ 70) (N0 : 0 < N) (N1 : N < 1000) : Rd l yJ5_ensureCapacityInternal_d00df cJ5_ensureCapacityInternal_d00df 3 none 0 E [.ref b, .int (zI 0)] ([(b, .inr (1, [.ref v, .int (zI 0), .int (zI ml), .int (zI n)]))] ++ [(v, .inl (E 102 2, N, .inl (zA f)))]) none := by
  refine Rd.start (own := RJ5) rfl (by decide +kernel) (Nat.le_of_ble_eq_true rfl) ?_
  intro p e s m below meth cd args Q hQ X hr hlk hC hP
  have h_sa := PW.right hP
  have h_sb := (PW.left hP)
  refine v_aload_n X dJ5_ensureCapacityInternal_d00df_0 1 rfl 0 rfl ?_
  refine v_getf X hC h_sb inJ4 0 rfl rfl 0 (by decide) kf_J5_15 (fun _ h => h) rfl dJ5_ensureCapacityInternal_d00df_1 4 rfl ?_
  refine v_alen X hC h_sa 0 2 rfl rfl dJ5_ensureCapacityInternal_d00df_4 5 rfl ?_
  refine v_aload_n X dJ5_ensureCapacityInternal_d00df_5 6 rfl 0 rfl ?_
  refine v_getf X hC h_sb inJ4 0 rfl rfl 1 (by decide) kf_J5_22 (fun _ h => h) rfl dJ5_ensureCapacityInternal_d00df_6 9 rfl ?_
  show V p l e (rmL 0 0 0) s m args below meth cd Q 3 s.heap [] 0 0 9 [(0, .ref b), (1, .int (zI 0))] [.int (zI 0), .int (zI (N : Int))]
  refine v_ishr0 X dJ5_ensureCapacityInternal_d00df_9 10 rfl ?_
  refine v_istore_n X dJ5_ensureCapacityInternal_d00df_10 11 rfl rfl (by decide) (L' := [(2, .int (zI (N : Int))), (0, .ref b), (1, .int (zI 0))]) rfl ?_
  refine v_iload_n X dJ5_ensureCapacityInternal_d00df_11 12 rfl 2 rfl ?_
  refine v_iload_n X dJ5_ensureCapacityInternal_d00df_12 13 rfl 0 rfl ?_
  refine v_isub X dJ5_ensureCapacityInternal_d00df_13 14 rfl ?_
  refine v_if_le X (by omega) dJ5_ensureCapacityInternal_d00df_14 17 38 rfl (by decide) (fun c_1 => ?_) (fun c_1 => ?_)
  · skip
    subst hQ; exact v_vret0 X hr hlk dJ5_ensureCapacityInternal_d00df_38
  · skip
    exfalso; omega
set_option maxHeartbeats 4000000 in
set_option maxRecDepth 20000 in
theorem c_J5_setLength0 (l : Launch) (E : Nat → Nat → Nat) (b : Nat) (v : Nat) (N : Nat) (f : Int → Int) (ml : Int) (n : Int) (n0 : 0 ≤ n) (n2 : n ≤ 70) (N0 : 0 < N) (N1 : N < 1000) (hd_sb_sa : b + 1 ≤ v ∨ v + 1 ≤ b) : Mu l yJ5_setLength_d00df cJ5_setLength_d00df 2 none 1 0 0 E [(b, 1)] [.ref b, .int (zI 0)] (fun H => PR E b [(b, .inr (1, [.ref v, .int (zI 0), .int (zI ml), .int (zI n)]))] H ∧ PR E v [(v, .inl (E 102 2, N, .inl (zA f)))] H) (fun rv H => rv = none ∧ PR E b [(b, .inr (1, [.ref v, .int (zI 0), .int (zI (if 0 < n then 1 else ml)), .int (zI 0)]))] H) := by
  refine Mu.start (own := RJ5) rfl (by decide +kernel) (Nat.le_of_ble_eq_true rfl) ?_
  intro p e s m below meth cd args Q hQ X hr hlk hnm hM hPr
  obtain ⟨h_sb, h_sa⟩ := hPr
  refine v_iload_n X dJ5_setLength_d00df_0 1 rfl 1 rfl ?_
  refine v_if_ge X (by omega) dJ5_setLength_d00df_1 4 13 rfl (by decide) (fun c_1 => ?_) (fun c_1 => ?_)
  · skip
    refine v_aload_n X dJ5_setLength_d00df_13 14 rfl 0 rfl ?_
    refine v_iload_n X dJ5_setLength_d00df_14 15 rfl 1 rfl ?_
    refine v_rdU (C := RJ4) (hsel := va_Nw.use rfl (hM.C.2.2.2.1.2.2.2 _ (by simp))) X hM.C (PW.app h_sb.1 h_sa.1) (c_J5_ensure0 l E b v N f ml n n0 n2 N0 N1) kvJ5_ensureCapacityInternal_d00df kim_J5_ensureCapacityInternal_d00df ksm_J5_ensureCapacityInternal_d00df kl_J5_100 rfl rfl (As := [.int (zI 0)]) rfl rfl rfl dJ5_setLength_d00df_15 18 rfl ?_
    show V p l e (rmL 1 0 0) s m args below meth cd Q 2 s.heap [] 0 0 18 [(0, .ref b), (1, .int (zI 0))] []
    refine v_aload_n X dJ5_setLength_d00df_18 19 rfl 0 rfl ?_
    refine v_getf X hM.C h_sb.1 inJ4 0 rfl rfl 3 (by decide) kf_J5_79 (fun _ h => h) rfl dJ5_setLength_d00df_19 22 rfl ?_
    show V p l e (rmL 1 0 0) s m args below meth cd Q 2 s.heap [] 0 0 22 [(0, .ref b), (1, .int (zI 0))] [.int (zI n)]
    refine v_iload_n X dJ5_setLength_d00df_22 23 rfl 1 rfl ?_
    refine v_icmp_ge X (by omega) (by omega) dJ5_setLength_d00df_23 26 63 rfl (by decide) (fun c_2 => ?_) (fun c_2 => ?_)
    · skip
      refine v_aload_n X dJ5_setLength_d00df_63 64 rfl 0 rfl ?_
      refine v_getf X hM.C h_sb.1 inJ4 0 rfl rfl 3 (by decide) kf_J5_79 (fun _ h => h) rfl dJ5_setLength_d00df_64 67 rfl ?_
      show V p l e (rmL 1 0 0) s m args below meth cd Q 2 s.heap [] 0 0 67 [(0, .ref b), (1, .int (zI 0))] [.int (zI n)]
      refine v_iload_n X dJ5_setLength_d00df_67 68 rfl 1 rfl ?_
      refine v_icmp_le X (by omega) (by omega) dJ5_setLength_d00df_68 71 76 rfl (by decide) (fun c_3 => ?_) (fun c_3 => ?_)
      · skip
        refine v_aload_n X dJ5_setLength_d00df_76 77 rfl 0 rfl ?_
        refine v_iload_n X dJ5_setLength_d00df_77 78 rfl 1 rfl ?_
        refine v_putf X hM h_sb ftJ4 0 rfl rfl 3 (by decide) kf_J5_79 (fun _ h => h) rfl rfl rfl (Nat.le_of_ble_eq_true rfl) (Or.inl (fsH (by omega) (by omega))) dJ5_setLength_d00df_78 81 rfl (ws' := [(b, .inr (1, [.ref v, .int (zI 0), .int (zI ml), .int (zI 0)]))]) rfl (fun H4 lo4 hzz hM hF h_sb => ?_)
        clear hzz
        replace h_sa := h_sa.kept hF 1 rfl (fsd (by omega))
        subst hQ; exact m_vret X hr hlk hM dJ5_setLength_d00df_81 rfl ⟨rfl, (PR.to h_sb (by rw [if_neg (by omega)]))⟩
      · skip
        refine v_aload_n X dJ5_setLength_d00df_71 72 rfl 0 rfl ?_
        refine v_iconst X dJ5_setLength_d00df_72 73 rfl ?_
        refine v_putf X hM h_sb ftJ4 0 rfl rfl 2 (by decide) kf_J5_73 (fun _ h => h) rfl rfl rfl (Nat.le_of_ble_eq_true rfl) (Or.inl (fsH (by omega) (by omega))) dJ5_setLength_d00df_73 76 rfl (ws' := [(b, .inr (1, [.ref v, .int (zI 0), .int (zI 1), .int (zI n)]))]) rfl (fun H5 lo5 hzz hM hF h_sb => ?_)
        clear hzz
        replace h_sa := h_sa.kept hF 1 rfl (fsd (by omega))
        refine v_aload_n X dJ5_setLength_d00df_76 77 rfl 0 rfl ?_
        refine v_iload_n X dJ5_setLength_d00df_77 78 rfl 1 rfl ?_
        refine v_putf X hM h_sb ftJ4 0 rfl rfl 3 (by decide) kf_J5_79 (fun _ h => h) rfl rfl rfl (Nat.le_of_ble_eq_true rfl) (Or.inl (fsH (by omega) (by omega))) dJ5_setLength_d00df_78 81 rfl (ws' := [(b, .inr (1, [.ref v, .int (zI 0), .int (zI 1), .int (zI 0)]))]) rfl (fun H6 lo6 hzz hM hF h_sb => ?_)
        clear hzz
        replace h_sa := h_sa.kept hF 1 rfl (fsd (by omega))
        subst hQ; exact m_vret X hr hlk hM dJ5_setLength_d00df_81 rfl ⟨rfl, (PR.to h_sb (by rw [if_pos (by omega)]))⟩
    · skip
      exfalso; omega
  · skip
    exfalso; omega
set_option maxHeartbeats 4000000 in
set_option maxRecDepth 20000 in
theorem c_J4_setLength0 (l : Launch) (E : Nat → Nat → Nat) (b : Nat) (v : Nat) (N : Nat) (f : Int → Int) (ml : Int) (n : Int) (n0 : 0 ≤ n) (n2 : n ≤ 70) (N0 : 0 < N) (N1 : N < 1000) (hd_sb_sa : b + 1 ≤ v ∨ v + 1 ≤ b) : Mu l yJ4_setLength_d00df cJ4_setLength_d00df 2 none 2 0 0 E [(b, 1)] [.ref b, .int (zI 0)] (fun H => PR E b [(b, .inr (1, [.ref v, .int (zI 0), .int (zI ml), .int (zI n)]))] H ∧ PR E v [(v, .inl (E 102 2, N, .inl (zA f)))] H) (fun rv H => rv = none ∧ PR E b [(b, .inr (1, [.ref v, .int (zI 0), .int (zI (if 0 < n then 1 else ml)), .int (zI 0)]))] H) := by
  refine Mu.start (own := RJ4) rfl (by decide +kernel) (Nat.le_of_ble_eq_true rfl) ?_
  intro p e s m below meth cd args Q hQ X hr hlk hnm hM hPr
  obtain ⟨h_sb, h_sa⟩ := hPr
  refine v_aload_n X dJ4_setLength_d00df_0 1 rfl 0 rfl ?_
  refine v_iload_n X dJ4_setLength_d00df_1 2 rfl 1 rfl ?_
  refine v_muSU (C := RJ4) X hM (h_sb.1) (c_J5_setLength0 l E b v N f ml n n0 n2 N0 N1 hd_sb_sa) kvJ5_setLength_d00df kim_J5_setLength_d00df ksm_J5_setLength_d00df ksup_J4 (by decide) kl_J4_333 (q0 := 0) rfl rfl (As := [.int (zI 0)]) rfl rfl rfl dJ4_setLength_d00df_2 5 rfl (k' := 0) (n' := 0) rfl rfl (fsI (fun q q1 q2 => (Or.inl (fsH (by omega) (by omega))))) ⟨h_sb, h_sa⟩ (fun rv H1 lo1 hM hF hpo => ?_)
  obtain ⟨rfl, hw_0⟩ := hpo
  have h_sb : PR E b [(b, .inr (1, [.ref v, .int (zI 0), .int (zI (if 0 < n then 1 else ml)), .int (zI 0)]))] H1 := hw_0
  replace h_sa := h_sa.kept hF 1 rfl (fsd (by omega))
  show V p l e (rmL 2 0 0) s m args below meth cd Q 2 H1 lo1 0 0 5 [(0, .ref b), (1, .int (zI 0))] []
  subst hQ; exact m_vret X hr hlk hM dJ4_setLength_d00df_5 rfl ⟨rfl, h_sb⟩

