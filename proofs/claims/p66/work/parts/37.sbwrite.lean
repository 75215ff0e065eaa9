theorem Fr_or {rs : List (Nat × Nat)} {sz a v : Nat} (h : a = v ∨ sz ≤ a) (hv : Fs rs v) : Fr rs sz a := h.elim (fun e => Or.inl (e ▸ hv)) Or.inr
theorem fr_or1 {rs : List (Nat × Nat)} {sz a v q : Nat} (h : a = v ∨ sz ≤ a) (hv : Fs rs v) (q1 : a ≤ q) (q2 : q < a + 1) : Fr rs sz q := by
  have e : q = a := by omega
  rw [e]
  exact Fr_or h hv
set_option maxHeartbeats 4000000 in
set_option maxRecDepth 20000 in
theorem c_J7_copyOf_34 (l : Launch) (E : Nat → Nat → Nat) (v : Nat) (f : Int → Int) (z : Nat) (hf : ∀ j : Int, 0 ≤ f j ∧ f j < 128) : Mu l yJ7_copyOf_9075b cJ7_copyOf_9075b 3 (some (.array .byte)) 1 1 34 E [] [.ref v, .int (zI 34)] (fun H => PR E v [(v, .inl (E 102 2, 16, .inl (zA f)))] H ∧ z ≤ H.size) (fun rv H => ∃ v1 : Nat, ∃ f1 : Int → Int, rv = some (.ref v1) ∧ z ≤ v1 ∧ (∀ j : Int, 0 ≤ j ∧ j < ((16 : Nat) : Int) → f1 j = f j) ∧ (∀ j : Int, 0 ≤ f1 j ∧ f1 j < 128) ∧ PR E v1 [(v1, .inl (E 102 2, 34, .inl (zA f1)))] H) := by
  refine Mu.start (own := RJ7) rfl (by decide +kernel) (Nat.le_of_ble_eq_true rfl) ?_
  intro p e s m below meth cd args Q hQ X hr hlk hnm hM hPr
  obtain ⟨h_sa, hzl⟩ := hPr
  have hz : s.heap.size = s.heap.size := rfl
  have hzl0 := hzl
  have hvs : v < s.heap.size := (h_sa.1 0 _ rfl).lt
  refine v_iload_n X dJ7_copyOf_9075b_0 1 rfl 1 rfl ?_
  refine v_aload_n X dJ7_copyOf_9075b_1 2 rfl 0 rfl ?_
  refine v_alen X hM.C h_sa.1 0 2 rfl rfl dJ7_copyOf_9075b_2 3 rfl ?_
  refine v_icmp_ne X (by omega) (by omega) dJ7_copyOf_9075b_3 6 14 rfl (by decide) (fun c_1 => ?_) (fun c_1 => ?_)
  · skip
    refine v_iload_n X dJ7_copyOf_9075b_14 15 rfl 1 rfl ?_
    refine v_newa X hM (atype := .byte) rfl rfl karr_byte 2 rfl (N := 34) rfl (by decide) (by decide) ⟨Nat.le_of_ble_eq_true rfl, Nat.le_of_ble_eq_true rfl⟩ dJ7_copyOf_9075b_15 17 rfl (k' := 1) (n' := 34) rfl rfl (fun o H2 ho hz1 hM hF h_new => ?_)
    obtain rfl : o = s.heap.size := ho.trans hz
    replace hz : H2.size = s.heap.size + 1 := hz1
    clear ho hz1
    have h_n_3 : PR E s.heap.size [(s.heap.size, .inl (E 102 2, 34, .inl (zA (fun _ => 0))))] H2 := h_new
    replace hzl := Nat.le_trans hzl hF.1
    replace h_sa := h_sa.kept hF 1 rfl (fun q _ _ h => h.elim)
    refine v_astore_n X dJ7_copyOf_9075b_17 18 rfl rfl (by decide) (L' := [(2, .ref s.heap.size), (0, .ref v), (1, .int (zI 34))]) rfl ?_
    refine v_aload_n X dJ7_copyOf_9075b_18 19 rfl 1 rfl ?_
    refine v_iconst X dJ7_copyOf_9075b_19 20 rfl ?_
    refine v_aload_n X dJ7_copyOf_9075b_20 21 rfl 0 rfl ?_
    refine v_iconst X dJ7_copyOf_9075b_21 22 rfl ?_
    refine v_aload_n X dJ7_copyOf_9075b_22 23 rfl 1 rfl ?_
    refine v_alen X hM.C h_sa.1 0 2 rfl rfl dJ7_copyOf_9075b_23 24 rfl ?_
    refine v_iload_n X dJ7_copyOf_9075b_24 25 rfl 2 rfl ?_
    refine v_mmin X (by omega) (by omega) kl_J7_304 dJ7_copyOf_9075b_25 28 rfl rfl ?_
    refine v_copy X hM h_sa.1 h_n_3 (t0 := 2) (q0 := 0) (q1 := 0) (ty := .byte) rfl rfl rfl rfl (by omega) (by omega) (by omega) (by omega) (by omega) (fun i _ _ => lat_fb (hf i)) (Or.inr (by omega)) kl_J7_150 rfl dJ7_copyOf_9075b_28 31 rfl (ws' := [(s.heap.size, .inl (E 102 2, 34, .inl (zA (fun i => if 0 ≤ i ∧ i < min 16 34 then f i else (fun _ => 0) i))))]) rfl (fun H4 lo4 hzz hM hF h_n_3 => ?_)
    replace hz : H4.size = s.heap.size + 1 := hzz.trans hz
    clear hzz
    replace hzl := Nat.le_trans hzl hF.1
    replace h_sa := h_sa.kept hF 1 rfl (fsd (by omega))
    refine v_aload_n X dJ7_copyOf_9075b_31 32 rfl 0 rfl ?_
    subst hQ; exact m_aret X hr (Or.inr ⟨_, rfl⟩) hlk hM dJ7_copyOf_9075b_32 rfl (Or.inr ⟨_, rfl⟩) ⟨s.heap.size, (fun i => if 0 ≤ i ∧ i < min 16 34 then f i else (fun _ => 0) i), rfl, (by omega), (by intro j hj; dsimp only; rw [if_pos (by omega)]), (by intro j; have := hf j; dsimp only; split <;> omega), h_n_3⟩
  · skip
    exfalso; omega
set_option maxHeartbeats 4000000 in
set_option maxRecDepth 20000 in
theorem c_J7_copyOf_70 (l : Launch) (E : Nat → Nat → Nat) (v : Nat) (f : Int → Int) (z : Nat) (hf : ∀ j : Int, 0 ≤ f j ∧ f j < 128) : Mu l yJ7_copyOf_9075b cJ7_copyOf_9075b 3 (some (.array .byte)) 1 1 70 E [] [.ref v, .int (zI 70)] (fun H => PR E v [(v, .inl (E 102 2, 34, .inl (zA f)))] H ∧ z ≤ H.size) (fun rv H => ∃ v1 : Nat, ∃ f1 : Int → Int, rv = some (.ref v1) ∧ z ≤ v1 ∧ (∀ j : Int, 0 ≤ j ∧ j < ((34 : Nat) : Int) → f1 j = f j) ∧ (∀ j : Int, 0 ≤ f1 j ∧ f1 j < 128) ∧ PR E v1 [(v1, .inl (E 102 2, 70, .inl (zA f1)))] H) := by
  refine Mu.start (own := RJ7) rfl (by decide +kernel) (Nat.le_of_ble_eq_true rfl) ?_
  intro p e s m below meth cd args Q hQ X hr hlk hnm hM hPr
  obtain ⟨h_sa, hzl⟩ := hPr
  have hz : s.heap.size = s.heap.size := rfl
  have hzl0 := hzl
  have hvs : v < s.heap.size := (h_sa.1 0 _ rfl).lt
  refine v_iload_n X dJ7_copyOf_9075b_0 1 rfl 1 rfl ?_
  refine v_aload_n X dJ7_copyOf_9075b_1 2 rfl 0 rfl ?_
  refine v_alen X hM.C h_sa.1 0 2 rfl rfl dJ7_copyOf_9075b_2 3 rfl ?_
  refine v_icmp_ne X (by omega) (by omega) dJ7_copyOf_9075b_3 6 14 rfl (by decide) (fun c_1 => ?_) (fun c_1 => ?_)
  · skip
    refine v_iload_n X dJ7_copyOf_9075b_14 15 rfl 1 rfl ?_
    refine v_newa X hM (atype := .byte) rfl rfl karr_byte 2 rfl (N := 70) rfl (by decide) (by decide) ⟨Nat.le_of_ble_eq_true rfl, Nat.le_of_ble_eq_true rfl⟩ dJ7_copyOf_9075b_15 17 rfl (k' := 1) (n' := 70) rfl rfl (fun o H2 ho hz1 hM hF h_new => ?_)
    obtain rfl : o = s.heap.size := ho.trans hz
    replace hz : H2.size = s.heap.size + 1 := hz1
    clear ho hz1
    have h_n_3 : PR E s.heap.size [(s.heap.size, .inl (E 102 2, 70, .inl (zA (fun _ => 0))))] H2 := h_new
    replace hzl := Nat.le_trans hzl hF.1
    replace h_sa := h_sa.kept hF 1 rfl (fun q _ _ h => h.elim)
    refine v_astore_n X dJ7_copyOf_9075b_17 18 rfl rfl (by decide) (L' := [(2, .ref s.heap.size), (0, .ref v), (1, .int (zI 70))]) rfl ?_
    refine v_aload_n X dJ7_copyOf_9075b_18 19 rfl 1 rfl ?_
    refine v_iconst X dJ7_copyOf_9075b_19 20 rfl ?_
    refine v_aload_n X dJ7_copyOf_9075b_20 21 rfl 0 rfl ?_
    refine v_iconst X dJ7_copyOf_9075b_21 22 rfl ?_
    refine v_aload_n X dJ7_copyOf_9075b_22 23 rfl 1 rfl ?_
    refine v_alen X hM.C h_sa.1 0 2 rfl rfl dJ7_copyOf_9075b_23 24 rfl ?_
    refine v_iload_n X dJ7_copyOf_9075b_24 25 rfl 2 rfl ?_
    refine v_mmin X (by omega) (by omega) kl_J7_304 dJ7_copyOf_9075b_25 28 rfl rfl ?_
    refine v_copy X hM h_sa.1 h_n_3 (t0 := 2) (q0 := 0) (q1 := 0) (ty := .byte) rfl rfl rfl rfl (by omega) (by omega) (by omega) (by omega) (by omega) (fun i _ _ => lat_fb (hf i)) (Or.inr (by omega)) kl_J7_150 rfl dJ7_copyOf_9075b_28 31 rfl (ws' := [(s.heap.size, .inl (E 102 2, 70, .inl (zA (fun i => if 0 ≤ i ∧ i < min 34 70 then f i else (fun _ => 0) i))))]) rfl (fun H4 lo4 hzz hM hF h_n_3 => ?_)
    replace hz : H4.size = s.heap.size + 1 := hzz.trans hz
    clear hzz
    replace hzl := Nat.le_trans hzl hF.1
    replace h_sa := h_sa.kept hF 1 rfl (fsd (by omega))
    refine v_aload_n X dJ7_copyOf_9075b_31 32 rfl 0 rfl ?_
    subst hQ; exact m_aret X hr (Or.inr ⟨_, rfl⟩) hlk hM dJ7_copyOf_9075b_32 rfl (Or.inr ⟨_, rfl⟩) ⟨s.heap.size, (fun i => if 0 ≤ i ∧ i < min 34 70 then f i else (fun _ => 0) i), rfl, (by omega), (by intro j hj; dsimp only; rw [if_pos (by omega)]), (by intro j; have := hf j; dsimp only; split <;> omega), h_n_3⟩
  · skip
    exfalso; omega
set_option maxHeartbeats 4000000 in
set_option maxRecDepth 20000 in
theorem c_J5_ensureCapacityInternal_d00df (l : Launch) (E : Nat → Nat → Nat) (b : Nat) (v : Nat) (N : Nat) (f : Int → Int) (ml : Int) (n : Int) (z : Nat) (q : Int) (hN : N = 16 ∨ N = 34 ∨ N = 70) (q0 : 0 ≤ q) (q1 : q ≤ 70) (q2 : q ≤ N + 2) (hf : ∀ j : Int, 0 ≤ f j ∧ f j < 128) (hbz : b < z) (hd_sb_sa : b + 1 ≤ v ∨ v + 1 ≤ b) : Mu l yJ5_ensureCapacityInternal_d00df cJ5_ensureCapacityInternal_d00df 3 none 3 1 70 E [(b, 1)] [.ref b, .int (zI q)] (fun H => PR E b [(b, .inr (1, [.ref v, .int (zI 0), .int (zI ml), .int (zI n)]))] H ∧ PR E v [(v, .inl (E 102 2, N, .inl (zA f)))] H ∧ z ≤ H.size) (fun rv H => ∃ v1 : Nat, ∃ N1 : Nat, ∃ f1 : Int → Int, rv = none ∧ (v1 = v ∨ z ≤ v1) ∧ (N1 = 16 ∨ N1 = 34 ∨ N1 = 70) ∧ q ≤ (N1 : Int) ∧ (∀ j : Int, 0 ≤ j ∧ j < (N : Int) → f1 j = f j) ∧ (∀ j : Int, 0 ≤ f1 j ∧ f1 j < 128) ∧ PR E b [(b, .inr (1, [.ref v1, .int (zI 0), .int (zI ml), .int (zI n)]))] H ∧ PR E v1 [(v1, .inl (E 102 2, N1, .inl (zA f1)))] H) := by
  refine Mu.start (own := RJ5) rfl (by decide +kernel) (Nat.le_of_ble_eq_true rfl) ?_
  intro p e s m below meth cd args Q hQ X hr hlk hnm hM hPr
  obtain ⟨h_sb, h_sa, hzl⟩ := hPr
  have hz : s.heap.size = s.heap.size := rfl
  have hzl0 := hzl
  refine v_aload_n X dJ5_ensureCapacityInternal_d00df_0 1 rfl 0 rfl ?_
  refine v_getf X hM.C h_sb.1 inJ4 0 rfl rfl 0 (by decide) kf_J5_15 (fun _ h => h) rfl dJ5_ensureCapacityInternal_d00df_1 4 rfl ?_
  refine v_alen X hM.C h_sa.1 0 2 rfl rfl dJ5_ensureCapacityInternal_d00df_4 5 rfl ?_
  refine v_aload_n X dJ5_ensureCapacityInternal_d00df_5 6 rfl 0 rfl ?_
  refine v_getf X hM.C h_sb.1 inJ4 0 rfl rfl 1 (by decide) kf_J5_22 (fun _ h => h) rfl dJ5_ensureCapacityInternal_d00df_6 9 rfl ?_
  show V p l e (rmL 3 1 70) s m args below meth cd Q 3 s.heap [] 0 0 9 [(0, .ref b), (1, .int (zI q))] [.int (zI 0), .int (zI (N : Int))]
  refine v_ishr0 X dJ5_ensureCapacityInternal_d00df_9 10 rfl ?_
  refine v_istore_n X dJ5_ensureCapacityInternal_d00df_10 11 rfl rfl (by decide) (L' := [(2, .int (zI (N : Int))), (0, .ref b), (1, .int (zI q))]) rfl ?_
  refine v_iload_n X dJ5_ensureCapacityInternal_d00df_11 12 rfl 2 rfl ?_
  refine v_iload_n X dJ5_ensureCapacityInternal_d00df_12 13 rfl 0 rfl ?_
  refine v_isub X dJ5_ensureCapacityInternal_d00df_13 14 rfl ?_
  refine v_if_le X (by omega) dJ5_ensureCapacityInternal_d00df_14 17 38 rfl (by decide) (fun c_1 => ?_) (fun c_1 => ?_)
  · skip
    subst hQ; exact m_vret X hr hlk hM dJ5_ensureCapacityInternal_d00df_38 rfl ⟨v, N, f, rfl, (by omega), (by omega), (by omega), (by intro j _; rfl), (by exact hf), h_sb, h_sa⟩
  · skip
    rcases hN with hN | hN | hN
    · skip
      subst hN
      refine v_aload_n X dJ5_ensureCapacityInternal_d00df_17 18 rfl 1 rfl ?_
      refine v_aload_n X dJ5_ensureCapacityInternal_d00df_18 19 rfl 1 rfl ?_
      refine v_getf X hM.C h_sb.1 inJ4 0 rfl rfl 0 (by decide) kf_J5_15 (fun _ h => h) rfl dJ5_ensureCapacityInternal_d00df_19 22 rfl ?_
      refine v_aload_n X dJ5_ensureCapacityInternal_d00df_22 23 rfl 1 rfl ?_
      refine v_iload_n X dJ5_ensureCapacityInternal_d00df_23 24 rfl 2 rfl ?_
      refine v_rdU (C := RJ4) (hsel := va_Nw.use rfl (hM.C.2.2.2.1.2.2.2 _ (by simp))) X hM.C (PW.app h_sb.1 h_sa.1) (c_J5_newCapacity_0f7a4 l E b v 16 f ml n q q0 (by omega) (by omega)) kvJ5_newCapacity_0f7a4 kim_J5_newCapacity_0f7a4 ksm_J5_newCapacity_0f7a4 kl_J5_104 rfl rfl (As := [.int (zI q)]) rfl rfl rfl dJ5_ensureCapacityInternal_d00df_24 27 rfl ?_
      show V p l e (rmL 3 1 70) s m args below meth cd Q 3 s.heap [] 0 0 27 [(2, .int (zI (16 : Int))), (0, .ref b), (1, .int (zI q))] [.int (zI ((16 : Int) + max (q - (16 : Int)) ((16 : Int) + 2))), .ref v, .ref b]
      refine V_S (st' := [.int (zI 34), .ref v, .ref b]) (by rw [show (16 : Int) + max (q - 16) (16 + 2) = 34 by omega]) ?_
      refine v_aload_n X dJ5_ensureCapacityInternal_d00df_27 28 rfl 1 rfl ?_
      refine v_getf X hM.C h_sb.1 inJ4 0 rfl rfl 1 (by decide) kf_J5_22 (fun _ h => h) rfl dJ5_ensureCapacityInternal_d00df_28 31 rfl ?_
      show V p l e (rmL 3 1 70) s m args below meth cd Q 3 s.heap [] 0 0 31 [(2, .int (zI (16 : Int))), (0, .ref b), (1, .int (zI q))] [.int (zI 0), .int (zI 34), .ref v, .ref b]
      refine v_ishl0 X dJ5_ensureCapacityInternal_d00df_31 32 rfl ?_
      refine v_muS X hM (c_J7_copyOf_34 l E v f z hf) kvJ7_copyOf_9075b ksJ7_copyOf_9075b kl_J5_108 (As := [.ref v, .int (zI 34)]) rfl rfl rfl dJ5_ensureCapacityInternal_d00df_32 35 rfl (k' := 1) (n' := 34) rfl rfl (fun q hq => hq.elim) ⟨h_sa, (by omega)⟩ (fun rv H2 lo2 hM hF hpo => ?_)
      obtain ⟨v1_3, f1_4, rfl, hp_f_5, hp_f_6, hp_f_7, hw_0⟩ := hpo
      have h_sa : PR E v1_3 [(v1_3, .inl (E 102 2, 34, .inl (zA f1_4)))] H2 := hw_0
      replace hzl := Nat.le_trans hzl hF.1
      replace h_sb := h_sb.kept hF 1 rfl (fun q _ _ h => h.elim)
      show V p l e (rmL 3 1 70) s m args below meth cd Q 3 H2 lo2 1 34 35 [(2, .int (zI (16 : Int))), (0, .ref b), (1, .int (zI q))] [.ref v1_3, .ref b]
      refine v_putf X hM h_sb ftJ4 0 rfl rfl 0 (by decide) kf_J5_15 (fun _ h => h) rfl rfl rfl (Nat.le_of_ble_eq_true rfl) (Or.inl (fsH (by omega) (by omega))) dJ5_ensureCapacityInternal_d00df_35 38 rfl (ws' := [(b, .inr (1, [.ref v1_3, .int (zI 0), .int (zI ml), .int (zI n)]))]) rfl (fun H8 lo8 hzz hM hF h_sb => ?_)
      clear hzz
      replace hzl := Nat.le_trans hzl hF.1
      replace h_sa := h_sa.kept hF 1 rfl (fsd (by omega))
      subst hQ; exact m_vret X hr hlk hM dJ5_ensureCapacityInternal_d00df_38 rfl ⟨v1_3, 34, f1_4, rfl, (by omega), (by omega), (by omega), (by exact hp_f_6), (by exact hp_f_7), h_sb, h_sa⟩
    · skip
      subst hN
      refine v_aload_n X dJ5_ensureCapacityInternal_d00df_17 18 rfl 1 rfl ?_
      refine v_aload_n X dJ5_ensureCapacityInternal_d00df_18 19 rfl 1 rfl ?_
      refine v_getf X hM.C h_sb.1 inJ4 0 rfl rfl 0 (by decide) kf_J5_15 (fun _ h => h) rfl dJ5_ensureCapacityInternal_d00df_19 22 rfl ?_
      refine v_aload_n X dJ5_ensureCapacityInternal_d00df_22 23 rfl 1 rfl ?_
      refine v_iload_n X dJ5_ensureCapacityInternal_d00df_23 24 rfl 2 rfl ?_
      refine v_rdU (C := RJ4) (hsel := va_Nw.use rfl (hM.C.2.2.2.1.2.2.2 _ (by simp))) X hM.C (PW.app h_sb.1 h_sa.1) (c_J5_newCapacity_0f7a4 l E b v 34 f ml n q q0 (by omega) (by omega)) kvJ5_newCapacity_0f7a4 kim_J5_newCapacity_0f7a4 ksm_J5_newCapacity_0f7a4 kl_J5_104 rfl rfl (As := [.int (zI q)]) rfl rfl rfl dJ5_ensureCapacityInternal_d00df_24 27 rfl ?_
      show V p l e (rmL 3 1 70) s m args below meth cd Q 3 s.heap [] 0 0 27 [(2, .int (zI (34 : Int))), (0, .ref b), (1, .int (zI q))] [.int (zI ((34 : Int) + max (q - (34 : Int)) ((34 : Int) + 2))), .ref v, .ref b]
      refine V_S (st' := [.int (zI 70), .ref v, .ref b]) (by rw [show (34 : Int) + max (q - 34) (34 + 2) = 70 by omega]) ?_
      refine v_aload_n X dJ5_ensureCapacityInternal_d00df_27 28 rfl 1 rfl ?_
      refine v_getf X hM.C h_sb.1 inJ4 0 rfl rfl 1 (by decide) kf_J5_22 (fun _ h => h) rfl dJ5_ensureCapacityInternal_d00df_28 31 rfl ?_
      show V p l e (rmL 3 1 70) s m args below meth cd Q 3 s.heap [] 0 0 31 [(2, .int (zI (34 : Int))), (0, .ref b), (1, .int (zI q))] [.int (zI 0), .int (zI 70), .ref v, .ref b]
      refine v_ishl0 X dJ5_ensureCapacityInternal_d00df_31 32 rfl ?_
      refine v_muS X hM (c_J7_copyOf_70 l E v f z hf) kvJ7_copyOf_9075b ksJ7_copyOf_9075b kl_J5_108 (As := [.ref v, .int (zI 70)]) rfl rfl rfl dJ5_ensureCapacityInternal_d00df_32 35 rfl (k' := 1) (n' := 70) rfl rfl (fun q hq => hq.elim) ⟨h_sa, (by omega)⟩ (fun rv H9 lo9 hM hF hpo => ?_)
      obtain ⟨v1_10, f1_11, rfl, hp_f_12, hp_f_13, hp_f_14, hw_0⟩ := hpo
      have h_sa : PR E v1_10 [(v1_10, .inl (E 102 2, 70, .inl (zA f1_11)))] H9 := hw_0
      replace hzl := Nat.le_trans hzl hF.1
      replace h_sb := h_sb.kept hF 1 rfl (fun q _ _ h => h.elim)
      show V p l e (rmL 3 1 70) s m args below meth cd Q 3 H9 lo9 1 70 35 [(2, .int (zI (34 : Int))), (0, .ref b), (1, .int (zI q))] [.ref v1_10, .ref b]
      refine v_putf X hM h_sb ftJ4 0 rfl rfl 0 (by decide) kf_J5_15 (fun _ h => h) rfl rfl rfl (Nat.le_of_ble_eq_true rfl) (Or.inl (fsH (by omega) (by omega))) dJ5_ensureCapacityInternal_d00df_35 38 rfl (ws' := [(b, .inr (1, [.ref v1_10, .int (zI 0), .int (zI ml), .int (zI n)]))]) rfl (fun H15 lo15 hzz hM hF h_sb => ?_)
      clear hzz
      replace hzl := Nat.le_trans hzl hF.1
      replace h_sa := h_sa.kept hF 1 rfl (fsd (by omega))
      subst hQ; exact m_vret X hr hlk hM dJ5_ensureCapacityInternal_d00df_38 rfl ⟨v1_10, 70, f1_11, rfl, (by omega), (by omega), (by omega), (by exact hp_f_13), (by exact hp_f_14), h_sb, h_sa⟩
    · skip
      exfalso; omega
theorem updZ_lat {f : Int → Int} {i x : Int} (hf : ∀ j : Int, 0 ≤ f j ∧ f j < 128) (hx : 0 ≤ x ∧ x < 128) : ∀ j : Int, 0 ≤ updZ f i x j ∧ updZ f i x j < 128 := by
  intro j
  have := hf j
  show 0 ≤ (if j = i then x else f j) ∧ (if j = i then x else f j) < 128
  split <;> omega
set_option maxHeartbeats 4000000 in
set_option maxRecDepth 20000 in
theorem c_J5_append_3fe6f (l : Launch) (E : Nat → Nat → Nat) (b : Nat) (v : Nat) (N : Nat) (f : Int → Int) (ml : Int) (n : Int) (z : Nat) (x : Int) (x0 : 0 ≤ x) (x1 : x < 128) (n0 : 0 ≤ n) (n1 : n ≤ (N : Int)) (n2 : n < 69) (hN : N = 16 ∨ N = 34 ∨ N = 70) (hf : ∀ j : Int, 0 ≤ f j ∧ f j < 128) (hbz : b < z) (hd_sb_sa : b + 1 ≤ v ∨ v + 1 ≤ b) : Mu l yJ5_append_3fe6f cJ5_append_3fe6f 2 (some (.object "java/lang/AbstractStringBuilder")) 4 1 70 E [(b, 1), (v, 1)] [.ref b, .int (zI x)] (fun H => PR E b [(b, .inr (1, [.ref v, .int (zI 0), .int (zI ml), .int (zI n)]))] H ∧ PR E v [(v, .inl (E 102 2, N, .inl (zA f)))] H ∧ z ≤ H.size) (fun rv H => ∃ v1 : Nat, ∃ N1 : Nat, ∃ f1 : Int → Int, rv = some (.ref b) ∧ (v1 = v ∨ z ≤ v1) ∧ (N1 = 16 ∨ N1 = 34 ∨ N1 = 70) ∧ n + 1 ≤ (N1 : Int) ∧ (∀ j : Int, 0 ≤ j ∧ j < n → f1 j = f j) ∧ f1 n = x ∧ (∀ j : Int, 0 ≤ f1 j ∧ f1 j < 128) ∧ PR E b [(b, .inr (1, [.ref v1, .int (zI 0), .int (zI ml), .int (zI (n + 1))]))] H ∧ PR E v1 [(v1, .inl (E 102 2, N1, .inl (zA f1)))] H) := by
  refine Mu.start (own := RJ5) rfl (by decide +kernel) (Nat.le_of_ble_eq_true rfl) ?_
  intro p e s m below meth cd args Q hQ X hr hlk hnm hM hPr
  obtain ⟨h_sb, h_sa, hzl⟩ := hPr
  have hz : s.heap.size = s.heap.size := rfl
  have hzl0 := hzl
  have hbs : b < s.heap.size := (h_sb.1 0 _ rfl).lt
  refine v_aload_n X dJ5_append_3fe6f_0 1 rfl 0 rfl ?_
  refine v_aload_n X dJ5_append_3fe6f_1 2 rfl 0 rfl ?_
  refine v_getf X hM.C h_sb.1 inJ4 0 rfl rfl 3 (by decide) kf_J5_79 (fun _ h => h) rfl dJ5_append_3fe6f_2 5 rfl ?_
  show V p l e (rmL 4 1 70) s m args below meth cd Q 2 s.heap [] 0 0 5 [(0, .ref b), (1, .int (zI x))] [.int (zI n), .ref b]
  refine v_iconst X dJ5_append_3fe6f_5 6 rfl ?_
  refine v_iadd X dJ5_append_3fe6f_6 7 rfl ?_
  refine v_muU (C := RJ4) (hsel := va_Nw.use rfl (hM.C.2.2.2.1.2.2.2 _ (by simp))) X hM (h_sb.1) (c_J5_ensureCapacityInternal_d00df l E b v N f ml n s.heap.size (n + 1) hN (by omega) (by omega) (by omega) hf (by omega) hd_sb_sa) kvJ5_ensureCapacityInternal_d00df kim_J5_ensureCapacityInternal_d00df ksm_J5_ensureCapacityInternal_d00df kl_J5_100 (q0 := 0) rfl rfl (As := [.int (zI (n + 1))]) rfl rfl rfl dJ5_append_3fe6f_7 10 rfl (k' := 1) (n' := 70) rfl rfl (fsI (fun q q1 q2 => (Or.inl (fsH (by omega) (by omega))))) ⟨h_sb, h_sa, (by omega)⟩ (fun rv H1 lo1 hM hF hpo => ?_)
  obtain ⟨v1_2, N1_3, f1_4, rfl, hp_f_5, hp_f_6, hp_f_7, hp_f_8, hp_f_9, hw_0, hw_1⟩ := hpo
  have h_sb : PR E b [(b, .inr (1, [.ref v1_2, .int (zI 0), .int (zI ml), .int (zI n)]))] H1 := hw_0
  have h_sa : PR E v1_2 [(v1_2, .inl (E 102 2, N1_3, .inl (zA f1_4)))] H1 := hw_1
  replace hzl := Nat.le_trans hzl hF.1
  show V p l e (rmL 4 1 70) s m args below meth cd Q 2 H1 lo1 1 70 10 [(0, .ref b), (1, .int (zI x))] []
  have hd9 : b + 1 ≤ v1_2 ∨ v1_2 + 1 ≤ b := by omega
  refine v_aload_n X dJ5_append_3fe6f_10 11 rfl 0 rfl ?_
  refine v_rdU (C := RJ4) (hsel := X.2.2.2.2 _ ksl_J5_isLatin1_aae02) X hM.C h_sb.1 (c_J5_isLatin1_aae02 l E b v1_2 ml n) kvJ5_isLatin1_aae02 kim_J5_isLatin1_aae02 ksm_J5_isLatin1_aae02 kl_J5_83 rfl rfl (As := []) rfl rfl rfl dJ5_append_3fe6f_11 14 rfl ?_
  show V p l e (rmL 4 1 70) s m args below meth cd Q 2 H1 lo1 1 70 14 [(0, .ref b), (1, .int (zI x))] [.int (zI (bz ((0 : Int) = 0)))]
  refine v_bif_eq X dJ5_append_3fe6f_14 17 45 rfl (by decide) (fun c_10 => ?_) (fun c_10 => ?_)
  · skip
    exfalso; omega
  · skip
    refine v_iload_n X dJ5_append_3fe6f_17 18 rfl 1 rfl ?_
    refine v_rdS X hM.C (ws0 E H1) (c_J1_canEncode_fc78d l E x x0 x1) kvJ1_canEncode_fc78d ksJ1_canEncode_fc78d kl_J5_191 (As := [.int (zI x)]) rfl rfl rfl dJ5_append_3fe6f_18 21 rfl ?_
    show V p l e (rmL 4 1 70) s m args below meth cd Q 2 H1 lo1 1 70 21 [(0, .ref b), (1, .int (zI x))] [.int (zI (bz ((0 : Int) = 0)))]
    refine v_bif_eq X dJ5_append_3fe6f_21 24 45 rfl (by decide) (fun c_11 => ?_) (fun c_11 => ?_)
    · skip
      exfalso; omega
    · skip
      refine v_aload_n X dJ5_append_3fe6f_24 25 rfl 0 rfl ?_
      refine v_getf X hM.C h_sb.1 inJ4 0 rfl rfl 0 (by decide) kf_J5_15 (fun _ h => h) rfl dJ5_append_3fe6f_25 28 rfl ?_
      refine v_aload_n X dJ5_append_3fe6f_28 29 rfl 0 rfl ?_
      refine v_dup X dJ5_append_3fe6f_29 30 rfl rfl ?_
      refine v_getf X hM.C h_sb.1 inJ4 0 rfl rfl 3 (by decide) kf_J5_79 (fun _ h => h) rfl dJ5_append_3fe6f_30 33 rfl ?_
      show V p l e (rmL 4 1 70) s m args below meth cd Q 2 H1 lo1 1 70 33 [(0, .ref b), (1, .int (zI x))] [.int (zI n), .ref b, .ref v1_2]
      refine v_dupx1 X dJ5_append_3fe6f_33 34 rfl rfl rfl ?_
      refine v_iconst X dJ5_append_3fe6f_34 35 rfl ?_
      refine v_iadd X dJ5_append_3fe6f_35 36 rfl ?_
      refine v_putf X hM h_sb ftJ4 0 rfl rfl 3 (by decide) kf_J5_79 (fun _ h => h) rfl rfl rfl (Nat.le_of_ble_eq_true rfl) (Or.inl (fsH (by omega) (by omega))) dJ5_append_3fe6f_36 39 rfl (ws' := [(b, .inr (1, [.ref v1_2, .int (zI 0), .int (zI ml), .int (zI (n + 1))]))]) rfl (fun H12 lo12 hzz hM hF h_sb => ?_)
      clear hzz
      replace hzl := Nat.le_trans hzl hF.1
      replace h_sa := h_sa.kept hF 1 rfl (fsd (by omega))
      refine v_iload_n X dJ5_append_3fe6f_39 40 rfl 1 rfl ?_
      refine v_i2bL X (by omega) dJ5_append_3fe6f_40 41 rfl ?_
      refine v_bast X hM h_sa 0 rfl (by omega) (by omega) (by omega) (lat_nb (by omega)) (Fr_or hp_f_5 (by simp [Fs])) dJ5_append_3fe6f_41 42 rfl (ws' := [(v1_2, .inl (E 102 2, N1_3, .inl (zA (updZ f1_4 n x))))]) rfl (fun H13 lo13 hzz hM hF h_sa => ?_)
      clear hzz
      replace hzl := Nat.le_trans hzl hF.1
      replace h_sb := h_sb.kept hF 1 rfl (fsd (by omega))
      refine v_goto X dJ5_append_3fe6f_42 75 (by decide) ?_
      refine v_aload_n X dJ5_append_3fe6f_75 76 rfl 0 rfl ?_
      subst hQ; exact m_aret X hr (Or.inl ⟨_, rfl⟩) hlk hM dJ5_append_3fe6f_76 rfl (Or.inr ⟨_, rfl⟩) ⟨v1_2, N1_3, (updZ f1_4 n x), rfl, (by omega), (by omega), (by omega), (by intro j hj; rw [updZ_ne _ _ (by omega)]; exact hp_f_8 j (by omega)), (by exact updZ_at _ _ _), (by exact updZ_lat hp_f_9 ⟨x0, x1⟩), h_sb, h_sa⟩
set_option maxHeartbeats 4000000 in
set_option maxRecDepth 20000 in
theorem c_J4_append_cf468 (l : Launch) (E : Nat → Nat → Nat) (b : Nat) (v : Nat) (N : Nat) (f : Int → Int) (ml : Int) (n : Int) (z : Nat) (x : Int) (x0 : 0 ≤ x) (x1 : x < 128) (n0 : 0 ≤ n) (n1 : n ≤ (N : Int)) (n2 : n < 69) (hN : N = 16 ∨ N = 34 ∨ N = 70) (hf : ∀ j : Int, 0 ≤ f j ∧ f j < 128) (hbz : b < z) (hd_sb_sa : b + 1 ≤ v ∨ v + 1 ≤ b) : Mu l yJ4_append_cf468 cJ4_append_cf468 2 (some (.object "java/lang/StringBuilder")) 5 1 70 E [(b, 1), (v, 1)] [.ref b, .int (zI x)] (fun H => PR E b [(b, .inr (1, [.ref v, .int (zI 0), .int (zI ml), .int (zI n)]))] H ∧ PR E v [(v, .inl (E 102 2, N, .inl (zA f)))] H ∧ z ≤ H.size) (fun rv H => ∃ v1 : Nat, ∃ N1 : Nat, ∃ f1 : Int → Int, rv = some (.ref b) ∧ (v1 = v ∨ z ≤ v1) ∧ (N1 = 16 ∨ N1 = 34 ∨ N1 = 70) ∧ n + 1 ≤ (N1 : Int) ∧ (∀ j : Int, 0 ≤ j ∧ j < n → f1 j = f j) ∧ f1 n = x ∧ (∀ j : Int, 0 ≤ f1 j ∧ f1 j < 128) ∧ PR E b [(b, .inr (1, [.ref v1, .int (zI 0), .int (zI ml), .int (zI (n + 1))]))] H ∧ PR E v1 [(v1, .inl (E 102 2, N1, .inl (zA f1)))] H) := by
  refine Mu.start (own := RJ4) rfl (by decide +kernel) (Nat.le_of_ble_eq_true rfl) ?_
  intro p e s m below meth cd args Q hQ X hr hlk hnm hM hPr
  obtain ⟨h_sb, h_sa, hzl⟩ := hPr
  have hz : s.heap.size = s.heap.size := rfl
  have hzl0 := hzl
  refine v_aload_n X dJ4_append_cf468_0 1 rfl 0 rfl ?_
  refine v_iload_n X dJ4_append_cf468_1 2 rfl 1 rfl ?_
  refine v_muSU (C := RJ4) X hM (h_sb.1) (c_J5_append_3fe6f l E b v N f ml n z x x0 x1 n0 n1 n2 hN hf hbz hd_sb_sa) kvJ5_append_3fe6f kim_J5_append_3fe6f ksm_J5_append_3fe6f ksup_J4 (by decide) kl_J4_50 (q0 := 0) rfl rfl (As := [.int (zI x)]) rfl rfl rfl dJ4_append_cf468_2 5 rfl (k' := 1) (n' := 70) rfl rfl (by intro q hq; simp only [Fr, Fs, or_false, false_or] at hq ⊢; omega) ⟨h_sb, h_sa, (by omega)⟩ (fun rv H1 lo1 hM hF hpo => ?_)
  obtain ⟨v1_2, N1_3, f1_4, rfl, hp_f_5, hp_f_6, hp_f_7, hp_f_8, hp_f_9, hp_f_10, hw_0, hw_1⟩ := hpo
  have h_sb : PR E b [(b, .inr (1, [.ref v1_2, .int (zI 0), .int (zI ml), .int (zI (n + 1))]))] H1 := hw_0
  have h_sa : PR E v1_2 [(v1_2, .inl (E 102 2, N1_3, .inl (zA f1_4)))] H1 := hw_1
  replace hzl := Nat.le_trans hzl hF.1
  show V p l e (rmL 5 1 70) s m args below meth cd Q 2 H1 lo1 1 70 5 [(0, .ref b), (1, .int (zI x))] [.ref b]
  refine v_pop X dJ4_append_cf468_5 6 rfl rfl ?_
  refine v_aload_n X dJ4_append_cf468_6 7 rfl 0 rfl ?_
  subst hQ; exact m_aret X hr (Or.inl ⟨_, rfl⟩) hlk hM dJ4_append_cf468_7 rfl (Or.inr ⟨_, rfl⟩) ⟨v1_2, N1_3, f1_4, rfl, (by exact hp_f_5), (by exact hp_f_6), (by exact hp_f_7), (by exact hp_f_8), (by exact hp_f_9), (by exact hp_f_10), h_sb, h_sa⟩
set_option maxHeartbeats 4000000 in
set_option maxRecDepth 20000 in
theorem c_J5_setLength_d00df (l : Launch) (E : Nat → Nat → Nat) (b : Nat) (v : Nat) (N : Nat) (f : Int → Int) (ml : Int) (n : Int) (z : Nat) (n0 : 0 ≤ n) (n2 : n ≤ 70) (hN : N = 16 ∨ N = 34 ∨ N = 70) (hf : ∀ j : Int, 0 ≤ f j ∧ f j < 128) (hbz : b < z) (hd_sb_sa : b + 1 ≤ v ∨ v + 1 ≤ b) : Mu l yJ5_setLength_d00df cJ5_setLength_d00df 2 none 4 1 70 E [(b, 1)] [.ref b, .int (zI 0)] (fun H => PR E b [(b, .inr (1, [.ref v, .int (zI 0), .int (zI ml), .int (zI n)]))] H ∧ PR E v [(v, .inl (E 102 2, N, .inl (zA f)))] H ∧ z ≤ H.size) (fun rv H => ∃ v1 : Nat, ∃ N1 : Nat, ∃ f1 : Int → Int, ∃ ml1 : Int, rv = none ∧ (v1 = v ∨ z ≤ v1) ∧ (N1 = 16 ∨ N1 = 34 ∨ N1 = 70) ∧ 0 ≤ (N1 : Int) ∧ (∀ j : Int, 0 ≤ f1 j ∧ f1 j < 128) ∧ PR E b [(b, .inr (1, [.ref v1, .int (zI 0), .int (zI ml1), .int (zI 0)]))] H ∧ PR E v1 [(v1, .inl (E 102 2, N1, .inl (zA f1)))] H) := by
  refine Mu.start (own := RJ5) rfl (by decide +kernel) (Nat.le_of_ble_eq_true rfl) ?_
  intro p e s m below meth cd args Q hQ X hr hlk hnm hM hPr
  obtain ⟨h_sb, h_sa, hzl⟩ := hPr
  have hz : s.heap.size = s.heap.size := rfl
  have hzl0 := hzl
  have hbs : b < s.heap.size := (h_sb.1 0 _ rfl).lt
  refine v_iload_n X dJ5_setLength_d00df_0 1 rfl 1 rfl ?_
  refine v_if_ge X (by omega) dJ5_setLength_d00df_1 4 13 rfl (by decide) (fun c_1 => ?_) (fun c_1 => ?_)
  · skip
    refine v_aload_n X dJ5_setLength_d00df_13 14 rfl 0 rfl ?_
    refine v_iload_n X dJ5_setLength_d00df_14 15 rfl 1 rfl ?_
    refine v_muU (C := RJ4) (hsel := va_Nw.use rfl (hM.C.2.2.2.1.2.2.2 _ (by simp))) X hM (h_sb.1) (c_J5_ensureCapacityInternal_d00df l E b v N f ml n s.heap.size 0 hN (by omega) (by omega) (by omega) hf (by omega) hd_sb_sa) kvJ5_ensureCapacityInternal_d00df kim_J5_ensureCapacityInternal_d00df ksm_J5_ensureCapacityInternal_d00df kl_J5_100 (q0 := 0) rfl rfl (As := [.int (zI 0)]) rfl rfl rfl dJ5_setLength_d00df_15 18 rfl (k' := 1) (n' := 70) rfl rfl (fsI (fun q q1 q2 => (Or.inl (fsH (by omega) (by omega))))) ⟨h_sb, h_sa, (by omega)⟩ (fun rv H2 lo2 hM hF hpo => ?_)
    obtain ⟨v1_3, N1_4, f1_5, rfl, hp_f_6, hp_f_7, hp_f_8, hp_f_9, hp_f_10, hw_0, hw_1⟩ := hpo
    have h_sb : PR E b [(b, .inr (1, [.ref v1_3, .int (zI 0), .int (zI ml), .int (zI n)]))] H2 := hw_0
    have h_sa : PR E v1_3 [(v1_3, .inl (E 102 2, N1_4, .inl (zA f1_5)))] H2 := hw_1
    replace hzl := Nat.le_trans hzl hF.1
    show V p l e (rmL 4 1 70) s m args below meth cd Q 2 H2 lo2 1 70 18 [(0, .ref b), (1, .int (zI 0))] []
    have hd9 : b + 1 ≤ v1_3 ∨ v1_3 + 1 ≤ b := by omega
    refine v_aload_n X dJ5_setLength_d00df_18 19 rfl 0 rfl ?_
    refine v_getf X hM.C h_sb.1 inJ4 0 rfl rfl 3 (by decide) kf_J5_79 (fun _ h => h) rfl dJ5_setLength_d00df_19 22 rfl ?_
    show V p l e (rmL 4 1 70) s m args below meth cd Q 2 H2 lo2 1 70 22 [(0, .ref b), (1, .int (zI 0))] [.int (zI n)]
    refine v_iload_n X dJ5_setLength_d00df_22 23 rfl 1 rfl ?_
    refine v_icmp_ge X (by omega) (by omega) dJ5_setLength_d00df_23 26 63 rfl (by decide) (fun c_11 => ?_) (fun c_11 => ?_)
    · skip
      refine v_aload_n X dJ5_setLength_d00df_63 64 rfl 0 rfl ?_
      refine v_getf X hM.C h_sb.1 inJ4 0 rfl rfl 3 (by decide) kf_J5_79 (fun _ h => h) rfl dJ5_setLength_d00df_64 67 rfl ?_
      show V p l e (rmL 4 1 70) s m args below meth cd Q 2 H2 lo2 1 70 67 [(0, .ref b), (1, .int (zI 0))] [.int (zI n)]
      refine v_iload_n X dJ5_setLength_d00df_67 68 rfl 1 rfl ?_
      refine v_icmp_le X (by omega) (by omega) dJ5_setLength_d00df_68 71 76 rfl (by decide) (fun c_12 => ?_) (fun c_12 => ?_)
      · skip
        refine v_aload_n X dJ5_setLength_d00df_76 77 rfl 0 rfl ?_
        refine v_iload_n X dJ5_setLength_d00df_77 78 rfl 1 rfl ?_
        refine v_putf X hM h_sb ftJ4 0 rfl rfl 3 (by decide) kf_J5_79 (fun _ h => h) rfl rfl rfl (Nat.le_of_ble_eq_true rfl) (Or.inl (fsH (by omega) (by omega))) dJ5_setLength_d00df_78 81 rfl (ws' := [(b, .inr (1, [.ref v1_3, .int (zI 0), .int (zI ml), .int (zI 0)]))]) rfl (fun H13 lo13 hzz hM hF h_sb => ?_)
        clear hzz
        replace hzl := Nat.le_trans hzl hF.1
        replace h_sa := h_sa.kept hF 1 rfl (fsd (by omega))
        subst hQ; exact m_vret X hr hlk hM dJ5_setLength_d00df_81 rfl ⟨v1_3, N1_4, f1_5, ml, rfl, (by omega), (by omega), (by omega), (by exact hp_f_10), h_sb, h_sa⟩
      · skip
        refine v_aload_n X dJ5_setLength_d00df_71 72 rfl 0 rfl ?_
        refine v_iconst X dJ5_setLength_d00df_72 73 rfl ?_
        refine v_putf X hM h_sb ftJ4 0 rfl rfl 2 (by decide) kf_J5_73 (fun _ h => h) rfl rfl rfl (Nat.le_of_ble_eq_true rfl) (Or.inl (fsH (by omega) (by omega))) dJ5_setLength_d00df_73 76 rfl (ws' := [(b, .inr (1, [.ref v1_3, .int (zI 0), .int (zI 1), .int (zI n)]))]) rfl (fun H14 lo14 hzz hM hF h_sb => ?_)
        clear hzz
        replace hzl := Nat.le_trans hzl hF.1
        replace h_sa := h_sa.kept hF 1 rfl (fsd (by omega))
        refine v_aload_n X dJ5_setLength_d00df_76 77 rfl 0 rfl ?_
        refine v_iload_n X dJ5_setLength_d00df_77 78 rfl 1 rfl ?_
        refine v_putf X hM h_sb ftJ4 0 rfl rfl 3 (by decide) kf_J5_79 (fun _ h => h) rfl rfl rfl (Nat.le_of_ble_eq_true rfl) (Or.inl (fsH (by omega) (by omega))) dJ5_setLength_d00df_78 81 rfl (ws' := [(b, .inr (1, [.ref v1_3, .int (zI 0), .int (zI 1), .int (zI 0)]))]) rfl (fun H15 lo15 hzz hM hF h_sb => ?_)
        clear hzz
        replace hzl := Nat.le_trans hzl hF.1
        replace h_sa := h_sa.kept hF 1 rfl (fsd (by omega))
        subst hQ; exact m_vret X hr hlk hM dJ5_setLength_d00df_81 rfl ⟨v1_3, N1_4, f1_5, 1, rfl, (by omega), (by omega), (by omega), (by exact hp_f_10), h_sb, h_sa⟩
    · skip
      exfalso; omega
  · skip
    exfalso; omega
set_option maxHeartbeats 4000000 in
set_option maxRecDepth 20000 in
theorem c_J4_setLength_d00df (l : Launch) (E : Nat → Nat → Nat) (b : Nat) (v : Nat) (N : Nat) (f : Int → Int) (ml : Int) (n : Int) (z : Nat) (n0 : 0 ≤ n) (n2 : n ≤ 70) (hN : N = 16 ∨ N = 34 ∨ N = 70) (hf : ∀ j : Int, 0 ≤ f j ∧ f j < 128) (hbz : b < z) (hd_sb_sa : b + 1 ≤ v ∨ v + 1 ≤ b) : Mu l yJ4_setLength_d00df cJ4_setLength_d00df 2 none 5 1 70 E [(b, 1)] [.ref b, .int (zI 0)] (fun H => PR E b [(b, .inr (1, [.ref v, .int (zI 0), .int (zI ml), .int (zI n)]))] H ∧ PR E v [(v, .inl (E 102 2, N, .inl (zA f)))] H ∧ z ≤ H.size) (fun rv H => ∃ v1 : Nat, ∃ N1 : Nat, ∃ f1 : Int → Int, ∃ ml1 : Int, rv = none ∧ (v1 = v ∨ z ≤ v1) ∧ (N1 = 16 ∨ N1 = 34 ∨ N1 = 70) ∧ 0 ≤ (N1 : Int) ∧ (∀ j : Int, 0 ≤ f1 j ∧ f1 j < 128) ∧ PR E b [(b, .inr (1, [.ref v1, .int (zI 0), .int (zI ml1), .int (zI 0)]))] H ∧ PR E v1 [(v1, .inl (E 102 2, N1, .inl (zA f1)))] H) := by
  refine Mu.start (own := RJ4) rfl (by decide +kernel) (Nat.le_of_ble_eq_true rfl) ?_
  intro p e s m below meth cd args Q hQ X hr hlk hnm hM hPr
  obtain ⟨h_sb, h_sa, hzl⟩ := hPr
  have hz : s.heap.size = s.heap.size := rfl
  have hzl0 := hzl
  refine v_aload_n X dJ4_setLength_d00df_0 1 rfl 0 rfl ?_
  refine v_iload_n X dJ4_setLength_d00df_1 2 rfl 1 rfl ?_
  refine v_muSU (C := RJ4) X hM (h_sb.1) (c_J5_setLength_d00df l E b v N f ml n z n0 n2 hN hf hbz hd_sb_sa) kvJ5_setLength_d00df kim_J5_setLength_d00df ksm_J5_setLength_d00df ksup_J4 (by decide) kl_J4_333 (q0 := 0) rfl rfl (As := [.int (zI 0)]) rfl rfl rfl dJ4_setLength_d00df_2 5 rfl (k' := 1) (n' := 70) rfl rfl (fsI (fun q q1 q2 => (Or.inl (fsH (by omega) (by omega))))) ⟨h_sb, h_sa, (by omega)⟩ (fun rv H1 lo1 hM hF hpo => ?_)
  obtain ⟨v1_2, N1_3, f1_4, ml1_5, rfl, hp_f_6, hp_f_7, hp_f_8, hp_f_9, hw_0, hw_1⟩ := hpo
  have h_sb : PR E b [(b, .inr (1, [.ref v1_2, .int (zI 0), .int (zI ml1_5), .int (zI 0)]))] H1 := hw_0
  have h_sa : PR E v1_2 [(v1_2, .inl (E 102 2, N1_3, .inl (zA f1_4)))] H1 := hw_1
  replace hzl := Nat.le_trans hzl hF.1
  show V p l e (rmL 5 1 70) s m args below meth cd Q 2 H1 lo1 1 70 5 [(0, .ref b), (1, .int (zI 0))] []
  subst hQ; exact m_vret X hr hlk hM dJ4_setLength_d00df_5 rfl ⟨v1_2, N1_3, f1_4, ml1_5, rfl, (by exact hp_f_6), (by exact hp_f_7), (by exact hp_f_8), (by exact hp_f_9), h_sb, h_sa⟩
set_option maxHeartbeats 4000000 in
set_option maxRecDepth 20000 in
theorem c_J5_init_d00df (l : Launch) (E : Nat → Nat → Nat) (b : Nat) : Mu l yJ5_init_d00df cJ5_init_d00df 2 none 1 1 16 E [(b, 1)] [.ref b, .int (zI 16)] (fun H => PR E b [(b, .inr (1, [.null, .int 0, .int 0, .int 0]))] H ∧ H.size = b + 1) (fun rv H => rv = none ∧ PR E b [(b, .inr (1, [.ref (b + 1), .int (zI 0), .int (zI 0), .int (zI 0)])), (b + 1, .inl (E 102 2, 16, .inl (zA (fun _ => 0))))] H ∧ H.size = b + 2) := by
  refine Mu.start (own := RJ5) rfl (by decide +kernel) (Nat.le_of_ble_eq_true rfl) ?_
  intro p e s m below meth cd args Q hQ X hr hlk hnm hM hPr
  obtain ⟨h_sb, hz⟩ := hPr
  have hz0 := hz
  refine v_aload_n X dJ5_init_d00df_0 1 rfl 0 rfl ?_
  refine v_objinit X kl_J5_3 dJ5_init_d00df_1 4 rfl rfl ?_
  refine v_comp X hM.C kf_J5_18 dJ5_init_d00df_4 7 rfl ?_
  refine v_if_eq X (by omega) dJ5_init_d00df_7 10 25 rfl (by decide) (fun c_1 => ?_) (fun c_1 => ?_)
  · skip
    exfalso; omega
  · skip
    refine v_aload_n X dJ5_init_d00df_10 11 rfl 0 rfl ?_
    refine v_iload_n X dJ5_init_d00df_11 12 rfl 1 rfl ?_
    refine v_newa X hM (atype := .byte) rfl rfl karr_byte 2 rfl (N := 16) rfl (by decide) (by decide) ⟨Nat.le_of_ble_eq_true rfl, Nat.le_of_ble_eq_true rfl⟩ dJ5_init_d00df_12 14 rfl (k' := 1) (n' := 16) rfl rfl (fun o H2 ho hz1 hM hF h_new => ?_)
    obtain rfl : o = b + 1 := ho.trans hz
    replace hz : H2.size = b + 2 := hz1
    clear ho hz1
    have h_n_3 : PR E (b + 1) [(b + 1, .inl (E 102 2, 16, .inl (zA (fun _ => 0))))] H2 := h_new
    replace h_sb := h_sb.kept hF 1 rfl (fun q _ _ h => h.elim)
    refine v_putf X hM h_sb ftJ4 0 rfl rfl 0 (by decide) kf_J5_15 (fun _ h => h) rfl rfl rfl (Nat.le_of_ble_eq_true rfl) (Or.inl (fsH (by omega) (by omega))) dJ5_init_d00df_14 17 rfl (ws' := [(b, .inr (1, [.ref (b + 1), .int 0, .int 0, .int 0]))]) rfl (fun H4 lo4 hzz hM hF h_sb => ?_)
    replace hz : H4.size = b + 2 := hzz.trans hz
    clear hzz
    replace h_n_3 := h_n_3.kept hF 1 rfl (fsd (by omega))
    refine v_aload_n X dJ5_init_d00df_17 18 rfl 0 rfl ?_
    refine v_iconst X dJ5_init_d00df_18 19 rfl ?_
    refine v_putf X hM h_sb ftJ4 0 rfl rfl 1 (by decide) kf_J5_22 (fun _ h => h) rfl rfl rfl (Nat.le_of_ble_eq_true rfl) (Or.inl (fsH (by omega) (by omega))) dJ5_init_d00df_19 22 rfl (ws' := [(b, .inr (1, [.ref (b + 1), .int (zI 0), .int 0, .int 0]))]) rfl (fun H5 lo5 hzz hM hF h_sb => ?_)
    replace hz : H5.size = b + 2 := hzz.trans hz
    clear hzz
    replace h_n_3 := h_n_3.kept hF 1 rfl (fsd (by omega))
    refine v_goto X dJ5_init_d00df_22 38 (by decide) ?_
    subst hQ; exact m_vret X hr hlk hM dJ5_init_d00df_38 rfl ⟨rfl, (h_sb.app2 1 rfl rfl h_n_3 rfl), (by omega)⟩
set_option maxHeartbeats 4000000 in
set_option maxRecDepth 20000 in
theorem c_J4_init_da8c8 (l : Launch) (E : Nat → Nat → Nat) (b : Nat) : Mu l yJ4_init_da8c8 cJ4_init_da8c8 1 none 2 1 16 E [(b, 1)] [.ref b] (fun H => PR E b [(b, .inr (1, [.null, .int 0, .int 0, .int 0]))] H ∧ H.size = b + 1) (fun rv H => rv = none ∧ PR E b [(b, .inr (1, [.ref (b + 1), .int (zI 0), .int (zI 0), .int (zI 0)])), (b + 1, .inl (E 102 2, 16, .inl (zA (fun _ => 0))))] H ∧ H.size = b + 2) := by
  refine Mu.start (own := RJ4) rfl (by decide +kernel) (Nat.le_of_ble_eq_true rfl) ?_
  intro p e s m below meth cd args Q hQ X hr hlk hnm hM hPr
  obtain ⟨h_sb, hz⟩ := hPr
  have hz0 := hz
  refine v_aload_n X dJ4_init_da8c8_0 1 rfl 0 rfl ?_
  refine v_bipush X dJ4_init_da8c8_1 3 rfl rfl ?_
  refine v_muI X hM (c_J5_init_d00df l E b) rfl kvJ5_init_d00df kiiJ5_init_d00df rfl kl_J4_1 (As := [.int (zI 16)]) rfl rfl rfl dJ4_init_da8c8_3 6 rfl (k' := 1) (n' := 16) rfl rfl (fsI (fun q q1 q2 => (Or.inl (fsH (by omega) (by omega))))) ⟨h_sb, (by omega)⟩ (fun rv H1 lo1 hM hF hpo => ?_)
  obtain ⟨rfl, hw_0, hz9⟩ := hpo
  clear hz
  have hz := hz9; clear hz9
  replace hz : H1.size = b + 2 := hz
  have h_sb : PR E b [(b, .inr (1, [.ref (b + 1), .int (zI 0), .int (zI 0), .int (zI 0)])), (b + 1, .inl (E 102 2, 16, .inl (zA (fun _ => 0))))] H1 := hw_0
  show V p l e (rmL 2 1 16) s m args below meth cd Q 1 H1 lo1 1 16 6 [(0, .ref b)] []
  subst hQ; exact m_vret X hr hlk hM dJ4_init_da8c8_6 rfl ⟨rfl, h_sb, (by omega)⟩

