section NEWLD
variable {p : Program} {l : Launch} {e : Env} {R : Room} {s : State} {m : MethodId} {args : Array Value} {below : List Frame} {meth : Method} {c : Code} {Q : State → Prop} {nL : Nat} {H : Heap} {locs : List Loc} {k n : Nat} {pc : Nat} {L L' : List (Nat × Value)} {st : List Value} {cc : ByteArray} {own : String} {E : Nat → Nat → Nat} {rs : List (Nat × Nat)}
theorem v_newal (X : CF p m c cc nL s args own) (hM : MS E rs s H locs) (harr : Cond.arrayClass .long ∈ WA) (ht : (tysA E)[4]? = some (E 102 4, .long)) {N : Nat} {z : Int} (hz : z = N) (hN : N < 2147483648) (hbytes : N * componentBytes .long ≤ 536870912) (hcells : k + 1 ≤ R.cells ∧ n + N ≤ R.slots) (hdg : decode cc pc = .ok (.newarray .long, 2)) (pc' : Nat) (hp : pc + 2 = pc') {k' n' : Nat} (hk' : k + 1 = k') (hn' : n + N = n')
    (kk : ∀ (o : Nat) (H1 : Heap), o = H.size → H1.size = o + 1 → MS E rs s H1 locs → Fm [] H H1 → PR E o [(o, .inl (E 102 4, N, .inr (.inl (fun _ => 0))))] H1 → V p l e R s m args below meth c Q nL H1 locs k' n' pc' L (.ref o :: st)) : V p l e R s m args below meth c Q nL H locs k n pc L (.int (zI z) :: st) := by
  subst hp; subst hk'; subst hn'; subst hz
  intro ls hls
  refine va_newaK (atype := .long) X.1 X.2.1 (X.2.2.2.2 _ harr) rfl hdg rfl (n := zI N) (N := N) (by rw [zI_0, zI_lt (by omega) (by omega)]; omega) (by rw [zI_clamp (by omega) (by omega)]; omega) hbytes hcells.1 hcells.2 rfl fun H1 cA' e1 z1 o1 hAr hNm => ?_
  have hF : Fm [] H H1 := cell0 rfl z1 o1
  have hM1 := hM.mut (L := []) hF (fun q hq => hq.elim) (fun q hq => by cases hq)
  rw [List.append_nil] at hM1
  have hcA : cA' = E 102 4 := by
    have h2 := (hM.C.K.2 4 _ ht).2
    exact Option.some.inj (hNm.symm.trans h2)
  subst hcA
  refine kk H.size H1 rfl z1 hM1 hF ⟨fun j x hx => ?_, fun j x hx => ?_⟩ ls hls
  · have hz : j < 1 := (List.getElem?_eq_some_iff.mp hx).1
    rw [show j = 0 by omega] at hx
    cases hx
    show H1[H.size]? = some (vp_cell _ _)
    rw [e1]
    rfl
  · have hz : j < 1 := (List.getElem?_eq_some_iff.mp hx).1
    rw [show j = 0 by omega] at hx
    cases hx
    exact (by omega : H.size = H.size + j)
theorem v_newad (X : CF p m c cc nL s args own) (hM : MS E rs s H locs) (harr : Cond.arrayClass .double ∈ WA) (ht : (tysA E)[5]? = some (E 102 5, .double)) {N : Nat} {z : Int} (hz : z = N) (hN : N < 2147483648) (hbytes : N * componentBytes .double ≤ 536870912) (hcells : k + 1 ≤ R.cells ∧ n + N ≤ R.slots) (hdg : decode cc pc = .ok (.newarray .double, 2)) (pc' : Nat) (hp : pc + 2 = pc') {k' n' : Nat} (hk' : k + 1 = k') (hn' : n + N = n')
    (kk : ∀ (o : Nat) (H1 : Heap), o = H.size → H1.size = o + 1 → MS E rs s H1 locs → Fm [] H H1 → PR E o [(o, .inl (E 102 5, N, .inr (.inr (.inr (.inl (fun _ => 0))))))] H1 → V p l e R s m args below meth c Q nL H1 locs k' n' pc' L (.ref o :: st)) : V p l e R s m args below meth c Q nL H locs k n pc L (.int (zI z) :: st) := by
  subst hp; subst hk'; subst hn'; subst hz
  intro ls hls
  refine va_newaK (atype := .double) X.1 X.2.1 (X.2.2.2.2 _ harr) rfl hdg rfl (n := zI N) (N := N) (by rw [zI_0, zI_lt (by omega) (by omega)]; omega) (by rw [zI_clamp (by omega) (by omega)]; omega) hbytes hcells.1 hcells.2 rfl fun H1 cA' e1 z1 o1 hAr hNm => ?_
  have hF : Fm [] H H1 := cell0 rfl z1 o1
  have hM1 := hM.mut (L := []) hF (fun q hq => hq.elim) (fun q hq => by cases hq)
  rw [List.append_nil] at hM1
  have hcA : cA' = E 102 5 := by
    have h2 := (hM.C.K.2 5 _ ht).2
    exact Option.some.inj (hNm.symm.trans h2)
  subst hcA
  refine kk H.size H1 rfl z1 hM1 hF ⟨fun j x hx => ?_, fun j x hx => ?_⟩ ls hls
  · have hz : j < 1 := (List.getElem?_eq_some_iff.mp hx).1
    rw [show j = 0 by omega] at hx
    cases hx
    show H1[H.size]? = some (vp_cell _ _)
    rw [e1]
    rfl
  · have hz : j < 1 := (List.getElem?_eq_some_iff.mp hx).1
    rw [show j = 0 by omega] at hx
    cases hx
    exact (by omega : H.size = H.size + j)
end NEWLD
theorem law_p0 (x : Nat) : LawP x (x + 321) 16 (fun _ => 0) 0 (x + 333) 16 (fun _ => 0) 0 c0 c0 (fun _ => c0) 0 0 0 (-1) (-1) 0 0 0 c0 m0 :=
  ⟨⟨c0_inv, fun z => absurd z (by decide), fun j _ _ => c0_inv⟩, ⟨⟨⟨c0_inv.inv.ok, RelC_0⟩, fun j a b => by omega, fun z => absurd z (by decide)⟩, rfl, rfl⟩, ⟨⟨by decide, by decide⟩, ⟨by decide, by decide⟩, Or.inl rfl⟩, ⟨rfl, ⟨by decide, by decide⟩, fun j a b => by omega, Or.inl rfl, by decide, fun _ => ⟨Int.le_refl _, (by decide : (0 : Int) < 128)⟩⟩, ⟨[], ⟨Or.inl rfl, by decide, fun _ => ⟨Int.le_refl _, (by decide : (0 : Int) < 128)⟩, LT.nil⟩, LT.nil, by decide⟩, pr0_b, ⟨rfl, rfl, fun z => absurd rfl z, ⟨by decide, by decide⟩, ⟨by decide, by decide⟩, Or.inl rfl, Or.inl rfl⟩, ⟨⟨by decide, by decide⟩, ⟨by decide, by decide⟩⟩, ⟨Or.inl rfl, Or.inl rfl, by omega⟩⟩
set_option maxHeartbeats 4000000 in
set_option maxRecDepth 20000 in
theorem law_body {p : Program} {l : Launch} {e : Env} {s : State} {m : MethodId} {below : List Frame} {meth : Method} {cd : Code} {Q : State → Prop} {E : Nat → Nat → Nat} {b Lx : Nat} {xs : Nat → Int32} (hl : l.stackTraces = false) (X : CF p m cd code 9 s #[.ref b] RL) (hX : va_X b Lx xs s s.heap) (hbl : b < s.heap.size) (hLx : Lx ≤ 2560) (hC : Cx E s s.heap) (hend : ∀ (x : Nat) (H : Heap) (lo : List Loc) (kq nq : Nat) (i : Int), MS E [] s H lo → kq ≤ 603072 → nq ≤ 7211113 → V p l e room_1 s m #[.ref b] below meth cd Q 9 H lo kq nq 3561 [(5, .int (zI i)), (4, .ref (x + 340)), (3, .ref (x + 339)), (2, .ref (x + 334)), (1, .ref x), (0, .ref b)] []) : V p l e room_1 s m #[.ref b] below meth cd Q 9 s.heap [] 0 0 0 [(0, .ref b)] [] := by
  obtain ⟨x, hz⟩ : ∃ x, s.heap.size = x := ⟨_, rfl⟩
  have hz0 := hz
  have hM : MS E [] s s.heap [] := MS.rf hC (fun q h => h.elim)
  refine v_new (ci := 11) X hM ftX9 kc_L_8 kins_X9 kini_CaseManager rfl dfX9 rfl dL_law_0 3 rfl (k' := 1) (n' := 12) rfl rfl (fun o H1 ho hz1 hM hF h_new => ?_)
  obtain rfl : x = o := (ho.trans hz).symm
  replace hz : H1.size = x + 1 := hz1
  clear ho hz1
  have h_n_2 : PR E x [(x, .inr (11, [.null, .null, .null, .null, .null, .null, .null, .null, .int 0, .int 0, .int 0, .int 0]))] H1 := h_new
  refine v_dup X dL_law_3 4 rfl rfl ?_
  refine v_muI X hM (c_X9_init l E x) rfl kvX9_init kiiX9_init rfl kl_L_186 (As := []) rfl rfl rfl dL_law_4 7 rfl (k' := 334) (n' := 7112) rfl rfl (fsI (fun q q1 q2 => (Or.inr (by omega)))) ⟨h_n_2, (by omega)⟩ (fun rv H3 lo3 hM hF hpo => ?_)
  obtain ⟨rfl, hp_f_4, hp_f_5, hp_f_6, hp_f_7, hp_f_8, hp_f_9, hp_f_10, hp_f_11, hp_f_12, hp_f_13, hp_f_14, hp_f_15, hp_f_16, hw_0, hz9⟩ := hpo
  clear hz
  have hz := hz9; clear hz9
  replace hz : H3.size = x + 334 := hz
  have h_n_2 : PR E x [(x, .inr (11, [.ref (x + 1), .ref (x + 29), .ref (x + 57), .ref (x + 85), .ref (x + 311), .ref (x + 314), .ref (x + 319), .ref (x + 332), .int (zI 0), .int (zI (-1)), .int (zI (-1)), .int (zI 0)]))] H3 := hw_0
  show V p l e room_1 s m #[.ref b] below meth cd Q 9 H3 lo3 334 7112 7 [(0, .ref b)] [.ref x]
  have h_co := hp_f_4
  clear hp_f_4
  have h_bf := hp_f_5
  clear hp_f_5
  have h_sv := hp_f_6
  clear hp_f_6
  have h_hi := hp_f_7
  clear hp_f_7
  have h_hf := hp_f_8
  clear hp_f_8
  have h_dk := hp_f_9
  clear hp_f_9
  have h_se := hp_f_10
  clear hp_f_10
  have h_pg := hp_f_11
  clear hp_f_11
  have h_sb := hp_f_12
  clear hp_f_12
  have h_sa := hp_f_13
  clear hp_f_13
  have h_pr := hp_f_14
  clear hp_f_14
  have h_ln := hp_f_15
  clear hp_f_15
  have h_la := hp_f_16
  clear hp_f_16
  refine v_astore_n X dL_law_7 8 rfl rfl (by decide) (L' := [(1, .ref x), (0, .ref b)]) rfl ?_
  refine v_new (ci := 12) X hM ftX10 kc_L_187 kins_X10 kini_CaseManagerModel rfl dfX10 rfl dL_law_8 11 rfl (k' := 335) (n' := 7128) rfl rfl (fun o H17 ho hz1 hM hF h_new => ?_)
  obtain rfl : o = x + 334 := ho.trans hz
  replace hz : H17.size = x + 335 := hz1
  clear ho hz1
  have h_n_18 : PR E (x + 334) [(x + 334, .inr (12, [.int 0, .null, .int 0, .int 0, .int 0, .null, .int 0, .null, .int 0, .int 0, .int 0, .int 0, .int 0, .int 0, .null, .int 0]))] H17 := h_new
  replace h_n_2 := h_n_2.kept hF 1 rfl (fun q _ _ h => h.elim)
  replace h_co := h_co.kept hF 28 rfl (fun q _ _ h => h.elim)
  replace h_bf := h_bf.kept hF 28 rfl (fun q _ _ h => h.elim)
  replace h_sv := h_sv.kept hF 28 rfl (fun q _ _ h => h.elim)
  replace h_hi := h_hi.kept hF 2 rfl (fun q _ _ h => h.elim)
  replace h_hf := h_hf.kept hF (fun q _ _ h => h.elim)
  replace h_dk := h_dk.kept hF 3 rfl (fun q _ _ h => h.elim)
  replace h_se := h_se.kept hF 5 rfl (fun q _ _ h => h.elim)
  replace h_pg := h_pg.kept hF 1 rfl (fun q _ _ h => h.elim)
  replace h_sb := h_sb.kept hF 1 rfl (fun q _ _ h => h.elim)
  replace h_sa := h_sa.kept hF 1 rfl (fun q _ _ h => h.elim)
  replace h_pr := h_pr.kept hF 10 rfl (fun q _ _ h => h.elim)
  replace h_ln := h_ln.kept hF 1 rfl (fun q _ _ h => h.elim)
  replace h_la := h_la.kept hF 1 rfl (fun q _ _ h => h.elim)
  refine v_dup X dL_law_11 12 rfl rfl ?_
  refine v_muI X hM (c_X10_init l E (x + 334)) rfl kvX10_init kiiX10_init rfl kl_L_189 (As := []) rfl rfl rfl dL_law_12 15 rfl (k' := 339) (n' := 12965) rfl rfl (fsI (fun q q1 q2 => (Or.inr (by omega)))) ⟨h_n_18, (by omega)⟩ (fun rv H19 lo19 hM hF hpo => ?_)
  obtain ⟨rfl, hw_0, hz9⟩ := hpo
  clear hz
  have hz := hz9; clear hz9
  replace hz : H19.size = x + 339 := hz
  have h_n_18 : PR E (x + 334) (modelW E (x + 334) m0) H19 := hw_0
  replace h_n_2 := h_n_2.kept hF 1 rfl (fsd (by omega))
  replace h_co := h_co.kept hF 28 rfl (fsd (by omega))
  replace h_bf := h_bf.kept hF 28 rfl (fsd (by omega))
  replace h_sv := h_sv.kept hF 28 rfl (fsd (by omega))
  replace h_hi := h_hi.kept hF 2 rfl (fsd (by omega))
  replace h_hf := h_hf.kept hF (fsd (by omega))
  replace h_dk := h_dk.kept hF 3 rfl (fsd (by omega))
  replace h_se := h_se.kept hF 5 rfl (fsd (by omega))
  replace h_pg := h_pg.kept hF 1 rfl (fsd (by omega))
  replace h_sb := h_sb.kept hF 1 rfl (fsd (by omega))
  replace h_sa := h_sa.kept hF 1 rfl (fsd (by omega))
  replace h_pr := h_pr.kept hF 10 rfl (fsd (by omega))
  replace h_ln := h_ln.kept hF 1 rfl (fsd (by omega))
  replace h_la := h_la.kept hF 1 rfl (fsd (by omega))
  show V p l e room_1 s m #[.ref b] below meth cd Q 9 H19 lo19 339 12965 15 [(1, .ref x), (0, .ref b)] [.ref (x + 334)]
  refine v_astore_n X dL_law_15 16 rfl rfl (by decide) (L' := [(2, .ref (x + 334)), (1, .ref x), (0, .ref b)]) rfl ?_
  refine v_iconst X dL_law_16 17 rfl ?_
  refine v_newal X hM karr_long rfl (N := 1) rfl (by decide) (by decide) ⟨Nat.le_of_ble_eq_true rfl, Nat.le_of_ble_eq_true rfl⟩ dL_law_17 19 rfl (k' := 340) (n' := 12966) rfl rfl (fun o H20 ho hz1 hM hF h_new => ?_)
  obtain rfl : o = x + 339 := ho.trans hz
  replace hz : H20.size = x + 340 := hz1
  clear ho hz1
  have h_n_21 : PR E (x + 339) [(x + 339, .inl (E 102 4, 1, .inr (.inl (fun _ => 0))))] H20 := h_new
  replace h_n_2 := h_n_2.kept hF 1 rfl (fun q _ _ h => h.elim)
  replace h_co := h_co.kept hF 28 rfl (fun q _ _ h => h.elim)
  replace h_bf := h_bf.kept hF 28 rfl (fun q _ _ h => h.elim)
  replace h_sv := h_sv.kept hF 28 rfl (fun q _ _ h => h.elim)
  replace h_hi := h_hi.kept hF 2 rfl (fun q _ _ h => h.elim)
  replace h_hf := h_hf.kept hF (fun q _ _ h => h.elim)
  replace h_dk := h_dk.kept hF 3 rfl (fun q _ _ h => h.elim)
  replace h_se := h_se.kept hF 5 rfl (fun q _ _ h => h.elim)
  replace h_pg := h_pg.kept hF 1 rfl (fun q _ _ h => h.elim)
  replace h_sb := h_sb.kept hF 1 rfl (fun q _ _ h => h.elim)
  replace h_sa := h_sa.kept hF 1 rfl (fun q _ _ h => h.elim)
  replace h_pr := h_pr.kept hF 10 rfl (fun q _ _ h => h.elim)
  replace h_ln := h_ln.kept hF 1 rfl (fun q _ _ h => h.elim)
  replace h_la := h_la.kept hF 1 rfl (fun q _ _ h => h.elim)
  replace h_n_18 := h_n_18.kept hF 5 rfl (fun q _ _ h => h.elim)
  refine v_astore_n X dL_law_19 20 rfl rfl (by decide) (L' := [(3, .ref (x + 339)), (2, .ref (x + 334)), (1, .ref x), (0, .ref b)]) rfl ?_
  refine v_iconst X dL_law_20 21 rfl ?_
  refine v_newad X hM karr_double rfl (N := 1) rfl (by decide) (by decide) ⟨Nat.le_of_ble_eq_true rfl, Nat.le_of_ble_eq_true rfl⟩ dL_law_21 23 rfl (k' := 341) (n' := 12967) rfl rfl (fun o H22 ho hz1 hM hF h_new => ?_)
  obtain rfl : o = x + 340 := ho.trans hz
  replace hz : H22.size = x + 341 := hz1
  clear ho hz1
  have h_n_23 : PR E (x + 340) [(x + 340, .inl (E 102 5, 1, .inr (.inr (.inr (.inl (fun _ => 0))))))] H22 := h_new
  replace h_n_2 := h_n_2.kept hF 1 rfl (fun q _ _ h => h.elim)
  replace h_co := h_co.kept hF 28 rfl (fun q _ _ h => h.elim)
  replace h_bf := h_bf.kept hF 28 rfl (fun q _ _ h => h.elim)
  replace h_sv := h_sv.kept hF 28 rfl (fun q _ _ h => h.elim)
  replace h_hi := h_hi.kept hF 2 rfl (fun q _ _ h => h.elim)
  replace h_hf := h_hf.kept hF (fun q _ _ h => h.elim)
  replace h_dk := h_dk.kept hF 3 rfl (fun q _ _ h => h.elim)
  replace h_se := h_se.kept hF 5 rfl (fun q _ _ h => h.elim)
  replace h_pg := h_pg.kept hF 1 rfl (fun q _ _ h => h.elim)
  replace h_sb := h_sb.kept hF 1 rfl (fun q _ _ h => h.elim)
  replace h_sa := h_sa.kept hF 1 rfl (fun q _ _ h => h.elim)
  replace h_pr := h_pr.kept hF 10 rfl (fun q _ _ h => h.elim)
  replace h_ln := h_ln.kept hF 1 rfl (fun q _ _ h => h.elim)
  replace h_la := h_la.kept hF 1 rfl (fun q _ _ h => h.elim)
  replace h_n_18 := h_n_18.kept hF 5 rfl (fun q _ _ h => h.elim)
  replace h_n_21 := h_n_21.kept hF 1 rfl (fun q _ _ h => h.elim)
  refine v_astore X dL_law_23 25 rfl (by decide) (L' := [(4, .ref (x + 340)), (3, .ref (x + 339)), (2, .ref (x + 334)), (1, .ref x), (0, .ref b)]) rfl ?_
  refine v_iconst X dL_law_25 26 rfl ?_
  refine v_istore X dL_law_26 28 rfl (by decide) (L' := [(5, .int (zI 0)), (4, .ref (x + 340)), (3, .ref (x + 339)), (2, .ref (x + 334)), (1, .ref x), (0, .ref b)]) rfl ?_
  have hI : LawI E x H22 := ⟨by omega, _, _, _, _, _, _, _, _, _, _, _, _, _, _, _, _, _, _, _, _, _, _, _, _, _, _, _, _, ⟨h_n_2, h_co, h_bf, h_sv, h_hi, h_hf, h_dk, h_se, h_pg, h_sb, h_sa, h_pr, h_ln, h_la, h_n_18, h_n_21, h_n_23⟩, law_p0 x⟩
  refine V_pick [0, 1, 2, 3, 4, 5] rfl ?_
  refine v_widen (k' := 341) (n' := 20000) (by omega) (by omega) ?_
  exact law_loop hl X hX hbl hLx (by omega) (hend x) 512 H22 lo19 341 20000 0 hM hI (by omega) (by omega) (by omega) (by omega) (by omega)
