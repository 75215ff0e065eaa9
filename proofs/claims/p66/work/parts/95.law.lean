section LAWSEG
variable {p : Program} {l : Launch} {e : Env} {s : State} {m : MethodId} {args : Array Value} {below : List Frame} {meth : Method} {cd : Code} {Q : State → Prop} {E : Nat → Nat → Nat} {H : Heap} {lo : List Loc} {kq nq : Nat}
set_option maxHeartbeats 4000000 in
set_option maxRecDepth 20000 in
theorem sg_law (hl : l.stackTraces = false) (X : CF p m cd cL_law 32 s args RL) {x : Nat} (hx : s.heap.size ≤ x) (hz : H.size = x) (hM : MS E [] s H lo) (hk : kq + 8800 ≤ 683119) (hn : nq + 330000 ≤ 7044570) (kk : ∀ (H1 : Heap) (lo1 : List Loc), MS E [] s H1 lo1 → V p l e room_1 s m args below meth cd Q 32 H1 lo1 (kq + 8800) (nq + 330000) 1780 [(0, .ref (E 107 0)), (1, .ref x)] []) : V p l e room_1 s m args below meth cd Q 32 H lo kq nq 0 [(0, .ref (E 107 0))] [] := by
  refine v_new (ci := 11) X hM ftX9 kc_L_14 kins_X9 kini_CaseManager rfl dfX9 (rm_nw (by show _ ≤ 683119; omega) (by show _ ≤ 7044570; omega)) dL_law_0 3 rfl (k' := kq + 1) (n' := nq + 12) rfl rfl (fun o H1 ho hz1 hM hF h_new => ?_)
  obtain rfl : x = o := (ho.trans hz).symm
  replace hz : H1.size = x + 1 := hz1
  clear ho hz1
  have h_n_2 : PR E x [(x, .inr (11, [.null, .null, .null, .null, .null, .null, .null, .null, .int 0, .int 0, .int 0, .int 0]))] H1 := h_new
  refine v_dup X dL_law_3 4 rfl rfl ?_
  refine v_muI X hM (c_X9_init l E x) rfl kvX9_init kiiX9_init rfl kl_L_134 (As := []) rfl rfl (rm_law rfl (by omega) (by omega)) dL_law_4 7 rfl (k' := kq + 334) (n' := nq + 7112) rfl rfl (fsI (fun q q1 q2 => (Or.inr (by omega)))) ⟨h_n_2, (by omega)⟩ (fun rv H3 lo3 hM hF hpo => ?_)
  obtain ⟨rfl, hp_f_4, hp_f_5, hp_f_6, hp_f_7, hp_f_8, hp_f_9, hp_f_10, hp_f_11, hp_f_12, hp_f_13, hp_f_14, hp_f_15, hp_f_16, hw_0, hz9⟩ := hpo
  clear hz
  have hz := hz9; clear hz9
  replace hz : H3.size = x + 334 := hz
  have h_n_2 : PR E x [(x, .inr (11, [.ref (x + 1), .ref (x + 29), .ref (x + 57), .ref (x + 85), .ref (x + 311), .ref (x + 314), .ref (x + 319), .ref (x + 332), .int (zI 0), .int (zI (-1)), .int (zI (-1)), .int (zI 0)]))] H3 := hw_0
  show V p l e room_1 s m args below meth cd Q 32 H3 lo3 (kq + 334) (nq + 7112) 7 [(0, .ref (E 107 0))] [.ref x]
  have h_co := hp_f_4
  clear hp_f_4
  have h_bf := hp_f_5
  clear hp_f_5
  have h_sv := hp_f_6
  clear hp_f_6
  have h_hi := hp_f_7
  clear hp_f_7
  have h_hf := hp_f_8
  clear hp_f_8
  have h_dk := hp_f_9
  clear hp_f_9
  have h_se := hp_f_10
  clear hp_f_10
  have h_pg := hp_f_11
  clear hp_f_11
  have h_sb := hp_f_12
  clear hp_f_12
  have h_sa := hp_f_13
  clear hp_f_13
  have h_pr := hp_f_14
  clear hp_f_14
  have h_ln := hp_f_15
  clear hp_f_15
  have h_la := hp_f_16
  clear hp_f_16
  have h_cm : PR E x [(x, .inr (11, [.ref (x + 1), .ref (x + 29), .ref (x + 57), .ref (x + 85), .ref (x + 311), .ref (x + 314), .ref (x + 319), .ref (x + 332), .int (zI 0), .int (zI (-1)), .int (zI (-1)), .int (zI 0)]))] H3 := h_n_2
  clear h_n_2
  clear hz
  have h_hwx : HW E x H3 := ⟨(_, _, _), ⟨⟨by decide, by decide⟩, ⟨by decide, by decide⟩⟩, h_hi, h_hf⟩
  have h_w : RW E x (x + 333) [] H3 := ⟨(_, _, 16, fun _ => 0, 0, _), ⟨⟨Or.inl rfl, by decide, fun _ => ⟨Int.le_refl _, (by decide : (0 : Int) < 128)⟩, LT.nil⟩, by decide, Or.inl rfl⟩, h_dk, h_se, h_ln, h_la⟩
  clear h_bf h_sv h_hi h_hf h_dk h_se h_pg h_sb h_sa h_pr h_ln h_la
  have h_hw := h_hwx
  clear h_hwx
  have hvl := h_w.lt
  refine v_astore_n X dL_law_7 8 rfl rfl (by decide) (L' := [(1, .ref x), (0, .ref (E 107 0))]) rfl ?_
  refine v_aload_n X dL_law_8 9 rfl 0 rfl ?_
  refine v_aload_n X dL_law_9 10 rfl 1 rfl ?_
  refine v_muS X hM (c_L_build l hl E x c0 (x + 333) [] ba_c0 (by rfl) (by rfl)) kvL_build ksL_build kl_L_135 (As := [.ref x, .ref (E 107 0)]) rfl rfl (rm_law rfl (by omega) (by omega)) dL_law_10 13 rfl (k' := kq + 362) (n' := nq + 7280) rfl rfl (by intro q hq; simp only [Fr, Fs, or_false, false_or] at hq ⊢; omega) ⟨h_cm, h_co, h_hw, h_w⟩ (fun rv H17 lo17 hM hF hpo => ?_)
  obtain ⟨co1_18, rfl, hp_f_19, hw_0, hw_1, hw_2⟩ := hpo
  have h_co : PR E (x + 1) (courtW E (x + 1) co1_18) H17 := hw_0
  clear hw_0
  have h_hw : HW E x H17 := hw_1
  clear hw_1
  have h_w : RW E x (x + 333) [] H17 := hw_2
  clear hw_2
  replace h_cm := h_cm.kept hF 1 rfl (by intro q q1 q2 q3; simp only [Fs, or_false] at q3; omega)
  show V p l e room_1 s m args below meth cd Q 32 H17 lo17 (kq + 362) (nq + 7280) 13 [(1, .ref x), (0, .ref (E 107 0))] []
  refine v_locals [1, 0] (L' := [(0, .ref (E 107 0)), (1, .ref x)]) rfl ?_
  refine sg_turns (x := x) (cb := co1_18) (v := x + 333) (T := []) hl X hx (hp_f_19) hM h_cm h_co h_hw h_w (by omega) (by omega) (fun H20 lo20 hM => ?_)
  refine v_widen (k' := (kq + 8762)) (n' := (nq + 327280)) (by omega) (by omega) ?_
  show V p l e room_1 s m args below meth cd Q 32 H20 lo20 (kq + 8762) (nq + 327280) 1780 [(0, .ref (E 107 0)), (1, .ref x)] []
  refine v_widen (k' := kq + 8800) (n' := nq + 330000) (by omega) (by omega) ?_
  refine v_locals [0, 1] (L' := [(0, .ref (E 107 0)), (1, .ref x)]) rfl ?_
  exact kk _ _ hM
end LAWSEG
