theorem ex_b {pr : Nat → Int → Int} : ∀ (m : Nat) (i : Int) (co : Nat → Int → Int), i ≤ (exF pr m i co).2.1 ∧ (exF pr m i co).2.1 ≤ i + m
  | 0, i, co => by
    show i ≤ i ∧ i ≤ i + ((0 : Nat) : Int)
    omega
  | m + 1, i, co => by
    by_cases q : flC co (pr 1 i) (pr 2 i) (pr 3 i) (pr 5 i) = 0
    · rw [exF_1 q rfl]
      have := ex_b (pr := pr) m (i + 1) (opC co (pr 1 i) (pr 2 i) (pr 3 i) (bz (¬ pr 4 i = 0)) (pr 5 i))
      omega
    · rw [exF_2 q]
      show i ≤ i ∧ i ≤ i + ((m + 1 : Nat) : Int)
      omega
theorem LawP.run_ok {x : Nat} {v : Nat} {N : Nat} {f : Int → Int} {nn : Int} {v2 : Nat} {N2 : Nat} {f2 : Int → Int} {n2 : Int} {co : Nat → Int → Int} {cv : Nat → Int → Int} {hc : Nat → Nat → Int → Int} {nx : Int} {sz : Int} {hs : Int} {er : Int} {fa : Int} {ss : Int} {po : Int} {si : Int} {pr : Nat → Int → Int} {mo : Nat → Int → Int} {co2 : Nat → Int → Int} {pq : Nat → Int → Int} {g2 c4 : Int → Int} {p2 s2 q4 h9 e9 m9 : Int} (h : LawP x v N f nn v2 N2 f2 n2 co cv hc nx sz hs er fa ss po si pr mo) (hD2 : InvD co2) (hR2 : RelM co2 cv (fun j => if j = nx.toNat then co else hc j) (if nx < 7 then nx + 1 else 0) (min (sz + 1) 8) hs g2) (hq : PrB pq) (gp : Rg p2) (gs : Rg s2) : LawP x v N f 0 v2 N2 f2 n2 co2 cv (fun j => if j = nx.toNat then co else hc j) (if nx < 7 then nx + 1 else 0) (min (sz + 1) 8) hs er fa ss p2 s2 pq (updC (updC (updC mo 0 (updZ (updZ (updZ (updZ (updZ (updZ (updZ (mo 0) 0 0) 2 (min (sz + 1) 8)) 4 q4) 8 0) 9 h9) 10 e9) 15 m9)) 1 g2) 4 c4) := by
  obtain ⟨⟨hD, hDv, hDh⟩, ⟨hRM, hch, hcs⟩, ⟨⟨n0, n1⟩, ⟨s0, s1⟩, hhs⟩, ⟨hm8, hnn, hAg, hNN, hnN, hf9⟩, ⟨T, hSB, hLT, hn38⟩, hPB, ⟨her, hfa, hss, ger, gfa, gss, gms⟩, ⟨gpo, gsi⟩, ⟨hv1, hv2, hvv⟩⟩ := h
  exact ⟨⟨hD2, hDv, hist_push hD hDh n0 n1 s0 s1⟩, ⟨hR2, rfl, hcs⟩, ⟨⟨by split <;> omega, by split <;> omega⟩, ⟨by omega, by omega⟩, hhs⟩, ⟨rfl, ⟨Int.le_refl _, by decide⟩, fun j j0 j1 => by omega, hNN, by omega, hf9⟩, ⟨T, hSB, hLT, hn38⟩, hq, ⟨her, hfa, hss, ger, gfa, gss, gms⟩, ⟨gp, gs⟩, ⟨hv1, hv2, hvv⟩⟩
theorem LawP.run_1 {x : Nat} {v : Nat} {N : Nat} {f : Int → Int} {nn : Int} {v2 : Nat} {N2 : Nat} {f2 : Int → Int} {n2 : Int} {co : Nat → Int → Int} {cv : Nat → Int → Int} {hc : Nat → Nat → Int → Int} {nx : Int} {sz : Int} {hs : Int} {er : Int} {fa : Int} {ss : Int} {po : Int} {si : Int} {pr : Nat → Int → Int} {mo : Nat → Int → Int} {pq : Nat → Int → Int} {g2 c4 : Int → Int} {p2 s2 q4 h9 e9 m9 : Int} {fa2 ss2 : Int} (h : LawP x v N f nn v2 N2 f2 n2 co cv hc nx sz hs er fa ss po si pr mo) (hR2 : RelM co cv hc nx sz hs g2) (hq : PrB pq) (gp : Rg p2) (gs : Rg s2) (gf : Rg fa2) (gs2 : ss2 = 0 ∨ ss2 = 1) : LawP x v N f 0 v2 N2 f2 n2 co cv hc nx sz hs er fa2 ss2 p2 s2 pq (updC (updC (updC mo 0 (updZ (updZ (updZ (updZ (updZ (updZ (updZ (updZ (mo 0) 0 2) 4 q4) 8 0) 9 h9) 10 e9) 12 fa2) 13 ss2) 15 m9)) 1 g2) 4 c4) := by
  obtain ⟨⟨hD, hDv, hDh⟩, ⟨hRM, hch, hcs⟩, ⟨⟨n0, n1⟩, ⟨s0, s1⟩, hhs⟩, ⟨hm8, hnn, hAg, hNN, hnN, hf9⟩, ⟨T, hSB, hLT, hn38⟩, hPB, ⟨her, hfa, hss, ger, gfa, gss, gms⟩, ⟨gpo, gsi⟩, ⟨hv1, hv2, hvv⟩⟩ := h
  exact ⟨⟨hD, hDv, hDh⟩, ⟨hR2, hch, hcs⟩, ⟨⟨n0, n1⟩, ⟨s0, s1⟩, hhs⟩, ⟨rfl, ⟨Int.le_refl _, by decide⟩, fun j j0 j1 => by omega, hNN, by omega, hf9⟩, ⟨T, hSB, hLT, hn38⟩, hq, ⟨her, rfl, fun _ => rfl, ger, gf, gs2, gs2⟩, ⟨gp, gs⟩, ⟨hv1, hv2, hvv⟩⟩
theorem LawP.run_0 {x : Nat} {v : Nat} {N : Nat} {f : Int → Int} {nn : Int} {v2 : Nat} {N2 : Nat} {f2 : Int → Int} {n2 : Int} {co : Nat → Int → Int} {cv : Nat → Int → Int} {hc : Nat → Nat → Int → Int} {nx : Int} {sz : Int} {hs : Int} {er : Int} {fa : Int} {ss : Int} {po : Int} {si : Int} {pr : Nat → Int → Int} {mo : Nat → Int → Int} {pq : Nat → Int → Int} {g2 c4 : Int → Int} {p2 s2 q4 h9 e9 m9 : Int} (h : LawP x v N f nn v2 N2 f2 n2 co cv hc nx sz hs er fa ss po si pr mo) (hq : PrB pq) (gp : Rg p2) (gs : Rg s2) : LawP x v N f 0 v2 N2 f2 n2 co cv hc nx sz hs p2 fa ss p2 s2 pq (updC (updC mo 0 (updZ (updZ (updZ (updZ (updZ (updZ (mo 0) 0 1) 8 0) 9 h9) 10 p2) 11 p2) 15 m9)) 4 c4) := by
  obtain ⟨⟨hD, hDv, hDh⟩, ⟨hRM, hch, hcs⟩, ⟨⟨n0, n1⟩, ⟨s0, s1⟩, hhs⟩, ⟨hm8, hnn, hAg, hNN, hnN, hf9⟩, ⟨T, hSB, hLT, hn38⟩, hPB, ⟨her, hfa, hss, ger, gfa, gss, gms⟩, ⟨gpo, gsi⟩, ⟨hv1, hv2, hvv⟩⟩ := h
  exact ⟨⟨hD, hDv, hDh⟩, ⟨hRM, hch, hcs⟩, ⟨⟨n0, n1⟩, ⟨s0, s1⟩, hhs⟩, ⟨rfl, ⟨Int.le_refl _, by decide⟩, fun j j0 j1 => by omega, hNN, by omega, hf9⟩, ⟨T, hSB, hLT, hn38⟩, hq, ⟨rfl, hfa, hss, gp, gfa, gss, gms⟩, ⟨gp, gs⟩, ⟨hv1, hv2, hvv⟩⟩
section LAWOPS
variable {p : Program} {l : Launch} {e : Env} {s : State} {m : MethodId} {args : Array Value} {below : List Frame} {meth : Method} {cd : Code} {Q : State → Prop} {H : Heap} {lo : List Loc} {kq nq : Nat} {E : Nat → Nat → Nat} {b Lx x : Nat} {xs : Nat → Int32} {i : Int}
set_option maxHeartbeats 4000000 in
set_option maxRecDepth 20000 in
theorem lo_run (hl : l.stackTraces = false) (X : CF p m cd code 9 s args RL) (hX : va_X b Lx xs s s.heap) (hbl : b < s.heap.size) (hLx : Lx ≤ 2560) (hM : MS E [] s H lo) (hk : kq + 60 ≤ 603072) (hn : nq + 4000 ≤ 7211113) (hx : s.heap.size ≤ x) (hzl : x + 341 ≤ H.size) {v : Nat} {N : Nat} {f : Int → Int} {nn : Int} {v2 : Nat} {N2 : Nat} {f2 : Int → Int} {n2 : Int} {co : Nat → Int → Int} {bf : Nat → Int → Int} {cv : Nat → Int → Int} {hc : Nat → Nat → Int → Int} {nx : Int} {sz : Int} {hs : Int} {er : Int} {fa : Int} {ss : Int} {dk : Nat → Int → Int} {se : Nat → Int → Int} {po : Int} {si : Int} {pr : Nat → Int → Int} {ml : Int} {ml2 : Int} {mo : Nat → Int → Int} {lg : Nat → Int64} {dg : Nat → UInt64} {p2 s2 : Int} {pq : Nat → Int → Int} (hW : LawW E x v N f nn v2 N2 f2 n2 co bf cv hc nx sz hs er fa ss dk se po si pr ml ml2 mo lg dg H) (hP : LawP x v N f nn v2 N2 f2 n2 co cv hc nx sz hs er fa ss po si pr mo) (i0 : 0 ≤ i) (i1 : i + 5 ≤ (Lx : Int)) (hpa : paF f nn 61 0 0 pr = (1, p2, s2, pq)) (hx : (exF pq s2.toNat 0 co).1 = 0) (kk : ∀ (H1 : Heap) (lo1 : List Loc), MS E [] s H1 lo1 → LawI E x H1 → V p l e room_1 s m args below meth cd Q 9 H1 lo1 (kq + 60) (nq + 4000) 3555 [(5, .int (zI i)), (4, .ref (x + 340)), (3, .ref (x + 339)), (2, .ref (x + 334)), (1, .ref x), (0, .ref b)] []) : V p l e room_1 s m args below meth cd Q 9 H lo kq nq 3258 [(5, .int (zI i)), (4, .ref (x + 340)), (3, .ref (x + 339)), (2, .ref (x + 334)), (1, .ref x), (0, .ref b)] [] := by
  obtain ⟨h_cm, h_co, h_bf, h_sv, h_hi, h_hf, h_dk, h_se, h_pg, h_sb, h_sa, h_pr, h_ln, h_la, h_mo, h_out, h_outD⟩ := hW
  have hP0 := hP
  obtain ⟨⟨hD, hDv, hDh⟩, ⟨hRM, hch, hcs⟩, ⟨⟨n0, n1⟩, ⟨s0, s1⟩, hhs⟩, ⟨hm8, hnn, hAg, hNN, hnN, hf9⟩, ⟨T, hSB, hLT, hn38⟩, hPB, ⟨her, hfa, hss, ger, gfa, gss, gms⟩, ⟨gpo, gsi⟩, ⟨hv1, hv2, hvv⟩⟩ := hP
  have hO := hD.inv.ok
  have hI := hD.inv.ts
  have hSt := hD.inv.st
  have hS := hD.inv.sn
  have hR := hRM.1.2
  have hG := gp_inv hD
  have hb0 := hO.b0
  have hbw := hO.bw
  have hbf : ¬ Fr [] s.heap.size b := fun z => z.elim (fun q => q.elim) (fun q => by omega)
  have pb := paF_b (f := f) (n := nn) hnn.2 61 0 0 pr hPB (by decide) hnn.1 (by decide) (by decide)
  rw [hpa] at pb
  have hpb : PrB pq := pb.1
  have gp2 : 0 ≤ p2 ∧ p2 ≤ 100 := pb.2.1
  have gs2 : 0 ≤ s2 ∧ s2 ≤ 8 := pb.2.2.1
  clear pb
  have hcr9 : ∀ j : Int, 0 ≤ j → j < mo 0 8 → 0 ≤ mo 3 j ∧ mo 3 j < 128 := fun j j0 j1 => by rw [hAg j j0 (by omega)]; exact hf9 j
  refine v_aload_n X dL_law_3258 3259 rfl 4 rfl ?_
  refine v_aload_n X dL_law_3259 3260 rfl 2 rfl ?_
  refine v_mwS X hM (w_X9_run l hl E x co hs er fa ss bf hc nx sz po si pr v N f ml nn p2 s2 pq InvD (x + 339) lg hO PkO PkS hD hpb.2.1 hpb.1 n0 n1 s0 s1 (by omega) (by omega) (by omega) (by omega) (by omega) (by omega) hf9 (by omega) (by omega) (by omega) hpa hx (by omega) (by omega) (by omega) (by omega) (by omega) (by omega) (by omega) (by omega) (by omega) (by omega) (by omega) (by omega) (by omega) (by omega) (by omega) (by omega) (by omega) (by omega) (by omega) (by omega) (by omega) (by omega) (by omega) (by omega) (by omega) (by omega) (by omega) (by omega) (by omega) (by omega) (by omega) (by omega) (by omega) (by omega) (by omega) (by omega) (by omega) (by omega) (by omega) (by omega) (by omega) (by omega) (by omega) (by omega)) kwL_run ksL_run kl_L_377 (As := [.ref x, .ref (x + 339)]) rfl rfl (rm_lawW rfl (by omega) (by omega)) dL_law_3260 3263 rfl (k' := kq + 0) (n' := nq + 0) rfl rfl (by intro q hq; simp only [Fr, Fs, or_false, false_or] at hq ⊢; omega) ⟨h_cm, h_co, h_bf, h_hi, h_hf, h_pg, h_sb, h_sa, h_pr, h_out⟩ (fun rv H1 lo1 hM hF hpo => ?_)
  obtain ⟨rfl, hw_0, hw_1, hw_2, hw_3, hw_4, hw_5, hw_6, hw_7⟩ := hpo
  have h_co : PR E (x + 1) (courtW E (x + 1) ((exF pq s2.toNat 0 co).2.2)) H1 := hw_0
  have h_bf : PR E (x + 29) (courtW E (x + 29) co) H1 := hw_1
  have h_hi : PR E (x + 85) [(x + 85, .inr (7, [.ref (x + 86), .int (zI (if nx < 7 then nx + 1 else 0)), .int (zI (min (sz + 1) 8))])), (x + 86, .inl (E 102 3, 8, .inr (.inr (.inr (.inr (hisA (x + 87) 8))))))] H1 := hw_2
  have h_hf : HF E (x + 87) 8 (fun j => if j = nx.toNat then co else hc j) H1 := hw_3
  have h_pg : PR E (x + 319) [(x + 319, .inr (8, [.ref (x + 320), .int (zI p2), .int (zI s2), .ref (x + 322), .ref (x + 324), .ref (x + 326), .ref (x + 328), .ref (x + 330)]))] H1 := hw_4
  have h_sb : PR E (x + 320) [(x + 320, .inr (1, [.ref v, .int (zI 0), .int (zI (if 0 < nn then 1 else ml)), .int (zI 0)]))] H1 := hw_5
  have h_pr : PR E (x + 322) (prowsW E (x + 322) pq) H1 := hw_6
  have h_out : PR E (x + 339) [(x + 339, .inl (E 102 4, 1, .inr (.inl (fun _ => zL s2))))] H1 := hw_7
  replace hzl := Nat.le_trans hzl hF.1
  replace h_cm := h_cm.kept hF 1 rfl (by intro q q1 q2 q3; simp only [Fs, or_false] at q3; omega)
  replace h_sv := h_sv.kept hF 28 rfl (by intro q q1 q2 q3; simp only [Fs, or_false] at q3; omega)
  replace h_dk := h_dk.kept hF 3 rfl (by intro q q1 q2 q3; simp only [Fs, or_false] at q3; omega)
  replace h_se := h_se.kept hF 5 rfl (by intro q q1 q2 q3; simp only [Fs, or_false] at q3; omega)
  replace h_sa := h_sa.kept hF 1 rfl (by intro q q1 q2 q3; simp only [Fs, or_false] at q3; omega)
  replace h_ln := h_ln.kept hF 1 rfl (by intro q q1 q2 q3; simp only [Fs, or_false] at q3; omega)
  replace h_la := h_la.kept hF 1 rfl (by intro q q1 q2 q3; simp only [Fs, or_false] at q3; omega)
  replace h_mo := h_mo.kept hF 5 rfl (by intro q q1 q2 q3; simp only [Fs, or_false] at q3; omega)
  replace h_outD := h_outD.kept hF 1 rfl (by intro q q1 q2 q3; simp only [Fs, or_false] at q3; omega)
  show V p l e room_1 s m args below meth cd Q 9 H1 lo1 kq nq 3263 [(5, .int (zI i)), (4, .ref (x + 340)), (3, .ref (x + 339)), (2, .ref (x + 334)), (1, .ref x), (0, .ref b)] [.int (zI 0)]
  refine v_istore X dL_law_3263 3265 rfl (by decide) (L' := [(6, .int (zI 0)), (5, .int (zI i)), (4, .ref (x + 340)), (3, .ref (x + 339)), (2, .ref (x + 334)), (1, .ref x), (0, .ref b)]) rfl ?_
  refine v_aload_n X dL_law_3265 3266 rfl 4 rfl ?_
  refine v_muV X hM (h_mo.1) (c_X10_run l E (x + 334) mo co cv hc nx sz hs f pr p2 s2 pq InvD hO hRM hch n0 n1 s0 s1 hcr9 (by omega) (by rw [hm8]; exact hAg) PkO2 PkS hD hpb.2.1 hpb.1 hpb.2.2 (by omega) (by omega) (by rw [hm8]; exact hpa) hx) kvX10_run kiX10_run kl_L_379 (q0 := 0) rfl rfl (As := []) rfl rfl (rm_law rfl (by omega) (by omega)) dL_law_3266 3269 rfl (k' := kq + 0) (n' := nq + 0) rfl rfl (fsI (fun q q1 q2 => (Or.inr (by omega)))) h_mo (fun rv H2 lo2 hM hF hpo => ?_)
  obtain ⟨g2_3, q4_4, h9_5, e9_6, m9_7, c4_8, rfl, hp_f_9, hw_0⟩ := hpo
  have h_mo : PR E (x + 334) (modelW E (x + 334) (updC (updC (updC mo 0 (updZ (updZ (updZ (updZ (updZ (updZ (updZ (mo 0) 0 0) 2 (min (sz + 1) 8)) 4 q4_4) 8 0) 9 h9_5) 10 e9_6) 15 m9_7)) 1 g2_3) 4 c4_8)) H2 := hw_0
  replace hzl := Nat.le_trans hzl hF.1
  replace h_cm := h_cm.kept hF 1 rfl (fsd (by omega))
  replace h_co := h_co.kept hF 28 rfl (fsd (by omega))
  replace h_bf := h_bf.kept hF 28 rfl (fsd (by omega))
  replace h_sv := h_sv.kept hF 28 rfl (fsd (by omega))
  replace h_hi := h_hi.kept hF 2 rfl (fsd (by omega))
  replace h_hf := h_hf.kept hF (fsd (by omega))
  replace h_dk := h_dk.kept hF 3 rfl (fsd (by omega))
  replace h_se := h_se.kept hF 5 rfl (fsd (by omega))
  replace h_pg := h_pg.kept hF 1 rfl (fsd (by omega))
  replace h_sb := h_sb.kept hF 1 rfl (fsd (by omega))
  replace h_sa := h_sa.kept hF 1 rfl (fsd (by omega))
  replace h_pr := h_pr.kept hF 10 rfl (fsd (by omega))
  replace h_ln := h_ln.kept hF 1 rfl (fsd (by omega))
  replace h_la := h_la.kept hF 1 rfl (fsd (by omega))
  replace h_out := h_out.kept hF 1 rfl (fsd (by omega))
  replace h_outD := h_outD.kept hF 1 rfl (fsd (by omega))
  show V p l e room_1 s m args below meth cd Q 9 H2 lo2 kq nq 3269 [(6, .int (zI 0)), (5, .int (zI i)), (4, .ref (x + 340)), (3, .ref (x + 339)), (2, .ref (x + 334)), (1, .ref x), (0, .ref b)] [.int (zI s2)]
  refine v_istore X dL_law_3269 3271 rfl (by decide) (L' := [(7, .int (zI s2)), (6, .int (zI 0)), (5, .int (zI i)), (4, .ref (x + 340)), (3, .ref (x + 339)), (2, .ref (x + 334)), (1, .ref x), (0, .ref b)]) rfl ?_
  refine v_aload_n X dL_law_3271 3272 rfl 5 rfl ?_
  refine v_rdV X hM.C h_mo.1 (c_X10_thrown l E (x + 334) (updC (updC (updC mo 0 (updZ (updZ (updZ (updZ (updZ (updZ (updZ (mo 0) 0 0) 2 (min (sz + 1) 8)) 4 q4_4) 8 0) 9 h9_5) 10 e9_6) 15 m9_7)) 1 g2_3) 4 c4_8)) kvX10_thrown kiX10_thrown kl_L_196 rfl rfl (As := []) rfl rfl (rm_law0 rfl (by omega) (by omega)) dL_law_3272 3275 rfl ?_
  show V p l e room_1 s m args below meth cd Q 9 H2 lo2 kq nq 3275 [(7, .int (zI s2)), (6, .int (zI 0)), (5, .int (zI i)), (4, .ref (x + 340)), (3, .ref (x + 339)), (2, .ref (x + 334)), (1, .ref x), (0, .ref b)] [.int (zI 0)]
  refine v_iload X dL_law_3275 3277 rfl 1 rfl ?_
  refine v_icmp_eq X (by omega) (by omega) dL_law_3277 3280 3282 rfl (by decide) (fun c_10 => ?_) (fun c_10 => ?_)
  · skip
    refine v_iload X dL_law_3282 3284 rfl 1 rfl ?_
    refine v_if_ne X (by omega) dL_law_3284 3287 3299 rfl (by decide) (fun c_11 => ?_) (fun c_11 => ?_)
    · skip
      exfalso; omega
    · skip
      refine v_aload_n X dL_law_3287 3288 rfl 4 rfl ?_
      refine v_iconst X dL_law_3288 3289 rfl ?_
      refine v_lald X hM.C h_out.1 0 rfl dL_law_3289 3290 rfl ?_
      show V p l e room_1 s m args below meth cd Q 9 H2 lo2 kq nq 3290 [(7, .int (zI s2)), (6, .int (zI 0)), (5, .int (zI i)), (4, .ref (x + 340)), (3, .ref (x + 339)), (2, .ref (x + 334)), (1, .ref x), (0, .ref b)] [.long (zL s2)]
      refine v_iload X dL_law_3290 3292 rfl 0 rfl ?_
      refine v_i2l X dL_law_3292 3293 rfl ?_
      refine v_lcmp0 X dL_law_3293 3294 rfl ?_
      refine v_if_eq X (by omega) dL_law_3294 3297 3299 rfl (by decide) (fun c_12 => ?_) (fun c_12 => ?_)
      · skip
        refine v_goto X dL_law_3299 3555 (by decide) ?_
        refine v_widen (k' := kq + 60) (n' := nq + 4000) (by omega) (by omega) ?_
        exact V_pick [2, 3, 4, 5, 6, 7] rfl (kk _ _ hM ⟨hzl, _, _, _, _, _, _, _, _, _, _, _, _, _, _, _, _, _, _, _, _, _, _, _, _, _, _, _, _, ⟨h_cm, h_co, h_bf, h_sv, h_hi, h_hf, h_dk, h_se, h_pg, h_sb, h_sa, h_pr, h_ln, h_la, h_mo, h_out, h_outD⟩, (hP0.run_ok (ex_inv hpb s2.toNat 0 co hD) hp_f_9 hpb (by omega) (by omega))⟩)
      · skip
        exfalso; omega
  · skip
    exfalso; omega
set_option maxHeartbeats 4000000 in
set_option maxRecDepth 20000 in
theorem lo_run_1 (hl : l.stackTraces = false) (X : CF p m cd code 9 s args RL) (hX : va_X b Lx xs s s.heap) (hbl : b < s.heap.size) (hLx : Lx ≤ 2560) (hM : MS E [] s H lo) (hk : kq + 60 ≤ 603072) (hn : nq + 4000 ≤ 7211113) (hx : s.heap.size ≤ x) (hzl : x + 341 ≤ H.size) {v : Nat} {N : Nat} {f : Int → Int} {nn : Int} {v2 : Nat} {N2 : Nat} {f2 : Int → Int} {n2 : Int} {co : Nat → Int → Int} {bf : Nat → Int → Int} {cv : Nat → Int → Int} {hc : Nat → Nat → Int → Int} {nx : Int} {sz : Int} {hs : Int} {er : Int} {fa : Int} {ss : Int} {dk : Nat → Int → Int} {se : Nat → Int → Int} {po : Int} {si : Int} {pr : Nat → Int → Int} {ml : Int} {ml2 : Int} {mo : Nat → Int → Int} {lg : Nat → Int64} {dg : Nat → UInt64} {p2 s2 : Int} {pq : Nat → Int → Int} (hW : LawW E x v N f nn v2 N2 f2 n2 co bf cv hc nx sz hs er fa ss dk se po si pr ml ml2 mo lg dg H) (hP : LawP x v N f nn v2 N2 f2 n2 co cv hc nx sz hs er fa ss po si pr mo) (i0 : 0 ≤ i) (i1 : i + 5 ≤ (Lx : Int)) (hpa : paF f nn 61 0 0 pr = (0, p2, s2, pq)) (kk : ∀ (H1 : Heap) (lo1 : List Loc), MS E [] s H1 lo1 → LawI E x H1 → V p l e room_1 s m args below meth cd Q 9 H1 lo1 (kq + 60) (nq + 4000) 3555 [(5, .int (zI i)), (4, .ref (x + 340)), (3, .ref (x + 339)), (2, .ref (x + 334)), (1, .ref x), (0, .ref b)] []) : V p l e room_1 s m args below meth cd Q 9 H lo kq nq 3258 [(5, .int (zI i)), (4, .ref (x + 340)), (3, .ref (x + 339)), (2, .ref (x + 334)), (1, .ref x), (0, .ref b)] [] := by
  obtain ⟨h_cm, h_co, h_bf, h_sv, h_hi, h_hf, h_dk, h_se, h_pg, h_sb, h_sa, h_pr, h_ln, h_la, h_mo, h_out, h_outD⟩ := hW
  have hP0 := hP
  obtain ⟨⟨hD, hDv, hDh⟩, ⟨hRM, hch, hcs⟩, ⟨⟨n0, n1⟩, ⟨s0, s1⟩, hhs⟩, ⟨hm8, hnn, hAg, hNN, hnN, hf9⟩, ⟨T, hSB, hLT, hn38⟩, hPB, ⟨her, hfa, hss, ger, gfa, gss, gms⟩, ⟨gpo, gsi⟩, ⟨hv1, hv2, hvv⟩⟩ := hP
  have hO := hD.inv.ok
  have hI := hD.inv.ts
  have hSt := hD.inv.st
  have hS := hD.inv.sn
  have hR := hRM.1.2
  have hG := gp_inv hD
  have hb0 := hO.b0
  have hbw := hO.bw
  have hbf : ¬ Fr [] s.heap.size b := fun z => z.elim (fun q => q.elim) (fun q => by omega)
  have pb := paF_b (f := f) (n := nn) hnn.2 61 0 0 pr hPB (by decide) hnn.1 (by decide) (by decide)
  rw [hpa] at pb
  have hpb : PrB pq := pb.1
  have gp2 : 0 ≤ p2 ∧ p2 ≤ 100 := pb.2.1
  have gs2 : 0 ≤ s2 ∧ s2 ≤ 8 := pb.2.2.1
  clear pb
  have hcr9 : ∀ j : Int, 0 ≤ j → j < mo 0 8 → 0 ≤ mo 3 j ∧ mo 3 j < 128 := fun j j0 j1 => by rw [hAg j j0 (by omega)]; exact hf9 j
  refine v_aload_n X dL_law_3258 3259 rfl 4 rfl ?_
  refine v_aload_n X dL_law_3259 3260 rfl 2 rfl ?_
  refine v_mwS X hM (w_X9_run_0_t l hl E x co hs er fa ss bf hc nx sz po si pr v N f ml nn p2 s2 pq InvD (x + 339) lg hO PkO PkS hD hpb.2.1 hpb.1 n0 n1 s0 s1 (by omega) (by omega) (by omega) (by omega) (by omega) (by omega) hf9 (by omega) (by omega) (by omega) hpa (by omega) (by omega) (by omega) (by omega) (by omega) (by omega) (by omega) (by omega) (by omega) (by omega) (by omega) (by omega) (by omega) (by omega) (by omega) (by omega) (by omega) (by omega) (by omega) (by omega) (by omega) (by omega) (by omega) (by omega) (by omega) (by omega) (by omega) (by omega) (by omega) (by omega)) kwL_run ksL_run kl_L_377 (As := [.ref x, .ref (x + 339)]) rfl rfl (rm_lawW rfl (by omega) (by omega)) dL_law_3260 3263 rfl (k' := kq + 1) (n' := nq + 6) rfl rfl (by intro q hq; simp only [Fr, Fs, or_false, false_or] at hq ⊢; omega) ⟨h_cm, h_co, h_bf, h_hi, h_hf, h_pg, h_sb, h_sa, h_pr, h_out⟩ (fun rv H1 lo1 hM hF hpo => ?_)
  obtain ⟨rfl, hw_0, hw_1, hw_2, hw_3⟩ := hpo
  have h_cm : PR E x [(x, .inr (11, [.ref (x + 1), .ref (x + 29), .ref (x + 57), .ref (x + 85), .ref (x + 311), .ref (x + 314), .ref (x + 319), .ref (x + 332), .int (zI hs), .int (zI p2), .int (zI fa), .int (zI ss)]))] H1 := hw_0
  have h_pg : PR E (x + 319) [(x + 319, .inr (8, [.ref (x + 320), .int (zI p2), .int (zI s2), .ref (x + 322), .ref (x + 324), .ref (x + 326), .ref (x + 328), .ref (x + 330)]))] H1 := hw_1
  have h_sb : PR E (x + 320) [(x + 320, .inr (1, [.ref v, .int (zI 0), .int (zI (if 0 < nn then 1 else ml)), .int (zI 0)]))] H1 := hw_2
  have h_pr : PR E (x + 322) (prowsW E (x + 322) pq) H1 := hw_3
  replace hzl := Nat.le_trans hzl hF.1
  replace h_co := h_co.kept hF 28 rfl (by intro q q1 q2 q3; simp only [Fs, or_false] at q3; omega)
  replace h_bf := h_bf.kept hF 28 rfl (by intro q q1 q2 q3; simp only [Fs, or_false] at q3; omega)
  replace h_sv := h_sv.kept hF 28 rfl (by intro q q1 q2 q3; simp only [Fs, or_false] at q3; omega)
  replace h_hi := h_hi.kept hF 2 rfl (by intro q q1 q2 q3; simp only [Fs, or_false] at q3; omega)
  replace h_hf := h_hf.kept hF (by intro q q1 q2 q3; simp only [Fs, or_false] at q3; omega)
  replace h_dk := h_dk.kept hF 3 rfl (by intro q q1 q2 q3; simp only [Fs, or_false] at q3; omega)
  replace h_se := h_se.kept hF 5 rfl (by intro q q1 q2 q3; simp only [Fs, or_false] at q3; omega)
  replace h_sa := h_sa.kept hF 1 rfl (by intro q q1 q2 q3; simp only [Fs, or_false] at q3; omega)
  replace h_ln := h_ln.kept hF 1 rfl (by intro q q1 q2 q3; simp only [Fs, or_false] at q3; omega)
  replace h_la := h_la.kept hF 1 rfl (by intro q q1 q2 q3; simp only [Fs, or_false] at q3; omega)
  replace h_mo := h_mo.kept hF 5 rfl (by intro q q1 q2 q3; simp only [Fs, or_false] at q3; omega)
  replace h_out := h_out.kept hF 1 rfl (by intro q q1 q2 q3; simp only [Fs, or_false] at q3; omega)
  replace h_outD := h_outD.kept hF 1 rfl (by intro q q1 q2 q3; simp only [Fs, or_false] at q3; omega)
  show V p l e room_1 s m args below meth cd Q 9 H1 lo1 (kq + 1) (nq + 6) 3263 [(5, .int (zI i)), (4, .ref (x + 340)), (3, .ref (x + 339)), (2, .ref (x + 334)), (1, .ref x), (0, .ref b)] [.int (zI 1)]
  refine v_istore X dL_law_3263 3265 rfl (by decide) (L' := [(6, .int (zI 1)), (5, .int (zI i)), (4, .ref (x + 340)), (3, .ref (x + 339)), (2, .ref (x + 334)), (1, .ref x), (0, .ref b)]) rfl ?_
  refine v_aload_n X dL_law_3265 3266 rfl 4 rfl ?_
  refine v_muV X hM (h_mo.1) (c_X10_run_0 l E (x + 334) mo f pr p2 s2 pq hcr9 (by omega) (by rw [hm8]; exact hAg) (by rw [hm8]; exact hpa) (by omega)) kvX10_run kiX10_run kl_L_379 (q0 := 0) rfl rfl (As := []) rfl rfl (rm_law rfl (by omega) (by omega)) dL_law_3266 3269 rfl (k' := kq + 1) (n' := nq + 6) rfl rfl (fsI (fun q q1 q2 => (Or.inr (by omega)))) h_mo (fun rv H2 lo2 hM hF hpo => ?_)
  obtain ⟨h9_3, m9_4, c4_5, rfl, hw_0⟩ := hpo
  have h_mo : PR E (x + 334) (modelW E (x + 334) (updC (updC mo 0 (updZ (updZ (updZ (updZ (updZ (updZ (mo 0) 0 1) 8 0) 9 h9_3) 10 p2) 11 p2) 15 m9_4)) 4 c4_5)) H2 := hw_0
  replace hzl := Nat.le_trans hzl hF.1
  replace h_cm := h_cm.kept hF 1 rfl (fsd (by omega))
  replace h_co := h_co.kept hF 28 rfl (fsd (by omega))
  replace h_bf := h_bf.kept hF 28 rfl (fsd (by omega))
  replace h_sv := h_sv.kept hF 28 rfl (fsd (by omega))
  replace h_hi := h_hi.kept hF 2 rfl (fsd (by omega))
  replace h_hf := h_hf.kept hF (fsd (by omega))
  replace h_dk := h_dk.kept hF 3 rfl (fsd (by omega))
  replace h_se := h_se.kept hF 5 rfl (fsd (by omega))
  replace h_pg := h_pg.kept hF 1 rfl (fsd (by omega))
  replace h_sb := h_sb.kept hF 1 rfl (fsd (by omega))
  replace h_sa := h_sa.kept hF 1 rfl (fsd (by omega))
  replace h_pr := h_pr.kept hF 10 rfl (fsd (by omega))
  replace h_ln := h_ln.kept hF 1 rfl (fsd (by omega))
  replace h_la := h_la.kept hF 1 rfl (fsd (by omega))
  replace h_out := h_out.kept hF 1 rfl (fsd (by omega))
  replace h_outD := h_outD.kept hF 1 rfl (fsd (by omega))
  show V p l e room_1 s m args below meth cd Q 9 H2 lo2 (kq + 1) (nq + 6) 3269 [(6, .int (zI 1)), (5, .int (zI i)), (4, .ref (x + 340)), (3, .ref (x + 339)), (2, .ref (x + 334)), (1, .ref x), (0, .ref b)] [.int (zI 0)]
  refine v_istore X dL_law_3269 3271 rfl (by decide) (L' := [(7, .int (zI 0)), (6, .int (zI 1)), (5, .int (zI i)), (4, .ref (x + 340)), (3, .ref (x + 339)), (2, .ref (x + 334)), (1, .ref x), (0, .ref b)]) rfl ?_
  refine v_aload_n X dL_law_3271 3272 rfl 5 rfl ?_
  refine v_rdV X hM.C h_mo.1 (c_X10_thrown l E (x + 334) (updC (updC mo 0 (updZ (updZ (updZ (updZ (updZ (updZ (mo 0) 0 1) 8 0) 9 h9_3) 10 p2) 11 p2) 15 m9_4)) 4 c4_5)) kvX10_thrown kiX10_thrown kl_L_196 rfl rfl (As := []) rfl rfl (rm_law0 rfl (by omega) (by omega)) dL_law_3272 3275 rfl ?_
  show V p l e room_1 s m args below meth cd Q 9 H2 lo2 (kq + 1) (nq + 6) 3275 [(7, .int (zI 0)), (6, .int (zI 1)), (5, .int (zI i)), (4, .ref (x + 340)), (3, .ref (x + 339)), (2, .ref (x + 334)), (1, .ref x), (0, .ref b)] [.int (zI 1)]
  refine v_iload X dL_law_3275 3277 rfl 1 rfl ?_
  refine v_icmp_eq X (by omega) (by omega) dL_law_3277 3280 3282 rfl (by decide) (fun c_6 => ?_) (fun c_6 => ?_)
  · skip
    refine v_iload X dL_law_3282 3284 rfl 1 rfl ?_
    refine v_if_ne X (by omega) dL_law_3284 3287 3299 rfl (by decide) (fun c_7 => ?_) (fun c_7 => ?_)
    · skip
      refine v_goto X dL_law_3299 3555 (by decide) ?_
      refine v_widen (k' := kq + 60) (n' := nq + 4000) (by omega) (by omega) ?_
      exact V_pick [2, 3, 4, 5, 6, 7] rfl (kk _ _ hM ⟨hzl, _, _, _, _, _, _, _, _, _, _, _, _, _, _, _, _, _, _, _, _, _, _, _, _, _, _, _, _, ⟨h_cm, h_co, h_bf, h_sv, h_hi, h_hf, h_dk, h_se, h_pg, h_sb, h_sa, h_pr, h_ln, h_la, h_mo, h_out, h_outD⟩, (hP0.run_0 (g2 := fun _ => 0) (q4 := 0) (e9 := 0) hpb (by omega) (by omega))⟩)
    · skip
      exfalso; omega
  · skip
    exfalso; omega
set_option maxHeartbeats 4000000 in
set_option maxRecDepth 20000 in
theorem lo_run_2 (hl : l.stackTraces = false) (X : CF p m cd code 9 s args RL) (hX : va_X b Lx xs s s.heap) (hbl : b < s.heap.size) (hLx : Lx ≤ 2560) (hM : MS E [] s H lo) (hk : kq + 60 ≤ 603072) (hn : nq + 4000 ≤ 7211113) (hx : s.heap.size ≤ x) (hzl : x + 341 ≤ H.size) {v : Nat} {N : Nat} {f : Int → Int} {nn : Int} {v2 : Nat} {N2 : Nat} {f2 : Int → Int} {n2 : Int} {co : Nat → Int → Int} {bf : Nat → Int → Int} {cv : Nat → Int → Int} {hc : Nat → Nat → Int → Int} {nx : Int} {sz : Int} {hs : Int} {er : Int} {fa : Int} {ss : Int} {dk : Nat → Int → Int} {se : Nat → Int → Int} {po : Int} {si : Int} {pr : Nat → Int → Int} {ml : Int} {ml2 : Int} {mo : Nat → Int → Int} {lg : Nat → Int64} {dg : Nat → UInt64} {p2 s2 : Int} {pq : Nat → Int → Int} (hW : LawW E x v N f nn v2 N2 f2 n2 co bf cv hc nx sz hs er fa ss dk se po si pr ml ml2 mo lg dg H) (hP : LawP x v N f nn v2 N2 f2 n2 co cv hc nx sz hs er fa ss po si pr mo) (i0 : 0 ≤ i) (i1 : i + 5 ≤ (Lx : Int)) (hpa : paF f nn 61 0 0 pr = (1, p2, s2, pq)) (hx : ¬ (exF pq s2.toNat 0 co).1 = 0) (kk : ∀ (H1 : Heap) (lo1 : List Loc), MS E [] s H1 lo1 → LawI E x H1 → V p l e room_1 s m args below meth cd Q 9 H1 lo1 (kq + 60) (nq + 4000) 3555 [(5, .int (zI i)), (4, .ref (x + 340)), (3, .ref (x + 339)), (2, .ref (x + 334)), (1, .ref x), (0, .ref b)] []) : V p l e room_1 s m args below meth cd Q 9 H lo kq nq 3258 [(5, .int (zI i)), (4, .ref (x + 340)), (3, .ref (x + 339)), (2, .ref (x + 334)), (1, .ref x), (0, .ref b)] [] := by
  obtain ⟨h_cm, h_co, h_bf, h_sv, h_hi, h_hf, h_dk, h_se, h_pg, h_sb, h_sa, h_pr, h_ln, h_la, h_mo, h_out, h_outD⟩ := hW
  have hP0 := hP
  obtain ⟨⟨hD, hDv, hDh⟩, ⟨hRM, hch, hcs⟩, ⟨⟨n0, n1⟩, ⟨s0, s1⟩, hhs⟩, ⟨hm8, hnn, hAg, hNN, hnN, hf9⟩, ⟨T, hSB, hLT, hn38⟩, hPB, ⟨her, hfa, hss, ger, gfa, gss, gms⟩, ⟨gpo, gsi⟩, ⟨hv1, hv2, hvv⟩⟩ := hP
  have hO := hD.inv.ok
  have hI := hD.inv.ts
  have hSt := hD.inv.st
  have hS := hD.inv.sn
  have hR := hRM.1.2
  have hG := gp_inv hD
  have hb0 := hO.b0
  have hbw := hO.bw
  have hbf : ¬ Fr [] s.heap.size b := fun z => z.elim (fun q => q.elim) (fun q => by omega)
  have pb := paF_b (f := f) (n := nn) hnn.2 61 0 0 pr hPB (by decide) hnn.1 (by decide) (by decide)
  rw [hpa] at pb
  have hpb : PrB pq := pb.1
  have gp2 : 0 ≤ p2 ∧ p2 ≤ 100 := pb.2.1
  have gs2 : 0 ≤ s2 ∧ s2 ≤ 8 := pb.2.2.1
  clear pb
  have hcr9 : ∀ j : Int, 0 ≤ j → j < mo 0 8 → 0 ≤ mo 3 j ∧ mo 3 j < 128 := fun j j0 j1 => by rw [hAg j j0 (by omega)]; exact hf9 j
  have hxb := ex_b (pr := pq) s2.toNat 0 co
  refine v_aload_n X dL_law_3258 3259 rfl 4 rfl ?_
  refine v_aload_n X dL_law_3259 3260 rfl 2 rfl ?_
  refine v_mwS X hM (w_X9_run_1_t l hl E x co hs er fa ss bf hc nx sz po si pr v N f ml nn p2 s2 pq InvD (x + 339) lg hO PkO PkS hD hpb.2.1 hpb.1 n0 n1 s0 s1 (by omega) (by omega) (by omega) (by omega) (by omega) (by omega) hf9 (by omega) (by omega) (by omega) hpa hx (by omega) (by omega) (by omega) (by omega) (by omega) (by omega) (by omega) (by omega) (by omega) (by omega) (by omega) (by omega) (by omega) (by omega) (by omega) (by omega) (by omega) (by omega) (by omega) (by omega) (by omega) (by omega) (by omega) (by omega) (by omega) (by omega) (by omega) (by omega) (by omega) (by omega) (by omega) (by omega) (by omega) (by omega) (by omega) (by omega) (by omega) (by omega) (by omega)) kwL_run ksL_run kl_L_377 (As := [.ref x, .ref (x + 339)]) rfl rfl (rm_lawW rfl (by omega) (by omega)) dL_law_3260 3263 rfl (k' := kq + 1) (n' := nq + 6) rfl rfl (by intro q hq; simp only [Fr, Fs, or_false, false_or] at hq ⊢; omega) ⟨h_cm, h_co, h_bf, h_hi, h_hf, h_pg, h_sb, h_sa, h_pr, h_out⟩ (fun rv H1 lo1 hM hF hpo => ?_)
  obtain ⟨rfl, hw_0, hw_1, hw_2, hw_3, hw_4, hw_5⟩ := hpo
  have h_cm : PR E x [(x, .inr (11, [.ref (x + 1), .ref (x + 29), .ref (x + 57), .ref (x + 85), .ref (x + 311), .ref (x + 314), .ref (x + 319), .ref (x + 332), .int (zI hs), .int (zI er), .int (zI ((exF pq s2.toNat 0 co).2.1)), .int (zI (bz ((exF pq s2.toNat 0 co).1 = 4)))]))] H1 := hw_0
  have h_co : PR E (x + 1) (courtW E (x + 1) co) H1 := hw_1
  have h_bf : PR E (x + 29) (courtW E (x + 29) co) H1 := hw_2
  have h_pg : PR E (x + 319) [(x + 319, .inr (8, [.ref (x + 320), .int (zI p2), .int (zI s2), .ref (x + 322), .ref (x + 324), .ref (x + 326), .ref (x + 328), .ref (x + 330)]))] H1 := hw_3
  have h_sb : PR E (x + 320) [(x + 320, .inr (1, [.ref v, .int (zI 0), .int (zI (if 0 < nn then 1 else ml)), .int (zI 0)]))] H1 := hw_4
  have h_pr : PR E (x + 322) (prowsW E (x + 322) pq) H1 := hw_5
  replace hzl := Nat.le_trans hzl hF.1
  replace h_sv := h_sv.kept hF 28 rfl (by intro q q1 q2 q3; simp only [Fs, or_false] at q3; omega)
  replace h_hi := h_hi.kept hF 2 rfl (by intro q q1 q2 q3; simp only [Fs, or_false] at q3; omega)
  replace h_hf := h_hf.kept hF (by intro q q1 q2 q3; simp only [Fs, or_false] at q3; omega)
  replace h_dk := h_dk.kept hF 3 rfl (by intro q q1 q2 q3; simp only [Fs, or_false] at q3; omega)
  replace h_se := h_se.kept hF 5 rfl (by intro q q1 q2 q3; simp only [Fs, or_false] at q3; omega)
  replace h_sa := h_sa.kept hF 1 rfl (by intro q q1 q2 q3; simp only [Fs, or_false] at q3; omega)
  replace h_ln := h_ln.kept hF 1 rfl (by intro q q1 q2 q3; simp only [Fs, or_false] at q3; omega)
  replace h_la := h_la.kept hF 1 rfl (by intro q q1 q2 q3; simp only [Fs, or_false] at q3; omega)
  replace h_mo := h_mo.kept hF 5 rfl (by intro q q1 q2 q3; simp only [Fs, or_false] at q3; omega)
  replace h_out := h_out.kept hF 1 rfl (by intro q q1 q2 q3; simp only [Fs, or_false] at q3; omega)
  replace h_outD := h_outD.kept hF 1 rfl (by intro q q1 q2 q3; simp only [Fs, or_false] at q3; omega)
  show V p l e room_1 s m args below meth cd Q 9 H1 lo1 (kq + 1) (nq + 6) 3263 [(5, .int (zI i)), (4, .ref (x + 340)), (3, .ref (x + 339)), (2, .ref (x + 334)), (1, .ref x), (0, .ref b)] [.int (zI 2)]
  refine v_istore X dL_law_3263 3265 rfl (by decide) (L' := [(6, .int (zI 2)), (5, .int (zI i)), (4, .ref (x + 340)), (3, .ref (x + 339)), (2, .ref (x + 334)), (1, .ref x), (0, .ref b)]) rfl ?_
  refine v_aload_n X dL_law_3265 3266 rfl 4 rfl ?_
  refine v_muV X hM (h_mo.1) (c_X10_run_1 l E (x + 334) mo co cv hc nx sz hs f pr p2 s2 pq InvD hO hRM hch n0 n1 s0 s1 hcr9 (by omega) (by rw [hm8]; exact hAg) PkO2 PkS hD hpb.2.1 hpb.1 hpb.2.2 (by omega) (by omega) (by rw [hm8]; exact hpa) hx) kvX10_run kiX10_run kl_L_379 (q0 := 0) rfl rfl (As := []) rfl rfl (rm_law rfl (by omega) (by omega)) dL_law_3266 3269 rfl (k' := kq + 1) (n' := nq + 6) rfl rfl (fsI (fun q q1 q2 => (Or.inr (by omega)))) h_mo (fun rv H2 lo2 hM hF hpo => ?_)
  obtain ⟨g2_3, q4_4, h9_5, e9_6, m9_7, c4_8, rfl, hp_f_9, hw_0⟩ := hpo
  have h_mo : PR E (x + 334) (modelW E (x + 334) (updC (updC (updC mo 0 (updZ (updZ (updZ (updZ (updZ (updZ (updZ (updZ (mo 0) 0 2) 4 q4_4) 8 0) 9 h9_5) 10 e9_6) 12 ((exF pq s2.toNat 0 co).2.1)) 13 (bz ((exF pq s2.toNat 0 co).1 = 4))) 15 m9_7)) 1 g2_3) 4 c4_8)) H2 := hw_0
  replace hzl := Nat.le_trans hzl hF.1
  replace h_cm := h_cm.kept hF 1 rfl (fsd (by omega))
  replace h_co := h_co.kept hF 28 rfl (fsd (by omega))
  replace h_bf := h_bf.kept hF 28 rfl (fsd (by omega))
  replace h_sv := h_sv.kept hF 28 rfl (fsd (by omega))
  replace h_hi := h_hi.kept hF 2 rfl (fsd (by omega))
  replace h_hf := h_hf.kept hF (fsd (by omega))
  replace h_dk := h_dk.kept hF 3 rfl (fsd (by omega))
  replace h_se := h_se.kept hF 5 rfl (fsd (by omega))
  replace h_pg := h_pg.kept hF 1 rfl (fsd (by omega))
  replace h_sb := h_sb.kept hF 1 rfl (fsd (by omega))
  replace h_sa := h_sa.kept hF 1 rfl (fsd (by omega))
  replace h_pr := h_pr.kept hF 10 rfl (fsd (by omega))
  replace h_ln := h_ln.kept hF 1 rfl (fsd (by omega))
  replace h_la := h_la.kept hF 1 rfl (fsd (by omega))
  replace h_out := h_out.kept hF 1 rfl (fsd (by omega))
  replace h_outD := h_outD.kept hF 1 rfl (fsd (by omega))
  show V p l e room_1 s m args below meth cd Q 9 H2 lo2 (kq + 1) (nq + 6) 3269 [(6, .int (zI 2)), (5, .int (zI i)), (4, .ref (x + 340)), (3, .ref (x + 339)), (2, .ref (x + 334)), (1, .ref x), (0, .ref b)] [.int (zI 0)]
  refine v_istore X dL_law_3269 3271 rfl (by decide) (L' := [(7, .int (zI 0)), (6, .int (zI 2)), (5, .int (zI i)), (4, .ref (x + 340)), (3, .ref (x + 339)), (2, .ref (x + 334)), (1, .ref x), (0, .ref b)]) rfl ?_
  refine v_aload_n X dL_law_3271 3272 rfl 5 rfl ?_
  refine v_rdV X hM.C h_mo.1 (c_X10_thrown l E (x + 334) (updC (updC (updC mo 0 (updZ (updZ (updZ (updZ (updZ (updZ (updZ (updZ (mo 0) 0 2) 4 q4_4) 8 0) 9 h9_5) 10 e9_6) 12 ((exF pq s2.toNat 0 co).2.1)) 13 (bz ((exF pq s2.toNat 0 co).1 = 4))) 15 m9_7)) 1 g2_3) 4 c4_8)) kvX10_thrown kiX10_thrown kl_L_196 rfl rfl (As := []) rfl rfl (rm_law0 rfl (by omega) (by omega)) dL_law_3272 3275 rfl ?_
  show V p l e room_1 s m args below meth cd Q 9 H2 lo2 (kq + 1) (nq + 6) 3275 [(7, .int (zI 0)), (6, .int (zI 2)), (5, .int (zI i)), (4, .ref (x + 340)), (3, .ref (x + 339)), (2, .ref (x + 334)), (1, .ref x), (0, .ref b)] [.int (zI 2)]
  refine v_iload X dL_law_3275 3277 rfl 1 rfl ?_
  refine v_icmp_eq X (by omega) (by omega) dL_law_3277 3280 3282 rfl (by decide) (fun c_10 => ?_) (fun c_10 => ?_)
  · skip
    refine v_iload X dL_law_3282 3284 rfl 1 rfl ?_
    refine v_if_ne X (by omega) dL_law_3284 3287 3299 rfl (by decide) (fun c_11 => ?_) (fun c_11 => ?_)
    · skip
      refine v_goto X dL_law_3299 3555 (by decide) ?_
      refine v_widen (k' := kq + 60) (n' := nq + 4000) (by omega) (by omega) ?_
      exact V_pick [2, 3, 4, 5, 6, 7] rfl (kk _ _ hM ⟨hzl, _, _, _, _, _, _, _, _, _, _, _, _, _, _, _, _, _, _, _, _, _, _, _, _, _, _, _, _, ⟨h_cm, h_co, h_bf, h_sv, h_hi, h_hf, h_dk, h_se, h_pg, h_sb, h_sa, h_pr, h_ln, h_la, h_mo, h_out, h_outD⟩, (hP0.run_1 hp_f_9 hpb (by omega) (by omega) (by omega) bz_01)⟩)
    · skip
      exfalso; omega
  · skip
    exfalso; omega
end LAWOPS
