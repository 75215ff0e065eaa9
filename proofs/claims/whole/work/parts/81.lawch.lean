theorem hist_push {co : Nat → Int → Int} {hc : Nat → Nat → Int → Int} {nx sz : Int} (hD : InvD co) (hDh : ∀ j, 1 ≤ j → j ≤ sz → InvD (hc (ri nx sz j))) (n0 : 0 ≤ nx) (n1 : nx < 8) (s0 : 0 ≤ sz) (s1 : sz ≤ 8) : ∀ j, 1 ≤ j → j ≤ (min (sz + 1) 8) → InvD ((fun j => if j = nx.toNat then co else hc j) (ri (if nx < 7 then nx + 1 else 0) (min (sz + 1) 8) j)) := by
  intro j j0 j1
  show InvD (if ri (if nx < 7 then nx + 1 else 0) (min (sz + 1) 8) j = nx.toNat then co else hc (ri (if nx < 7 then nx + 1 else 0) (min (sz + 1) 8) j))
  by_cases q : ri (if nx < 7 then nx + 1 else 0) (min (sz + 1) 8) j = nx.toNat
  · rw [if_pos q]
    exact hD
  · rw [if_neg q]
    obtain ⟨i, i0, i1, e⟩ : ∃ i, 1 ≤ i ∧ i ≤ sz ∧ ri (if nx < 7 then nx + 1 else 0) (min (sz + 1) 8) j = ri nx sz i := by
      by_cases z : sz = 8
      · refine ⟨j + 1, by omega, ?_, ?_⟩
        · apply Classical.byContradiction
          intro w
          apply q
          unfold ri
          split <;> omega
        · unfold ri
          split <;> omega
      · refine ⟨j, j0, ?_, ?_⟩
        · apply Classical.byContradiction
          intro w
          apply q
          unfold ri
          split <;> omega
        · unfold ri
          split <;> omega
    rw [e]
    exact hDh i i0 i1
theorem LawP.push {x : Nat} {v : Nat} {N : Nat} {f : Int → Int} {nn : Int} {v2 : Nat} {N2 : Nat} {f2 : Int → Int} {n2 : Int} {co : Nat → Int → Int} {cv : Nat → Int → Int} {hc : Nat → Nat → Int → Int} {nx : Int} {sz : Int} {hs : Int} {er : Int} {fa : Int} {ss : Int} {po : Int} {si : Int} {pr : Nat → Int → Int} {mo : Nat → Int → Int} {co2 : Nat → Int → Int} {g2 : Int → Int} {q4 : Int} (h : LawP x v N f nn v2 N2 f2 n2 co cv hc nx sz hs er fa ss po si pr mo) (hD2 : InvD co2) (hR2 : RelM co2 cv (fun j => if j = nx.toNat then co else hc j) (if nx < 7 then nx + 1 else 0) (min (sz + 1) 8) hs g2) : LawP x v N f nn v2 N2 f2 n2 co2 cv (fun j => if j = nx.toNat then co else hc j) (if nx < 7 then nx + 1 else 0) (min (sz + 1) 8) hs er fa ss po si pr (updC (updC mo 0 (updZ (updZ (updZ (mo 0) 0 0) 2 (min (sz + 1) 8)) 4 q4)) 1 g2) := by
  obtain ⟨⟨hD, hDv, hDh⟩, ⟨hRM, hch, hcs⟩, ⟨⟨n0, n1⟩, ⟨s0, s1⟩, hhs⟩, ⟨hm8, hnn, hAg, hNN, hnN, hf9⟩, ⟨T, hSB, hLT, hn38⟩, hPB, ⟨her, hfa, hss, ger, gfa, gss, gms⟩, ⟨gpo, gsi⟩, ⟨hv1, hv2, hvv⟩⟩ := h
  refine ⟨⟨hD2, hDv, hist_push hD hDh n0 n1 s0 s1⟩, ⟨hR2, rfl, hcs⟩, ⟨⟨by split <;> omega, by split <;> omega⟩, ⟨by omega, by omega⟩, hhs⟩, ⟨hm8, hnn, hAg, hNN, hnN, hf9⟩, ⟨T, hSB, hLT, hn38⟩, hPB, ⟨her, hfa, hss, ger, gfa, gss, gms⟩, ⟨gpo, gsi⟩, ⟨hv1, hv2, hvv⟩⟩
theorem LawP.g2 {x : Nat} {v : Nat} {N : Nat} {f : Int → Int} {nn : Int} {v2 : Nat} {N2 : Nat} {f2 : Int → Int} {n2 : Int} {co : Nat → Int → Int} {cv : Nat → Int → Int} {hc : Nat → Nat → Int → Int} {nx : Int} {sz : Int} {hs : Int} {er : Int} {fa : Int} {ss : Int} {po : Int} {si : Int} {pr : Nat → Int → Int} {mo : Nat → Int → Int} {g2 : Int → Int} {q : Int} (h : LawP x v N f nn v2 N2 f2 n2 co cv hc nx sz hs er fa ss po si pr mo) (hR2 : RelM co cv hc nx sz hs g2) : LawP x v N f nn v2 N2 f2 n2 co cv hc nx sz hs er fa ss po si pr (updC (updC mo 0 (updZ (mo 0) 0 q)) 1 g2) := by
  obtain ⟨⟨hD, hDv, hDh⟩, ⟨hRM, hch, hcs⟩, ⟨⟨n0, n1⟩, ⟨s0, s1⟩, hhs⟩, ⟨hm8, hnn, hAg, hNN, hnN, hf9⟩, ⟨T, hSB, hLT, hn38⟩, hPB, ⟨her, hfa, hss, ger, gfa, gss, gms⟩, ⟨gpo, gsi⟩, ⟨hv1, hv2, hvv⟩⟩ := h
  exact ⟨⟨hD, hDv, hDh⟩, ⟨hR2, hch, hcs⟩, ⟨⟨n0, n1⟩, ⟨s0, s1⟩, hhs⟩, ⟨hm8, hnn, hAg, hNN, hnN, hf9⟩, ⟨T, hSB, hLT, hn38⟩, hPB, ⟨her, hfa, hss, ger, gfa, gss, gms⟩, ⟨gpo, gsi⟩, ⟨hv1, hv2, hvv⟩⟩
theorem LawP.undo {x : Nat} {v : Nat} {N : Nat} {f : Int → Int} {nn : Int} {v2 : Nat} {N2 : Nat} {f2 : Int → Int} {n2 : Int} {co : Nat → Int → Int} {cv : Nat → Int → Int} {hc : Nat → Nat → Int → Int} {nx : Int} {sz : Int} {hs : Int} {er : Int} {fa : Int} {ss : Int} {po : Int} {si : Int} {pr : Nat → Int → Int} {mo : Nat → Int → Int} {g2 : Int → Int} (h : LawP x v N f nn v2 N2 f2 n2 co cv hc nx sz hs er fa ss po si pr mo) (hz : ¬ sz = 0) (hR2 : RelM (hc (if 0 < nx then nx - 1 else 7).toNat) cv hc (if 0 < nx then nx - 1 else 7) (sz - 1) hs g2) : LawP x v N f nn v2 N2 f2 n2 (hc (if 0 < nx then nx - 1 else 7).toNat) cv hc (if 0 < nx then nx - 1 else 7) (sz - 1) hs er fa ss po si pr (updC (updC mo 0 (updZ (updZ (mo 0) 0 0) 2 (sz - 1))) 1 g2) := by
  obtain ⟨⟨hD, hDv, hDh⟩, ⟨hRM, hch, hcs⟩, ⟨⟨n0, n1⟩, ⟨s0, s1⟩, hhs⟩, ⟨hm8, hnn, hAg, hNN, hnN, hf9⟩, ⟨T, hSB, hLT, hn38⟩, hPB, ⟨her, hfa, hss, ger, gfa, gss, gms⟩, ⟨gpo, gsi⟩, ⟨hv1, hv2, hvv⟩⟩ := h
  have e1 : (if 0 < nx then nx - 1 else 7).toNat = ri nx sz sz := by
    unfold ri
    split <;> omega
  refine ⟨⟨?_, hDv, fun j j0 j1 => ?_⟩, ⟨hR2, rfl, hcs⟩, ⟨⟨by split <;> omega, by split <;> omega⟩, ⟨by omega, by omega⟩, hhs⟩, ⟨hm8, hnn, hAg, hNN, hnN, hf9⟩, ⟨T, hSB, hLT, hn38⟩, hPB, ⟨her, hfa, hss, ger, gfa, gss, gms⟩, ⟨gpo, gsi⟩, ⟨hv1, hv2, hvv⟩⟩
  · rw [e1]
    exact hDh sz (by omega) (by omega)
  · have e2 : ri (if 0 < nx then nx - 1 else 7) (sz - 1) j = ri nx sz j := by
      unfold ri
      split <;> omega
    rw [e2]
    exact hDh j j0 (by omega)
theorem LawP.save {x : Nat} {v : Nat} {N : Nat} {f : Int → Int} {nn : Int} {v2 : Nat} {N2 : Nat} {f2 : Int → Int} {n2 : Int} {co : Nat → Int → Int} {cv : Nat → Int → Int} {hc : Nat → Nat → Int → Int} {nx : Int} {sz : Int} {hs : Int} {er : Int} {fa : Int} {ss : Int} {po : Int} {si : Int} {pr : Nat → Int → Int} {mo : Nat → Int → Int} {g2 : Int → Int} (h : LawP x v N f nn v2 N2 f2 n2 co cv hc nx sz hs er fa ss po si pr mo) (hR2 : RelM co co hc nx sz 1 g2) : LawP x v N f nn v2 N2 f2 n2 co co hc nx sz 1 er fa ss po si pr (updC (updC mo 0 (updZ (updZ (mo 0) 0 0) 3 1)) 1 g2) := by
  obtain ⟨⟨hD, hDv, hDh⟩, ⟨hRM, hch, hcs⟩, ⟨⟨n0, n1⟩, ⟨s0, s1⟩, hhs⟩, ⟨hm8, hnn, hAg, hNN, hnN, hf9⟩, ⟨T, hSB, hLT, hn38⟩, hPB, ⟨her, hfa, hss, ger, gfa, gss, gms⟩, ⟨gpo, gsi⟩, ⟨hv1, hv2, hvv⟩⟩ := h
  exact ⟨⟨hD, fun _ => hD, hDh⟩, ⟨hR2, hch, rfl⟩, ⟨⟨n0, n1⟩, ⟨s0, s1⟩, Or.inr rfl⟩, ⟨hm8, hnn, hAg, hNN, hnN, hf9⟩, ⟨T, hSB, hLT, hn38⟩, hPB, ⟨her, hfa, hss, ger, gfa, gss, gms⟩, ⟨gpo, gsi⟩, ⟨hv1, hv2, hvv⟩⟩
theorem LawP.restore {x : Nat} {v : Nat} {N : Nat} {f : Int → Int} {nn : Int} {v2 : Nat} {N2 : Nat} {f2 : Int → Int} {n2 : Int} {co : Nat → Int → Int} {cv : Nat → Int → Int} {hc : Nat → Nat → Int → Int} {nx : Int} {sz : Int} {hs : Int} {er : Int} {fa : Int} {ss : Int} {po : Int} {si : Int} {pr : Nat → Int → Int} {mo : Nat → Int → Int} {g2 : Int → Int} (h : LawP x v N f nn v2 N2 f2 n2 co cv hc nx sz hs er fa ss po si pr mo) (hz : hs = 1) (hR2 : RelM cv cv hc nx 0 hs g2) : LawP x v N f nn v2 N2 f2 n2 cv cv hc nx 0 hs er fa ss po si pr (updC (updC mo 0 (updZ (updZ (mo 0) 0 0) 2 0)) 1 g2) := by
  obtain ⟨⟨hD, hDv, hDh⟩, ⟨hRM, hch, hcs⟩, ⟨⟨n0, n1⟩, ⟨s0, s1⟩, hhs⟩, ⟨hm8, hnn, hAg, hNN, hnN, hf9⟩, ⟨T, hSB, hLT, hn38⟩, hPB, ⟨her, hfa, hss, ger, gfa, gss, gms⟩, ⟨gpo, gsi⟩, ⟨hv1, hv2, hvv⟩⟩ := h
  exact ⟨⟨hDv hz, hDv, fun j j0 j1 => by omega⟩, ⟨hR2, rfl, hcs⟩, ⟨⟨n0, n1⟩, ⟨Int.le_refl _, by decide⟩, hhs⟩, ⟨hm8, hnn, hAg, hNN, hnN, hf9⟩, ⟨T, hSB, hLT, hn38⟩, hPB, ⟨her, hfa, hss, ger, gfa, gss, gms⟩, ⟨gpo, gsi⟩, ⟨hv1, hv2, hvv⟩⟩
section LAWOPS
variable {p : Program} {l : Launch} {e : Env} {s : State} {m : MethodId} {args : Array Value} {below : List Frame} {meth : Method} {cd : Code} {Q : State → Prop} {H : Heap} {lo : List Loc} {kq nq : Nat} {E : Nat → Nat → Nat} {b Lx x : Nat} {xs : Nat → Int32} {i : Int}
set_option maxHeartbeats 4000000 in
set_option maxRecDepth 20000 in
theorem lo_charge (hl : l.stackTraces = false) (X : CF p m cd code 9 s args RL) (hX : va_X b Lx xs s s.heap) (hbl : b < s.heap.size) (hLx : Lx ≤ 2560) (hM : MS E [] s H lo) (hk : kq + 60 ≤ 603072) (hn : nq + 4000 ≤ 7211113) (hx : s.heap.size ≤ x) (hzl : x + 341 ≤ H.size) {v : Nat} {N : Nat} {f : Int → Int} {nn : Int} {v2 : Nat} {N2 : Nat} {f2 : Int → Int} {n2 : Int} {co : Nat → Int → Int} {bf : Nat → Int → Int} {cv : Nat → Int → Int} {hc : Nat → Nat → Int → Int} {nx : Int} {sz : Int} {hs : Int} {er : Int} {fa : Int} {ss : Int} {dk : Nat → Int → Int} {se : Nat → Int → Int} {po : Int} {si : Int} {pr : Nat → Int → Int} {ml : Int} {ml2 : Int} {mo : Nat → Int → Int} {lg : Nat → Int64} {dg : Nat → UInt64} (hW : LawW E x v N f nn v2 N2 f2 n2 co bf cv hc nx sz hs er fa ss dk se po si pr ml ml2 mo lg dg H) (hP : LawP x v N f nn v2 N2 f2 n2 co cv hc nx sz hs er fa ss po si pr mo) (i0 : 0 ≤ i) (i1 : i + 5 ≤ (Lx : Int)) {a1 : Int} (ha1 : (xs (i + 1).toNat).toInt = a1) (ga1 : Rg a1) {a2 : Int} (ha2 : (xs (i + 2).toNat).toInt = a2) (ga2 : Rg a2) (q0 : flC co 0 a1 a2 0 = 0) (kk : ∀ (H1 : Heap) (lo1 : List Loc), MS E [] s H1 lo1 → LawI E x H1 → V p l e room_1 s m args below meth cd Q 9 H1 lo1 (kq + 60) (nq + 4000) 3555 [(5, .int (zI i)), (4, .ref (x + 340)), (3, .ref (x + 339)), (2, .ref (x + 334)), (1, .ref x), (0, .ref b)] []) : V p l e room_1 s m args below meth cd Q 9 H lo kq nq 312 [(5, .int (zI i)), (4, .ref (x + 340)), (3, .ref (x + 339)), (2, .ref (x + 334)), (1, .ref x), (0, .ref b)] [] := by
  obtain ⟨h_cm, h_co, h_bf, h_sv, h_hi, h_hf, h_dk, h_se, h_pg, h_sb, h_sa, h_pr, h_ln, h_la, h_mo, h_out, h_outD⟩ := hW
  have hP0 := hP
  obtain ⟨⟨hD, hDv, hDh⟩, ⟨hRM, hch, hcs⟩, ⟨⟨n0, n1⟩, ⟨s0, s1⟩, hhs⟩, ⟨hm8, hnn, hAg, hNN, hnN, hf9⟩, ⟨T, hSB, hLT, hn38⟩, hPB, ⟨her, hfa, hss, ger, gfa, gss, gms⟩, ⟨gpo, gsi⟩, ⟨hv1, hv2, hvv⟩⟩ := hP
  have hO := hD.inv.ok
  have hI := hD.inv.ts
  have hSt := hD.inv.st
  have hS := hD.inv.sn
  have hR := hRM.1.2
  have hG := gp_inv hD
  have hb0 := hO.b0
  have hbw := hO.bw
  have hbf : ¬ Fr [] s.heap.size b := fun z => z.elim (fun q => q.elim) (fun q => by omega)
  have hD2 := op_inv hD (kd := 0) (a := a1) (b := a2) (f := 0) (z := 0) (by decide) q0
  refine v_aload_n X dL_law_312 313 rfl 4 rfl ?_
  refine v_aload_n X dL_law_313 314 rfl 5 rfl ?_
  refine v_iload X dL_law_314 316 rfl 0 rfl ?_
  refine v_iconst X dL_law_316 317 rfl ?_
  refine v_iadd X dL_law_317 318 rfl ?_
  refine v_scr X hM hX hbl hbf (by omega) (by omega) hLx ha1 dL_law_318 319 rfl ?_
  refine v_aload_n X dL_law_319 320 rfl 5 rfl ?_
  refine v_iload X dL_law_320 322 rfl 0 rfl ?_
  refine v_iconst X dL_law_322 323 rfl ?_
  refine v_iadd X dL_law_323 324 rfl ?_
  refine v_scr X hM hX hbl hbf (by omega) (by omega) hLx ha2 dL_law_324 325 rfl ?_
  refine v_aload_n X dL_law_325 326 rfl 2 rfl ?_
  refine v_mwS X hM (w_X9_charge l hl E x co hs er fa ss a1 a2 hc nx sz (x + 339) lg hO ga1 ga2 q0 n0 n1 s0 s1 (by omega) (by omega) (by omega) (by omega) (by omega) (by omega) (by omega) (by omega) (by omega) (by omega)) kwL_charge ksL_charge kl_L_190 (As := [.ref x, .int (zI a1), .int (zI a2), .ref (x + 339)]) rfl rfl (rm_lawW rfl (by omega) (by omega)) dL_law_326 329 rfl (k' := kq + 1) (n' := nq + 6) rfl rfl (by intro q hq; simp only [Fr, Fs, or_false, false_or] at hq ⊢; omega) ⟨h_cm, h_co, h_hi, h_hf, h_out⟩ (fun rv H1 lo1 hM hF hpo => ?_)
  obtain ⟨rfl, hw_0, hw_1, hw_2, hw_3⟩ := hpo
  have h_co : PR E (x + 1) (courtW E (x + 1) (opC (co) 0 a1 a2 0 0)) H1 := hw_0
  have h_hi : PR E (x + 85) [(x + 85, .inr (7, [.ref (x + 86), .int (zI (if nx < 7 then nx + 1 else 0)), .int (zI (min (sz + 1) 8))])), (x + 86, .inl (E 102 3, 8, .inr (.inr (.inr (.inr (hisA (x + 87) 8))))))] H1 := hw_1
  have h_hf : HF E (x + 87) 8 (fun j => if j = nx.toNat then co else hc j) H1 := hw_2
  have h_out : PR E (x + 339) [(x + 339, .inl (E 102 4, 1, .inr (.inl (fun _ => zL (opV (co) 0 a1 a2 0 0)))))] H1 := hw_3
  replace hzl := Nat.le_trans hzl hF.1
  replace h_cm := h_cm.kept hF 1 rfl (by intro q q1 q2 q3; simp only [Fs, or_false] at q3; omega)
  replace h_bf := h_bf.kept hF 28 rfl (by intro q q1 q2 q3; simp only [Fs, or_false] at q3; omega)
  replace h_sv := h_sv.kept hF 28 rfl (by intro q q1 q2 q3; simp only [Fs, or_false] at q3; omega)
  replace h_dk := h_dk.kept hF 3 rfl (by intro q q1 q2 q3; simp only [Fs, or_false] at q3; omega)
  replace h_se := h_se.kept hF 5 rfl (by intro q q1 q2 q3; simp only [Fs, or_false] at q3; omega)
  replace h_pg := h_pg.kept hF 1 rfl (by intro q q1 q2 q3; simp only [Fs, or_false] at q3; omega)
  replace h_sb := h_sb.kept hF 1 rfl (by intro q q1 q2 q3; simp only [Fs, or_false] at q3; omega)
  replace h_sa := h_sa.kept hF 1 rfl (by intro q q1 q2 q3; simp only [Fs, or_false] at q3; omega)
  replace h_pr := h_pr.kept hF 10 rfl (by intro q q1 q2 q3; simp only [Fs, or_false] at q3; omega)
  replace h_ln := h_ln.kept hF 1 rfl (by intro q q1 q2 q3; simp only [Fs, or_false] at q3; omega)
  replace h_la := h_la.kept hF 1 rfl (by intro q q1 q2 q3; simp only [Fs, or_false] at q3; omega)
  replace h_mo := h_mo.kept hF 5 rfl (by intro q q1 q2 q3; simp only [Fs, or_false] at q3; omega)
  replace h_outD := h_outD.kept hF 1 rfl (by intro q q1 q2 q3; simp only [Fs, or_false] at q3; omega)
  show V p l e room_1 s m args below meth cd Q 9 H1 lo1 (kq + 1) (nq + 6) 329 [(5, .int (zI i)), (4, .ref (x + 340)), (3, .ref (x + 339)), (2, .ref (x + 334)), (1, .ref x), (0, .ref b)] [.int (zI 0)]
  refine v_istore X dL_law_329 331 rfl (by decide) (L' := [(6, .int (zI 0)), (5, .int (zI i)), (4, .ref (x + 340)), (3, .ref (x + 339)), (2, .ref (x + 334)), (1, .ref x), (0, .ref b)]) rfl ?_
  refine v_aload_n X dL_law_331 332 rfl 4 rfl ?_
  refine v_aload_n X dL_law_332 333 rfl 6 rfl ?_
  refine v_iload X dL_law_333 335 rfl 1 rfl ?_
  refine v_iconst X dL_law_335 336 rfl ?_
  refine v_iadd X dL_law_336 337 rfl ?_
  refine v_scr X hM hX hbl hbf (by omega) (by omega) hLx ha1 dL_law_337 338 rfl ?_
  refine v_aload_n X dL_law_338 339 rfl 6 rfl ?_
  refine v_iload X dL_law_339 341 rfl 1 rfl ?_
  refine v_iconst X dL_law_341 342 rfl ?_
  refine v_iadd X dL_law_342 343 rfl ?_
  refine v_scr X hM hX hbl hbf (by omega) (by omega) hLx ha2 dL_law_343 344 rfl ?_
  refine v_muV X hM (h_mo.1) (c_X10_charge_ok l E (x + 334) mo co cv hc nx sz hs a1 a2 hO hI hRM hch n0 n1 s0 s1 ga1 ga2 hSt q0 hD2.inv.ok) kvX10_charge kiX10_charge kl_L_195 (q0 := 0) rfl rfl (As := [.int (zI a1), .int (zI a2)]) rfl rfl (rm_law rfl (by omega) (by omega)) dL_law_344 347 rfl (k' := kq + 1) (n' := nq + 6) rfl rfl (fsI (fun q q1 q2 => (Or.inr (by omega)))) h_mo (fun rv H2 lo2 hM hF hpo => ?_)
  obtain ⟨g2_3, q4_4, rfl, hp_f_5, hw_0⟩ := hpo
  have h_mo : PR E (x + 334) (modelW E (x + 334) (updC (updC mo 0 (updZ (updZ (updZ (mo 0) 0 0) 2 (min (sz + 1) 8)) 4 q4_4)) 1 g2_3)) H2 := hw_0
  replace hzl := Nat.le_trans hzl hF.1
  replace h_cm := h_cm.kept hF 1 rfl (fsd (by omega))
  replace h_co := h_co.kept hF 28 rfl (fsd (by omega))
  replace h_bf := h_bf.kept hF 28 rfl (fsd (by omega))
  replace h_sv := h_sv.kept hF 28 rfl (fsd (by omega))
  replace h_hi := h_hi.kept hF 2 rfl (fsd (by omega))
  replace h_hf := h_hf.kept hF (fsd (by omega))
  replace h_dk := h_dk.kept hF 3 rfl (fsd (by omega))
  replace h_se := h_se.kept hF 5 rfl (fsd (by omega))
  replace h_pg := h_pg.kept hF 1 rfl (fsd (by omega))
  replace h_sb := h_sb.kept hF 1 rfl (fsd (by omega))
  replace h_sa := h_sa.kept hF 1 rfl (fsd (by omega))
  replace h_pr := h_pr.kept hF 10 rfl (fsd (by omega))
  replace h_ln := h_ln.kept hF 1 rfl (fsd (by omega))
  replace h_la := h_la.kept hF 1 rfl (fsd (by omega))
  replace h_out := h_out.kept hF 1 rfl (fsd (by omega))
  replace h_outD := h_outD.kept hF 1 rfl (fsd (by omega))
  show V p l e room_1 s m args below meth cd Q 9 H2 lo2 (kq + 1) (nq + 6) 347 [(6, .int (zI 0)), (5, .int (zI i)), (4, .ref (x + 340)), (3, .ref (x + 339)), (2, .ref (x + 334)), (1, .ref x), (0, .ref b)] [.int (zI (opV co 0 a1 a2 0 0))]
  refine v_istore X dL_law_347 349 rfl (by decide) (L' := [(7, .int (zI (opV co 0 a1 a2 0 0))), (6, .int (zI 0)), (5, .int (zI i)), (4, .ref (x + 340)), (3, .ref (x + 339)), (2, .ref (x + 334)), (1, .ref x), (0, .ref b)]) rfl ?_
  refine v_aload_n X dL_law_349 350 rfl 5 rfl ?_
  refine v_rdV X hM.C h_mo.1 (c_X10_thrown l E (x + 334) (updC (updC mo 0 (updZ (updZ (updZ (mo 0) 0 0) 2 (min (sz + 1) 8)) 4 q4_4)) 1 g2_3)) kvX10_thrown kiX10_thrown kl_L_196 rfl rfl (As := []) rfl rfl (rm_law0 rfl (by omega) (by omega)) dL_law_350 353 rfl ?_
  show V p l e room_1 s m args below meth cd Q 9 H2 lo2 (kq + 1) (nq + 6) 353 [(7, .int (zI (opV co 0 a1 a2 0 0))), (6, .int (zI 0)), (5, .int (zI i)), (4, .ref (x + 340)), (3, .ref (x + 339)), (2, .ref (x + 334)), (1, .ref x), (0, .ref b)] [.int (zI 0)]
  refine v_iload X dL_law_353 355 rfl 1 rfl ?_
  refine v_icmp_eq X (by omega) (by omega) dL_law_355 358 360 rfl (by decide) (fun c_6 => ?_) (fun c_6 => ?_)
  · skip
    refine v_iload X dL_law_360 362 rfl 1 rfl ?_
    refine v_if_ne X (by omega) dL_law_362 365 377 rfl (by decide) (fun c_7 => ?_) (fun c_7 => ?_)
    · skip
      exfalso; omega
    · skip
      refine v_aload_n X dL_law_365 366 rfl 4 rfl ?_
      refine v_iconst X dL_law_366 367 rfl ?_
      refine v_lald X hM.C h_out.1 0 rfl dL_law_367 368 rfl ?_
      show V p l e room_1 s m args below meth cd Q 9 H2 lo2 (kq + 1) (nq + 6) 368 [(7, .int (zI (opV co 0 a1 a2 0 0))), (6, .int (zI 0)), (5, .int (zI i)), (4, .ref (x + 340)), (3, .ref (x + 339)), (2, .ref (x + 334)), (1, .ref x), (0, .ref b)] [.long (zL (opV co 0 a1 a2 0 0))]
      refine v_iload X dL_law_368 370 rfl 0 rfl ?_
      refine v_i2l X dL_law_370 371 rfl ?_
      refine v_lcmp0 X dL_law_371 372 rfl ?_
      refine v_if_eq X (by omega) dL_law_372 375 377 rfl (by decide) (fun c_8 => ?_) (fun c_8 => ?_)
      · skip
        refine v_goto X dL_law_377 3555 (by decide) ?_
        refine v_widen (k' := kq + 60) (n' := nq + 4000) (by omega) (by omega) ?_
        exact V_pick [2, 3, 4, 5, 6, 7] rfl (kk _ _ hM ⟨hzl, _, _, _, _, _, _, _, _, _, _, _, _, _, _, _, _, _, _, _, _, _, _, _, _, _, _, _, _, ⟨h_cm, h_co, h_bf, h_sv, h_hi, h_hf, h_dk, h_se, h_pg, h_sb, h_sa, h_pr, h_ln, h_la, h_mo, h_out, h_outD⟩, (hP0.push hD2 hp_f_5)⟩)
      · skip
        exfalso; omega
  · skip
    exfalso; omega
set_option maxHeartbeats 4000000 in
set_option maxRecDepth 20000 in
theorem lo_charge_1 (hl : l.stackTraces = false) (X : CF p m cd code 9 s args RL) (hX : va_X b Lx xs s s.heap) (hbl : b < s.heap.size) (hLx : Lx ≤ 2560) (hM : MS E [] s H lo) (hk : kq + 60 ≤ 603072) (hn : nq + 4000 ≤ 7211113) (hx : s.heap.size ≤ x) (hzl : x + 341 ≤ H.size) {v : Nat} {N : Nat} {f : Int → Int} {nn : Int} {v2 : Nat} {N2 : Nat} {f2 : Int → Int} {n2 : Int} {co : Nat → Int → Int} {bf : Nat → Int → Int} {cv : Nat → Int → Int} {hc : Nat → Nat → Int → Int} {nx : Int} {sz : Int} {hs : Int} {er : Int} {fa : Int} {ss : Int} {dk : Nat → Int → Int} {se : Nat → Int → Int} {po : Int} {si : Int} {pr : Nat → Int → Int} {ml : Int} {ml2 : Int} {mo : Nat → Int → Int} {lg : Nat → Int64} {dg : Nat → UInt64} (hW : LawW E x v N f nn v2 N2 f2 n2 co bf cv hc nx sz hs er fa ss dk se po si pr ml ml2 mo lg dg H) (hP : LawP x v N f nn v2 N2 f2 n2 co cv hc nx sz hs er fa ss po si pr mo) (i0 : 0 ≤ i) (i1 : i + 5 ≤ (Lx : Int)) {a1 : Int} (ha1 : (xs (i + 1).toNat).toInt = a1) (ga1 : Rg a1) {a2 : Int} (ha2 : (xs (i + 2).toNat).toInt = a2) (ga2 : Rg a2) (q0 : flC co 0 a1 a2 0 = 2) (kk : ∀ (H1 : Heap) (lo1 : List Loc), MS E [] s H1 lo1 → LawI E x H1 → V p l e room_1 s m args below meth cd Q 9 H1 lo1 (kq + 60) (nq + 4000) 3555 [(5, .int (zI i)), (4, .ref (x + 340)), (3, .ref (x + 339)), (2, .ref (x + 334)), (1, .ref x), (0, .ref b)] []) : V p l e room_1 s m args below meth cd Q 9 H lo kq nq 312 [(5, .int (zI i)), (4, .ref (x + 340)), (3, .ref (x + 339)), (2, .ref (x + 334)), (1, .ref x), (0, .ref b)] [] := by
  obtain ⟨h_cm, h_co, h_bf, h_sv, h_hi, h_hf, h_dk, h_se, h_pg, h_sb, h_sa, h_pr, h_ln, h_la, h_mo, h_out, h_outD⟩ := hW
  have hP0 := hP
  obtain ⟨⟨hD, hDv, hDh⟩, ⟨hRM, hch, hcs⟩, ⟨⟨n0, n1⟩, ⟨s0, s1⟩, hhs⟩, ⟨hm8, hnn, hAg, hNN, hnN, hf9⟩, ⟨T, hSB, hLT, hn38⟩, hPB, ⟨her, hfa, hss, ger, gfa, gss, gms⟩, ⟨gpo, gsi⟩, ⟨hv1, hv2, hvv⟩⟩ := hP
  have hO := hD.inv.ok
  have hI := hD.inv.ts
  have hSt := hD.inv.st
  have hS := hD.inv.sn
  have hR := hRM.1.2
  have hG := gp_inv hD
  have hb0 := hO.b0
  have hbw := hO.bw
  have hbf : ¬ Fr [] s.heap.size b := fun z => z.elim (fun q => q.elim) (fun q => by omega)
  refine v_aload_n X dL_law_312 313 rfl 4 rfl ?_
  refine v_aload_n X dL_law_313 314 rfl 5 rfl ?_
  refine v_iload X dL_law_314 316 rfl 0 rfl ?_
  refine v_iconst X dL_law_316 317 rfl ?_
  refine v_iadd X dL_law_317 318 rfl ?_
  refine v_scr X hM hX hbl hbf (by omega) (by omega) hLx ha1 dL_law_318 319 rfl ?_
  refine v_aload_n X dL_law_319 320 rfl 5 rfl ?_
  refine v_iload X dL_law_320 322 rfl 0 rfl ?_
  refine v_iconst X dL_law_322 323 rfl ?_
  refine v_iadd X dL_law_323 324 rfl ?_
  refine v_scr X hM hX hbl hbf (by omega) (by omega) hLx ha2 dL_law_324 325 rfl ?_
  refine v_aload_n X dL_law_325 326 rfl 2 rfl ?_
  refine v_mwS X hM (w_X9_charge_2_t l hl E x co hs er fa ss a1 a2 (x + 339) lg hO ga1 ga2 q0) kwL_charge ksL_charge kl_L_190 (As := [.ref x, .int (zI a1), .int (zI a2), .ref (x + 339)]) rfl rfl (rm_lawW rfl (by omega) (by omega)) dL_law_326 329 rfl (k' := kq + 1) (n' := nq + 6) rfl rfl (fun q hq => hq.elim) ⟨h_cm, h_co, h_out⟩ (fun rv H1 lo1 hM hF hpo => ?_)
  subst hpo
  replace hzl := Nat.le_trans hzl hF.1
  replace h_cm := h_cm.kept hF 1 rfl (fun q _ _ h => h.elim)
  replace h_co := h_co.kept hF 28 rfl (fun q _ _ h => h.elim)
  replace h_bf := h_bf.kept hF 28 rfl (fun q _ _ h => h.elim)
  replace h_sv := h_sv.kept hF 28 rfl (fun q _ _ h => h.elim)
  replace h_hi := h_hi.kept hF 2 rfl (fun q _ _ h => h.elim)
  replace h_hf := h_hf.kept hF (fun q _ _ h => h.elim)
  replace h_dk := h_dk.kept hF 3 rfl (fun q _ _ h => h.elim)
  replace h_se := h_se.kept hF 5 rfl (fun q _ _ h => h.elim)
  replace h_pg := h_pg.kept hF 1 rfl (fun q _ _ h => h.elim)
  replace h_sb := h_sb.kept hF 1 rfl (fun q _ _ h => h.elim)
  replace h_sa := h_sa.kept hF 1 rfl (fun q _ _ h => h.elim)
  replace h_pr := h_pr.kept hF 10 rfl (fun q _ _ h => h.elim)
  replace h_ln := h_ln.kept hF 1 rfl (fun q _ _ h => h.elim)
  replace h_la := h_la.kept hF 1 rfl (fun q _ _ h => h.elim)
  replace h_mo := h_mo.kept hF 5 rfl (fun q _ _ h => h.elim)
  replace h_out := h_out.kept hF 1 rfl (fun q _ _ h => h.elim)
  replace h_outD := h_outD.kept hF 1 rfl (fun q _ _ h => h.elim)
  show V p l e room_1 s m args below meth cd Q 9 H1 lo1 (kq + 1) (nq + 6) 329 [(5, .int (zI i)), (4, .ref (x + 340)), (3, .ref (x + 339)), (2, .ref (x + 334)), (1, .ref x), (0, .ref b)] [.int (zI 1)]
  refine v_istore X dL_law_329 331 rfl (by decide) (L' := [(6, .int (zI 1)), (5, .int (zI i)), (4, .ref (x + 340)), (3, .ref (x + 339)), (2, .ref (x + 334)), (1, .ref x), (0, .ref b)]) rfl ?_
  refine v_aload_n X dL_law_331 332 rfl 4 rfl ?_
  refine v_aload_n X dL_law_332 333 rfl 6 rfl ?_
  refine v_iload X dL_law_333 335 rfl 1 rfl ?_
  refine v_iconst X dL_law_335 336 rfl ?_
  refine v_iadd X dL_law_336 337 rfl ?_
  refine v_scr X hM hX hbl hbf (by omega) (by omega) hLx ha1 dL_law_337 338 rfl ?_
  refine v_aload_n X dL_law_338 339 rfl 6 rfl ?_
  refine v_iload X dL_law_339 341 rfl 1 rfl ?_
  refine v_iconst X dL_law_341 342 rfl ?_
  refine v_iadd X dL_law_342 343 rfl ?_
  refine v_scr X hM hX hbl hbf (by omega) (by omega) hLx ha2 dL_law_343 344 rfl ?_
  refine v_muV X hM (h_mo.1) (c_X10_charge_f2 l E (x + 334) mo co cv hc nx sz hs a1 a2 hO hI hRM hch n0 n1 s0 s1 ga1 ga2 q0) kvX10_charge kiX10_charge kl_L_195 (q0 := 0) rfl rfl (As := [.int (zI a1), .int (zI a2)]) rfl rfl (rm_law rfl (by omega) (by omega)) dL_law_344 347 rfl (k' := kq + 1) (n' := nq + 6) rfl rfl (fsI (fun q q1 q2 => (Or.inr (by omega)))) h_mo (fun rv H2 lo2 hM hF hpo => ?_)
  obtain ⟨g2_3, rfl, hp_f_4, hw_0⟩ := hpo
  have h_mo : PR E (x + 334) (modelW E (x + 334) (updC (updC mo 0 (updZ (mo 0) 0 1)) 1 g2_3)) H2 := hw_0
  replace hzl := Nat.le_trans hzl hF.1
  replace h_cm := h_cm.kept hF 1 rfl (fsd (by omega))
  replace h_co := h_co.kept hF 28 rfl (fsd (by omega))
  replace h_bf := h_bf.kept hF 28 rfl (fsd (by omega))
  replace h_sv := h_sv.kept hF 28 rfl (fsd (by omega))
  replace h_hi := h_hi.kept hF 2 rfl (fsd (by omega))
  replace h_hf := h_hf.kept hF (fsd (by omega))
  replace h_dk := h_dk.kept hF 3 rfl (fsd (by omega))
  replace h_se := h_se.kept hF 5 rfl (fsd (by omega))
  replace h_pg := h_pg.kept hF 1 rfl (fsd (by omega))
  replace h_sb := h_sb.kept hF 1 rfl (fsd (by omega))
  replace h_sa := h_sa.kept hF 1 rfl (fsd (by omega))
  replace h_pr := h_pr.kept hF 10 rfl (fsd (by omega))
  replace h_ln := h_ln.kept hF 1 rfl (fsd (by omega))
  replace h_la := h_la.kept hF 1 rfl (fsd (by omega))
  replace h_out := h_out.kept hF 1 rfl (fsd (by omega))
  replace h_outD := h_outD.kept hF 1 rfl (fsd (by omega))
  show V p l e room_1 s m args below meth cd Q 9 H2 lo2 (kq + 1) (nq + 6) 347 [(6, .int (zI 1)), (5, .int (zI i)), (4, .ref (x + 340)), (3, .ref (x + 339)), (2, .ref (x + 334)), (1, .ref x), (0, .ref b)] [.int (zI 0)]
  refine v_istore X dL_law_347 349 rfl (by decide) (L' := [(7, .int (zI 0)), (6, .int (zI 1)), (5, .int (zI i)), (4, .ref (x + 340)), (3, .ref (x + 339)), (2, .ref (x + 334)), (1, .ref x), (0, .ref b)]) rfl ?_
  refine v_aload_n X dL_law_349 350 rfl 5 rfl ?_
  refine v_rdV X hM.C h_mo.1 (c_X10_thrown l E (x + 334) (updC (updC mo 0 (updZ (mo 0) 0 1)) 1 g2_3)) kvX10_thrown kiX10_thrown kl_L_196 rfl rfl (As := []) rfl rfl (rm_law0 rfl (by omega) (by omega)) dL_law_350 353 rfl ?_
  show V p l e room_1 s m args below meth cd Q 9 H2 lo2 (kq + 1) (nq + 6) 353 [(7, .int (zI 0)), (6, .int (zI 1)), (5, .int (zI i)), (4, .ref (x + 340)), (3, .ref (x + 339)), (2, .ref (x + 334)), (1, .ref x), (0, .ref b)] [.int (zI 1)]
  refine v_iload X dL_law_353 355 rfl 1 rfl ?_
  refine v_icmp_eq X (by omega) (by omega) dL_law_355 358 360 rfl (by decide) (fun c_5 => ?_) (fun c_5 => ?_)
  · skip
    refine v_iload X dL_law_360 362 rfl 1 rfl ?_
    refine v_if_ne X (by omega) dL_law_362 365 377 rfl (by decide) (fun c_6 => ?_) (fun c_6 => ?_)
    · skip
      refine v_goto X dL_law_377 3555 (by decide) ?_
      refine v_widen (k' := kq + 60) (n' := nq + 4000) (by omega) (by omega) ?_
      exact V_pick [2, 3, 4, 5, 6, 7] rfl (kk _ _ hM ⟨hzl, _, _, _, _, _, _, _, _, _, _, _, _, _, _, _, _, _, _, _, _, _, _, _, _, _, _, _, _, ⟨h_cm, h_co, h_bf, h_sv, h_hi, h_hf, h_dk, h_se, h_pg, h_sb, h_sa, h_pr, h_ln, h_la, h_mo, h_out, h_outD⟩, (hP0.g2 hp_f_4)⟩)
    · skip
      exfalso; omega
  · skip
    exfalso; omega
set_option maxHeartbeats 4000000 in
set_option maxRecDepth 20000 in
theorem lo_charge_2 (hl : l.stackTraces = false) (X : CF p m cd code 9 s args RL) (hX : va_X b Lx xs s s.heap) (hbl : b < s.heap.size) (hLx : Lx ≤ 2560) (hM : MS E [] s H lo) (hk : kq + 60 ≤ 603072) (hn : nq + 4000 ≤ 7211113) (hx : s.heap.size ≤ x) (hzl : x + 341 ≤ H.size) {v : Nat} {N : Nat} {f : Int → Int} {nn : Int} {v2 : Nat} {N2 : Nat} {f2 : Int → Int} {n2 : Int} {co : Nat → Int → Int} {bf : Nat → Int → Int} {cv : Nat → Int → Int} {hc : Nat → Nat → Int → Int} {nx : Int} {sz : Int} {hs : Int} {er : Int} {fa : Int} {ss : Int} {dk : Nat → Int → Int} {se : Nat → Int → Int} {po : Int} {si : Int} {pr : Nat → Int → Int} {ml : Int} {ml2 : Int} {mo : Nat → Int → Int} {lg : Nat → Int64} {dg : Nat → UInt64} (hW : LawW E x v N f nn v2 N2 f2 n2 co bf cv hc nx sz hs er fa ss dk se po si pr ml ml2 mo lg dg H) (hP : LawP x v N f nn v2 N2 f2 n2 co cv hc nx sz hs er fa ss po si pr mo) (i0 : 0 ≤ i) (i1 : i + 5 ≤ (Lx : Int)) {a1 : Int} (ha1 : (xs (i + 1).toNat).toInt = a1) (ga1 : Rg a1) {a2 : Int} (ha2 : (xs (i + 2).toNat).toInt = a2) (ga2 : Rg a2) (q0 : flC co 0 a1 a2 0 = 4) (kk : ∀ (H1 : Heap) (lo1 : List Loc), MS E [] s H1 lo1 → LawI E x H1 → V p l e room_1 s m args below meth cd Q 9 H1 lo1 (kq + 60) (nq + 4000) 3555 [(5, .int (zI i)), (4, .ref (x + 340)), (3, .ref (x + 339)), (2, .ref (x + 334)), (1, .ref x), (0, .ref b)] []) : V p l e room_1 s m args below meth cd Q 9 H lo kq nq 312 [(5, .int (zI i)), (4, .ref (x + 340)), (3, .ref (x + 339)), (2, .ref (x + 334)), (1, .ref x), (0, .ref b)] [] := by
  obtain ⟨h_cm, h_co, h_bf, h_sv, h_hi, h_hf, h_dk, h_se, h_pg, h_sb, h_sa, h_pr, h_ln, h_la, h_mo, h_out, h_outD⟩ := hW
  have hP0 := hP
  obtain ⟨⟨hD, hDv, hDh⟩, ⟨hRM, hch, hcs⟩, ⟨⟨n0, n1⟩, ⟨s0, s1⟩, hhs⟩, ⟨hm8, hnn, hAg, hNN, hnN, hf9⟩, ⟨T, hSB, hLT, hn38⟩, hPB, ⟨her, hfa, hss, ger, gfa, gss, gms⟩, ⟨gpo, gsi⟩, ⟨hv1, hv2, hvv⟩⟩ := hP
  have hO := hD.inv.ok
  have hI := hD.inv.ts
  have hSt := hD.inv.st
  have hS := hD.inv.sn
  have hR := hRM.1.2
  have hG := gp_inv hD
  have hb0 := hO.b0
  have hbw := hO.bw
  have hbf : ¬ Fr [] s.heap.size b := fun z => z.elim (fun q => q.elim) (fun q => by omega)
  refine v_aload_n X dL_law_312 313 rfl 4 rfl ?_
  refine v_aload_n X dL_law_313 314 rfl 5 rfl ?_
  refine v_iload X dL_law_314 316 rfl 0 rfl ?_
  refine v_iconst X dL_law_316 317 rfl ?_
  refine v_iadd X dL_law_317 318 rfl ?_
  refine v_scr X hM hX hbl hbf (by omega) (by omega) hLx ha1 dL_law_318 319 rfl ?_
  refine v_aload_n X dL_law_319 320 rfl 5 rfl ?_
  refine v_iload X dL_law_320 322 rfl 0 rfl ?_
  refine v_iconst X dL_law_322 323 rfl ?_
  refine v_iadd X dL_law_323 324 rfl ?_
  refine v_scr X hM hX hbl hbf (by omega) (by omega) hLx ha2 dL_law_324 325 rfl ?_
  refine v_aload_n X dL_law_325 326 rfl 2 rfl ?_
  refine v_mwS X hM (w_X9_charge_4_t l hl E x co hs er fa ss a1 a2 (x + 339) lg hO ga1 ga2 q0) kwL_charge ksL_charge kl_L_190 (As := [.ref x, .int (zI a1), .int (zI a2), .ref (x + 339)]) rfl rfl (rm_lawW rfl (by omega) (by omega)) dL_law_326 329 rfl (k' := kq + 1) (n' := nq + 6) rfl rfl (fun q hq => hq.elim) ⟨h_cm, h_co, h_out⟩ (fun rv H1 lo1 hM hF hpo => ?_)
  subst hpo
  replace hzl := Nat.le_trans hzl hF.1
  replace h_cm := h_cm.kept hF 1 rfl (fun q _ _ h => h.elim)
  replace h_co := h_co.kept hF 28 rfl (fun q _ _ h => h.elim)
  replace h_bf := h_bf.kept hF 28 rfl (fun q _ _ h => h.elim)
  replace h_sv := h_sv.kept hF 28 rfl (fun q _ _ h => h.elim)
  replace h_hi := h_hi.kept hF 2 rfl (fun q _ _ h => h.elim)
  replace h_hf := h_hf.kept hF (fun q _ _ h => h.elim)
  replace h_dk := h_dk.kept hF 3 rfl (fun q _ _ h => h.elim)
  replace h_se := h_se.kept hF 5 rfl (fun q _ _ h => h.elim)
  replace h_pg := h_pg.kept hF 1 rfl (fun q _ _ h => h.elim)
  replace h_sb := h_sb.kept hF 1 rfl (fun q _ _ h => h.elim)
  replace h_sa := h_sa.kept hF 1 rfl (fun q _ _ h => h.elim)
  replace h_pr := h_pr.kept hF 10 rfl (fun q _ _ h => h.elim)
  replace h_ln := h_ln.kept hF 1 rfl (fun q _ _ h => h.elim)
  replace h_la := h_la.kept hF 1 rfl (fun q _ _ h => h.elim)
  replace h_mo := h_mo.kept hF 5 rfl (fun q _ _ h => h.elim)
  replace h_out := h_out.kept hF 1 rfl (fun q _ _ h => h.elim)
  replace h_outD := h_outD.kept hF 1 rfl (fun q _ _ h => h.elim)
  show V p l e room_1 s m args below meth cd Q 9 H1 lo1 (kq + 1) (nq + 6) 329 [(5, .int (zI i)), (4, .ref (x + 340)), (3, .ref (x + 339)), (2, .ref (x + 334)), (1, .ref x), (0, .ref b)] [.int (zI 2)]
  refine v_istore X dL_law_329 331 rfl (by decide) (L' := [(6, .int (zI 2)), (5, .int (zI i)), (4, .ref (x + 340)), (3, .ref (x + 339)), (2, .ref (x + 334)), (1, .ref x), (0, .ref b)]) rfl ?_
  refine v_aload_n X dL_law_331 332 rfl 4 rfl ?_
  refine v_aload_n X dL_law_332 333 rfl 6 rfl ?_
  refine v_iload X dL_law_333 335 rfl 1 rfl ?_
  refine v_iconst X dL_law_335 336 rfl ?_
  refine v_iadd X dL_law_336 337 rfl ?_
  refine v_scr X hM hX hbl hbf (by omega) (by omega) hLx ha1 dL_law_337 338 rfl ?_
  refine v_aload_n X dL_law_338 339 rfl 6 rfl ?_
  refine v_iload X dL_law_339 341 rfl 1 rfl ?_
  refine v_iconst X dL_law_341 342 rfl ?_
  refine v_iadd X dL_law_342 343 rfl ?_
  refine v_scr X hM hX hbl hbf (by omega) (by omega) hLx ha2 dL_law_343 344 rfl ?_
  refine v_muV X hM (h_mo.1) (c_X10_charge_f4 l E (x + 334) mo co cv hc nx sz hs a1 a2 hO hI hRM hch n0 n1 s0 s1 ga1 ga2 q0) kvX10_charge kiX10_charge kl_L_195 (q0 := 0) rfl rfl (As := [.int (zI a1), .int (zI a2)]) rfl rfl (rm_law rfl (by omega) (by omega)) dL_law_344 347 rfl (k' := kq + 1) (n' := nq + 6) rfl rfl (fsI (fun q q1 q2 => (Or.inr (by omega)))) h_mo (fun rv H2 lo2 hM hF hpo => ?_)
  obtain ⟨g2_3, rfl, hp_f_4, hw_0⟩ := hpo
  have h_mo : PR E (x + 334) (modelW E (x + 334) (updC (updC mo 0 (updZ (mo 0) 0 2)) 1 g2_3)) H2 := hw_0
  replace hzl := Nat.le_trans hzl hF.1
  replace h_cm := h_cm.kept hF 1 rfl (fsd (by omega))
  replace h_co := h_co.kept hF 28 rfl (fsd (by omega))
  replace h_bf := h_bf.kept hF 28 rfl (fsd (by omega))
  replace h_sv := h_sv.kept hF 28 rfl (fsd (by omega))
  replace h_hi := h_hi.kept hF 2 rfl (fsd (by omega))
  replace h_hf := h_hf.kept hF (fsd (by omega))
  replace h_dk := h_dk.kept hF 3 rfl (fsd (by omega))
  replace h_se := h_se.kept hF 5 rfl (fsd (by omega))
  replace h_pg := h_pg.kept hF 1 rfl (fsd (by omega))
  replace h_sb := h_sb.kept hF 1 rfl (fsd (by omega))
  replace h_sa := h_sa.kept hF 1 rfl (fsd (by omega))
  replace h_pr := h_pr.kept hF 10 rfl (fsd (by omega))
  replace h_ln := h_ln.kept hF 1 rfl (fsd (by omega))
  replace h_la := h_la.kept hF 1 rfl (fsd (by omega))
  replace h_out := h_out.kept hF 1 rfl (fsd (by omega))
  replace h_outD := h_outD.kept hF 1 rfl (fsd (by omega))
  show V p l e room_1 s m args below meth cd Q 9 H2 lo2 (kq + 1) (nq + 6) 347 [(6, .int (zI 2)), (5, .int (zI i)), (4, .ref (x + 340)), (3, .ref (x + 339)), (2, .ref (x + 334)), (1, .ref x), (0, .ref b)] [.int (zI 0)]
  refine v_istore X dL_law_347 349 rfl (by decide) (L' := [(7, .int (zI 0)), (6, .int (zI 2)), (5, .int (zI i)), (4, .ref (x + 340)), (3, .ref (x + 339)), (2, .ref (x + 334)), (1, .ref x), (0, .ref b)]) rfl ?_
  refine v_aload_n X dL_law_349 350 rfl 5 rfl ?_
  refine v_rdV X hM.C h_mo.1 (c_X10_thrown l E (x + 334) (updC (updC mo 0 (updZ (mo 0) 0 2)) 1 g2_3)) kvX10_thrown kiX10_thrown kl_L_196 rfl rfl (As := []) rfl rfl (rm_law0 rfl (by omega) (by omega)) dL_law_350 353 rfl ?_
  show V p l e room_1 s m args below meth cd Q 9 H2 lo2 (kq + 1) (nq + 6) 353 [(7, .int (zI 0)), (6, .int (zI 2)), (5, .int (zI i)), (4, .ref (x + 340)), (3, .ref (x + 339)), (2, .ref (x + 334)), (1, .ref x), (0, .ref b)] [.int (zI 2)]
  refine v_iload X dL_law_353 355 rfl 1 rfl ?_
  refine v_icmp_eq X (by omega) (by omega) dL_law_355 358 360 rfl (by decide) (fun c_5 => ?_) (fun c_5 => ?_)
  · skip
    refine v_iload X dL_law_360 362 rfl 1 rfl ?_
    refine v_if_ne X (by omega) dL_law_362 365 377 rfl (by decide) (fun c_6 => ?_) (fun c_6 => ?_)
    · skip
      refine v_goto X dL_law_377 3555 (by decide) ?_
      refine v_widen (k' := kq + 60) (n' := nq + 4000) (by omega) (by omega) ?_
      exact V_pick [2, 3, 4, 5, 6, 7] rfl (kk _ _ hM ⟨hzl, _, _, _, _, _, _, _, _, _, _, _, _, _, _, _, _, _, _, _, _, _, _, _, _, _, _, _, _, ⟨h_cm, h_co, h_bf, h_sv, h_hi, h_hf, h_dk, h_se, h_pg, h_sb, h_sa, h_pr, h_ln, h_la, h_mo, h_out, h_outD⟩, (hP0.g2 hp_f_4)⟩)
    · skip
      exfalso; omega
  · skip
    exfalso; omega
set_option maxHeartbeats 4000000 in
set_option maxRecDepth 20000 in
theorem lo_addWitness (hl : l.stackTraces = false) (X : CF p m cd code 9 s args RL) (hX : va_X b Lx xs s s.heap) (hbl : b < s.heap.size) (hLx : Lx ≤ 2560) (hM : MS E [] s H lo) (hk : kq + 60 ≤ 603072) (hn : nq + 4000 ≤ 7211113) (hx : s.heap.size ≤ x) (hzl : x + 341 ≤ H.size) {v : Nat} {N : Nat} {f : Int → Int} {nn : Int} {v2 : Nat} {N2 : Nat} {f2 : Int → Int} {n2 : Int} {co : Nat → Int → Int} {bf : Nat → Int → Int} {cv : Nat → Int → Int} {hc : Nat → Nat → Int → Int} {nx : Int} {sz : Int} {hs : Int} {er : Int} {fa : Int} {ss : Int} {dk : Nat → Int → Int} {se : Nat → Int → Int} {po : Int} {si : Int} {pr : Nat → Int → Int} {ml : Int} {ml2 : Int} {mo : Nat → Int → Int} {lg : Nat → Int64} {dg : Nat → UInt64} (hW : LawW E x v N f nn v2 N2 f2 n2 co bf cv hc nx sz hs er fa ss dk se po si pr ml ml2 mo lg dg H) (hP : LawP x v N f nn v2 N2 f2 n2 co cv hc nx sz hs er fa ss po si pr mo) (i0 : 0 ≤ i) (i1 : i + 5 ≤ (Lx : Int)) {a1 : Int} (ha1 : (xs (i + 1).toNat).toInt = a1) (ga1 : Rg a1) (q0 : flC co 1 a1 0 0 = 0) (kk : ∀ (H1 : Heap) (lo1 : List Loc), MS E [] s H1 lo1 → LawI E x H1 → V p l e room_1 s m args below meth cd Q 9 H1 lo1 (kq + 60) (nq + 4000) 3555 [(5, .int (zI i)), (4, .ref (x + 340)), (3, .ref (x + 339)), (2, .ref (x + 334)), (1, .ref x), (0, .ref b)] []) : V p l e room_1 s m args below meth cd Q 9 H lo kq nq 380 [(5, .int (zI i)), (4, .ref (x + 340)), (3, .ref (x + 339)), (2, .ref (x + 334)), (1, .ref x), (0, .ref b)] [] := by
  obtain ⟨h_cm, h_co, h_bf, h_sv, h_hi, h_hf, h_dk, h_se, h_pg, h_sb, h_sa, h_pr, h_ln, h_la, h_mo, h_out, h_outD⟩ := hW
  have hP0 := hP
  obtain ⟨⟨hD, hDv, hDh⟩, ⟨hRM, hch, hcs⟩, ⟨⟨n0, n1⟩, ⟨s0, s1⟩, hhs⟩, ⟨hm8, hnn, hAg, hNN, hnN, hf9⟩, ⟨T, hSB, hLT, hn38⟩, hPB, ⟨her, hfa, hss, ger, gfa, gss, gms⟩, ⟨gpo, gsi⟩, ⟨hv1, hv2, hvv⟩⟩ := hP
  have hO := hD.inv.ok
  have hI := hD.inv.ts
  have hSt := hD.inv.st
  have hS := hD.inv.sn
  have hR := hRM.1.2
  have hG := gp_inv hD
  have hb0 := hO.b0
  have hbw := hO.bw
  have hbf : ¬ Fr [] s.heap.size b := fun z => z.elim (fun q => q.elim) (fun q => by omega)
  have hD2 := op_inv hD (kd := 1) (a := a1) (b := 0) (f := 0) (z := 0) (by decide) q0
  refine v_aload_n X dL_law_380 381 rfl 4 rfl ?_
  refine v_aload_n X dL_law_381 382 rfl 5 rfl ?_
  refine v_iload X dL_law_382 384 rfl 0 rfl ?_
  refine v_iconst X dL_law_384 385 rfl ?_
  refine v_iadd X dL_law_385 386 rfl ?_
  refine v_scr X hM hX hbl hbf (by omega) (by omega) hLx ha1 dL_law_386 387 rfl ?_
  refine v_aload_n X dL_law_387 388 rfl 2 rfl ?_
  refine v_mwS X hM (w_X9_addWitness l hl E x co hs er fa ss a1 hc nx sz (x + 339) lg hO ga1 q0 n0 n1 s0 s1 (by omega) (by omega) (by omega) (by omega) (by omega) (by omega) (by omega) (by omega) (by omega) (by omega)) kwL_addWitness ksL_addWitness kl_L_199 (As := [.ref x, .int (zI a1), .ref (x + 339)]) rfl rfl (rm_lawW rfl (by omega) (by omega)) dL_law_388 391 rfl (k' := kq + 1) (n' := nq + 6) rfl rfl (by intro q hq; simp only [Fr, Fs, or_false, false_or] at hq ⊢; omega) ⟨h_cm, h_co, h_hi, h_hf, h_out⟩ (fun rv H1 lo1 hM hF hpo => ?_)
  obtain ⟨rfl, hw_0, hw_1, hw_2, hw_3⟩ := hpo
  have h_co : PR E (x + 1) (courtW E (x + 1) (opC co 1 a1 0 0 0)) H1 := hw_0
  have h_hi : PR E (x + 85) [(x + 85, .inr (7, [.ref (x + 86), .int (zI (if nx < 7 then nx + 1 else 0)), .int (zI (min (sz + 1) 8))])), (x + 86, .inl (E 102 3, 8, .inr (.inr (.inr (.inr (hisA (x + 87) 8))))))] H1 := hw_1
  have h_hf : HF E (x + 87) 8 (fun j => if j = nx.toNat then co else hc j) H1 := hw_2
  have h_out : PR E (x + 339) [(x + 339, .inl (E 102 4, 1, .inr (.inl (fun _ => zL (opV co 1 a1 0 0 0)))))] H1 := hw_3
  replace hzl := Nat.le_trans hzl hF.1
  replace h_cm := h_cm.kept hF 1 rfl (by intro q q1 q2 q3; simp only [Fs, or_false] at q3; omega)
  replace h_bf := h_bf.kept hF 28 rfl (by intro q q1 q2 q3; simp only [Fs, or_false] at q3; omega)
  replace h_sv := h_sv.kept hF 28 rfl (by intro q q1 q2 q3; simp only [Fs, or_false] at q3; omega)
  replace h_dk := h_dk.kept hF 3 rfl (by intro q q1 q2 q3; simp only [Fs, or_false] at q3; omega)
  replace h_se := h_se.kept hF 5 rfl (by intro q q1 q2 q3; simp only [Fs, or_false] at q3; omega)
  replace h_pg := h_pg.kept hF 1 rfl (by intro q q1 q2 q3; simp only [Fs, or_false] at q3; omega)
  replace h_sb := h_sb.kept hF 1 rfl (by intro q q1 q2 q3; simp only [Fs, or_false] at q3; omega)
  replace h_sa := h_sa.kept hF 1 rfl (by intro q q1 q2 q3; simp only [Fs, or_false] at q3; omega)
  replace h_pr := h_pr.kept hF 10 rfl (by intro q q1 q2 q3; simp only [Fs, or_false] at q3; omega)
  replace h_ln := h_ln.kept hF 1 rfl (by intro q q1 q2 q3; simp only [Fs, or_false] at q3; omega)
  replace h_la := h_la.kept hF 1 rfl (by intro q q1 q2 q3; simp only [Fs, or_false] at q3; omega)
  replace h_mo := h_mo.kept hF 5 rfl (by intro q q1 q2 q3; simp only [Fs, or_false] at q3; omega)
  replace h_outD := h_outD.kept hF 1 rfl (by intro q q1 q2 q3; simp only [Fs, or_false] at q3; omega)
  show V p l e room_1 s m args below meth cd Q 9 H1 lo1 (kq + 1) (nq + 6) 391 [(5, .int (zI i)), (4, .ref (x + 340)), (3, .ref (x + 339)), (2, .ref (x + 334)), (1, .ref x), (0, .ref b)] [.int (zI 0)]
  refine v_istore X dL_law_391 393 rfl (by decide) (L' := [(6, .int (zI 0)), (5, .int (zI i)), (4, .ref (x + 340)), (3, .ref (x + 339)), (2, .ref (x + 334)), (1, .ref x), (0, .ref b)]) rfl ?_
  refine v_aload_n X dL_law_393 394 rfl 4 rfl ?_
  refine v_aload_n X dL_law_394 395 rfl 6 rfl ?_
  refine v_iload X dL_law_395 397 rfl 1 rfl ?_
  refine v_iconst X dL_law_397 398 rfl ?_
  refine v_iadd X dL_law_398 399 rfl ?_
  refine v_scr X hM hX hbl hbf (by omega) (by omega) hLx ha1 dL_law_399 400 rfl ?_
  refine v_muV X hM (h_mo.1) (c_X10_addWitness_ok l E (x + 334) mo co cv hc nx sz hs a1 hO hI hRM hch n0 n1 s0 s1 ga1 q0 hD2.inv.ok) kvX10_addWitness kiX10_addWitness kl_L_202 (q0 := 0) rfl rfl (As := [.int (zI a1)]) rfl rfl (rm_law rfl (by omega) (by omega)) dL_law_400 403 rfl (k' := kq + 1) (n' := nq + 6) rfl rfl (fsI (fun q q1 q2 => (Or.inr (by omega)))) h_mo (fun rv H2 lo2 hM hF hpo => ?_)
  obtain ⟨g2_3, q4_4, rfl, hp_f_5, hw_0⟩ := hpo
  have h_mo : PR E (x + 334) (modelW E (x + 334) (updC (updC mo 0 (updZ (updZ (updZ (mo 0) 0 0) 2 (min (sz + 1) 8)) 4 q4_4)) 1 g2_3)) H2 := hw_0
  replace hzl := Nat.le_trans hzl hF.1
  replace h_cm := h_cm.kept hF 1 rfl (fsd (by omega))
  replace h_co := h_co.kept hF 28 rfl (fsd (by omega))
  replace h_bf := h_bf.kept hF 28 rfl (fsd (by omega))
  replace h_sv := h_sv.kept hF 28 rfl (fsd (by omega))
  replace h_hi := h_hi.kept hF 2 rfl (fsd (by omega))
  replace h_hf := h_hf.kept hF (fsd (by omega))
  replace h_dk := h_dk.kept hF 3 rfl (fsd (by omega))
  replace h_se := h_se.kept hF 5 rfl (fsd (by omega))
  replace h_pg := h_pg.kept hF 1 rfl (fsd (by omega))
  replace h_sb := h_sb.kept hF 1 rfl (fsd (by omega))
  replace h_sa := h_sa.kept hF 1 rfl (fsd (by omega))
  replace h_pr := h_pr.kept hF 10 rfl (fsd (by omega))
  replace h_ln := h_ln.kept hF 1 rfl (fsd (by omega))
  replace h_la := h_la.kept hF 1 rfl (fsd (by omega))
  replace h_out := h_out.kept hF 1 rfl (fsd (by omega))
  replace h_outD := h_outD.kept hF 1 rfl (fsd (by omega))
  show V p l e room_1 s m args below meth cd Q 9 H2 lo2 (kq + 1) (nq + 6) 403 [(6, .int (zI 0)), (5, .int (zI i)), (4, .ref (x + 340)), (3, .ref (x + 339)), (2, .ref (x + 334)), (1, .ref x), (0, .ref b)] [.int (zI (opV co 1 a1 0 0 0))]
  refine v_istore X dL_law_403 405 rfl (by decide) (L' := [(7, .int (zI (opV co 1 a1 0 0 0))), (6, .int (zI 0)), (5, .int (zI i)), (4, .ref (x + 340)), (3, .ref (x + 339)), (2, .ref (x + 334)), (1, .ref x), (0, .ref b)]) rfl ?_
  refine v_aload_n X dL_law_405 406 rfl 5 rfl ?_
  refine v_rdV X hM.C h_mo.1 (c_X10_thrown l E (x + 334) (updC (updC mo 0 (updZ (updZ (updZ (mo 0) 0 0) 2 (min (sz + 1) 8)) 4 q4_4)) 1 g2_3)) kvX10_thrown kiX10_thrown kl_L_196 rfl rfl (As := []) rfl rfl (rm_law0 rfl (by omega) (by omega)) dL_law_406 409 rfl ?_
  show V p l e room_1 s m args below meth cd Q 9 H2 lo2 (kq + 1) (nq + 6) 409 [(7, .int (zI (opV co 1 a1 0 0 0))), (6, .int (zI 0)), (5, .int (zI i)), (4, .ref (x + 340)), (3, .ref (x + 339)), (2, .ref (x + 334)), (1, .ref x), (0, .ref b)] [.int (zI 0)]
  refine v_iload X dL_law_409 411 rfl 1 rfl ?_
  refine v_icmp_eq X (by omega) (by omega) dL_law_411 414 416 rfl (by decide) (fun c_6 => ?_) (fun c_6 => ?_)
  · skip
    refine v_iload X dL_law_416 418 rfl 1 rfl ?_
    refine v_if_ne X (by omega) dL_law_418 421 433 rfl (by decide) (fun c_7 => ?_) (fun c_7 => ?_)
    · skip
      exfalso; omega
    · skip
      refine v_aload_n X dL_law_421 422 rfl 4 rfl ?_
      refine v_iconst X dL_law_422 423 rfl ?_
      refine v_lald X hM.C h_out.1 0 rfl dL_law_423 424 rfl ?_
      show V p l e room_1 s m args below meth cd Q 9 H2 lo2 (kq + 1) (nq + 6) 424 [(7, .int (zI (opV co 1 a1 0 0 0))), (6, .int (zI 0)), (5, .int (zI i)), (4, .ref (x + 340)), (3, .ref (x + 339)), (2, .ref (x + 334)), (1, .ref x), (0, .ref b)] [.long (zL (opV co 1 a1 0 0 0))]
      refine v_iload X dL_law_424 426 rfl 0 rfl ?_
      refine v_i2l X dL_law_426 427 rfl ?_
      refine v_lcmp0 X dL_law_427 428 rfl ?_
      refine v_if_eq X (by omega) dL_law_428 431 433 rfl (by decide) (fun c_8 => ?_) (fun c_8 => ?_)
      · skip
        refine v_goto X dL_law_433 3555 (by decide) ?_
        refine v_widen (k' := kq + 60) (n' := nq + 4000) (by omega) (by omega) ?_
        exact V_pick [2, 3, 4, 5, 6, 7] rfl (kk _ _ hM ⟨hzl, _, _, _, _, _, _, _, _, _, _, _, _, _, _, _, _, _, _, _, _, _, _, _, _, _, _, _, _, ⟨h_cm, h_co, h_bf, h_sv, h_hi, h_hf, h_dk, h_se, h_pg, h_sb, h_sa, h_pr, h_ln, h_la, h_mo, h_out, h_outD⟩, (hP0.push hD2 hp_f_5)⟩)
      · skip
        exfalso; omega
  · skip
    exfalso; omega
set_option maxHeartbeats 4000000 in
set_option maxRecDepth 20000 in
theorem lo_addWitness_1 (hl : l.stackTraces = false) (X : CF p m cd code 9 s args RL) (hX : va_X b Lx xs s s.heap) (hbl : b < s.heap.size) (hLx : Lx ≤ 2560) (hM : MS E [] s H lo) (hk : kq + 60 ≤ 603072) (hn : nq + 4000 ≤ 7211113) (hx : s.heap.size ≤ x) (hzl : x + 341 ≤ H.size) {v : Nat} {N : Nat} {f : Int → Int} {nn : Int} {v2 : Nat} {N2 : Nat} {f2 : Int → Int} {n2 : Int} {co : Nat → Int → Int} {bf : Nat → Int → Int} {cv : Nat → Int → Int} {hc : Nat → Nat → Int → Int} {nx : Int} {sz : Int} {hs : Int} {er : Int} {fa : Int} {ss : Int} {dk : Nat → Int → Int} {se : Nat → Int → Int} {po : Int} {si : Int} {pr : Nat → Int → Int} {ml : Int} {ml2 : Int} {mo : Nat → Int → Int} {lg : Nat → Int64} {dg : Nat → UInt64} (hW : LawW E x v N f nn v2 N2 f2 n2 co bf cv hc nx sz hs er fa ss dk se po si pr ml ml2 mo lg dg H) (hP : LawP x v N f nn v2 N2 f2 n2 co cv hc nx sz hs er fa ss po si pr mo) (i0 : 0 ≤ i) (i1 : i + 5 ≤ (Lx : Int)) {a1 : Int} (ha1 : (xs (i + 1).toNat).toInt = a1) (ga1 : Rg a1) (q0 : flC co 1 a1 0 0 = 2) (kk : ∀ (H1 : Heap) (lo1 : List Loc), MS E [] s H1 lo1 → LawI E x H1 → V p l e room_1 s m args below meth cd Q 9 H1 lo1 (kq + 60) (nq + 4000) 3555 [(5, .int (zI i)), (4, .ref (x + 340)), (3, .ref (x + 339)), (2, .ref (x + 334)), (1, .ref x), (0, .ref b)] []) : V p l e room_1 s m args below meth cd Q 9 H lo kq nq 380 [(5, .int (zI i)), (4, .ref (x + 340)), (3, .ref (x + 339)), (2, .ref (x + 334)), (1, .ref x), (0, .ref b)] [] := by
  obtain ⟨h_cm, h_co, h_bf, h_sv, h_hi, h_hf, h_dk, h_se, h_pg, h_sb, h_sa, h_pr, h_ln, h_la, h_mo, h_out, h_outD⟩ := hW
  have hP0 := hP
  obtain ⟨⟨hD, hDv, hDh⟩, ⟨hRM, hch, hcs⟩, ⟨⟨n0, n1⟩, ⟨s0, s1⟩, hhs⟩, ⟨hm8, hnn, hAg, hNN, hnN, hf9⟩, ⟨T, hSB, hLT, hn38⟩, hPB, ⟨her, hfa, hss, ger, gfa, gss, gms⟩, ⟨gpo, gsi⟩, ⟨hv1, hv2, hvv⟩⟩ := hP
  have hO := hD.inv.ok
  have hI := hD.inv.ts
  have hSt := hD.inv.st
  have hS := hD.inv.sn
  have hR := hRM.1.2
  have hG := gp_inv hD
  have hb0 := hO.b0
  have hbw := hO.bw
  have hbf : ¬ Fr [] s.heap.size b := fun z => z.elim (fun q => q.elim) (fun q => by omega)
  refine v_aload_n X dL_law_380 381 rfl 4 rfl ?_
  refine v_aload_n X dL_law_381 382 rfl 5 rfl ?_
  refine v_iload X dL_law_382 384 rfl 0 rfl ?_
  refine v_iconst X dL_law_384 385 rfl ?_
  refine v_iadd X dL_law_385 386 rfl ?_
  refine v_scr X hM hX hbl hbf (by omega) (by omega) hLx ha1 dL_law_386 387 rfl ?_
  refine v_aload_n X dL_law_387 388 rfl 2 rfl ?_
  refine v_mwS X hM (w_X9_addWitness_2_t l hl E x co hs er fa ss a1 (x + 339) lg hO ga1 q0) kwL_addWitness ksL_addWitness kl_L_199 (As := [.ref x, .int (zI a1), .ref (x + 339)]) rfl rfl (rm_lawW rfl (by omega) (by omega)) dL_law_388 391 rfl (k' := kq + 1) (n' := nq + 6) rfl rfl (fun q hq => hq.elim) ⟨h_cm, h_co, h_out⟩ (fun rv H1 lo1 hM hF hpo => ?_)
  subst hpo
  replace hzl := Nat.le_trans hzl hF.1
  replace h_cm := h_cm.kept hF 1 rfl (fun q _ _ h => h.elim)
  replace h_co := h_co.kept hF 28 rfl (fun q _ _ h => h.elim)
  replace h_bf := h_bf.kept hF 28 rfl (fun q _ _ h => h.elim)
  replace h_sv := h_sv.kept hF 28 rfl (fun q _ _ h => h.elim)
  replace h_hi := h_hi.kept hF 2 rfl (fun q _ _ h => h.elim)
  replace h_hf := h_hf.kept hF (fun q _ _ h => h.elim)
  replace h_dk := h_dk.kept hF 3 rfl (fun q _ _ h => h.elim)
  replace h_se := h_se.kept hF 5 rfl (fun q _ _ h => h.elim)
  replace h_pg := h_pg.kept hF 1 rfl (fun q _ _ h => h.elim)
  replace h_sb := h_sb.kept hF 1 rfl (fun q _ _ h => h.elim)
  replace h_sa := h_sa.kept hF 1 rfl (fun q _ _ h => h.elim)
  replace h_pr := h_pr.kept hF 10 rfl (fun q _ _ h => h.elim)
  replace h_ln := h_ln.kept hF 1 rfl (fun q _ _ h => h.elim)
  replace h_la := h_la.kept hF 1 rfl (fun q _ _ h => h.elim)
  replace h_mo := h_mo.kept hF 5 rfl (fun q _ _ h => h.elim)
  replace h_out := h_out.kept hF 1 rfl (fun q _ _ h => h.elim)
  replace h_outD := h_outD.kept hF 1 rfl (fun q _ _ h => h.elim)
  show V p l e room_1 s m args below meth cd Q 9 H1 lo1 (kq + 1) (nq + 6) 391 [(5, .int (zI i)), (4, .ref (x + 340)), (3, .ref (x + 339)), (2, .ref (x + 334)), (1, .ref x), (0, .ref b)] [.int (zI 1)]
  refine v_istore X dL_law_391 393 rfl (by decide) (L' := [(6, .int (zI 1)), (5, .int (zI i)), (4, .ref (x + 340)), (3, .ref (x + 339)), (2, .ref (x + 334)), (1, .ref x), (0, .ref b)]) rfl ?_
  refine v_aload_n X dL_law_393 394 rfl 4 rfl ?_
  refine v_aload_n X dL_law_394 395 rfl 6 rfl ?_
  refine v_iload X dL_law_395 397 rfl 1 rfl ?_
  refine v_iconst X dL_law_397 398 rfl ?_
  refine v_iadd X dL_law_398 399 rfl ?_
  refine v_scr X hM hX hbl hbf (by omega) (by omega) hLx ha1 dL_law_399 400 rfl ?_
  refine v_muV X hM (h_mo.1) (c_X10_addWitness_f2 l E (x + 334) mo co cv hc nx sz hs a1 hO hI hRM hch n0 n1 s0 s1 ga1 q0) kvX10_addWitness kiX10_addWitness kl_L_202 (q0 := 0) rfl rfl (As := [.int (zI a1)]) rfl rfl (rm_law rfl (by omega) (by omega)) dL_law_400 403 rfl (k' := kq + 1) (n' := nq + 6) rfl rfl (fsI (fun q q1 q2 => (Or.inr (by omega)))) h_mo (fun rv H2 lo2 hM hF hpo => ?_)
  obtain ⟨g2_3, rfl, hp_f_4, hw_0⟩ := hpo
  have h_mo : PR E (x + 334) (modelW E (x + 334) (updC (updC mo 0 (updZ (mo 0) 0 1)) 1 g2_3)) H2 := hw_0
  replace hzl := Nat.le_trans hzl hF.1
  replace h_cm := h_cm.kept hF 1 rfl (fsd (by omega))
  replace h_co := h_co.kept hF 28 rfl (fsd (by omega))
  replace h_bf := h_bf.kept hF 28 rfl (fsd (by omega))
  replace h_sv := h_sv.kept hF 28 rfl (fsd (by omega))
  replace h_hi := h_hi.kept hF 2 rfl (fsd (by omega))
  replace h_hf := h_hf.kept hF (fsd (by omega))
  replace h_dk := h_dk.kept hF 3 rfl (fsd (by omega))
  replace h_se := h_se.kept hF 5 rfl (fsd (by omega))
  replace h_pg := h_pg.kept hF 1 rfl (fsd (by omega))
  replace h_sb := h_sb.kept hF 1 rfl (fsd (by omega))
  replace h_sa := h_sa.kept hF 1 rfl (fsd (by omega))
  replace h_pr := h_pr.kept hF 10 rfl (fsd (by omega))
  replace h_ln := h_ln.kept hF 1 rfl (fsd (by omega))
  replace h_la := h_la.kept hF 1 rfl (fsd (by omega))
  replace h_out := h_out.kept hF 1 rfl (fsd (by omega))
  replace h_outD := h_outD.kept hF 1 rfl (fsd (by omega))
  show V p l e room_1 s m args below meth cd Q 9 H2 lo2 (kq + 1) (nq + 6) 403 [(6, .int (zI 1)), (5, .int (zI i)), (4, .ref (x + 340)), (3, .ref (x + 339)), (2, .ref (x + 334)), (1, .ref x), (0, .ref b)] [.int (zI 0)]
  refine v_istore X dL_law_403 405 rfl (by decide) (L' := [(7, .int (zI 0)), (6, .int (zI 1)), (5, .int (zI i)), (4, .ref (x + 340)), (3, .ref (x + 339)), (2, .ref (x + 334)), (1, .ref x), (0, .ref b)]) rfl ?_
  refine v_aload_n X dL_law_405 406 rfl 5 rfl ?_
  refine v_rdV X hM.C h_mo.1 (c_X10_thrown l E (x + 334) (updC (updC mo 0 (updZ (mo 0) 0 1)) 1 g2_3)) kvX10_thrown kiX10_thrown kl_L_196 rfl rfl (As := []) rfl rfl (rm_law0 rfl (by omega) (by omega)) dL_law_406 409 rfl ?_
  show V p l e room_1 s m args below meth cd Q 9 H2 lo2 (kq + 1) (nq + 6) 409 [(7, .int (zI 0)), (6, .int (zI 1)), (5, .int (zI i)), (4, .ref (x + 340)), (3, .ref (x + 339)), (2, .ref (x + 334)), (1, .ref x), (0, .ref b)] [.int (zI 1)]
  refine v_iload X dL_law_409 411 rfl 1 rfl ?_
  refine v_icmp_eq X (by omega) (by omega) dL_law_411 414 416 rfl (by decide) (fun c_5 => ?_) (fun c_5 => ?_)
  · skip
    refine v_iload X dL_law_416 418 rfl 1 rfl ?_
    refine v_if_ne X (by omega) dL_law_418 421 433 rfl (by decide) (fun c_6 => ?_) (fun c_6 => ?_)
    · skip
      refine v_goto X dL_law_433 3555 (by decide) ?_
      refine v_widen (k' := kq + 60) (n' := nq + 4000) (by omega) (by omega) ?_
      exact V_pick [2, 3, 4, 5, 6, 7] rfl (kk _ _ hM ⟨hzl, _, _, _, _, _, _, _, _, _, _, _, _, _, _, _, _, _, _, _, _, _, _, _, _, _, _, _, _, ⟨h_cm, h_co, h_bf, h_sv, h_hi, h_hf, h_dk, h_se, h_pg, h_sb, h_sa, h_pr, h_ln, h_la, h_mo, h_out, h_outD⟩, (hP0.g2 hp_f_4)⟩)
    · skip
      exfalso; omega
  · skip
    exfalso; omega
set_option maxHeartbeats 4000000 in
set_option maxRecDepth 20000 in
theorem lo_addWitness_2 (hl : l.stackTraces = false) (X : CF p m cd code 9 s args RL) (hX : va_X b Lx xs s s.heap) (hbl : b < s.heap.size) (hLx : Lx ≤ 2560) (hM : MS E [] s H lo) (hk : kq + 60 ≤ 603072) (hn : nq + 4000 ≤ 7211113) (hx : s.heap.size ≤ x) (hzl : x + 341 ≤ H.size) {v : Nat} {N : Nat} {f : Int → Int} {nn : Int} {v2 : Nat} {N2 : Nat} {f2 : Int → Int} {n2 : Int} {co : Nat → Int → Int} {bf : Nat → Int → Int} {cv : Nat → Int → Int} {hc : Nat → Nat → Int → Int} {nx : Int} {sz : Int} {hs : Int} {er : Int} {fa : Int} {ss : Int} {dk : Nat → Int → Int} {se : Nat → Int → Int} {po : Int} {si : Int} {pr : Nat → Int → Int} {ml : Int} {ml2 : Int} {mo : Nat → Int → Int} {lg : Nat → Int64} {dg : Nat → UInt64} (hW : LawW E x v N f nn v2 N2 f2 n2 co bf cv hc nx sz hs er fa ss dk se po si pr ml ml2 mo lg dg H) (hP : LawP x v N f nn v2 N2 f2 n2 co cv hc nx sz hs er fa ss po si pr mo) (i0 : 0 ≤ i) (i1 : i + 5 ≤ (Lx : Int)) {a1 : Int} (ha1 : (xs (i + 1).toNat).toInt = a1) (ga1 : Rg a1) (q0 : flC co 1 a1 0 0 = 4) (kk : ∀ (H1 : Heap) (lo1 : List Loc), MS E [] s H1 lo1 → LawI E x H1 → V p l e room_1 s m args below meth cd Q 9 H1 lo1 (kq + 60) (nq + 4000) 3555 [(5, .int (zI i)), (4, .ref (x + 340)), (3, .ref (x + 339)), (2, .ref (x + 334)), (1, .ref x), (0, .ref b)] []) : V p l e room_1 s m args below meth cd Q 9 H lo kq nq 380 [(5, .int (zI i)), (4, .ref (x + 340)), (3, .ref (x + 339)), (2, .ref (x + 334)), (1, .ref x), (0, .ref b)] [] := by
  obtain ⟨h_cm, h_co, h_bf, h_sv, h_hi, h_hf, h_dk, h_se, h_pg, h_sb, h_sa, h_pr, h_ln, h_la, h_mo, h_out, h_outD⟩ := hW
  have hP0 := hP
  obtain ⟨⟨hD, hDv, hDh⟩, ⟨hRM, hch, hcs⟩, ⟨⟨n0, n1⟩, ⟨s0, s1⟩, hhs⟩, ⟨hm8, hnn, hAg, hNN, hnN, hf9⟩, ⟨T, hSB, hLT, hn38⟩, hPB, ⟨her, hfa, hss, ger, gfa, gss, gms⟩, ⟨gpo, gsi⟩, ⟨hv1, hv2, hvv⟩⟩ := hP
  have hO := hD.inv.ok
  have hI := hD.inv.ts
  have hSt := hD.inv.st
  have hS := hD.inv.sn
  have hR := hRM.1.2
  have hG := gp_inv hD
  have hb0 := hO.b0
  have hbw := hO.bw
  have hbf : ¬ Fr [] s.heap.size b := fun z => z.elim (fun q => q.elim) (fun q => by omega)
  refine v_aload_n X dL_law_380 381 rfl 4 rfl ?_
  refine v_aload_n X dL_law_381 382 rfl 5 rfl ?_
  refine v_iload X dL_law_382 384 rfl 0 rfl ?_
  refine v_iconst X dL_law_384 385 rfl ?_
  refine v_iadd X dL_law_385 386 rfl ?_
  refine v_scr X hM hX hbl hbf (by omega) (by omega) hLx ha1 dL_law_386 387 rfl ?_
  refine v_aload_n X dL_law_387 388 rfl 2 rfl ?_
  refine v_mwS X hM (w_X9_addWitness_4_t l hl E x co hs er fa ss a1 (x + 339) lg hO ga1 q0) kwL_addWitness ksL_addWitness kl_L_199 (As := [.ref x, .int (zI a1), .ref (x + 339)]) rfl rfl (rm_lawW rfl (by omega) (by omega)) dL_law_388 391 rfl (k' := kq + 1) (n' := nq + 6) rfl rfl (fun q hq => hq.elim) ⟨h_cm, h_co, h_out⟩ (fun rv H1 lo1 hM hF hpo => ?_)
  subst hpo
  replace hzl := Nat.le_trans hzl hF.1
  replace h_cm := h_cm.kept hF 1 rfl (fun q _ _ h => h.elim)
  replace h_co := h_co.kept hF 28 rfl (fun q _ _ h => h.elim)
  replace h_bf := h_bf.kept hF 28 rfl (fun q _ _ h => h.elim)
  replace h_sv := h_sv.kept hF 28 rfl (fun q _ _ h => h.elim)
  replace h_hi := h_hi.kept hF 2 rfl (fun q _ _ h => h.elim)
  replace h_hf := h_hf.kept hF (fun q _ _ h => h.elim)
  replace h_dk := h_dk.kept hF 3 rfl (fun q _ _ h => h.elim)
  replace h_se := h_se.kept hF 5 rfl (fun q _ _ h => h.elim)
  replace h_pg := h_pg.kept hF 1 rfl (fun q _ _ h => h.elim)
  replace h_sb := h_sb.kept hF 1 rfl (fun q _ _ h => h.elim)
  replace h_sa := h_sa.kept hF 1 rfl (fun q _ _ h => h.elim)
  replace h_pr := h_pr.kept hF 10 rfl (fun q _ _ h => h.elim)
  replace h_ln := h_ln.kept hF 1 rfl (fun q _ _ h => h.elim)
  replace h_la := h_la.kept hF 1 rfl (fun q _ _ h => h.elim)
  replace h_mo := h_mo.kept hF 5 rfl (fun q _ _ h => h.elim)
  replace h_out := h_out.kept hF 1 rfl (fun q _ _ h => h.elim)
  replace h_outD := h_outD.kept hF 1 rfl (fun q _ _ h => h.elim)
  show V p l e room_1 s m args below meth cd Q 9 H1 lo1 (kq + 1) (nq + 6) 391 [(5, .int (zI i)), (4, .ref (x + 340)), (3, .ref (x + 339)), (2, .ref (x + 334)), (1, .ref x), (0, .ref b)] [.int (zI 2)]
  refine v_istore X dL_law_391 393 rfl (by decide) (L' := [(6, .int (zI 2)), (5, .int (zI i)), (4, .ref (x + 340)), (3, .ref (x + 339)), (2, .ref (x + 334)), (1, .ref x), (0, .ref b)]) rfl ?_
  refine v_aload_n X dL_law_393 394 rfl 4 rfl ?_
  refine v_aload_n X dL_law_394 395 rfl 6 rfl ?_
  refine v_iload X dL_law_395 397 rfl 1 rfl ?_
  refine v_iconst X dL_law_397 398 rfl ?_
  refine v_iadd X dL_law_398 399 rfl ?_
  refine v_scr X hM hX hbl hbf (by omega) (by omega) hLx ha1 dL_law_399 400 rfl ?_
  refine v_muV X hM (h_mo.1) (c_X10_addWitness_f4 l E (x + 334) mo co cv hc nx sz hs a1 hO hI hRM hch n0 n1 s0 s1 ga1 q0) kvX10_addWitness kiX10_addWitness kl_L_202 (q0 := 0) rfl rfl (As := [.int (zI a1)]) rfl rfl (rm_law rfl (by omega) (by omega)) dL_law_400 403 rfl (k' := kq + 1) (n' := nq + 6) rfl rfl (fsI (fun q q1 q2 => (Or.inr (by omega)))) h_mo (fun rv H2 lo2 hM hF hpo => ?_)
  obtain ⟨g2_3, rfl, hp_f_4, hw_0⟩ := hpo
  have h_mo : PR E (x + 334) (modelW E (x + 334) (updC (updC mo 0 (updZ (mo 0) 0 2)) 1 g2_3)) H2 := hw_0
  replace hzl := Nat.le_trans hzl hF.1
  replace h_cm := h_cm.kept hF 1 rfl (fsd (by omega))
  replace h_co := h_co.kept hF 28 rfl (fsd (by omega))
  replace h_bf := h_bf.kept hF 28 rfl (fsd (by omega))
  replace h_sv := h_sv.kept hF 28 rfl (fsd (by omega))
  replace h_hi := h_hi.kept hF 2 rfl (fsd (by omega))
  replace h_hf := h_hf.kept hF (fsd (by omega))
  replace h_dk := h_dk.kept hF 3 rfl (fsd (by omega))
  replace h_se := h_se.kept hF 5 rfl (fsd (by omega))
  replace h_pg := h_pg.kept hF 1 rfl (fsd (by omega))
  replace h_sb := h_sb.kept hF 1 rfl (fsd (by omega))
  replace h_sa := h_sa.kept hF 1 rfl (fsd (by omega))
  replace h_pr := h_pr.kept hF 10 rfl (fsd (by omega))
  replace h_ln := h_ln.kept hF 1 rfl (fsd (by omega))
  replace h_la := h_la.kept hF 1 rfl (fsd (by omega))
  replace h_out := h_out.kept hF 1 rfl (fsd (by omega))
  replace h_outD := h_outD.kept hF 1 rfl (fsd (by omega))
  show V p l e room_1 s m args below meth cd Q 9 H2 lo2 (kq + 1) (nq + 6) 403 [(6, .int (zI 2)), (5, .int (zI i)), (4, .ref (x + 340)), (3, .ref (x + 339)), (2, .ref (x + 334)), (1, .ref x), (0, .ref b)] [.int (zI 0)]
  refine v_istore X dL_law_403 405 rfl (by decide) (L' := [(7, .int (zI 0)), (6, .int (zI 2)), (5, .int (zI i)), (4, .ref (x + 340)), (3, .ref (x + 339)), (2, .ref (x + 334)), (1, .ref x), (0, .ref b)]) rfl ?_
  refine v_aload_n X dL_law_405 406 rfl 5 rfl ?_
  refine v_rdV X hM.C h_mo.1 (c_X10_thrown l E (x + 334) (updC (updC mo 0 (updZ (mo 0) 0 2)) 1 g2_3)) kvX10_thrown kiX10_thrown kl_L_196 rfl rfl (As := []) rfl rfl (rm_law0 rfl (by omega) (by omega)) dL_law_406 409 rfl ?_
  show V p l e room_1 s m args below meth cd Q 9 H2 lo2 (kq + 1) (nq + 6) 409 [(7, .int (zI 0)), (6, .int (zI 2)), (5, .int (zI i)), (4, .ref (x + 340)), (3, .ref (x + 339)), (2, .ref (x + 334)), (1, .ref x), (0, .ref b)] [.int (zI 2)]
  refine v_iload X dL_law_409 411 rfl 1 rfl ?_
  refine v_icmp_eq X (by omega) (by omega) dL_law_411 414 416 rfl (by decide) (fun c_5 => ?_) (fun c_5 => ?_)
  · skip
    refine v_iload X dL_law_416 418 rfl 1 rfl ?_
    refine v_if_ne X (by omega) dL_law_418 421 433 rfl (by decide) (fun c_6 => ?_) (fun c_6 => ?_)
    · skip
      refine v_goto X dL_law_433 3555 (by decide) ?_
      refine v_widen (k' := kq + 60) (n' := nq + 4000) (by omega) (by omega) ?_
      exact V_pick [2, 3, 4, 5, 6, 7] rfl (kk _ _ hM ⟨hzl, _, _, _, _, _, _, _, _, _, _, _, _, _, _, _, _, _, _, _, _, _, _, _, _, _, _, _, _, ⟨h_cm, h_co, h_bf, h_sv, h_hi, h_hf, h_dk, h_se, h_pg, h_sb, h_sa, h_pr, h_ln, h_la, h_mo, h_out, h_outD⟩, (hP0.g2 hp_f_4)⟩)
    · skip
      exfalso; omega
  · skip
    exfalso; omega
set_option maxHeartbeats 4000000 in
set_option maxRecDepth 20000 in
theorem lo_decide (hl : l.stackTraces = false) (X : CF p m cd code 9 s args RL) (hX : va_X b Lx xs s s.heap) (hbl : b < s.heap.size) (hLx : Lx ≤ 2560) (hM : MS E [] s H lo) (hk : kq + 60 ≤ 603072) (hn : nq + 4000 ≤ 7211113) (hx : s.heap.size ≤ x) (hzl : x + 341 ≤ H.size) {v : Nat} {N : Nat} {f : Int → Int} {nn : Int} {v2 : Nat} {N2 : Nat} {f2 : Int → Int} {n2 : Int} {co : Nat → Int → Int} {bf : Nat → Int → Int} {cv : Nat → Int → Int} {hc : Nat → Nat → Int → Int} {nx : Int} {sz : Int} {hs : Int} {er : Int} {fa : Int} {ss : Int} {dk : Nat → Int → Int} {se : Nat → Int → Int} {po : Int} {si : Int} {pr : Nat → Int → Int} {ml : Int} {ml2 : Int} {mo : Nat → Int → Int} {lg : Nat → Int64} {dg : Nat → UInt64} (hW : LawW E x v N f nn v2 N2 f2 n2 co bf cv hc nx sz hs er fa ss dk se po si pr ml ml2 mo lg dg H) (hP : LawP x v N f nn v2 N2 f2 n2 co cv hc nx sz hs er fa ss po si pr mo) (i0 : 0 ≤ i) (i1 : i + 5 ≤ (Lx : Int)) {a1 : Int} (ha1 : (xs (i + 1).toNat).toInt = a1) (ga1 : Rg a1) (q0 : flC co 4 a1 0 0 = 0) (kk : ∀ (H1 : Heap) (lo1 : List Loc), MS E [] s H1 lo1 → LawI E x H1 → V p l e room_1 s m args below meth cd Q 9 H1 lo1 (kq + 60) (nq + 4000) 3555 [(5, .int (zI i)), (4, .ref (x + 340)), (3, .ref (x + 339)), (2, .ref (x + 334)), (1, .ref x), (0, .ref b)] []) : V p l e room_1 s m args below meth cd Q 9 H lo kq nq 640 [(5, .int (zI i)), (4, .ref (x + 340)), (3, .ref (x + 339)), (2, .ref (x + 334)), (1, .ref x), (0, .ref b)] [] := by
  obtain ⟨h_cm, h_co, h_bf, h_sv, h_hi, h_hf, h_dk, h_se, h_pg, h_sb, h_sa, h_pr, h_ln, h_la, h_mo, h_out, h_outD⟩ := hW
  have hP0 := hP
  obtain ⟨⟨hD, hDv, hDh⟩, ⟨hRM, hch, hcs⟩, ⟨⟨n0, n1⟩, ⟨s0, s1⟩, hhs⟩, ⟨hm8, hnn, hAg, hNN, hnN, hf9⟩, ⟨T, hSB, hLT, hn38⟩, hPB, ⟨her, hfa, hss, ger, gfa, gss, gms⟩, ⟨gpo, gsi⟩, ⟨hv1, hv2, hvv⟩⟩ := hP
  have hO := hD.inv.ok
  have hI := hD.inv.ts
  have hSt := hD.inv.st
  have hS := hD.inv.sn
  have hR := hRM.1.2
  have hG := gp_inv hD
  have hb0 := hO.b0
  have hbw := hO.bw
  have hbf : ¬ Fr [] s.heap.size b := fun z => z.elim (fun q => q.elim) (fun q => by omega)
  have hD2 := op_inv hD (kd := 4) (a := a1) (b := 0) (f := 0) (z := 0) (by decide) q0
  refine v_aload_n X dL_law_640 641 rfl 4 rfl ?_
  refine v_aload_n X dL_law_641 642 rfl 5 rfl ?_
  refine v_iload X dL_law_642 644 rfl 0 rfl ?_
  refine v_iconst X dL_law_644 645 rfl ?_
  refine v_iadd X dL_law_645 646 rfl ?_
  refine v_scr X hM hX hbl hbf (by omega) (by omega) hLx ha1 dL_law_646 647 rfl ?_
  refine v_aload_n X dL_law_647 648 rfl 2 rfl ?_
  refine v_mwS X hM (w_X9_decide l hl E x co hs er fa ss a1 hc nx sz (x + 339) lg hO ga1 q0 n0 n1 s0 s1 (by omega) (by omega) (by omega) (by omega) (by omega) (by omega) (by omega) (by omega) (by omega) (by omega)) kwL_decide ksL_decide kl_L_211 (As := [.ref x, .int (zI a1), .ref (x + 339)]) rfl rfl (rm_lawW rfl (by omega) (by omega)) dL_law_648 651 rfl (k' := kq + 1) (n' := nq + 6) rfl rfl (by intro q hq; simp only [Fr, Fs, or_false, false_or] at hq ⊢; omega) ⟨h_cm, h_co, h_hi, h_hf, h_out⟩ (fun rv H1 lo1 hM hF hpo => ?_)
  obtain ⟨rfl, hw_0, hw_1, hw_2, hw_3⟩ := hpo
  have h_co : PR E (x + 1) (courtW E (x + 1) (opC co 4 a1 0 0 0)) H1 := hw_0
  have h_hi : PR E (x + 85) [(x + 85, .inr (7, [.ref (x + 86), .int (zI (if nx < 7 then nx + 1 else 0)), .int (zI (min (sz + 1) 8))])), (x + 86, .inl (E 102 3, 8, .inr (.inr (.inr (.inr (hisA (x + 87) 8))))))] H1 := hw_1
  have h_hf : HF E (x + 87) 8 (fun j => if j = nx.toNat then co else hc j) H1 := hw_2
  have h_out : PR E (x + 339) [(x + 339, .inl (E 102 4, 1, .inr (.inl (fun _ => zL (bz (¬ opV co 4 a1 0 0 0 = 0))))))] H1 := hw_3
  replace hzl := Nat.le_trans hzl hF.1
  replace h_cm := h_cm.kept hF 1 rfl (by intro q q1 q2 q3; simp only [Fs, or_false] at q3; omega)
  replace h_bf := h_bf.kept hF 28 rfl (by intro q q1 q2 q3; simp only [Fs, or_false] at q3; omega)
  replace h_sv := h_sv.kept hF 28 rfl (by intro q q1 q2 q3; simp only [Fs, or_false] at q3; omega)
  replace h_dk := h_dk.kept hF 3 rfl (by intro q q1 q2 q3; simp only [Fs, or_false] at q3; omega)
  replace h_se := h_se.kept hF 5 rfl (by intro q q1 q2 q3; simp only [Fs, or_false] at q3; omega)
  replace h_pg := h_pg.kept hF 1 rfl (by intro q q1 q2 q3; simp only [Fs, or_false] at q3; omega)
  replace h_sb := h_sb.kept hF 1 rfl (by intro q q1 q2 q3; simp only [Fs, or_false] at q3; omega)
  replace h_sa := h_sa.kept hF 1 rfl (by intro q q1 q2 q3; simp only [Fs, or_false] at q3; omega)
  replace h_pr := h_pr.kept hF 10 rfl (by intro q q1 q2 q3; simp only [Fs, or_false] at q3; omega)
  replace h_ln := h_ln.kept hF 1 rfl (by intro q q1 q2 q3; simp only [Fs, or_false] at q3; omega)
  replace h_la := h_la.kept hF 1 rfl (by intro q q1 q2 q3; simp only [Fs, or_false] at q3; omega)
  replace h_mo := h_mo.kept hF 5 rfl (by intro q q1 q2 q3; simp only [Fs, or_false] at q3; omega)
  replace h_outD := h_outD.kept hF 1 rfl (by intro q q1 q2 q3; simp only [Fs, or_false] at q3; omega)
  show V p l e room_1 s m args below meth cd Q 9 H1 lo1 (kq + 1) (nq + 6) 651 [(5, .int (zI i)), (4, .ref (x + 340)), (3, .ref (x + 339)), (2, .ref (x + 334)), (1, .ref x), (0, .ref b)] [.int (zI 0)]
  refine v_istore X dL_law_651 653 rfl (by decide) (L' := [(6, .int (zI 0)), (5, .int (zI i)), (4, .ref (x + 340)), (3, .ref (x + 339)), (2, .ref (x + 334)), (1, .ref x), (0, .ref b)]) rfl ?_
  refine v_aload_n X dL_law_653 654 rfl 4 rfl ?_
  refine v_aload_n X dL_law_654 655 rfl 6 rfl ?_
  refine v_iload X dL_law_655 657 rfl 1 rfl ?_
  refine v_iconst X dL_law_657 658 rfl ?_
  refine v_iadd X dL_law_658 659 rfl ?_
  refine v_scr X hM hX hbl hbf (by omega) (by omega) hLx ha1 dL_law_659 660 rfl ?_
  refine v_muV X hM (h_mo.1) (c_X10_decide_ok l E (x + 334) mo co cv hc nx sz hs a1 hO hI hRM hch n0 n1 s0 s1 ga1 q0 hD2.inv.ok) kvX10_decide kiX10_decide kl_L_213 (q0 := 0) rfl rfl (As := [.int (zI a1)]) rfl rfl (rm_law rfl (by omega) (by omega)) dL_law_660 663 rfl (k' := kq + 1) (n' := nq + 6) rfl rfl (fsI (fun q q1 q2 => (Or.inr (by omega)))) h_mo (fun rv H2 lo2 hM hF hpo => ?_)
  obtain ⟨g2_3, q4_4, rfl, hp_f_5, hw_0⟩ := hpo
  have h_mo : PR E (x + 334) (modelW E (x + 334) (updC (updC mo 0 (updZ (updZ (updZ (mo 0) 0 0) 2 (min (sz + 1) 8)) 4 q4_4)) 1 g2_3)) H2 := hw_0
  replace hzl := Nat.le_trans hzl hF.1
  replace h_cm := h_cm.kept hF 1 rfl (fsd (by omega))
  replace h_co := h_co.kept hF 28 rfl (fsd (by omega))
  replace h_bf := h_bf.kept hF 28 rfl (fsd (by omega))
  replace h_sv := h_sv.kept hF 28 rfl (fsd (by omega))
  replace h_hi := h_hi.kept hF 2 rfl (fsd (by omega))
  replace h_hf := h_hf.kept hF (fsd (by omega))
  replace h_dk := h_dk.kept hF 3 rfl (fsd (by omega))
  replace h_se := h_se.kept hF 5 rfl (fsd (by omega))
  replace h_pg := h_pg.kept hF 1 rfl (fsd (by omega))
  replace h_sb := h_sb.kept hF 1 rfl (fsd (by omega))
  replace h_sa := h_sa.kept hF 1 rfl (fsd (by omega))
  replace h_pr := h_pr.kept hF 10 rfl (fsd (by omega))
  replace h_ln := h_ln.kept hF 1 rfl (fsd (by omega))
  replace h_la := h_la.kept hF 1 rfl (fsd (by omega))
  replace h_out := h_out.kept hF 1 rfl (fsd (by omega))
  replace h_outD := h_outD.kept hF 1 rfl (fsd (by omega))
  show V p l e room_1 s m args below meth cd Q 9 H2 lo2 (kq + 1) (nq + 6) 663 [(6, .int (zI 0)), (5, .int (zI i)), (4, .ref (x + 340)), (3, .ref (x + 339)), (2, .ref (x + 334)), (1, .ref x), (0, .ref b)] [.int (zI (bz (¬ opV co 4 a1 0 0 0 = 0)))]
  refine v_istore X dL_law_663 665 rfl (by decide) (L' := [(7, .int (zI (bz (¬ opV co 4 a1 0 0 0 = 0)))), (6, .int (zI 0)), (5, .int (zI i)), (4, .ref (x + 340)), (3, .ref (x + 339)), (2, .ref (x + 334)), (1, .ref x), (0, .ref b)]) rfl ?_
  refine v_aload_n X dL_law_665 666 rfl 5 rfl ?_
  refine v_rdV X hM.C h_mo.1 (c_X10_thrown l E (x + 334) (updC (updC mo 0 (updZ (updZ (updZ (mo 0) 0 0) 2 (min (sz + 1) 8)) 4 q4_4)) 1 g2_3)) kvX10_thrown kiX10_thrown kl_L_196 rfl rfl (As := []) rfl rfl (rm_law0 rfl (by omega) (by omega)) dL_law_666 669 rfl ?_
  show V p l e room_1 s m args below meth cd Q 9 H2 lo2 (kq + 1) (nq + 6) 669 [(7, .int (zI (bz (¬ opV co 4 a1 0 0 0 = 0)))), (6, .int (zI 0)), (5, .int (zI i)), (4, .ref (x + 340)), (3, .ref (x + 339)), (2, .ref (x + 334)), (1, .ref x), (0, .ref b)] [.int (zI 0)]
  refine v_iload X dL_law_669 671 rfl 1 rfl ?_
  refine v_icmp_eq X (by omega) (by omega) dL_law_671 674 676 rfl (by decide) (fun c_6 => ?_) (fun c_6 => ?_)
  · skip
    refine v_iload X dL_law_676 678 rfl 1 rfl ?_
    refine v_if_ne X (by omega) dL_law_678 681 700 rfl (by decide) (fun c_7 => ?_) (fun c_7 => ?_)
    · skip
      exfalso; omega
    · skip
      refine v_aload_n X dL_law_681 682 rfl 4 rfl ?_
      refine v_iconst X dL_law_682 683 rfl ?_
      refine v_lald X hM.C h_out.1 0 rfl dL_law_683 684 rfl ?_
      show V p l e room_1 s m args below meth cd Q 9 H2 lo2 (kq + 1) (nq + 6) 684 [(7, .int (zI (bz (¬ opV co 4 a1 0 0 0 = 0)))), (6, .int (zI 0)), (5, .int (zI i)), (4, .ref (x + 340)), (3, .ref (x + 339)), (2, .ref (x + 334)), (1, .ref x), (0, .ref b)] [.long (zL (bz (¬ opV co 4 a1 0 0 0 = 0)))]
      refine v_iload X dL_law_684 686 rfl 0 rfl ?_
      refine v_bif_eq X dL_law_686 689 693 rfl (by decide) (fun c_8 => ?_) (fun c_8 => ?_)
      · skip
        refine v_lconst 0 X dL_law_693 rfl 694 rfl ?_
        refine V_S (st' := [.long (zL 0), .long (zL 0)]) (by rw [show (bz (¬ opV co 4 a1 0 0 0 = 0) : Int) = 0 from bz_f (by first | assumption | omega)]) ?_
        refine v_lcmp0 X dL_law_694 695 rfl ?_
        refine v_if_eq X (by omega) dL_law_695 698 700 rfl (by decide) (fun c_9 => ?_) (fun c_9 => ?_)
        · skip
          refine v_goto X dL_law_700 3555 (by decide) ?_
          refine v_widen (k' := kq + 60) (n' := nq + 4000) (by omega) (by omega) ?_
          exact V_pick [2, 3, 4, 5, 6, 7] rfl (kk _ _ hM ⟨hzl, _, _, _, _, _, _, _, _, _, _, _, _, _, _, _, _, _, _, _, _, _, _, _, _, _, _, _, _, ⟨h_cm, h_co, h_bf, h_sv, h_hi, h_hf, h_dk, h_se, h_pg, h_sb, h_sa, h_pr, h_ln, h_la, h_mo, h_out, h_outD⟩, (hP0.push hD2 hp_f_5)⟩)
        · skip
          exfalso; omega
      · skip
        refine v_lconst 1 X dL_law_689 rfl 690 rfl ?_
        refine v_goto X dL_law_690 694 (by decide) ?_
        refine V_S (st' := [.long (zL 1), .long (zL 1)]) (by rw [show (bz (¬ opV co 4 a1 0 0 0 = 0) : Int) = 1 from bz_t (by first | assumption | omega)]) ?_
        refine v_lcmp0 X dL_law_694 695 rfl ?_
        refine v_if_eq X (by omega) dL_law_695 698 700 rfl (by decide) (fun c_10 => ?_) (fun c_10 => ?_)
        · skip
          refine v_goto X dL_law_700 3555 (by decide) ?_
          refine v_widen (k' := kq + 60) (n' := nq + 4000) (by omega) (by omega) ?_
          exact V_pick [2, 3, 4, 5, 6, 7] rfl (kk _ _ hM ⟨hzl, _, _, _, _, _, _, _, _, _, _, _, _, _, _, _, _, _, _, _, _, _, _, _, _, _, _, _, _, ⟨h_cm, h_co, h_bf, h_sv, h_hi, h_hf, h_dk, h_se, h_pg, h_sb, h_sa, h_pr, h_ln, h_la, h_mo, h_out, h_outD⟩, (hP0.push hD2 hp_f_5)⟩)
        · skip
          exfalso; omega
  · skip
    exfalso; omega
set_option maxHeartbeats 4000000 in
set_option maxRecDepth 20000 in
theorem lo_decide_1 (hl : l.stackTraces = false) (X : CF p m cd code 9 s args RL) (hX : va_X b Lx xs s s.heap) (hbl : b < s.heap.size) (hLx : Lx ≤ 2560) (hM : MS E [] s H lo) (hk : kq + 60 ≤ 603072) (hn : nq + 4000 ≤ 7211113) (hx : s.heap.size ≤ x) (hzl : x + 341 ≤ H.size) {v : Nat} {N : Nat} {f : Int → Int} {nn : Int} {v2 : Nat} {N2 : Nat} {f2 : Int → Int} {n2 : Int} {co : Nat → Int → Int} {bf : Nat → Int → Int} {cv : Nat → Int → Int} {hc : Nat → Nat → Int → Int} {nx : Int} {sz : Int} {hs : Int} {er : Int} {fa : Int} {ss : Int} {dk : Nat → Int → Int} {se : Nat → Int → Int} {po : Int} {si : Int} {pr : Nat → Int → Int} {ml : Int} {ml2 : Int} {mo : Nat → Int → Int} {lg : Nat → Int64} {dg : Nat → UInt64} (hW : LawW E x v N f nn v2 N2 f2 n2 co bf cv hc nx sz hs er fa ss dk se po si pr ml ml2 mo lg dg H) (hP : LawP x v N f nn v2 N2 f2 n2 co cv hc nx sz hs er fa ss po si pr mo) (i0 : 0 ≤ i) (i1 : i + 5 ≤ (Lx : Int)) {a1 : Int} (ha1 : (xs (i + 1).toNat).toInt = a1) (ga1 : Rg a1) (q0 : flC co 4 a1 0 0 = 1) (kk : ∀ (H1 : Heap) (lo1 : List Loc), MS E [] s H1 lo1 → LawI E x H1 → V p l e room_1 s m args below meth cd Q 9 H1 lo1 (kq + 60) (nq + 4000) 3555 [(5, .int (zI i)), (4, .ref (x + 340)), (3, .ref (x + 339)), (2, .ref (x + 334)), (1, .ref x), (0, .ref b)] []) : V p l e room_1 s m args below meth cd Q 9 H lo kq nq 640 [(5, .int (zI i)), (4, .ref (x + 340)), (3, .ref (x + 339)), (2, .ref (x + 334)), (1, .ref x), (0, .ref b)] [] := by
  obtain ⟨h_cm, h_co, h_bf, h_sv, h_hi, h_hf, h_dk, h_se, h_pg, h_sb, h_sa, h_pr, h_ln, h_la, h_mo, h_out, h_outD⟩ := hW
  have hP0 := hP
  obtain ⟨⟨hD, hDv, hDh⟩, ⟨hRM, hch, hcs⟩, ⟨⟨n0, n1⟩, ⟨s0, s1⟩, hhs⟩, ⟨hm8, hnn, hAg, hNN, hnN, hf9⟩, ⟨T, hSB, hLT, hn38⟩, hPB, ⟨her, hfa, hss, ger, gfa, gss, gms⟩, ⟨gpo, gsi⟩, ⟨hv1, hv2, hvv⟩⟩ := hP
  have hO := hD.inv.ok
  have hI := hD.inv.ts
  have hSt := hD.inv.st
  have hS := hD.inv.sn
  have hR := hRM.1.2
  have hG := gp_inv hD
  have hb0 := hO.b0
  have hbw := hO.bw
  have hbf : ¬ Fr [] s.heap.size b := fun z => z.elim (fun q => q.elim) (fun q => by omega)
  refine v_aload_n X dL_law_640 641 rfl 4 rfl ?_
  refine v_aload_n X dL_law_641 642 rfl 5 rfl ?_
  refine v_iload X dL_law_642 644 rfl 0 rfl ?_
  refine v_iconst X dL_law_644 645 rfl ?_
  refine v_iadd X dL_law_645 646 rfl ?_
  refine v_scr X hM hX hbl hbf (by omega) (by omega) hLx ha1 dL_law_646 647 rfl ?_
  refine v_aload_n X dL_law_647 648 rfl 2 rfl ?_
  refine v_mwS X hM (w_X9_decide_1_t l hl E x co hs er fa ss a1 (x + 339) lg hO ga1 q0) kwL_decide ksL_decide kl_L_211 (As := [.ref x, .int (zI a1), .ref (x + 339)]) rfl rfl (rm_lawW rfl (by omega) (by omega)) dL_law_648 651 rfl (k' := kq + 1) (n' := nq + 6) rfl rfl (fun q hq => hq.elim) ⟨h_cm, h_co, h_out⟩ (fun rv H1 lo1 hM hF hpo => ?_)
  subst hpo
  replace hzl := Nat.le_trans hzl hF.1
  replace h_cm := h_cm.kept hF 1 rfl (fun q _ _ h => h.elim)
  replace h_co := h_co.kept hF 28 rfl (fun q _ _ h => h.elim)
  replace h_bf := h_bf.kept hF 28 rfl (fun q _ _ h => h.elim)
  replace h_sv := h_sv.kept hF 28 rfl (fun q _ _ h => h.elim)
  replace h_hi := h_hi.kept hF 2 rfl (fun q _ _ h => h.elim)
  replace h_hf := h_hf.kept hF (fun q _ _ h => h.elim)
  replace h_dk := h_dk.kept hF 3 rfl (fun q _ _ h => h.elim)
  replace h_se := h_se.kept hF 5 rfl (fun q _ _ h => h.elim)
  replace h_pg := h_pg.kept hF 1 rfl (fun q _ _ h => h.elim)
  replace h_sb := h_sb.kept hF 1 rfl (fun q _ _ h => h.elim)
  replace h_sa := h_sa.kept hF 1 rfl (fun q _ _ h => h.elim)
  replace h_pr := h_pr.kept hF 10 rfl (fun q _ _ h => h.elim)
  replace h_ln := h_ln.kept hF 1 rfl (fun q _ _ h => h.elim)
  replace h_la := h_la.kept hF 1 rfl (fun q _ _ h => h.elim)
  replace h_mo := h_mo.kept hF 5 rfl (fun q _ _ h => h.elim)
  replace h_out := h_out.kept hF 1 rfl (fun q _ _ h => h.elim)
  replace h_outD := h_outD.kept hF 1 rfl (fun q _ _ h => h.elim)
  show V p l e room_1 s m args below meth cd Q 9 H1 lo1 (kq + 1) (nq + 6) 651 [(5, .int (zI i)), (4, .ref (x + 340)), (3, .ref (x + 339)), (2, .ref (x + 334)), (1, .ref x), (0, .ref b)] [.int (zI 1)]
  refine v_istore X dL_law_651 653 rfl (by decide) (L' := [(6, .int (zI 1)), (5, .int (zI i)), (4, .ref (x + 340)), (3, .ref (x + 339)), (2, .ref (x + 334)), (1, .ref x), (0, .ref b)]) rfl ?_
  refine v_aload_n X dL_law_653 654 rfl 4 rfl ?_
  refine v_aload_n X dL_law_654 655 rfl 6 rfl ?_
  refine v_iload X dL_law_655 657 rfl 1 rfl ?_
  refine v_iconst X dL_law_657 658 rfl ?_
  refine v_iadd X dL_law_658 659 rfl ?_
  refine v_scr X hM hX hbl hbf (by omega) (by omega) hLx ha1 dL_law_659 660 rfl ?_
  refine v_muV X hM (h_mo.1) (c_X10_decide_f1 l E (x + 334) mo co cv hc nx sz hs a1 hO hI hRM hch n0 n1 s0 s1 ga1 q0) kvX10_decide kiX10_decide kl_L_213 (q0 := 0) rfl rfl (As := [.int (zI a1)]) rfl rfl (rm_law rfl (by omega) (by omega)) dL_law_660 663 rfl (k' := kq + 1) (n' := nq + 6) rfl rfl (fsI (fun q q1 q2 => (Or.inr (by omega)))) h_mo (fun rv H2 lo2 hM hF hpo => ?_)
  obtain ⟨g2_3, rfl, hp_f_4, hw_0⟩ := hpo
  have h_mo : PR E (x + 334) (modelW E (x + 334) (updC (updC mo 0 (updZ (mo 0) 0 1)) 1 g2_3)) H2 := hw_0
  replace hzl := Nat.le_trans hzl hF.1
  replace h_cm := h_cm.kept hF 1 rfl (fsd (by omega))
  replace h_co := h_co.kept hF 28 rfl (fsd (by omega))
  replace h_bf := h_bf.kept hF 28 rfl (fsd (by omega))
  replace h_sv := h_sv.kept hF 28 rfl (fsd (by omega))
  replace h_hi := h_hi.kept hF 2 rfl (fsd (by omega))
  replace h_hf := h_hf.kept hF (fsd (by omega))
  replace h_dk := h_dk.kept hF 3 rfl (fsd (by omega))
  replace h_se := h_se.kept hF 5 rfl (fsd (by omega))
  replace h_pg := h_pg.kept hF 1 rfl (fsd (by omega))
  replace h_sb := h_sb.kept hF 1 rfl (fsd (by omega))
  replace h_sa := h_sa.kept hF 1 rfl (fsd (by omega))
  replace h_pr := h_pr.kept hF 10 rfl (fsd (by omega))
  replace h_ln := h_ln.kept hF 1 rfl (fsd (by omega))
  replace h_la := h_la.kept hF 1 rfl (fsd (by omega))
  replace h_out := h_out.kept hF 1 rfl (fsd (by omega))
  replace h_outD := h_outD.kept hF 1 rfl (fsd (by omega))
  show V p l e room_1 s m args below meth cd Q 9 H2 lo2 (kq + 1) (nq + 6) 663 [(6, .int (zI 1)), (5, .int (zI i)), (4, .ref (x + 340)), (3, .ref (x + 339)), (2, .ref (x + 334)), (1, .ref x), (0, .ref b)] [.int (zI 0)]
  refine v_istore X dL_law_663 665 rfl (by decide) (L' := [(7, .int (zI 0)), (6, .int (zI 1)), (5, .int (zI i)), (4, .ref (x + 340)), (3, .ref (x + 339)), (2, .ref (x + 334)), (1, .ref x), (0, .ref b)]) rfl ?_
  refine v_aload_n X dL_law_665 666 rfl 5 rfl ?_
  refine v_rdV X hM.C h_mo.1 (c_X10_thrown l E (x + 334) (updC (updC mo 0 (updZ (mo 0) 0 1)) 1 g2_3)) kvX10_thrown kiX10_thrown kl_L_196 rfl rfl (As := []) rfl rfl (rm_law0 rfl (by omega) (by omega)) dL_law_666 669 rfl ?_
  show V p l e room_1 s m args below meth cd Q 9 H2 lo2 (kq + 1) (nq + 6) 669 [(7, .int (zI 0)), (6, .int (zI 1)), (5, .int (zI i)), (4, .ref (x + 340)), (3, .ref (x + 339)), (2, .ref (x + 334)), (1, .ref x), (0, .ref b)] [.int (zI 1)]
  refine v_iload X dL_law_669 671 rfl 1 rfl ?_
  refine v_icmp_eq X (by omega) (by omega) dL_law_671 674 676 rfl (by decide) (fun c_5 => ?_) (fun c_5 => ?_)
  · skip
    refine v_iload X dL_law_676 678 rfl 1 rfl ?_
    refine v_if_ne X (by omega) dL_law_678 681 700 rfl (by decide) (fun c_6 => ?_) (fun c_6 => ?_)
    · skip
      refine v_goto X dL_law_700 3555 (by decide) ?_
      refine v_widen (k' := kq + 60) (n' := nq + 4000) (by omega) (by omega) ?_
      exact V_pick [2, 3, 4, 5, 6, 7] rfl (kk _ _ hM ⟨hzl, _, _, _, _, _, _, _, _, _, _, _, _, _, _, _, _, _, _, _, _, _, _, _, _, _, _, _, _, ⟨h_cm, h_co, h_bf, h_sv, h_hi, h_hf, h_dk, h_se, h_pg, h_sb, h_sa, h_pr, h_ln, h_la, h_mo, h_out, h_outD⟩, (hP0.g2 hp_f_4)⟩)
    · skip
      exfalso; omega
  · skip
    exfalso; omega
set_option maxHeartbeats 4000000 in
set_option maxRecDepth 20000 in
theorem lo_decide_2 (hl : l.stackTraces = false) (X : CF p m cd code 9 s args RL) (hX : va_X b Lx xs s s.heap) (hbl : b < s.heap.size) (hLx : Lx ≤ 2560) (hM : MS E [] s H lo) (hk : kq + 60 ≤ 603072) (hn : nq + 4000 ≤ 7211113) (hx : s.heap.size ≤ x) (hzl : x + 341 ≤ H.size) {v : Nat} {N : Nat} {f : Int → Int} {nn : Int} {v2 : Nat} {N2 : Nat} {f2 : Int → Int} {n2 : Int} {co : Nat → Int → Int} {bf : Nat → Int → Int} {cv : Nat → Int → Int} {hc : Nat → Nat → Int → Int} {nx : Int} {sz : Int} {hs : Int} {er : Int} {fa : Int} {ss : Int} {dk : Nat → Int → Int} {se : Nat → Int → Int} {po : Int} {si : Int} {pr : Nat → Int → Int} {ml : Int} {ml2 : Int} {mo : Nat → Int → Int} {lg : Nat → Int64} {dg : Nat → UInt64} (hW : LawW E x v N f nn v2 N2 f2 n2 co bf cv hc nx sz hs er fa ss dk se po si pr ml ml2 mo lg dg H) (hP : LawP x v N f nn v2 N2 f2 n2 co cv hc nx sz hs er fa ss po si pr mo) (i0 : 0 ≤ i) (i1 : i + 5 ≤ (Lx : Int)) {a1 : Int} (ha1 : (xs (i + 1).toNat).toInt = a1) (ga1 : Rg a1) (q0 : flC co 4 a1 0 0 = 4) (kk : ∀ (H1 : Heap) (lo1 : List Loc), MS E [] s H1 lo1 → LawI E x H1 → V p l e room_1 s m args below meth cd Q 9 H1 lo1 (kq + 60) (nq + 4000) 3555 [(5, .int (zI i)), (4, .ref (x + 340)), (3, .ref (x + 339)), (2, .ref (x + 334)), (1, .ref x), (0, .ref b)] []) : V p l e room_1 s m args below meth cd Q 9 H lo kq nq 640 [(5, .int (zI i)), (4, .ref (x + 340)), (3, .ref (x + 339)), (2, .ref (x + 334)), (1, .ref x), (0, .ref b)] [] := by
  obtain ⟨h_cm, h_co, h_bf, h_sv, h_hi, h_hf, h_dk, h_se, h_pg, h_sb, h_sa, h_pr, h_ln, h_la, h_mo, h_out, h_outD⟩ := hW
  have hP0 := hP
  obtain ⟨⟨hD, hDv, hDh⟩, ⟨hRM, hch, hcs⟩, ⟨⟨n0, n1⟩, ⟨s0, s1⟩, hhs⟩, ⟨hm8, hnn, hAg, hNN, hnN, hf9⟩, ⟨T, hSB, hLT, hn38⟩, hPB, ⟨her, hfa, hss, ger, gfa, gss, gms⟩, ⟨gpo, gsi⟩, ⟨hv1, hv2, hvv⟩⟩ := hP
  have hO := hD.inv.ok
  have hI := hD.inv.ts
  have hSt := hD.inv.st
  have hS := hD.inv.sn
  have hR := hRM.1.2
  have hG := gp_inv hD
  have hb0 := hO.b0
  have hbw := hO.bw
  have hbf : ¬ Fr [] s.heap.size b := fun z => z.elim (fun q => q.elim) (fun q => by omega)
  refine v_aload_n X dL_law_640 641 rfl 4 rfl ?_
  refine v_aload_n X dL_law_641 642 rfl 5 rfl ?_
  refine v_iload X dL_law_642 644 rfl 0 rfl ?_
  refine v_iconst X dL_law_644 645 rfl ?_
  refine v_iadd X dL_law_645 646 rfl ?_
  refine v_scr X hM hX hbl hbf (by omega) (by omega) hLx ha1 dL_law_646 647 rfl ?_
  refine v_aload_n X dL_law_647 648 rfl 2 rfl ?_
  refine v_mwS X hM (w_X9_decide_4_t l hl E x co hs er fa ss a1 (x + 339) lg hO ga1 q0) kwL_decide ksL_decide kl_L_211 (As := [.ref x, .int (zI a1), .ref (x + 339)]) rfl rfl (rm_lawW rfl (by omega) (by omega)) dL_law_648 651 rfl (k' := kq + 1) (n' := nq + 6) rfl rfl (fun q hq => hq.elim) ⟨h_cm, h_co, h_out⟩ (fun rv H1 lo1 hM hF hpo => ?_)
  subst hpo
  replace hzl := Nat.le_trans hzl hF.1
  replace h_cm := h_cm.kept hF 1 rfl (fun q _ _ h => h.elim)
  replace h_co := h_co.kept hF 28 rfl (fun q _ _ h => h.elim)
  replace h_bf := h_bf.kept hF 28 rfl (fun q _ _ h => h.elim)
  replace h_sv := h_sv.kept hF 28 rfl (fun q _ _ h => h.elim)
  replace h_hi := h_hi.kept hF 2 rfl (fun q _ _ h => h.elim)
  replace h_hf := h_hf.kept hF (fun q _ _ h => h.elim)
  replace h_dk := h_dk.kept hF 3 rfl (fun q _ _ h => h.elim)
  replace h_se := h_se.kept hF 5 rfl (fun q _ _ h => h.elim)
  replace h_pg := h_pg.kept hF 1 rfl (fun q _ _ h => h.elim)
  replace h_sb := h_sb.kept hF 1 rfl (fun q _ _ h => h.elim)
  replace h_sa := h_sa.kept hF 1 rfl (fun q _ _ h => h.elim)
  replace h_pr := h_pr.kept hF 10 rfl (fun q _ _ h => h.elim)
  replace h_ln := h_ln.kept hF 1 rfl (fun q _ _ h => h.elim)
  replace h_la := h_la.kept hF 1 rfl (fun q _ _ h => h.elim)
  replace h_mo := h_mo.kept hF 5 rfl (fun q _ _ h => h.elim)
  replace h_out := h_out.kept hF 1 rfl (fun q _ _ h => h.elim)
  replace h_outD := h_outD.kept hF 1 rfl (fun q _ _ h => h.elim)
  show V p l e room_1 s m args below meth cd Q 9 H1 lo1 (kq + 1) (nq + 6) 651 [(5, .int (zI i)), (4, .ref (x + 340)), (3, .ref (x + 339)), (2, .ref (x + 334)), (1, .ref x), (0, .ref b)] [.int (zI 2)]
  refine v_istore X dL_law_651 653 rfl (by decide) (L' := [(6, .int (zI 2)), (5, .int (zI i)), (4, .ref (x + 340)), (3, .ref (x + 339)), (2, .ref (x + 334)), (1, .ref x), (0, .ref b)]) rfl ?_
  refine v_aload_n X dL_law_653 654 rfl 4 rfl ?_
  refine v_aload_n X dL_law_654 655 rfl 6 rfl ?_
  refine v_iload X dL_law_655 657 rfl 1 rfl ?_
  refine v_iconst X dL_law_657 658 rfl ?_
  refine v_iadd X dL_law_658 659 rfl ?_
  refine v_scr X hM hX hbl hbf (by omega) (by omega) hLx ha1 dL_law_659 660 rfl ?_
  refine v_muV X hM (h_mo.1) (c_X10_decide_f4 l E (x + 334) mo co cv hc nx sz hs a1 hO hI hRM hch n0 n1 s0 s1 ga1 q0) kvX10_decide kiX10_decide kl_L_213 (q0 := 0) rfl rfl (As := [.int (zI a1)]) rfl rfl (rm_law rfl (by omega) (by omega)) dL_law_660 663 rfl (k' := kq + 1) (n' := nq + 6) rfl rfl (fsI (fun q q1 q2 => (Or.inr (by omega)))) h_mo (fun rv H2 lo2 hM hF hpo => ?_)
  obtain ⟨g2_3, rfl, hp_f_4, hw_0⟩ := hpo
  have h_mo : PR E (x + 334) (modelW E (x + 334) (updC (updC mo 0 (updZ (mo 0) 0 2)) 1 g2_3)) H2 := hw_0
  replace hzl := Nat.le_trans hzl hF.1
  replace h_cm := h_cm.kept hF 1 rfl (fsd (by omega))
  replace h_co := h_co.kept hF 28 rfl (fsd (by omega))
  replace h_bf := h_bf.kept hF 28 rfl (fsd (by omega))
  replace h_sv := h_sv.kept hF 28 rfl (fsd (by omega))
  replace h_hi := h_hi.kept hF 2 rfl (fsd (by omega))
  replace h_hf := h_hf.kept hF (fsd (by omega))
  replace h_dk := h_dk.kept hF 3 rfl (fsd (by omega))
  replace h_se := h_se.kept hF 5 rfl (fsd (by omega))
  replace h_pg := h_pg.kept hF 1 rfl (fsd (by omega))
  replace h_sb := h_sb.kept hF 1 rfl (fsd (by omega))
  replace h_sa := h_sa.kept hF 1 rfl (fsd (by omega))
  replace h_pr := h_pr.kept hF 10 rfl (fsd (by omega))
  replace h_ln := h_ln.kept hF 1 rfl (fsd (by omega))
  replace h_la := h_la.kept hF 1 rfl (fsd (by omega))
  replace h_out := h_out.kept hF 1 rfl (fsd (by omega))
  replace h_outD := h_outD.kept hF 1 rfl (fsd (by omega))
  show V p l e room_1 s m args below meth cd Q 9 H2 lo2 (kq + 1) (nq + 6) 663 [(6, .int (zI 2)), (5, .int (zI i)), (4, .ref (x + 340)), (3, .ref (x + 339)), (2, .ref (x + 334)), (1, .ref x), (0, .ref b)] [.int (zI 0)]
  refine v_istore X dL_law_663 665 rfl (by decide) (L' := [(7, .int (zI 0)), (6, .int (zI 2)), (5, .int (zI i)), (4, .ref (x + 340)), (3, .ref (x + 339)), (2, .ref (x + 334)), (1, .ref x), (0, .ref b)]) rfl ?_
  refine v_aload_n X dL_law_665 666 rfl 5 rfl ?_
  refine v_rdV X hM.C h_mo.1 (c_X10_thrown l E (x + 334) (updC (updC mo 0 (updZ (mo 0) 0 2)) 1 g2_3)) kvX10_thrown kiX10_thrown kl_L_196 rfl rfl (As := []) rfl rfl (rm_law0 rfl (by omega) (by omega)) dL_law_666 669 rfl ?_
  show V p l e room_1 s m args below meth cd Q 9 H2 lo2 (kq + 1) (nq + 6) 669 [(7, .int (zI 0)), (6, .int (zI 2)), (5, .int (zI i)), (4, .ref (x + 340)), (3, .ref (x + 339)), (2, .ref (x + 334)), (1, .ref x), (0, .ref b)] [.int (zI 2)]
  refine v_iload X dL_law_669 671 rfl 1 rfl ?_
  refine v_icmp_eq X (by omega) (by omega) dL_law_671 674 676 rfl (by decide) (fun c_5 => ?_) (fun c_5 => ?_)
  · skip
    refine v_iload X dL_law_676 678 rfl 1 rfl ?_
    refine v_if_ne X (by omega) dL_law_678 681 700 rfl (by decide) (fun c_6 => ?_) (fun c_6 => ?_)
    · skip
      refine v_goto X dL_law_700 3555 (by decide) ?_
      refine v_widen (k' := kq + 60) (n' := nq + 4000) (by omega) (by omega) ?_
      exact V_pick [2, 3, 4, 5, 6, 7] rfl (kk _ _ hM ⟨hzl, _, _, _, _, _, _, _, _, _, _, _, _, _, _, _, _, _, _, _, _, _, _, _, _, _, _, _, _, ⟨h_cm, h_co, h_bf, h_sv, h_hi, h_hf, h_dk, h_se, h_pg, h_sb, h_sa, h_pr, h_ln, h_la, h_mo, h_out, h_outD⟩, (hP0.g2 hp_f_4)⟩)
    · skip
      exfalso; omega
  · skip
    exfalso; omega
set_option maxHeartbeats 4000000 in
set_option maxRecDepth 20000 in
theorem lo_appeal (hl : l.stackTraces = false) (X : CF p m cd code 9 s args RL) (hX : va_X b Lx xs s s.heap) (hbl : b < s.heap.size) (hLx : Lx ≤ 2560) (hM : MS E [] s H lo) (hk : kq + 60 ≤ 603072) (hn : nq + 4000 ≤ 7211113) (hx : s.heap.size ≤ x) (hzl : x + 341 ≤ H.size) {v : Nat} {N : Nat} {f : Int → Int} {nn : Int} {v2 : Nat} {N2 : Nat} {f2 : Int → Int} {n2 : Int} {co : Nat → Int → Int} {bf : Nat → Int → Int} {cv : Nat → Int → Int} {hc : Nat → Nat → Int → Int} {nx : Int} {sz : Int} {hs : Int} {er : Int} {fa : Int} {ss : Int} {dk : Nat → Int → Int} {se : Nat → Int → Int} {po : Int} {si : Int} {pr : Nat → Int → Int} {ml : Int} {ml2 : Int} {mo : Nat → Int → Int} {lg : Nat → Int64} {dg : Nat → UInt64} (hW : LawW E x v N f nn v2 N2 f2 n2 co bf cv hc nx sz hs er fa ss dk se po si pr ml ml2 mo lg dg H) (hP : LawP x v N f nn v2 N2 f2 n2 co cv hc nx sz hs er fa ss po si pr mo) (i0 : 0 ≤ i) (i1 : i + 5 ≤ (Lx : Int)) {a1 : Int} (ha1 : (xs (i + 1).toNat).toInt = a1) (ga1 : Rg a1) (q0 : flC co 5 a1 0 0 = 0) (kk : ∀ (H1 : Heap) (lo1 : List Loc), MS E [] s H1 lo1 → LawI E x H1 → V p l e room_1 s m args below meth cd Q 9 H1 lo1 (kq + 60) (nq + 4000) 3555 [(5, .int (zI i)), (4, .ref (x + 340)), (3, .ref (x + 339)), (2, .ref (x + 334)), (1, .ref x), (0, .ref b)] []) : V p l e room_1 s m args below meth cd Q 9 H lo kq nq 703 [(5, .int (zI i)), (4, .ref (x + 340)), (3, .ref (x + 339)), (2, .ref (x + 334)), (1, .ref x), (0, .ref b)] [] := by
  obtain ⟨h_cm, h_co, h_bf, h_sv, h_hi, h_hf, h_dk, h_se, h_pg, h_sb, h_sa, h_pr, h_ln, h_la, h_mo, h_out, h_outD⟩ := hW
  have hP0 := hP
  obtain ⟨⟨hD, hDv, hDh⟩, ⟨hRM, hch, hcs⟩, ⟨⟨n0, n1⟩, ⟨s0, s1⟩, hhs⟩, ⟨hm8, hnn, hAg, hNN, hnN, hf9⟩, ⟨T, hSB, hLT, hn38⟩, hPB, ⟨her, hfa, hss, ger, gfa, gss, gms⟩, ⟨gpo, gsi⟩, ⟨hv1, hv2, hvv⟩⟩ := hP
  have hO := hD.inv.ok
  have hI := hD.inv.ts
  have hSt := hD.inv.st
  have hS := hD.inv.sn
  have hR := hRM.1.2
  have hG := gp_inv hD
  have hb0 := hO.b0
  have hbw := hO.bw
  have hbf : ¬ Fr [] s.heap.size b := fun z => z.elim (fun q => q.elim) (fun q => by omega)
  have hD2 := op_inv hD (kd := 5) (a := a1) (b := 0) (f := 0) (z := 0) (by decide) q0
  refine v_aload_n X dL_law_703 704 rfl 4 rfl ?_
  refine v_aload_n X dL_law_704 705 rfl 5 rfl ?_
  refine v_iload X dL_law_705 707 rfl 0 rfl ?_
  refine v_iconst X dL_law_707 708 rfl ?_
  refine v_iadd X dL_law_708 709 rfl ?_
  refine v_scr X hM hX hbl hbf (by omega) (by omega) hLx ha1 dL_law_709 710 rfl ?_
  refine v_aload_n X dL_law_710 711 rfl 2 rfl ?_
  refine v_mwS X hM (w_X9_appeal l hl E x co hs er fa ss a1 hc nx sz (x + 339) lg hO ga1 q0 n0 n1 s0 s1 (by omega) (by omega) (by omega) (by omega) (by omega) (by omega) (by omega) (by omega) (by omega) (by omega)) kwL_appeal ksL_appeal kl_L_214 (As := [.ref x, .int (zI a1), .ref (x + 339)]) rfl rfl (rm_lawW rfl (by omega) (by omega)) dL_law_711 714 rfl (k' := kq + 1) (n' := nq + 6) rfl rfl (by intro q hq; simp only [Fr, Fs, or_false, false_or] at hq ⊢; omega) ⟨h_cm, h_co, h_hi, h_hf, h_out⟩ (fun rv H1 lo1 hM hF hpo => ?_)
  obtain ⟨rfl, hw_0, hw_1, hw_2, hw_3⟩ := hpo
  have h_co : PR E (x + 1) (courtW E (x + 1) (opC co 5 a1 0 0 0)) H1 := hw_0
  have h_hi : PR E (x + 85) [(x + 85, .inr (7, [.ref (x + 86), .int (zI (if nx < 7 then nx + 1 else 0)), .int (zI (min (sz + 1) 8))])), (x + 86, .inl (E 102 3, 8, .inr (.inr (.inr (.inr (hisA (x + 87) 8))))))] H1 := hw_1
  have h_hf : HF E (x + 87) 8 (fun j => if j = nx.toNat then co else hc j) H1 := hw_2
  have h_out : PR E (x + 339) [(x + 339, .inl (E 102 4, 1, .inr (.inl (fun _ => zL (opV co 5 a1 0 0 0)))))] H1 := hw_3
  replace hzl := Nat.le_trans hzl hF.1
  replace h_cm := h_cm.kept hF 1 rfl (by intro q q1 q2 q3; simp only [Fs, or_false] at q3; omega)
  replace h_bf := h_bf.kept hF 28 rfl (by intro q q1 q2 q3; simp only [Fs, or_false] at q3; omega)
  replace h_sv := h_sv.kept hF 28 rfl (by intro q q1 q2 q3; simp only [Fs, or_false] at q3; omega)
  replace h_dk := h_dk.kept hF 3 rfl (by intro q q1 q2 q3; simp only [Fs, or_false] at q3; omega)
  replace h_se := h_se.kept hF 5 rfl (by intro q q1 q2 q3; simp only [Fs, or_false] at q3; omega)
  replace h_pg := h_pg.kept hF 1 rfl (by intro q q1 q2 q3; simp only [Fs, or_false] at q3; omega)
  replace h_sb := h_sb.kept hF 1 rfl (by intro q q1 q2 q3; simp only [Fs, or_false] at q3; omega)
  replace h_sa := h_sa.kept hF 1 rfl (by intro q q1 q2 q3; simp only [Fs, or_false] at q3; omega)
  replace h_pr := h_pr.kept hF 10 rfl (by intro q q1 q2 q3; simp only [Fs, or_false] at q3; omega)
  replace h_ln := h_ln.kept hF 1 rfl (by intro q q1 q2 q3; simp only [Fs, or_false] at q3; omega)
  replace h_la := h_la.kept hF 1 rfl (by intro q q1 q2 q3; simp only [Fs, or_false] at q3; omega)
  replace h_mo := h_mo.kept hF 5 rfl (by intro q q1 q2 q3; simp only [Fs, or_false] at q3; omega)
  replace h_outD := h_outD.kept hF 1 rfl (by intro q q1 q2 q3; simp only [Fs, or_false] at q3; omega)
  show V p l e room_1 s m args below meth cd Q 9 H1 lo1 (kq + 1) (nq + 6) 714 [(5, .int (zI i)), (4, .ref (x + 340)), (3, .ref (x + 339)), (2, .ref (x + 334)), (1, .ref x), (0, .ref b)] [.int (zI 0)]
  refine v_istore X dL_law_714 716 rfl (by decide) (L' := [(6, .int (zI 0)), (5, .int (zI i)), (4, .ref (x + 340)), (3, .ref (x + 339)), (2, .ref (x + 334)), (1, .ref x), (0, .ref b)]) rfl ?_
  refine v_aload_n X dL_law_716 717 rfl 4 rfl ?_
  refine v_aload_n X dL_law_717 718 rfl 6 rfl ?_
  refine v_iload X dL_law_718 720 rfl 1 rfl ?_
  refine v_iconst X dL_law_720 721 rfl ?_
  refine v_iadd X dL_law_721 722 rfl ?_
  refine v_scr X hM hX hbl hbf (by omega) (by omega) hLx ha1 dL_law_722 723 rfl ?_
  refine v_muV X hM (h_mo.1) (c_X10_appeal_ok l E (x + 334) mo co cv hc nx sz hs a1 hO hI hRM hch n0 n1 s0 s1 ga1 q0 hD2.inv.ok) kvX10_appeal kiX10_appeal kl_L_216 (q0 := 0) rfl rfl (As := [.int (zI a1)]) rfl rfl (rm_law rfl (by omega) (by omega)) dL_law_723 726 rfl (k' := kq + 1) (n' := nq + 6) rfl rfl (fsI (fun q q1 q2 => (Or.inr (by omega)))) h_mo (fun rv H2 lo2 hM hF hpo => ?_)
  obtain ⟨g2_3, q4_4, rfl, hp_f_5, hw_0⟩ := hpo
  have h_mo : PR E (x + 334) (modelW E (x + 334) (updC (updC mo 0 (updZ (updZ (updZ (mo 0) 0 0) 2 (min (sz + 1) 8)) 4 q4_4)) 1 g2_3)) H2 := hw_0
  replace hzl := Nat.le_trans hzl hF.1
  replace h_cm := h_cm.kept hF 1 rfl (fsd (by omega))
  replace h_co := h_co.kept hF 28 rfl (fsd (by omega))
  replace h_bf := h_bf.kept hF 28 rfl (fsd (by omega))
  replace h_sv := h_sv.kept hF 28 rfl (fsd (by omega))
  replace h_hi := h_hi.kept hF 2 rfl (fsd (by omega))
  replace h_hf := h_hf.kept hF (fsd (by omega))
  replace h_dk := h_dk.kept hF 3 rfl (fsd (by omega))
  replace h_se := h_se.kept hF 5 rfl (fsd (by omega))
  replace h_pg := h_pg.kept hF 1 rfl (fsd (by omega))
  replace h_sb := h_sb.kept hF 1 rfl (fsd (by omega))
  replace h_sa := h_sa.kept hF 1 rfl (fsd (by omega))
  replace h_pr := h_pr.kept hF 10 rfl (fsd (by omega))
  replace h_ln := h_ln.kept hF 1 rfl (fsd (by omega))
  replace h_la := h_la.kept hF 1 rfl (fsd (by omega))
  replace h_out := h_out.kept hF 1 rfl (fsd (by omega))
  replace h_outD := h_outD.kept hF 1 rfl (fsd (by omega))
  show V p l e room_1 s m args below meth cd Q 9 H2 lo2 (kq + 1) (nq + 6) 726 [(6, .int (zI 0)), (5, .int (zI i)), (4, .ref (x + 340)), (3, .ref (x + 339)), (2, .ref (x + 334)), (1, .ref x), (0, .ref b)] [.int (zI (opV co 5 a1 0 0 0))]
  refine v_istore X dL_law_726 728 rfl (by decide) (L' := [(7, .int (zI (opV co 5 a1 0 0 0))), (6, .int (zI 0)), (5, .int (zI i)), (4, .ref (x + 340)), (3, .ref (x + 339)), (2, .ref (x + 334)), (1, .ref x), (0, .ref b)]) rfl ?_
  refine v_aload_n X dL_law_728 729 rfl 5 rfl ?_
  refine v_rdV X hM.C h_mo.1 (c_X10_thrown l E (x + 334) (updC (updC mo 0 (updZ (updZ (updZ (mo 0) 0 0) 2 (min (sz + 1) 8)) 4 q4_4)) 1 g2_3)) kvX10_thrown kiX10_thrown kl_L_196 rfl rfl (As := []) rfl rfl (rm_law0 rfl (by omega) (by omega)) dL_law_729 732 rfl ?_
  show V p l e room_1 s m args below meth cd Q 9 H2 lo2 (kq + 1) (nq + 6) 732 [(7, .int (zI (opV co 5 a1 0 0 0))), (6, .int (zI 0)), (5, .int (zI i)), (4, .ref (x + 340)), (3, .ref (x + 339)), (2, .ref (x + 334)), (1, .ref x), (0, .ref b)] [.int (zI 0)]
  refine v_iload X dL_law_732 734 rfl 1 rfl ?_
  refine v_icmp_eq X (by omega) (by omega) dL_law_734 737 739 rfl (by decide) (fun c_6 => ?_) (fun c_6 => ?_)
  · skip
    refine v_iload X dL_law_739 741 rfl 1 rfl ?_
    refine v_if_ne X (by omega) dL_law_741 744 756 rfl (by decide) (fun c_7 => ?_) (fun c_7 => ?_)
    · skip
      exfalso; omega
    · skip
      refine v_aload_n X dL_law_744 745 rfl 4 rfl ?_
      refine v_iconst X dL_law_745 746 rfl ?_
      refine v_lald X hM.C h_out.1 0 rfl dL_law_746 747 rfl ?_
      show V p l e room_1 s m args below meth cd Q 9 H2 lo2 (kq + 1) (nq + 6) 747 [(7, .int (zI (opV co 5 a1 0 0 0))), (6, .int (zI 0)), (5, .int (zI i)), (4, .ref (x + 340)), (3, .ref (x + 339)), (2, .ref (x + 334)), (1, .ref x), (0, .ref b)] [.long (zL (opV co 5 a1 0 0 0))]
      refine v_iload X dL_law_747 749 rfl 0 rfl ?_
      refine v_i2l X dL_law_749 750 rfl ?_
      refine v_lcmp0 X dL_law_750 751 rfl ?_
      refine v_if_eq X (by omega) dL_law_751 754 756 rfl (by decide) (fun c_8 => ?_) (fun c_8 => ?_)
      · skip
        refine v_goto X dL_law_756 3555 (by decide) ?_
        refine v_widen (k' := kq + 60) (n' := nq + 4000) (by omega) (by omega) ?_
        exact V_pick [2, 3, 4, 5, 6, 7] rfl (kk _ _ hM ⟨hzl, _, _, _, _, _, _, _, _, _, _, _, _, _, _, _, _, _, _, _, _, _, _, _, _, _, _, _, _, ⟨h_cm, h_co, h_bf, h_sv, h_hi, h_hf, h_dk, h_se, h_pg, h_sb, h_sa, h_pr, h_ln, h_la, h_mo, h_out, h_outD⟩, (hP0.push hD2 hp_f_5)⟩)
      · skip
        exfalso; omega
  · skip
    exfalso; omega
set_option maxHeartbeats 4000000 in
set_option maxRecDepth 20000 in
theorem lo_appeal_1 (hl : l.stackTraces = false) (X : CF p m cd code 9 s args RL) (hX : va_X b Lx xs s s.heap) (hbl : b < s.heap.size) (hLx : Lx ≤ 2560) (hM : MS E [] s H lo) (hk : kq + 60 ≤ 603072) (hn : nq + 4000 ≤ 7211113) (hx : s.heap.size ≤ x) (hzl : x + 341 ≤ H.size) {v : Nat} {N : Nat} {f : Int → Int} {nn : Int} {v2 : Nat} {N2 : Nat} {f2 : Int → Int} {n2 : Int} {co : Nat → Int → Int} {bf : Nat → Int → Int} {cv : Nat → Int → Int} {hc : Nat → Nat → Int → Int} {nx : Int} {sz : Int} {hs : Int} {er : Int} {fa : Int} {ss : Int} {dk : Nat → Int → Int} {se : Nat → Int → Int} {po : Int} {si : Int} {pr : Nat → Int → Int} {ml : Int} {ml2 : Int} {mo : Nat → Int → Int} {lg : Nat → Int64} {dg : Nat → UInt64} (hW : LawW E x v N f nn v2 N2 f2 n2 co bf cv hc nx sz hs er fa ss dk se po si pr ml ml2 mo lg dg H) (hP : LawP x v N f nn v2 N2 f2 n2 co cv hc nx sz hs er fa ss po si pr mo) (i0 : 0 ≤ i) (i1 : i + 5 ≤ (Lx : Int)) {a1 : Int} (ha1 : (xs (i + 1).toNat).toInt = a1) (ga1 : Rg a1) (q0 : flC co 5 a1 0 0 = 1) (kk : ∀ (H1 : Heap) (lo1 : List Loc), MS E [] s H1 lo1 → LawI E x H1 → V p l e room_1 s m args below meth cd Q 9 H1 lo1 (kq + 60) (nq + 4000) 3555 [(5, .int (zI i)), (4, .ref (x + 340)), (3, .ref (x + 339)), (2, .ref (x + 334)), (1, .ref x), (0, .ref b)] []) : V p l e room_1 s m args below meth cd Q 9 H lo kq nq 703 [(5, .int (zI i)), (4, .ref (x + 340)), (3, .ref (x + 339)), (2, .ref (x + 334)), (1, .ref x), (0, .ref b)] [] := by
  obtain ⟨h_cm, h_co, h_bf, h_sv, h_hi, h_hf, h_dk, h_se, h_pg, h_sb, h_sa, h_pr, h_ln, h_la, h_mo, h_out, h_outD⟩ := hW
  have hP0 := hP
  obtain ⟨⟨hD, hDv, hDh⟩, ⟨hRM, hch, hcs⟩, ⟨⟨n0, n1⟩, ⟨s0, s1⟩, hhs⟩, ⟨hm8, hnn, hAg, hNN, hnN, hf9⟩, ⟨T, hSB, hLT, hn38⟩, hPB, ⟨her, hfa, hss, ger, gfa, gss, gms⟩, ⟨gpo, gsi⟩, ⟨hv1, hv2, hvv⟩⟩ := hP
  have hO := hD.inv.ok
  have hI := hD.inv.ts
  have hSt := hD.inv.st
  have hS := hD.inv.sn
  have hR := hRM.1.2
  have hG := gp_inv hD
  have hb0 := hO.b0
  have hbw := hO.bw
  have hbf : ¬ Fr [] s.heap.size b := fun z => z.elim (fun q => q.elim) (fun q => by omega)
  refine v_aload_n X dL_law_703 704 rfl 4 rfl ?_
  refine v_aload_n X dL_law_704 705 rfl 5 rfl ?_
  refine v_iload X dL_law_705 707 rfl 0 rfl ?_
  refine v_iconst X dL_law_707 708 rfl ?_
  refine v_iadd X dL_law_708 709 rfl ?_
  refine v_scr X hM hX hbl hbf (by omega) (by omega) hLx ha1 dL_law_709 710 rfl ?_
  refine v_aload_n X dL_law_710 711 rfl 2 rfl ?_
  refine v_mwS X hM (w_X9_appeal_1_t l hl E x co hs er fa ss a1 (x + 339) lg hO ga1 q0) kwL_appeal ksL_appeal kl_L_214 (As := [.ref x, .int (zI a1), .ref (x + 339)]) rfl rfl (rm_lawW rfl (by omega) (by omega)) dL_law_711 714 rfl (k' := kq + 1) (n' := nq + 6) rfl rfl (fun q hq => hq.elim) ⟨h_cm, h_co, h_out⟩ (fun rv H1 lo1 hM hF hpo => ?_)
  subst hpo
  replace hzl := Nat.le_trans hzl hF.1
  replace h_cm := h_cm.kept hF 1 rfl (fun q _ _ h => h.elim)
  replace h_co := h_co.kept hF 28 rfl (fun q _ _ h => h.elim)
  replace h_bf := h_bf.kept hF 28 rfl (fun q _ _ h => h.elim)
  replace h_sv := h_sv.kept hF 28 rfl (fun q _ _ h => h.elim)
  replace h_hi := h_hi.kept hF 2 rfl (fun q _ _ h => h.elim)
  replace h_hf := h_hf.kept hF (fun q _ _ h => h.elim)
  replace h_dk := h_dk.kept hF 3 rfl (fun q _ _ h => h.elim)
  replace h_se := h_se.kept hF 5 rfl (fun q _ _ h => h.elim)
  replace h_pg := h_pg.kept hF 1 rfl (fun q _ _ h => h.elim)
  replace h_sb := h_sb.kept hF 1 rfl (fun q _ _ h => h.elim)
  replace h_sa := h_sa.kept hF 1 rfl (fun q _ _ h => h.elim)
  replace h_pr := h_pr.kept hF 10 rfl (fun q _ _ h => h.elim)
  replace h_ln := h_ln.kept hF 1 rfl (fun q _ _ h => h.elim)
  replace h_la := h_la.kept hF 1 rfl (fun q _ _ h => h.elim)
  replace h_mo := h_mo.kept hF 5 rfl (fun q _ _ h => h.elim)
  replace h_out := h_out.kept hF 1 rfl (fun q _ _ h => h.elim)
  replace h_outD := h_outD.kept hF 1 rfl (fun q _ _ h => h.elim)
  show V p l e room_1 s m args below meth cd Q 9 H1 lo1 (kq + 1) (nq + 6) 714 [(5, .int (zI i)), (4, .ref (x + 340)), (3, .ref (x + 339)), (2, .ref (x + 334)), (1, .ref x), (0, .ref b)] [.int (zI 1)]
  refine v_istore X dL_law_714 716 rfl (by decide) (L' := [(6, .int (zI 1)), (5, .int (zI i)), (4, .ref (x + 340)), (3, .ref (x + 339)), (2, .ref (x + 334)), (1, .ref x), (0, .ref b)]) rfl ?_
  refine v_aload_n X dL_law_716 717 rfl 4 rfl ?_
  refine v_aload_n X dL_law_717 718 rfl 6 rfl ?_
  refine v_iload X dL_law_718 720 rfl 1 rfl ?_
  refine v_iconst X dL_law_720 721 rfl ?_
  refine v_iadd X dL_law_721 722 rfl ?_
  refine v_scr X hM hX hbl hbf (by omega) (by omega) hLx ha1 dL_law_722 723 rfl ?_
  refine v_muV X hM (h_mo.1) (c_X10_appeal_f1 l E (x + 334) mo co cv hc nx sz hs a1 hO hI hRM hch n0 n1 s0 s1 ga1 q0) kvX10_appeal kiX10_appeal kl_L_216 (q0 := 0) rfl rfl (As := [.int (zI a1)]) rfl rfl (rm_law rfl (by omega) (by omega)) dL_law_723 726 rfl (k' := kq + 1) (n' := nq + 6) rfl rfl (fsI (fun q q1 q2 => (Or.inr (by omega)))) h_mo (fun rv H2 lo2 hM hF hpo => ?_)
  obtain ⟨g2_3, rfl, hp_f_4, hw_0⟩ := hpo
  have h_mo : PR E (x + 334) (modelW E (x + 334) (updC (updC mo 0 (updZ (mo 0) 0 1)) 1 g2_3)) H2 := hw_0
  replace hzl := Nat.le_trans hzl hF.1
  replace h_cm := h_cm.kept hF 1 rfl (fsd (by omega))
  replace h_co := h_co.kept hF 28 rfl (fsd (by omega))
  replace h_bf := h_bf.kept hF 28 rfl (fsd (by omega))
  replace h_sv := h_sv.kept hF 28 rfl (fsd (by omega))
  replace h_hi := h_hi.kept hF 2 rfl (fsd (by omega))
  replace h_hf := h_hf.kept hF (fsd (by omega))
  replace h_dk := h_dk.kept hF 3 rfl (fsd (by omega))
  replace h_se := h_se.kept hF 5 rfl (fsd (by omega))
  replace h_pg := h_pg.kept hF 1 rfl (fsd (by omega))
  replace h_sb := h_sb.kept hF 1 rfl (fsd (by omega))
  replace h_sa := h_sa.kept hF 1 rfl (fsd (by omega))
  replace h_pr := h_pr.kept hF 10 rfl (fsd (by omega))
  replace h_ln := h_ln.kept hF 1 rfl (fsd (by omega))
  replace h_la := h_la.kept hF 1 rfl (fsd (by omega))
  replace h_out := h_out.kept hF 1 rfl (fsd (by omega))
  replace h_outD := h_outD.kept hF 1 rfl (fsd (by omega))
  show V p l e room_1 s m args below meth cd Q 9 H2 lo2 (kq + 1) (nq + 6) 726 [(6, .int (zI 1)), (5, .int (zI i)), (4, .ref (x + 340)), (3, .ref (x + 339)), (2, .ref (x + 334)), (1, .ref x), (0, .ref b)] [.int (zI 0)]
  refine v_istore X dL_law_726 728 rfl (by decide) (L' := [(7, .int (zI 0)), (6, .int (zI 1)), (5, .int (zI i)), (4, .ref (x + 340)), (3, .ref (x + 339)), (2, .ref (x + 334)), (1, .ref x), (0, .ref b)]) rfl ?_
  refine v_aload_n X dL_law_728 729 rfl 5 rfl ?_
  refine v_rdV X hM.C h_mo.1 (c_X10_thrown l E (x + 334) (updC (updC mo 0 (updZ (mo 0) 0 1)) 1 g2_3)) kvX10_thrown kiX10_thrown kl_L_196 rfl rfl (As := []) rfl rfl (rm_law0 rfl (by omega) (by omega)) dL_law_729 732 rfl ?_
  show V p l e room_1 s m args below meth cd Q 9 H2 lo2 (kq + 1) (nq + 6) 732 [(7, .int (zI 0)), (6, .int (zI 1)), (5, .int (zI i)), (4, .ref (x + 340)), (3, .ref (x + 339)), (2, .ref (x + 334)), (1, .ref x), (0, .ref b)] [.int (zI 1)]
  refine v_iload X dL_law_732 734 rfl 1 rfl ?_
  refine v_icmp_eq X (by omega) (by omega) dL_law_734 737 739 rfl (by decide) (fun c_5 => ?_) (fun c_5 => ?_)
  · skip
    refine v_iload X dL_law_739 741 rfl 1 rfl ?_
    refine v_if_ne X (by omega) dL_law_741 744 756 rfl (by decide) (fun c_6 => ?_) (fun c_6 => ?_)
    · skip
      refine v_goto X dL_law_756 3555 (by decide) ?_
      refine v_widen (k' := kq + 60) (n' := nq + 4000) (by omega) (by omega) ?_
      exact V_pick [2, 3, 4, 5, 6, 7] rfl (kk _ _ hM ⟨hzl, _, _, _, _, _, _, _, _, _, _, _, _, _, _, _, _, _, _, _, _, _, _, _, _, _, _, _, _, ⟨h_cm, h_co, h_bf, h_sv, h_hi, h_hf, h_dk, h_se, h_pg, h_sb, h_sa, h_pr, h_ln, h_la, h_mo, h_out, h_outD⟩, (hP0.g2 hp_f_4)⟩)
    · skip
      exfalso; omega
  · skip
    exfalso; omega
set_option maxHeartbeats 4000000 in
set_option maxRecDepth 20000 in
theorem lo_appeal_2 (hl : l.stackTraces = false) (X : CF p m cd code 9 s args RL) (hX : va_X b Lx xs s s.heap) (hbl : b < s.heap.size) (hLx : Lx ≤ 2560) (hM : MS E [] s H lo) (hk : kq + 60 ≤ 603072) (hn : nq + 4000 ≤ 7211113) (hx : s.heap.size ≤ x) (hzl : x + 341 ≤ H.size) {v : Nat} {N : Nat} {f : Int → Int} {nn : Int} {v2 : Nat} {N2 : Nat} {f2 : Int → Int} {n2 : Int} {co : Nat → Int → Int} {bf : Nat → Int → Int} {cv : Nat → Int → Int} {hc : Nat → Nat → Int → Int} {nx : Int} {sz : Int} {hs : Int} {er : Int} {fa : Int} {ss : Int} {dk : Nat → Int → Int} {se : Nat → Int → Int} {po : Int} {si : Int} {pr : Nat → Int → Int} {ml : Int} {ml2 : Int} {mo : Nat → Int → Int} {lg : Nat → Int64} {dg : Nat → UInt64} (hW : LawW E x v N f nn v2 N2 f2 n2 co bf cv hc nx sz hs er fa ss dk se po si pr ml ml2 mo lg dg H) (hP : LawP x v N f nn v2 N2 f2 n2 co cv hc nx sz hs er fa ss po si pr mo) (i0 : 0 ≤ i) (i1 : i + 5 ≤ (Lx : Int)) {a1 : Int} (ha1 : (xs (i + 1).toNat).toInt = a1) (ga1 : Rg a1) (q0 : flC co 5 a1 0 0 = 4) (kk : ∀ (H1 : Heap) (lo1 : List Loc), MS E [] s H1 lo1 → LawI E x H1 → V p l e room_1 s m args below meth cd Q 9 H1 lo1 (kq + 60) (nq + 4000) 3555 [(5, .int (zI i)), (4, .ref (x + 340)), (3, .ref (x + 339)), (2, .ref (x + 334)), (1, .ref x), (0, .ref b)] []) : V p l e room_1 s m args below meth cd Q 9 H lo kq nq 703 [(5, .int (zI i)), (4, .ref (x + 340)), (3, .ref (x + 339)), (2, .ref (x + 334)), (1, .ref x), (0, .ref b)] [] := by
  obtain ⟨h_cm, h_co, h_bf, h_sv, h_hi, h_hf, h_dk, h_se, h_pg, h_sb, h_sa, h_pr, h_ln, h_la, h_mo, h_out, h_outD⟩ := hW
  have hP0 := hP
  obtain ⟨⟨hD, hDv, hDh⟩, ⟨hRM, hch, hcs⟩, ⟨⟨n0, n1⟩, ⟨s0, s1⟩, hhs⟩, ⟨hm8, hnn, hAg, hNN, hnN, hf9⟩, ⟨T, hSB, hLT, hn38⟩, hPB, ⟨her, hfa, hss, ger, gfa, gss, gms⟩, ⟨gpo, gsi⟩, ⟨hv1, hv2, hvv⟩⟩ := hP
  have hO := hD.inv.ok
  have hI := hD.inv.ts
  have hSt := hD.inv.st
  have hS := hD.inv.sn
  have hR := hRM.1.2
  have hG := gp_inv hD
  have hb0 := hO.b0
  have hbw := hO.bw
  have hbf : ¬ Fr [] s.heap.size b := fun z => z.elim (fun q => q.elim) (fun q => by omega)
  refine v_aload_n X dL_law_703 704 rfl 4 rfl ?_
  refine v_aload_n X dL_law_704 705 rfl 5 rfl ?_
  refine v_iload X dL_law_705 707 rfl 0 rfl ?_
  refine v_iconst X dL_law_707 708 rfl ?_
  refine v_iadd X dL_law_708 709 rfl ?_
  refine v_scr X hM hX hbl hbf (by omega) (by omega) hLx ha1 dL_law_709 710 rfl ?_
  refine v_aload_n X dL_law_710 711 rfl 2 rfl ?_
  refine v_mwS X hM (w_X9_appeal_4_t l hl E x co hs er fa ss a1 (x + 339) lg hO ga1 q0) kwL_appeal ksL_appeal kl_L_214 (As := [.ref x, .int (zI a1), .ref (x + 339)]) rfl rfl (rm_lawW rfl (by omega) (by omega)) dL_law_711 714 rfl (k' := kq + 1) (n' := nq + 6) rfl rfl (fun q hq => hq.elim) ⟨h_cm, h_co, h_out⟩ (fun rv H1 lo1 hM hF hpo => ?_)
  subst hpo
  replace hzl := Nat.le_trans hzl hF.1
  replace h_cm := h_cm.kept hF 1 rfl (fun q _ _ h => h.elim)
  replace h_co := h_co.kept hF 28 rfl (fun q _ _ h => h.elim)
  replace h_bf := h_bf.kept hF 28 rfl (fun q _ _ h => h.elim)
  replace h_sv := h_sv.kept hF 28 rfl (fun q _ _ h => h.elim)
  replace h_hi := h_hi.kept hF 2 rfl (fun q _ _ h => h.elim)
  replace h_hf := h_hf.kept hF (fun q _ _ h => h.elim)
  replace h_dk := h_dk.kept hF 3 rfl (fun q _ _ h => h.elim)
  replace h_se := h_se.kept hF 5 rfl (fun q _ _ h => h.elim)
  replace h_pg := h_pg.kept hF 1 rfl (fun q _ _ h => h.elim)
  replace h_sb := h_sb.kept hF 1 rfl (fun q _ _ h => h.elim)
  replace h_sa := h_sa.kept hF 1 rfl (fun q _ _ h => h.elim)
  replace h_pr := h_pr.kept hF 10 rfl (fun q _ _ h => h.elim)
  replace h_ln := h_ln.kept hF 1 rfl (fun q _ _ h => h.elim)
  replace h_la := h_la.kept hF 1 rfl (fun q _ _ h => h.elim)
  replace h_mo := h_mo.kept hF 5 rfl (fun q _ _ h => h.elim)
  replace h_out := h_out.kept hF 1 rfl (fun q _ _ h => h.elim)
  replace h_outD := h_outD.kept hF 1 rfl (fun q _ _ h => h.elim)
  show V p l e room_1 s m args below meth cd Q 9 H1 lo1 (kq + 1) (nq + 6) 714 [(5, .int (zI i)), (4, .ref (x + 340)), (3, .ref (x + 339)), (2, .ref (x + 334)), (1, .ref x), (0, .ref b)] [.int (zI 2)]
  refine v_istore X dL_law_714 716 rfl (by decide) (L' := [(6, .int (zI 2)), (5, .int (zI i)), (4, .ref (x + 340)), (3, .ref (x + 339)), (2, .ref (x + 334)), (1, .ref x), (0, .ref b)]) rfl ?_
  refine v_aload_n X dL_law_716 717 rfl 4 rfl ?_
  refine v_aload_n X dL_law_717 718 rfl 6 rfl ?_
  refine v_iload X dL_law_718 720 rfl 1 rfl ?_
  refine v_iconst X dL_law_720 721 rfl ?_
  refine v_iadd X dL_law_721 722 rfl ?_
  refine v_scr X hM hX hbl hbf (by omega) (by omega) hLx ha1 dL_law_722 723 rfl ?_
  refine v_muV X hM (h_mo.1) (c_X10_appeal_f4 l E (x + 334) mo co cv hc nx sz hs a1 hO hI hRM hch n0 n1 s0 s1 ga1 q0) kvX10_appeal kiX10_appeal kl_L_216 (q0 := 0) rfl rfl (As := [.int (zI a1)]) rfl rfl (rm_law rfl (by omega) (by omega)) dL_law_723 726 rfl (k' := kq + 1) (n' := nq + 6) rfl rfl (fsI (fun q q1 q2 => (Or.inr (by omega)))) h_mo (fun rv H2 lo2 hM hF hpo => ?_)
  obtain ⟨g2_3, rfl, hp_f_4, hw_0⟩ := hpo
  have h_mo : PR E (x + 334) (modelW E (x + 334) (updC (updC mo 0 (updZ (mo 0) 0 2)) 1 g2_3)) H2 := hw_0
  replace hzl := Nat.le_trans hzl hF.1
  replace h_cm := h_cm.kept hF 1 rfl (fsd (by omega))
  replace h_co := h_co.kept hF 28 rfl (fsd (by omega))
  replace h_bf := h_bf.kept hF 28 rfl (fsd (by omega))
  replace h_sv := h_sv.kept hF 28 rfl (fsd (by omega))
  replace h_hi := h_hi.kept hF 2 rfl (fsd (by omega))
  replace h_hf := h_hf.kept hF (fsd (by omega))
  replace h_dk := h_dk.kept hF 3 rfl (fsd (by omega))
  replace h_se := h_se.kept hF 5 rfl (fsd (by omega))
  replace h_pg := h_pg.kept hF 1 rfl (fsd (by omega))
  replace h_sb := h_sb.kept hF 1 rfl (fsd (by omega))
  replace h_sa := h_sa.kept hF 1 rfl (fsd (by omega))
  replace h_pr := h_pr.kept hF 10 rfl (fsd (by omega))
  replace h_ln := h_ln.kept hF 1 rfl (fsd (by omega))
  replace h_la := h_la.kept hF 1 rfl (fsd (by omega))
  replace h_out := h_out.kept hF 1 rfl (fsd (by omega))
  replace h_outD := h_outD.kept hF 1 rfl (fsd (by omega))
  show V p l e room_1 s m args below meth cd Q 9 H2 lo2 (kq + 1) (nq + 6) 726 [(6, .int (zI 2)), (5, .int (zI i)), (4, .ref (x + 340)), (3, .ref (x + 339)), (2, .ref (x + 334)), (1, .ref x), (0, .ref b)] [.int (zI 0)]
  refine v_istore X dL_law_726 728 rfl (by decide) (L' := [(7, .int (zI 0)), (6, .int (zI 2)), (5, .int (zI i)), (4, .ref (x + 340)), (3, .ref (x + 339)), (2, .ref (x + 334)), (1, .ref x), (0, .ref b)]) rfl ?_
  refine v_aload_n X dL_law_728 729 rfl 5 rfl ?_
  refine v_rdV X hM.C h_mo.1 (c_X10_thrown l E (x + 334) (updC (updC mo 0 (updZ (mo 0) 0 2)) 1 g2_3)) kvX10_thrown kiX10_thrown kl_L_196 rfl rfl (As := []) rfl rfl (rm_law0 rfl (by omega) (by omega)) dL_law_729 732 rfl ?_
  show V p l e room_1 s m args below meth cd Q 9 H2 lo2 (kq + 1) (nq + 6) 732 [(7, .int (zI 0)), (6, .int (zI 2)), (5, .int (zI i)), (4, .ref (x + 340)), (3, .ref (x + 339)), (2, .ref (x + 334)), (1, .ref x), (0, .ref b)] [.int (zI 2)]
  refine v_iload X dL_law_732 734 rfl 1 rfl ?_
  refine v_icmp_eq X (by omega) (by omega) dL_law_734 737 739 rfl (by decide) (fun c_5 => ?_) (fun c_5 => ?_)
  · skip
    refine v_iload X dL_law_739 741 rfl 1 rfl ?_
    refine v_if_ne X (by omega) dL_law_741 744 756 rfl (by decide) (fun c_6 => ?_) (fun c_6 => ?_)
    · skip
      refine v_goto X dL_law_756 3555 (by decide) ?_
      refine v_widen (k' := kq + 60) (n' := nq + 4000) (by omega) (by omega) ?_
      exact V_pick [2, 3, 4, 5, 6, 7] rfl (kk _ _ hM ⟨hzl, _, _, _, _, _, _, _, _, _, _, _, _, _, _, _, _, _, _, _, _, _, _, _, _, _, _, _, _, ⟨h_cm, h_co, h_bf, h_sv, h_hi, h_hf, h_dk, h_se, h_pg, h_sb, h_sa, h_pr, h_ln, h_la, h_mo, h_out, h_outD⟩, (hP0.g2 hp_f_4)⟩)
    · skip
      exfalso; omega
  · skip
    exfalso; omega
set_option maxHeartbeats 4000000 in
set_option maxRecDepth 20000 in
theorem lo_close (hl : l.stackTraces = false) (X : CF p m cd code 9 s args RL) (hX : va_X b Lx xs s s.heap) (hbl : b < s.heap.size) (hLx : Lx ≤ 2560) (hM : MS E [] s H lo) (hk : kq + 60 ≤ 603072) (hn : nq + 4000 ≤ 7211113) (hx : s.heap.size ≤ x) (hzl : x + 341 ≤ H.size) {v : Nat} {N : Nat} {f : Int → Int} {nn : Int} {v2 : Nat} {N2 : Nat} {f2 : Int → Int} {n2 : Int} {co : Nat → Int → Int} {bf : Nat → Int → Int} {cv : Nat → Int → Int} {hc : Nat → Nat → Int → Int} {nx : Int} {sz : Int} {hs : Int} {er : Int} {fa : Int} {ss : Int} {dk : Nat → Int → Int} {se : Nat → Int → Int} {po : Int} {si : Int} {pr : Nat → Int → Int} {ml : Int} {ml2 : Int} {mo : Nat → Int → Int} {lg : Nat → Int64} {dg : Nat → UInt64} (hW : LawW E x v N f nn v2 N2 f2 n2 co bf cv hc nx sz hs er fa ss dk se po si pr ml ml2 mo lg dg H) (hP : LawP x v N f nn v2 N2 f2 n2 co cv hc nx sz hs er fa ss po si pr mo) (i0 : 0 ≤ i) (i1 : i + 5 ≤ (Lx : Int)) {a1 : Int} (ha1 : (xs (i + 1).toNat).toInt = a1) (ga1 : Rg a1) (q0 : flC co 6 a1 0 0 = 0) (kk : ∀ (H1 : Heap) (lo1 : List Loc), MS E [] s H1 lo1 → LawI E x H1 → V p l e room_1 s m args below meth cd Q 9 H1 lo1 (kq + 60) (nq + 4000) 3555 [(5, .int (zI i)), (4, .ref (x + 340)), (3, .ref (x + 339)), (2, .ref (x + 334)), (1, .ref x), (0, .ref b)] []) : V p l e room_1 s m args below meth cd Q 9 H lo kq nq 759 [(5, .int (zI i)), (4, .ref (x + 340)), (3, .ref (x + 339)), (2, .ref (x + 334)), (1, .ref x), (0, .ref b)] [] := by
  obtain ⟨h_cm, h_co, h_bf, h_sv, h_hi, h_hf, h_dk, h_se, h_pg, h_sb, h_sa, h_pr, h_ln, h_la, h_mo, h_out, h_outD⟩ := hW
  have hP0 := hP
  obtain ⟨⟨hD, hDv, hDh⟩, ⟨hRM, hch, hcs⟩, ⟨⟨n0, n1⟩, ⟨s0, s1⟩, hhs⟩, ⟨hm8, hnn, hAg, hNN, hnN, hf9⟩, ⟨T, hSB, hLT, hn38⟩, hPB, ⟨her, hfa, hss, ger, gfa, gss, gms⟩, ⟨gpo, gsi⟩, ⟨hv1, hv2, hvv⟩⟩ := hP
  have hO := hD.inv.ok
  have hI := hD.inv.ts
  have hSt := hD.inv.st
  have hS := hD.inv.sn
  have hR := hRM.1.2
  have hG := gp_inv hD
  have hb0 := hO.b0
  have hbw := hO.bw
  have hbf : ¬ Fr [] s.heap.size b := fun z => z.elim (fun q => q.elim) (fun q => by omega)
  have hD2 := op_inv hD (kd := 6) (a := a1) (b := 0) (f := 0) (z := 0) (by decide) q0
  refine v_aload_n X dL_law_759 760 rfl 4 rfl ?_
  refine v_aload_n X dL_law_760 761 rfl 5 rfl ?_
  refine v_iload X dL_law_761 763 rfl 0 rfl ?_
  refine v_iconst X dL_law_763 764 rfl ?_
  refine v_iadd X dL_law_764 765 rfl ?_
  refine v_scr X hM hX hbl hbf (by omega) (by omega) hLx ha1 dL_law_765 766 rfl ?_
  refine v_aload_n X dL_law_766 767 rfl 2 rfl ?_
  refine v_mwS X hM (w_X9_close l hl E x co hs er fa ss a1 hc nx sz (x + 339) lg hO ga1 q0 n0 n1 s0 s1 (by omega) (by omega) (by omega) (by omega) (by omega) (by omega) (by omega) (by omega) (by omega) (by omega)) kwL_close ksL_close kl_L_217 (As := [.ref x, .int (zI a1), .ref (x + 339)]) rfl rfl (rm_lawW rfl (by omega) (by omega)) dL_law_767 770 rfl (k' := kq + 1) (n' := nq + 6) rfl rfl (by intro q hq; simp only [Fr, Fs, or_false, false_or] at hq ⊢; omega) ⟨h_cm, h_co, h_hi, h_hf, h_out⟩ (fun rv H1 lo1 hM hF hpo => ?_)
  obtain ⟨rfl, hw_0, hw_1, hw_2, hw_3⟩ := hpo
  have h_co : PR E (x + 1) (courtW E (x + 1) (opC co 6 a1 0 0 0)) H1 := hw_0
  have h_hi : PR E (x + 85) [(x + 85, .inr (7, [.ref (x + 86), .int (zI (if nx < 7 then nx + 1 else 0)), .int (zI (min (sz + 1) 8))])), (x + 86, .inl (E 102 3, 8, .inr (.inr (.inr (.inr (hisA (x + 87) 8))))))] H1 := hw_1
  have h_hf : HF E (x + 87) 8 (fun j => if j = nx.toNat then co else hc j) H1 := hw_2
  have h_out : PR E (x + 339) [(x + 339, .inl (E 102 4, 1, .inr (.inl (fun _ => zL (opV co 6 a1 0 0 0)))))] H1 := hw_3
  replace hzl := Nat.le_trans hzl hF.1
  replace h_cm := h_cm.kept hF 1 rfl (by intro q q1 q2 q3; simp only [Fs, or_false] at q3; omega)
  replace h_bf := h_bf.kept hF 28 rfl (by intro q q1 q2 q3; simp only [Fs, or_false] at q3; omega)
  replace h_sv := h_sv.kept hF 28 rfl (by intro q q1 q2 q3; simp only [Fs, or_false] at q3; omega)
  replace h_dk := h_dk.kept hF 3 rfl (by intro q q1 q2 q3; simp only [Fs, or_false] at q3; omega)
  replace h_se := h_se.kept hF 5 rfl (by intro q q1 q2 q3; simp only [Fs, or_false] at q3; omega)
  replace h_pg := h_pg.kept hF 1 rfl (by intro q q1 q2 q3; simp only [Fs, or_false] at q3; omega)
  replace h_sb := h_sb.kept hF 1 rfl (by intro q q1 q2 q3; simp only [Fs, or_false] at q3; omega)
  replace h_sa := h_sa.kept hF 1 rfl (by intro q q1 q2 q3; simp only [Fs, or_false] at q3; omega)
  replace h_pr := h_pr.kept hF 10 rfl (by intro q q1 q2 q3; simp only [Fs, or_false] at q3; omega)
  replace h_ln := h_ln.kept hF 1 rfl (by intro q q1 q2 q3; simp only [Fs, or_false] at q3; omega)
  replace h_la := h_la.kept hF 1 rfl (by intro q q1 q2 q3; simp only [Fs, or_false] at q3; omega)
  replace h_mo := h_mo.kept hF 5 rfl (by intro q q1 q2 q3; simp only [Fs, or_false] at q3; omega)
  replace h_outD := h_outD.kept hF 1 rfl (by intro q q1 q2 q3; simp only [Fs, or_false] at q3; omega)
  show V p l e room_1 s m args below meth cd Q 9 H1 lo1 (kq + 1) (nq + 6) 770 [(5, .int (zI i)), (4, .ref (x + 340)), (3, .ref (x + 339)), (2, .ref (x + 334)), (1, .ref x), (0, .ref b)] [.int (zI 0)]
  refine v_istore X dL_law_770 772 rfl (by decide) (L' := [(6, .int (zI 0)), (5, .int (zI i)), (4, .ref (x + 340)), (3, .ref (x + 339)), (2, .ref (x + 334)), (1, .ref x), (0, .ref b)]) rfl ?_
  refine v_aload_n X dL_law_772 773 rfl 4 rfl ?_
  refine v_aload_n X dL_law_773 774 rfl 6 rfl ?_
  refine v_iload X dL_law_774 776 rfl 1 rfl ?_
  refine v_iconst X dL_law_776 777 rfl ?_
  refine v_iadd X dL_law_777 778 rfl ?_
  refine v_scr X hM hX hbl hbf (by omega) (by omega) hLx ha1 dL_law_778 779 rfl ?_
  refine v_muV X hM (h_mo.1) (c_X10_close_ok l E (x + 334) mo co cv hc nx sz hs a1 hO hI hRM hch n0 n1 s0 s1 ga1 q0 hD2.inv.ok) kvX10_close kiX10_close kl_L_219 (q0 := 0) rfl rfl (As := [.int (zI a1)]) rfl rfl (rm_law rfl (by omega) (by omega)) dL_law_779 782 rfl (k' := kq + 1) (n' := nq + 6) rfl rfl (fsI (fun q q1 q2 => (Or.inr (by omega)))) h_mo (fun rv H2 lo2 hM hF hpo => ?_)
  obtain ⟨g2_3, q4_4, rfl, hp_f_5, hw_0⟩ := hpo
  have h_mo : PR E (x + 334) (modelW E (x + 334) (updC (updC mo 0 (updZ (updZ (updZ (mo 0) 0 0) 2 (min (sz + 1) 8)) 4 q4_4)) 1 g2_3)) H2 := hw_0
  replace hzl := Nat.le_trans hzl hF.1
  replace h_cm := h_cm.kept hF 1 rfl (fsd (by omega))
  replace h_co := h_co.kept hF 28 rfl (fsd (by omega))
  replace h_bf := h_bf.kept hF 28 rfl (fsd (by omega))
  replace h_sv := h_sv.kept hF 28 rfl (fsd (by omega))
  replace h_hi := h_hi.kept hF 2 rfl (fsd (by omega))
  replace h_hf := h_hf.kept hF (fsd (by omega))
  replace h_dk := h_dk.kept hF 3 rfl (fsd (by omega))
  replace h_se := h_se.kept hF 5 rfl (fsd (by omega))
  replace h_pg := h_pg.kept hF 1 rfl (fsd (by omega))
  replace h_sb := h_sb.kept hF 1 rfl (fsd (by omega))
  replace h_sa := h_sa.kept hF 1 rfl (fsd (by omega))
  replace h_pr := h_pr.kept hF 10 rfl (fsd (by omega))
  replace h_ln := h_ln.kept hF 1 rfl (fsd (by omega))
  replace h_la := h_la.kept hF 1 rfl (fsd (by omega))
  replace h_out := h_out.kept hF 1 rfl (fsd (by omega))
  replace h_outD := h_outD.kept hF 1 rfl (fsd (by omega))
  show V p l e room_1 s m args below meth cd Q 9 H2 lo2 (kq + 1) (nq + 6) 782 [(6, .int (zI 0)), (5, .int (zI i)), (4, .ref (x + 340)), (3, .ref (x + 339)), (2, .ref (x + 334)), (1, .ref x), (0, .ref b)] [.int (zI (opV co 6 a1 0 0 0))]
  refine v_istore X dL_law_782 784 rfl (by decide) (L' := [(7, .int (zI (opV co 6 a1 0 0 0))), (6, .int (zI 0)), (5, .int (zI i)), (4, .ref (x + 340)), (3, .ref (x + 339)), (2, .ref (x + 334)), (1, .ref x), (0, .ref b)]) rfl ?_
  refine v_aload_n X dL_law_784 785 rfl 5 rfl ?_
  refine v_rdV X hM.C h_mo.1 (c_X10_thrown l E (x + 334) (updC (updC mo 0 (updZ (updZ (updZ (mo 0) 0 0) 2 (min (sz + 1) 8)) 4 q4_4)) 1 g2_3)) kvX10_thrown kiX10_thrown kl_L_196 rfl rfl (As := []) rfl rfl (rm_law0 rfl (by omega) (by omega)) dL_law_785 788 rfl ?_
  show V p l e room_1 s m args below meth cd Q 9 H2 lo2 (kq + 1) (nq + 6) 788 [(7, .int (zI (opV co 6 a1 0 0 0))), (6, .int (zI 0)), (5, .int (zI i)), (4, .ref (x + 340)), (3, .ref (x + 339)), (2, .ref (x + 334)), (1, .ref x), (0, .ref b)] [.int (zI 0)]
  refine v_iload X dL_law_788 790 rfl 1 rfl ?_
  refine v_icmp_eq X (by omega) (by omega) dL_law_790 793 795 rfl (by decide) (fun c_6 => ?_) (fun c_6 => ?_)
  · skip
    refine v_iload X dL_law_795 797 rfl 1 rfl ?_
    refine v_if_ne X (by omega) dL_law_797 800 812 rfl (by decide) (fun c_7 => ?_) (fun c_7 => ?_)
    · skip
      exfalso; omega
    · skip
      refine v_aload_n X dL_law_800 801 rfl 4 rfl ?_
      refine v_iconst X dL_law_801 802 rfl ?_
      refine v_lald X hM.C h_out.1 0 rfl dL_law_802 803 rfl ?_
      show V p l e room_1 s m args below meth cd Q 9 H2 lo2 (kq + 1) (nq + 6) 803 [(7, .int (zI (opV co 6 a1 0 0 0))), (6, .int (zI 0)), (5, .int (zI i)), (4, .ref (x + 340)), (3, .ref (x + 339)), (2, .ref (x + 334)), (1, .ref x), (0, .ref b)] [.long (zL (opV co 6 a1 0 0 0))]
      refine v_iload X dL_law_803 805 rfl 0 rfl ?_
      refine v_i2l X dL_law_805 806 rfl ?_
      refine v_lcmp0 X dL_law_806 807 rfl ?_
      refine v_if_eq X (by omega) dL_law_807 810 812 rfl (by decide) (fun c_8 => ?_) (fun c_8 => ?_)
      · skip
        refine v_goto X dL_law_812 3555 (by decide) ?_
        refine v_widen (k' := kq + 60) (n' := nq + 4000) (by omega) (by omega) ?_
        exact V_pick [2, 3, 4, 5, 6, 7] rfl (kk _ _ hM ⟨hzl, _, _, _, _, _, _, _, _, _, _, _, _, _, _, _, _, _, _, _, _, _, _, _, _, _, _, _, _, ⟨h_cm, h_co, h_bf, h_sv, h_hi, h_hf, h_dk, h_se, h_pg, h_sb, h_sa, h_pr, h_ln, h_la, h_mo, h_out, h_outD⟩, (hP0.push hD2 hp_f_5)⟩)
      · skip
        exfalso; omega
  · skip
    exfalso; omega
set_option maxHeartbeats 4000000 in
set_option maxRecDepth 20000 in
theorem lo_close_1 (hl : l.stackTraces = false) (X : CF p m cd code 9 s args RL) (hX : va_X b Lx xs s s.heap) (hbl : b < s.heap.size) (hLx : Lx ≤ 2560) (hM : MS E [] s H lo) (hk : kq + 60 ≤ 603072) (hn : nq + 4000 ≤ 7211113) (hx : s.heap.size ≤ x) (hzl : x + 341 ≤ H.size) {v : Nat} {N : Nat} {f : Int → Int} {nn : Int} {v2 : Nat} {N2 : Nat} {f2 : Int → Int} {n2 : Int} {co : Nat → Int → Int} {bf : Nat → Int → Int} {cv : Nat → Int → Int} {hc : Nat → Nat → Int → Int} {nx : Int} {sz : Int} {hs : Int} {er : Int} {fa : Int} {ss : Int} {dk : Nat → Int → Int} {se : Nat → Int → Int} {po : Int} {si : Int} {pr : Nat → Int → Int} {ml : Int} {ml2 : Int} {mo : Nat → Int → Int} {lg : Nat → Int64} {dg : Nat → UInt64} (hW : LawW E x v N f nn v2 N2 f2 n2 co bf cv hc nx sz hs er fa ss dk se po si pr ml ml2 mo lg dg H) (hP : LawP x v N f nn v2 N2 f2 n2 co cv hc nx sz hs er fa ss po si pr mo) (i0 : 0 ≤ i) (i1 : i + 5 ≤ (Lx : Int)) {a1 : Int} (ha1 : (xs (i + 1).toNat).toInt = a1) (ga1 : Rg a1) (q0 : flC co 6 a1 0 0 = 1) (kk : ∀ (H1 : Heap) (lo1 : List Loc), MS E [] s H1 lo1 → LawI E x H1 → V p l e room_1 s m args below meth cd Q 9 H1 lo1 (kq + 60) (nq + 4000) 3555 [(5, .int (zI i)), (4, .ref (x + 340)), (3, .ref (x + 339)), (2, .ref (x + 334)), (1, .ref x), (0, .ref b)] []) : V p l e room_1 s m args below meth cd Q 9 H lo kq nq 759 [(5, .int (zI i)), (4, .ref (x + 340)), (3, .ref (x + 339)), (2, .ref (x + 334)), (1, .ref x), (0, .ref b)] [] := by
  obtain ⟨h_cm, h_co, h_bf, h_sv, h_hi, h_hf, h_dk, h_se, h_pg, h_sb, h_sa, h_pr, h_ln, h_la, h_mo, h_out, h_outD⟩ := hW
  have hP0 := hP
  obtain ⟨⟨hD, hDv, hDh⟩, ⟨hRM, hch, hcs⟩, ⟨⟨n0, n1⟩, ⟨s0, s1⟩, hhs⟩, ⟨hm8, hnn, hAg, hNN, hnN, hf9⟩, ⟨T, hSB, hLT, hn38⟩, hPB, ⟨her, hfa, hss, ger, gfa, gss, gms⟩, ⟨gpo, gsi⟩, ⟨hv1, hv2, hvv⟩⟩ := hP
  have hO := hD.inv.ok
  have hI := hD.inv.ts
  have hSt := hD.inv.st
  have hS := hD.inv.sn
  have hR := hRM.1.2
  have hG := gp_inv hD
  have hb0 := hO.b0
  have hbw := hO.bw
  have hbf : ¬ Fr [] s.heap.size b := fun z => z.elim (fun q => q.elim) (fun q => by omega)
  refine v_aload_n X dL_law_759 760 rfl 4 rfl ?_
  refine v_aload_n X dL_law_760 761 rfl 5 rfl ?_
  refine v_iload X dL_law_761 763 rfl 0 rfl ?_
  refine v_iconst X dL_law_763 764 rfl ?_
  refine v_iadd X dL_law_764 765 rfl ?_
  refine v_scr X hM hX hbl hbf (by omega) (by omega) hLx ha1 dL_law_765 766 rfl ?_
  refine v_aload_n X dL_law_766 767 rfl 2 rfl ?_
  refine v_mwS X hM (w_X9_close_1_t l hl E x co hs er fa ss a1 (x + 339) lg hO ga1 q0) kwL_close ksL_close kl_L_217 (As := [.ref x, .int (zI a1), .ref (x + 339)]) rfl rfl (rm_lawW rfl (by omega) (by omega)) dL_law_767 770 rfl (k' := kq + 1) (n' := nq + 6) rfl rfl (fun q hq => hq.elim) ⟨h_cm, h_co, h_out⟩ (fun rv H1 lo1 hM hF hpo => ?_)
  subst hpo
  replace hzl := Nat.le_trans hzl hF.1
  replace h_cm := h_cm.kept hF 1 rfl (fun q _ _ h => h.elim)
  replace h_co := h_co.kept hF 28 rfl (fun q _ _ h => h.elim)
  replace h_bf := h_bf.kept hF 28 rfl (fun q _ _ h => h.elim)
  replace h_sv := h_sv.kept hF 28 rfl (fun q _ _ h => h.elim)
  replace h_hi := h_hi.kept hF 2 rfl (fun q _ _ h => h.elim)
  replace h_hf := h_hf.kept hF (fun q _ _ h => h.elim)
  replace h_dk := h_dk.kept hF 3 rfl (fun q _ _ h => h.elim)
  replace h_se := h_se.kept hF 5 rfl (fun q _ _ h => h.elim)
  replace h_pg := h_pg.kept hF 1 rfl (fun q _ _ h => h.elim)
  replace h_sb := h_sb.kept hF 1 rfl (fun q _ _ h => h.elim)
  replace h_sa := h_sa.kept hF 1 rfl (fun q _ _ h => h.elim)
  replace h_pr := h_pr.kept hF 10 rfl (fun q _ _ h => h.elim)
  replace h_ln := h_ln.kept hF 1 rfl (fun q _ _ h => h.elim)
  replace h_la := h_la.kept hF 1 rfl (fun q _ _ h => h.elim)
  replace h_mo := h_mo.kept hF 5 rfl (fun q _ _ h => h.elim)
  replace h_out := h_out.kept hF 1 rfl (fun q _ _ h => h.elim)
  replace h_outD := h_outD.kept hF 1 rfl (fun q _ _ h => h.elim)
  show V p l e room_1 s m args below meth cd Q 9 H1 lo1 (kq + 1) (nq + 6) 770 [(5, .int (zI i)), (4, .ref (x + 340)), (3, .ref (x + 339)), (2, .ref (x + 334)), (1, .ref x), (0, .ref b)] [.int (zI 1)]
  refine v_istore X dL_law_770 772 rfl (by decide) (L' := [(6, .int (zI 1)), (5, .int (zI i)), (4, .ref (x + 340)), (3, .ref (x + 339)), (2, .ref (x + 334)), (1, .ref x), (0, .ref b)]) rfl ?_
  refine v_aload_n X dL_law_772 773 rfl 4 rfl ?_
  refine v_aload_n X dL_law_773 774 rfl 6 rfl ?_
  refine v_iload X dL_law_774 776 rfl 1 rfl ?_
  refine v_iconst X dL_law_776 777 rfl ?_
  refine v_iadd X dL_law_777 778 rfl ?_
  refine v_scr X hM hX hbl hbf (by omega) (by omega) hLx ha1 dL_law_778 779 rfl ?_
  refine v_muV X hM (h_mo.1) (c_X10_close_f1 l E (x + 334) mo co cv hc nx sz hs a1 hO hI hRM hch n0 n1 s0 s1 ga1 q0) kvX10_close kiX10_close kl_L_219 (q0 := 0) rfl rfl (As := [.int (zI a1)]) rfl rfl (rm_law rfl (by omega) (by omega)) dL_law_779 782 rfl (k' := kq + 1) (n' := nq + 6) rfl rfl (fsI (fun q q1 q2 => (Or.inr (by omega)))) h_mo (fun rv H2 lo2 hM hF hpo => ?_)
  obtain ⟨g2_3, rfl, hp_f_4, hw_0⟩ := hpo
  have h_mo : PR E (x + 334) (modelW E (x + 334) (updC (updC mo 0 (updZ (mo 0) 0 1)) 1 g2_3)) H2 := hw_0
  replace hzl := Nat.le_trans hzl hF.1
  replace h_cm := h_cm.kept hF 1 rfl (fsd (by omega))
  replace h_co := h_co.kept hF 28 rfl (fsd (by omega))
  replace h_bf := h_bf.kept hF 28 rfl (fsd (by omega))
  replace h_sv := h_sv.kept hF 28 rfl (fsd (by omega))
  replace h_hi := h_hi.kept hF 2 rfl (fsd (by omega))
  replace h_hf := h_hf.kept hF (fsd (by omega))
  replace h_dk := h_dk.kept hF 3 rfl (fsd (by omega))
  replace h_se := h_se.kept hF 5 rfl (fsd (by omega))
  replace h_pg := h_pg.kept hF 1 rfl (fsd (by omega))
  replace h_sb := h_sb.kept hF 1 rfl (fsd (by omega))
  replace h_sa := h_sa.kept hF 1 rfl (fsd (by omega))
  replace h_pr := h_pr.kept hF 10 rfl (fsd (by omega))
  replace h_ln := h_ln.kept hF 1 rfl (fsd (by omega))
  replace h_la := h_la.kept hF 1 rfl (fsd (by omega))
  replace h_out := h_out.kept hF 1 rfl (fsd (by omega))
  replace h_outD := h_outD.kept hF 1 rfl (fsd (by omega))
  show V p l e room_1 s m args below meth cd Q 9 H2 lo2 (kq + 1) (nq + 6) 782 [(6, .int (zI 1)), (5, .int (zI i)), (4, .ref (x + 340)), (3, .ref (x + 339)), (2, .ref (x + 334)), (1, .ref x), (0, .ref b)] [.int (zI 0)]
  refine v_istore X dL_law_782 784 rfl (by decide) (L' := [(7, .int (zI 0)), (6, .int (zI 1)), (5, .int (zI i)), (4, .ref (x + 340)), (3, .ref (x + 339)), (2, .ref (x + 334)), (1, .ref x), (0, .ref b)]) rfl ?_
  refine v_aload_n X dL_law_784 785 rfl 5 rfl ?_
  refine v_rdV X hM.C h_mo.1 (c_X10_thrown l E (x + 334) (updC (updC mo 0 (updZ (mo 0) 0 1)) 1 g2_3)) kvX10_thrown kiX10_thrown kl_L_196 rfl rfl (As := []) rfl rfl (rm_law0 rfl (by omega) (by omega)) dL_law_785 788 rfl ?_
  show V p l e room_1 s m args below meth cd Q 9 H2 lo2 (kq + 1) (nq + 6) 788 [(7, .int (zI 0)), (6, .int (zI 1)), (5, .int (zI i)), (4, .ref (x + 340)), (3, .ref (x + 339)), (2, .ref (x + 334)), (1, .ref x), (0, .ref b)] [.int (zI 1)]
  refine v_iload X dL_law_788 790 rfl 1 rfl ?_
  refine v_icmp_eq X (by omega) (by omega) dL_law_790 793 795 rfl (by decide) (fun c_5 => ?_) (fun c_5 => ?_)
  · skip
    refine v_iload X dL_law_795 797 rfl 1 rfl ?_
    refine v_if_ne X (by omega) dL_law_797 800 812 rfl (by decide) (fun c_6 => ?_) (fun c_6 => ?_)
    · skip
      refine v_goto X dL_law_812 3555 (by decide) ?_
      refine v_widen (k' := kq + 60) (n' := nq + 4000) (by omega) (by omega) ?_
      exact V_pick [2, 3, 4, 5, 6, 7] rfl (kk _ _ hM ⟨hzl, _, _, _, _, _, _, _, _, _, _, _, _, _, _, _, _, _, _, _, _, _, _, _, _, _, _, _, _, ⟨h_cm, h_co, h_bf, h_sv, h_hi, h_hf, h_dk, h_se, h_pg, h_sb, h_sa, h_pr, h_ln, h_la, h_mo, h_out, h_outD⟩, (hP0.g2 hp_f_4)⟩)
    · skip
      exfalso; omega
  · skip
    exfalso; omega
set_option maxHeartbeats 4000000 in
set_option maxRecDepth 20000 in
theorem lo_close_2 (hl : l.stackTraces = false) (X : CF p m cd code 9 s args RL) (hX : va_X b Lx xs s s.heap) (hbl : b < s.heap.size) (hLx : Lx ≤ 2560) (hM : MS E [] s H lo) (hk : kq + 60 ≤ 603072) (hn : nq + 4000 ≤ 7211113) (hx : s.heap.size ≤ x) (hzl : x + 341 ≤ H.size) {v : Nat} {N : Nat} {f : Int → Int} {nn : Int} {v2 : Nat} {N2 : Nat} {f2 : Int → Int} {n2 : Int} {co : Nat → Int → Int} {bf : Nat → Int → Int} {cv : Nat → Int → Int} {hc : Nat → Nat → Int → Int} {nx : Int} {sz : Int} {hs : Int} {er : Int} {fa : Int} {ss : Int} {dk : Nat → Int → Int} {se : Nat → Int → Int} {po : Int} {si : Int} {pr : Nat → Int → Int} {ml : Int} {ml2 : Int} {mo : Nat → Int → Int} {lg : Nat → Int64} {dg : Nat → UInt64} (hW : LawW E x v N f nn v2 N2 f2 n2 co bf cv hc nx sz hs er fa ss dk se po si pr ml ml2 mo lg dg H) (hP : LawP x v N f nn v2 N2 f2 n2 co cv hc nx sz hs er fa ss po si pr mo) (i0 : 0 ≤ i) (i1 : i + 5 ≤ (Lx : Int)) {a1 : Int} (ha1 : (xs (i + 1).toNat).toInt = a1) (ga1 : Rg a1) (q0 : flC co 6 a1 0 0 = 4) (kk : ∀ (H1 : Heap) (lo1 : List Loc), MS E [] s H1 lo1 → LawI E x H1 → V p l e room_1 s m args below meth cd Q 9 H1 lo1 (kq + 60) (nq + 4000) 3555 [(5, .int (zI i)), (4, .ref (x + 340)), (3, .ref (x + 339)), (2, .ref (x + 334)), (1, .ref x), (0, .ref b)] []) : V p l e room_1 s m args below meth cd Q 9 H lo kq nq 759 [(5, .int (zI i)), (4, .ref (x + 340)), (3, .ref (x + 339)), (2, .ref (x + 334)), (1, .ref x), (0, .ref b)] [] := by
  obtain ⟨h_cm, h_co, h_bf, h_sv, h_hi, h_hf, h_dk, h_se, h_pg, h_sb, h_sa, h_pr, h_ln, h_la, h_mo, h_out, h_outD⟩ := hW
  have hP0 := hP
  obtain ⟨⟨hD, hDv, hDh⟩, ⟨hRM, hch, hcs⟩, ⟨⟨n0, n1⟩, ⟨s0, s1⟩, hhs⟩, ⟨hm8, hnn, hAg, hNN, hnN, hf9⟩, ⟨T, hSB, hLT, hn38⟩, hPB, ⟨her, hfa, hss, ger, gfa, gss, gms⟩, ⟨gpo, gsi⟩, ⟨hv1, hv2, hvv⟩⟩ := hP
  have hO := hD.inv.ok
  have hI := hD.inv.ts
  have hSt := hD.inv.st
  have hS := hD.inv.sn
  have hR := hRM.1.2
  have hG := gp_inv hD
  have hb0 := hO.b0
  have hbw := hO.bw
  have hbf : ¬ Fr [] s.heap.size b := fun z => z.elim (fun q => q.elim) (fun q => by omega)
  refine v_aload_n X dL_law_759 760 rfl 4 rfl ?_
  refine v_aload_n X dL_law_760 761 rfl 5 rfl ?_
  refine v_iload X dL_law_761 763 rfl 0 rfl ?_
  refine v_iconst X dL_law_763 764 rfl ?_
  refine v_iadd X dL_law_764 765 rfl ?_
  refine v_scr X hM hX hbl hbf (by omega) (by omega) hLx ha1 dL_law_765 766 rfl ?_
  refine v_aload_n X dL_law_766 767 rfl 2 rfl ?_
  refine v_mwS X hM (w_X9_close_4_t l hl E x co hs er fa ss a1 (x + 339) lg hO ga1 q0) kwL_close ksL_close kl_L_217 (As := [.ref x, .int (zI a1), .ref (x + 339)]) rfl rfl (rm_lawW rfl (by omega) (by omega)) dL_law_767 770 rfl (k' := kq + 1) (n' := nq + 6) rfl rfl (fun q hq => hq.elim) ⟨h_cm, h_co, h_out⟩ (fun rv H1 lo1 hM hF hpo => ?_)
  subst hpo
  replace hzl := Nat.le_trans hzl hF.1
  replace h_cm := h_cm.kept hF 1 rfl (fun q _ _ h => h.elim)
  replace h_co := h_co.kept hF 28 rfl (fun q _ _ h => h.elim)
  replace h_bf := h_bf.kept hF 28 rfl (fun q _ _ h => h.elim)
  replace h_sv := h_sv.kept hF 28 rfl (fun q _ _ h => h.elim)
  replace h_hi := h_hi.kept hF 2 rfl (fun q _ _ h => h.elim)
  replace h_hf := h_hf.kept hF (fun q _ _ h => h.elim)
  replace h_dk := h_dk.kept hF 3 rfl (fun q _ _ h => h.elim)
  replace h_se := h_se.kept hF 5 rfl (fun q _ _ h => h.elim)
  replace h_pg := h_pg.kept hF 1 rfl (fun q _ _ h => h.elim)
  replace h_sb := h_sb.kept hF 1 rfl (fun q _ _ h => h.elim)
  replace h_sa := h_sa.kept hF 1 rfl (fun q _ _ h => h.elim)
  replace h_pr := h_pr.kept hF 10 rfl (fun q _ _ h => h.elim)
  replace h_ln := h_ln.kept hF 1 rfl (fun q _ _ h => h.elim)
  replace h_la := h_la.kept hF 1 rfl (fun q _ _ h => h.elim)
  replace h_mo := h_mo.kept hF 5 rfl (fun q _ _ h => h.elim)
  replace h_out := h_out.kept hF 1 rfl (fun q _ _ h => h.elim)
  replace h_outD := h_outD.kept hF 1 rfl (fun q _ _ h => h.elim)
  show V p l e room_1 s m args below meth cd Q 9 H1 lo1 (kq + 1) (nq + 6) 770 [(5, .int (zI i)), (4, .ref (x + 340)), (3, .ref (x + 339)), (2, .ref (x + 334)), (1, .ref x), (0, .ref b)] [.int (zI 2)]
  refine v_istore X dL_law_770 772 rfl (by decide) (L' := [(6, .int (zI 2)), (5, .int (zI i)), (4, .ref (x + 340)), (3, .ref (x + 339)), (2, .ref (x + 334)), (1, .ref x), (0, .ref b)]) rfl ?_
  refine v_aload_n X dL_law_772 773 rfl 4 rfl ?_
  refine v_aload_n X dL_law_773 774 rfl 6 rfl ?_
  refine v_iload X dL_law_774 776 rfl 1 rfl ?_
  refine v_iconst X dL_law_776 777 rfl ?_
  refine v_iadd X dL_law_777 778 rfl ?_
  refine v_scr X hM hX hbl hbf (by omega) (by omega) hLx ha1 dL_law_778 779 rfl ?_
  refine v_muV X hM (h_mo.1) (c_X10_close_f4 l E (x + 334) mo co cv hc nx sz hs a1 hO hI hRM hch n0 n1 s0 s1 ga1 q0) kvX10_close kiX10_close kl_L_219 (q0 := 0) rfl rfl (As := [.int (zI a1)]) rfl rfl (rm_law rfl (by omega) (by omega)) dL_law_779 782 rfl (k' := kq + 1) (n' := nq + 6) rfl rfl (fsI (fun q q1 q2 => (Or.inr (by omega)))) h_mo (fun rv H2 lo2 hM hF hpo => ?_)
  obtain ⟨g2_3, rfl, hp_f_4, hw_0⟩ := hpo
  have h_mo : PR E (x + 334) (modelW E (x + 334) (updC (updC mo 0 (updZ (mo 0) 0 2)) 1 g2_3)) H2 := hw_0
  replace hzl := Nat.le_trans hzl hF.1
  replace h_cm := h_cm.kept hF 1 rfl (fsd (by omega))
  replace h_co := h_co.kept hF 28 rfl (fsd (by omega))
  replace h_bf := h_bf.kept hF 28 rfl (fsd (by omega))
  replace h_sv := h_sv.kept hF 28 rfl (fsd (by omega))
  replace h_hi := h_hi.kept hF 2 rfl (fsd (by omega))
  replace h_hf := h_hf.kept hF (fsd (by omega))
  replace h_dk := h_dk.kept hF 3 rfl (fsd (by omega))
  replace h_se := h_se.kept hF 5 rfl (fsd (by omega))
  replace h_pg := h_pg.kept hF 1 rfl (fsd (by omega))
  replace h_sb := h_sb.kept hF 1 rfl (fsd (by omega))
  replace h_sa := h_sa.kept hF 1 rfl (fsd (by omega))
  replace h_pr := h_pr.kept hF 10 rfl (fsd (by omega))
  replace h_ln := h_ln.kept hF 1 rfl (fsd (by omega))
  replace h_la := h_la.kept hF 1 rfl (fsd (by omega))
  replace h_out := h_out.kept hF 1 rfl (fsd (by omega))
  replace h_outD := h_outD.kept hF 1 rfl (fsd (by omega))
  show V p l e room_1 s m args below meth cd Q 9 H2 lo2 (kq + 1) (nq + 6) 782 [(6, .int (zI 2)), (5, .int (zI i)), (4, .ref (x + 340)), (3, .ref (x + 339)), (2, .ref (x + 334)), (1, .ref x), (0, .ref b)] [.int (zI 0)]
  refine v_istore X dL_law_782 784 rfl (by decide) (L' := [(7, .int (zI 0)), (6, .int (zI 2)), (5, .int (zI i)), (4, .ref (x + 340)), (3, .ref (x + 339)), (2, .ref (x + 334)), (1, .ref x), (0, .ref b)]) rfl ?_
  refine v_aload_n X dL_law_784 785 rfl 5 rfl ?_
  refine v_rdV X hM.C h_mo.1 (c_X10_thrown l E (x + 334) (updC (updC mo 0 (updZ (mo 0) 0 2)) 1 g2_3)) kvX10_thrown kiX10_thrown kl_L_196 rfl rfl (As := []) rfl rfl (rm_law0 rfl (by omega) (by omega)) dL_law_785 788 rfl ?_
  show V p l e room_1 s m args below meth cd Q 9 H2 lo2 (kq + 1) (nq + 6) 788 [(7, .int (zI 0)), (6, .int (zI 2)), (5, .int (zI i)), (4, .ref (x + 340)), (3, .ref (x + 339)), (2, .ref (x + 334)), (1, .ref x), (0, .ref b)] [.int (zI 2)]
  refine v_iload X dL_law_788 790 rfl 1 rfl ?_
  refine v_icmp_eq X (by omega) (by omega) dL_law_790 793 795 rfl (by decide) (fun c_5 => ?_) (fun c_5 => ?_)
  · skip
    refine v_iload X dL_law_795 797 rfl 1 rfl ?_
    refine v_if_ne X (by omega) dL_law_797 800 812 rfl (by decide) (fun c_6 => ?_) (fun c_6 => ?_)
    · skip
      refine v_goto X dL_law_812 3555 (by decide) ?_
      refine v_widen (k' := kq + 60) (n' := nq + 4000) (by omega) (by omega) ?_
      exact V_pick [2, 3, 4, 5, 6, 7] rfl (kk _ _ hM ⟨hzl, _, _, _, _, _, _, _, _, _, _, _, _, _, _, _, _, _, _, _, _, _, _, _, _, _, _, _, _, ⟨h_cm, h_co, h_bf, h_sv, h_hi, h_hf, h_dk, h_se, h_pg, h_sb, h_sa, h_pr, h_ln, h_la, h_mo, h_out, h_outD⟩, (hP0.g2 hp_f_4)⟩)
    · skip
      exfalso; omega
  · skip
    exfalso; omega
set_option maxHeartbeats 4000000 in
set_option maxRecDepth 20000 in
theorem lo_testify_f0 (hl : l.stackTraces = false) (X : CF p m cd code 9 s args RL) (hX : va_X b Lx xs s s.heap) (hbl : b < s.heap.size) (hLx : Lx ≤ 2560) (hM : MS E [] s H lo) (hk : kq + 60 ≤ 603072) (hn : nq + 4000 ≤ 7211113) (hx : s.heap.size ≤ x) (hzl : x + 341 ≤ H.size) {v : Nat} {N : Nat} {f : Int → Int} {nn : Int} {v2 : Nat} {N2 : Nat} {f2 : Int → Int} {n2 : Int} {co : Nat → Int → Int} {bf : Nat → Int → Int} {cv : Nat → Int → Int} {hc : Nat → Nat → Int → Int} {nx : Int} {sz : Int} {hs : Int} {er : Int} {fa : Int} {ss : Int} {dk : Nat → Int → Int} {se : Nat → Int → Int} {po : Int} {si : Int} {pr : Nat → Int → Int} {ml : Int} {ml2 : Int} {mo : Nat → Int → Int} {lg : Nat → Int64} {dg : Nat → UInt64} (hW : LawW E x v N f nn v2 N2 f2 n2 co bf cv hc nx sz hs er fa ss dk se po si pr ml ml2 mo lg dg H) (hP : LawP x v N f nn v2 N2 f2 n2 co cv hc nx sz hs er fa ss po si pr mo) (i0 : 0 ≤ i) (i1 : i + 5 ≤ (Lx : Int)) {a1 : Int} (ha1 : (xs (i + 1).toNat).toInt = a1) (ga1 : Rg a1) {a2 : Int} (ha2 : (xs (i + 2).toNat).toInt = a2) (ga2 : Rg a2) {a3 : Int} (ha3 : (xs (i + 3).toNat).toInt = a3) (ga3 : Rg a3) {a4 : Int} (ha4 : (xs (i + 4).toNat).toInt = a4) (ga4 : Rg a4) (q0 : flC co 2 a1 a2 a4 = 0) (q1 : a3 = 0) (kk : ∀ (H1 : Heap) (lo1 : List Loc), MS E [] s H1 lo1 → LawI E x H1 → V p l e room_1 s m args below meth cd Q 9 H1 lo1 (kq + 60) (nq + 4000) 3555 [(5, .int (zI i)), (4, .ref (x + 340)), (3, .ref (x + 339)), (2, .ref (x + 334)), (1, .ref x), (0, .ref b)] []) : V p l e room_1 s m args below meth cd Q 9 H lo kq nq 436 [(5, .int (zI i)), (4, .ref (x + 340)), (3, .ref (x + 339)), (2, .ref (x + 334)), (1, .ref x), (0, .ref b)] [] := by
  obtain ⟨h_cm, h_co, h_bf, h_sv, h_hi, h_hf, h_dk, h_se, h_pg, h_sb, h_sa, h_pr, h_ln, h_la, h_mo, h_out, h_outD⟩ := hW
  have hP0 := hP
  obtain ⟨⟨hD, hDv, hDh⟩, ⟨hRM, hch, hcs⟩, ⟨⟨n0, n1⟩, ⟨s0, s1⟩, hhs⟩, ⟨hm8, hnn, hAg, hNN, hnN, hf9⟩, ⟨T, hSB, hLT, hn38⟩, hPB, ⟨her, hfa, hss, ger, gfa, gss, gms⟩, ⟨gpo, gsi⟩, ⟨hv1, hv2, hvv⟩⟩ := hP
  have hO := hD.inv.ok
  have hI := hD.inv.ts
  have hSt := hD.inv.st
  have hS := hD.inv.sn
  have hR := hRM.1.2
  have hG := gp_inv hD
  have hb0 := hO.b0
  have hbw := hO.bw
  have hbf : ¬ Fr [] s.heap.size b := fun z => z.elim (fun q => q.elim) (fun q => by omega)
  have hD2 := op_inv hD (kd := 2) (a := a1) (b := a2) (f := 0) (z := a4) (by decide) q0
  refine v_aload_n X dL_law_436 437 rfl 4 rfl ?_
  refine v_aload_n X dL_law_437 438 rfl 5 rfl ?_
  refine v_iload X dL_law_438 440 rfl 0 rfl ?_
  refine v_iconst X dL_law_440 441 rfl ?_
  refine v_iadd X dL_law_441 442 rfl ?_
  refine v_scr X hM hX hbl hbf (by omega) (by omega) hLx ha1 dL_law_442 443 rfl ?_
  refine v_aload_n X dL_law_443 444 rfl 5 rfl ?_
  refine v_iload X dL_law_444 446 rfl 0 rfl ?_
  refine v_iconst X dL_law_446 447 rfl ?_
  refine v_iadd X dL_law_447 448 rfl ?_
  refine v_scr X hM hX hbl hbf (by omega) (by omega) hLx ha2 dL_law_448 449 rfl ?_
  refine v_aload_n X dL_law_449 450 rfl 5 rfl ?_
  refine v_iload X dL_law_450 452 rfl 0 rfl ?_
  refine v_iconst X dL_law_452 453 rfl ?_
  refine v_iadd X dL_law_453 454 rfl ?_
  refine v_scr X hM hX hbl hbf (by omega) (by omega) hLx ha3 dL_law_454 455 rfl ?_
  refine v_if_eq X (by omega) dL_law_455 458 462 rfl (by decide) (fun c_1 => ?_) (fun c_1 => ?_)
  · skip
    refine v_iconst X dL_law_462 463 rfl ?_
    refine v_aload_n X dL_law_463 464 rfl 5 rfl ?_
    refine v_iload X dL_law_464 466 rfl 0 rfl ?_
    refine v_iconst X dL_law_466 467 rfl ?_
    refine v_iadd X dL_law_467 468 rfl ?_
    refine v_scr X hM hX hbl hbf (by omega) (by omega) hLx ha4 dL_law_468 469 rfl ?_
    refine v_aload_n X dL_law_469 470 rfl 2 rfl ?_
    refine v_mwS X hM (w_X9_testify l hl E x co hs er fa ss a1 a2 0 a4 hc nx sz (x + 339) lg hO ga1 ga2 ga4 (by omega) q0 n0 n1 s0 s1 (by omega) (by omega) (by omega) (by omega) (by omega) (by omega) (by omega) (by omega) (by omega) (by omega)) kwL_testify ksL_testify kl_L_203 (As := [.ref x, .int (zI a1), .int (zI a2), .int (zI 0), .int (zI a4), .ref (x + 339)]) rfl rfl (rm_lawW rfl (by omega) (by omega)) dL_law_470 473 rfl (k' := kq + 1) (n' := nq + 6) rfl rfl (by intro q hq; simp only [Fr, Fs, or_false, false_or] at hq ⊢; omega) ⟨h_cm, h_co, h_hi, h_hf, h_out⟩ (fun rv H2 lo2 hM hF hpo => ?_)
    obtain ⟨rfl, hw_0, hw_1, hw_2, hw_3⟩ := hpo
    have h_co : PR E (x + 1) (courtW E (x + 1) (opC co 2 a1 a2 0 a4)) H2 := hw_0
    have h_hi : PR E (x + 85) [(x + 85, .inr (7, [.ref (x + 86), .int (zI (if nx < 7 then nx + 1 else 0)), .int (zI (min (sz + 1) 8))])), (x + 86, .inl (E 102 3, 8, .inr (.inr (.inr (.inr (hisA (x + 87) 8))))))] H2 := hw_1
    have h_hf : HF E (x + 87) 8 (fun j => if j = nx.toNat then co else hc j) H2 := hw_2
    have h_out : PR E (x + 339) [(x + 339, .inl (E 102 4, 1, .inr (.inl (fun _ => zL (opV co 2 a1 a2 0 a4)))))] H2 := hw_3
    replace hzl := Nat.le_trans hzl hF.1
    replace h_cm := h_cm.kept hF 1 rfl (by intro q q1 q2 q3; simp only [Fs, or_false] at q3; omega)
    replace h_bf := h_bf.kept hF 28 rfl (by intro q q1 q2 q3; simp only [Fs, or_false] at q3; omega)
    replace h_sv := h_sv.kept hF 28 rfl (by intro q q1 q2 q3; simp only [Fs, or_false] at q3; omega)
    replace h_dk := h_dk.kept hF 3 rfl (by intro q q1 q2 q3; simp only [Fs, or_false] at q3; omega)
    replace h_se := h_se.kept hF 5 rfl (by intro q q1 q2 q3; simp only [Fs, or_false] at q3; omega)
    replace h_pg := h_pg.kept hF 1 rfl (by intro q q1 q2 q3; simp only [Fs, or_false] at q3; omega)
    replace h_sb := h_sb.kept hF 1 rfl (by intro q q1 q2 q3; simp only [Fs, or_false] at q3; omega)
    replace h_sa := h_sa.kept hF 1 rfl (by intro q q1 q2 q3; simp only [Fs, or_false] at q3; omega)
    replace h_pr := h_pr.kept hF 10 rfl (by intro q q1 q2 q3; simp only [Fs, or_false] at q3; omega)
    replace h_ln := h_ln.kept hF 1 rfl (by intro q q1 q2 q3; simp only [Fs, or_false] at q3; omega)
    replace h_la := h_la.kept hF 1 rfl (by intro q q1 q2 q3; simp only [Fs, or_false] at q3; omega)
    replace h_mo := h_mo.kept hF 5 rfl (by intro q q1 q2 q3; simp only [Fs, or_false] at q3; omega)
    replace h_outD := h_outD.kept hF 1 rfl (by intro q q1 q2 q3; simp only [Fs, or_false] at q3; omega)
    show V p l e room_1 s m args below meth cd Q 9 H2 lo2 (kq + 1) (nq + 6) 473 [(5, .int (zI i)), (4, .ref (x + 340)), (3, .ref (x + 339)), (2, .ref (x + 334)), (1, .ref x), (0, .ref b)] [.int (zI 0)]
    refine v_istore X dL_law_473 475 rfl (by decide) (L' := [(6, .int (zI 0)), (5, .int (zI i)), (4, .ref (x + 340)), (3, .ref (x + 339)), (2, .ref (x + 334)), (1, .ref x), (0, .ref b)]) rfl ?_
    refine v_aload_n X dL_law_475 476 rfl 4 rfl ?_
    refine v_aload_n X dL_law_476 477 rfl 6 rfl ?_
    refine v_iload X dL_law_477 479 rfl 1 rfl ?_
    refine v_iconst X dL_law_479 480 rfl ?_
    refine v_iadd X dL_law_480 481 rfl ?_
    refine v_scr X hM hX hbl hbf (by omega) (by omega) hLx ha1 dL_law_481 482 rfl ?_
    refine v_aload_n X dL_law_482 483 rfl 6 rfl ?_
    refine v_iload X dL_law_483 485 rfl 1 rfl ?_
    refine v_iconst X dL_law_485 486 rfl ?_
    refine v_iadd X dL_law_486 487 rfl ?_
    refine v_scr X hM hX hbl hbf (by omega) (by omega) hLx ha2 dL_law_487 488 rfl ?_
    refine v_aload_n X dL_law_488 489 rfl 6 rfl ?_
    refine v_iload X dL_law_489 491 rfl 1 rfl ?_
    refine v_iconst X dL_law_491 492 rfl ?_
    refine v_iadd X dL_law_492 493 rfl ?_
    refine v_scr X hM hX hbl hbf (by omega) (by omega) hLx ha3 dL_law_493 494 rfl ?_
    refine v_if_eq X (by omega) dL_law_494 497 501 rfl (by decide) (fun c_3 => ?_) (fun c_3 => ?_)
    · skip
      refine v_iconst X dL_law_501 502 rfl ?_
      refine v_aload_n X dL_law_502 503 rfl 6 rfl ?_
      refine v_iload X dL_law_503 505 rfl 1 rfl ?_
      refine v_iconst X dL_law_505 506 rfl ?_
      refine v_iadd X dL_law_506 507 rfl ?_
      refine v_scr X hM hX hbl hbf (by omega) (by omega) hLx ha4 dL_law_507 508 rfl ?_
      refine v_muV X hM (h_mo.1) (c_X10_testify_ok l E (x + 334) mo co cv hc nx sz hs a1 a2 0 a4 hO hI hRM hch n0 n1 s0 s1 ga1 ga2 ga4 (by omega) q0 hD2.inv.ok) kvX10_testify kiX10_testify kl_L_206 (q0 := 0) rfl rfl (As := [.int (zI a1), .int (zI a2), .int (zI 0), .int (zI a4)]) rfl rfl (rm_law rfl (by omega) (by omega)) dL_law_508 511 rfl (k' := kq + 1) (n' := nq + 6) rfl rfl (fsI (fun q q1 q2 => (Or.inr (by omega)))) h_mo (fun rv H4 lo4 hM hF hpo => ?_)
      obtain ⟨g2_5, q4_6, rfl, hp_f_7, hw_0⟩ := hpo
      have h_mo : PR E (x + 334) (modelW E (x + 334) (updC (updC mo 0 (updZ (updZ (updZ (mo 0) 0 0) 2 (min (sz + 1) 8)) 4 q4_6)) 1 g2_5)) H4 := hw_0
      replace hzl := Nat.le_trans hzl hF.1
      replace h_cm := h_cm.kept hF 1 rfl (fsd (by omega))
      replace h_co := h_co.kept hF 28 rfl (fsd (by omega))
      replace h_bf := h_bf.kept hF 28 rfl (fsd (by omega))
      replace h_sv := h_sv.kept hF 28 rfl (fsd (by omega))
      replace h_hi := h_hi.kept hF 2 rfl (fsd (by omega))
      replace h_hf := h_hf.kept hF (fsd (by omega))
      replace h_dk := h_dk.kept hF 3 rfl (fsd (by omega))
      replace h_se := h_se.kept hF 5 rfl (fsd (by omega))
      replace h_pg := h_pg.kept hF 1 rfl (fsd (by omega))
      replace h_sb := h_sb.kept hF 1 rfl (fsd (by omega))
      replace h_sa := h_sa.kept hF 1 rfl (fsd (by omega))
      replace h_pr := h_pr.kept hF 10 rfl (fsd (by omega))
      replace h_ln := h_ln.kept hF 1 rfl (fsd (by omega))
      replace h_la := h_la.kept hF 1 rfl (fsd (by omega))
      replace h_out := h_out.kept hF 1 rfl (fsd (by omega))
      replace h_outD := h_outD.kept hF 1 rfl (fsd (by omega))
      show V p l e room_1 s m args below meth cd Q 9 H4 lo4 (kq + 1) (nq + 6) 511 [(6, .int (zI 0)), (5, .int (zI i)), (4, .ref (x + 340)), (3, .ref (x + 339)), (2, .ref (x + 334)), (1, .ref x), (0, .ref b)] [.int (zI (opV co 2 a1 a2 0 a4))]
      refine v_istore X dL_law_511 513 rfl (by decide) (L' := [(7, .int (zI (opV co 2 a1 a2 0 a4))), (6, .int (zI 0)), (5, .int (zI i)), (4, .ref (x + 340)), (3, .ref (x + 339)), (2, .ref (x + 334)), (1, .ref x), (0, .ref b)]) rfl ?_
      refine v_aload_n X dL_law_513 514 rfl 5 rfl ?_
      refine v_rdV X hM.C h_mo.1 (c_X10_thrown l E (x + 334) (updC (updC mo 0 (updZ (updZ (updZ (mo 0) 0 0) 2 (min (sz + 1) 8)) 4 q4_6)) 1 g2_5)) kvX10_thrown kiX10_thrown kl_L_196 rfl rfl (As := []) rfl rfl (rm_law0 rfl (by omega) (by omega)) dL_law_514 517 rfl ?_
      show V p l e room_1 s m args below meth cd Q 9 H4 lo4 (kq + 1) (nq + 6) 517 [(7, .int (zI (opV co 2 a1 a2 0 a4))), (6, .int (zI 0)), (5, .int (zI i)), (4, .ref (x + 340)), (3, .ref (x + 339)), (2, .ref (x + 334)), (1, .ref x), (0, .ref b)] [.int (zI 0)]
      refine v_iload X dL_law_517 519 rfl 1 rfl ?_
      refine v_icmp_eq X (by omega) (by omega) dL_law_519 522 524 rfl (by decide) (fun c_8 => ?_) (fun c_8 => ?_)
      · skip
        refine v_iload X dL_law_524 526 rfl 1 rfl ?_
        refine v_if_ne X (by omega) dL_law_526 529 541 rfl (by decide) (fun c_9 => ?_) (fun c_9 => ?_)
        · skip
          exfalso; omega
        · skip
          refine v_aload_n X dL_law_529 530 rfl 4 rfl ?_
          refine v_iconst X dL_law_530 531 rfl ?_
          refine v_lald X hM.C h_out.1 0 rfl dL_law_531 532 rfl ?_
          show V p l e room_1 s m args below meth cd Q 9 H4 lo4 (kq + 1) (nq + 6) 532 [(7, .int (zI (opV co 2 a1 a2 0 a4))), (6, .int (zI 0)), (5, .int (zI i)), (4, .ref (x + 340)), (3, .ref (x + 339)), (2, .ref (x + 334)), (1, .ref x), (0, .ref b)] [.long (zL (opV co 2 a1 a2 0 a4))]
          refine v_iload X dL_law_532 534 rfl 0 rfl ?_
          refine v_i2l X dL_law_534 535 rfl ?_
          refine v_lcmp0 X dL_law_535 536 rfl ?_
          refine v_if_eq X (by omega) dL_law_536 539 541 rfl (by decide) (fun c_10 => ?_) (fun c_10 => ?_)
          · skip
            refine v_goto X dL_law_541 3555 (by decide) ?_
            refine v_widen (k' := kq + 60) (n' := nq + 4000) (by omega) (by omega) ?_
            exact V_pick [2, 3, 4, 5, 6, 7] rfl (kk _ _ hM ⟨hzl, _, _, _, _, _, _, _, _, _, _, _, _, _, _, _, _, _, _, _, _, _, _, _, _, _, _, _, _, ⟨h_cm, h_co, h_bf, h_sv, h_hi, h_hf, h_dk, h_se, h_pg, h_sb, h_sa, h_pr, h_ln, h_la, h_mo, h_out, h_outD⟩, (hP0.push hD2 hp_f_7)⟩)
          · skip
            exfalso; omega
      · skip
        exfalso; omega
    · skip
      exfalso; omega
  · skip
    exfalso; omega
set_option maxHeartbeats 4000000 in
set_option maxRecDepth 20000 in
theorem lo_testify_f0_1 (hl : l.stackTraces = false) (X : CF p m cd code 9 s args RL) (hX : va_X b Lx xs s s.heap) (hbl : b < s.heap.size) (hLx : Lx ≤ 2560) (hM : MS E [] s H lo) (hk : kq + 60 ≤ 603072) (hn : nq + 4000 ≤ 7211113) (hx : s.heap.size ≤ x) (hzl : x + 341 ≤ H.size) {v : Nat} {N : Nat} {f : Int → Int} {nn : Int} {v2 : Nat} {N2 : Nat} {f2 : Int → Int} {n2 : Int} {co : Nat → Int → Int} {bf : Nat → Int → Int} {cv : Nat → Int → Int} {hc : Nat → Nat → Int → Int} {nx : Int} {sz : Int} {hs : Int} {er : Int} {fa : Int} {ss : Int} {dk : Nat → Int → Int} {se : Nat → Int → Int} {po : Int} {si : Int} {pr : Nat → Int → Int} {ml : Int} {ml2 : Int} {mo : Nat → Int → Int} {lg : Nat → Int64} {dg : Nat → UInt64} (hW : LawW E x v N f nn v2 N2 f2 n2 co bf cv hc nx sz hs er fa ss dk se po si pr ml ml2 mo lg dg H) (hP : LawP x v N f nn v2 N2 f2 n2 co cv hc nx sz hs er fa ss po si pr mo) (i0 : 0 ≤ i) (i1 : i + 5 ≤ (Lx : Int)) {a1 : Int} (ha1 : (xs (i + 1).toNat).toInt = a1) (ga1 : Rg a1) {a2 : Int} (ha2 : (xs (i + 2).toNat).toInt = a2) (ga2 : Rg a2) {a3 : Int} (ha3 : (xs (i + 3).toNat).toInt = a3) (ga3 : Rg a3) {a4 : Int} (ha4 : (xs (i + 4).toNat).toInt = a4) (ga4 : Rg a4) (q0 : flC co 2 a1 a2 a4 = 1) (q1 : a3 = 0) (kk : ∀ (H1 : Heap) (lo1 : List Loc), MS E [] s H1 lo1 → LawI E x H1 → V p l e room_1 s m args below meth cd Q 9 H1 lo1 (kq + 60) (nq + 4000) 3555 [(5, .int (zI i)), (4, .ref (x + 340)), (3, .ref (x + 339)), (2, .ref (x + 334)), (1, .ref x), (0, .ref b)] []) : V p l e room_1 s m args below meth cd Q 9 H lo kq nq 436 [(5, .int (zI i)), (4, .ref (x + 340)), (3, .ref (x + 339)), (2, .ref (x + 334)), (1, .ref x), (0, .ref b)] [] := by
  obtain ⟨h_cm, h_co, h_bf, h_sv, h_hi, h_hf, h_dk, h_se, h_pg, h_sb, h_sa, h_pr, h_ln, h_la, h_mo, h_out, h_outD⟩ := hW
  have hP0 := hP
  obtain ⟨⟨hD, hDv, hDh⟩, ⟨hRM, hch, hcs⟩, ⟨⟨n0, n1⟩, ⟨s0, s1⟩, hhs⟩, ⟨hm8, hnn, hAg, hNN, hnN, hf9⟩, ⟨T, hSB, hLT, hn38⟩, hPB, ⟨her, hfa, hss, ger, gfa, gss, gms⟩, ⟨gpo, gsi⟩, ⟨hv1, hv2, hvv⟩⟩ := hP
  have hO := hD.inv.ok
  have hI := hD.inv.ts
  have hSt := hD.inv.st
  have hS := hD.inv.sn
  have hR := hRM.1.2
  have hG := gp_inv hD
  have hb0 := hO.b0
  have hbw := hO.bw
  have hbf : ¬ Fr [] s.heap.size b := fun z => z.elim (fun q => q.elim) (fun q => by omega)
  refine v_aload_n X dL_law_436 437 rfl 4 rfl ?_
  refine v_aload_n X dL_law_437 438 rfl 5 rfl ?_
  refine v_iload X dL_law_438 440 rfl 0 rfl ?_
  refine v_iconst X dL_law_440 441 rfl ?_
  refine v_iadd X dL_law_441 442 rfl ?_
  refine v_scr X hM hX hbl hbf (by omega) (by omega) hLx ha1 dL_law_442 443 rfl ?_
  refine v_aload_n X dL_law_443 444 rfl 5 rfl ?_
  refine v_iload X dL_law_444 446 rfl 0 rfl ?_
  refine v_iconst X dL_law_446 447 rfl ?_
  refine v_iadd X dL_law_447 448 rfl ?_
  refine v_scr X hM hX hbl hbf (by omega) (by omega) hLx ha2 dL_law_448 449 rfl ?_
  refine v_aload_n X dL_law_449 450 rfl 5 rfl ?_
  refine v_iload X dL_law_450 452 rfl 0 rfl ?_
  refine v_iconst X dL_law_452 453 rfl ?_
  refine v_iadd X dL_law_453 454 rfl ?_
  refine v_scr X hM hX hbl hbf (by omega) (by omega) hLx ha3 dL_law_454 455 rfl ?_
  refine v_if_eq X (by omega) dL_law_455 458 462 rfl (by decide) (fun c_1 => ?_) (fun c_1 => ?_)
  · skip
    refine v_iconst X dL_law_462 463 rfl ?_
    refine v_aload_n X dL_law_463 464 rfl 5 rfl ?_
    refine v_iload X dL_law_464 466 rfl 0 rfl ?_
    refine v_iconst X dL_law_466 467 rfl ?_
    refine v_iadd X dL_law_467 468 rfl ?_
    refine v_scr X hM hX hbl hbf (by omega) (by omega) hLx ha4 dL_law_468 469 rfl ?_
    refine v_aload_n X dL_law_469 470 rfl 2 rfl ?_
    refine v_mwS X hM (w_X9_testify_1_t l hl E x co hs er fa ss a1 a2 0 a4 (x + 339) lg hO ga1 ga2 ga4 (by omega) q0) kwL_testify ksL_testify kl_L_203 (As := [.ref x, .int (zI a1), .int (zI a2), .int (zI 0), .int (zI a4), .ref (x + 339)]) rfl rfl (rm_lawW rfl (by omega) (by omega)) dL_law_470 473 rfl (k' := kq + 1) (n' := nq + 6) rfl rfl (fun q hq => hq.elim) ⟨h_cm, h_co, h_out⟩ (fun rv H2 lo2 hM hF hpo => ?_)
    subst hpo
    replace hzl := Nat.le_trans hzl hF.1
    replace h_cm := h_cm.kept hF 1 rfl (fun q _ _ h => h.elim)
    replace h_co := h_co.kept hF 28 rfl (fun q _ _ h => h.elim)
    replace h_bf := h_bf.kept hF 28 rfl (fun q _ _ h => h.elim)
    replace h_sv := h_sv.kept hF 28 rfl (fun q _ _ h => h.elim)
    replace h_hi := h_hi.kept hF 2 rfl (fun q _ _ h => h.elim)
    replace h_hf := h_hf.kept hF (fun q _ _ h => h.elim)
    replace h_dk := h_dk.kept hF 3 rfl (fun q _ _ h => h.elim)
    replace h_se := h_se.kept hF 5 rfl (fun q _ _ h => h.elim)
    replace h_pg := h_pg.kept hF 1 rfl (fun q _ _ h => h.elim)
    replace h_sb := h_sb.kept hF 1 rfl (fun q _ _ h => h.elim)
    replace h_sa := h_sa.kept hF 1 rfl (fun q _ _ h => h.elim)
    replace h_pr := h_pr.kept hF 10 rfl (fun q _ _ h => h.elim)
    replace h_ln := h_ln.kept hF 1 rfl (fun q _ _ h => h.elim)
    replace h_la := h_la.kept hF 1 rfl (fun q _ _ h => h.elim)
    replace h_mo := h_mo.kept hF 5 rfl (fun q _ _ h => h.elim)
    replace h_out := h_out.kept hF 1 rfl (fun q _ _ h => h.elim)
    replace h_outD := h_outD.kept hF 1 rfl (fun q _ _ h => h.elim)
    show V p l e room_1 s m args below meth cd Q 9 H2 lo2 (kq + 1) (nq + 6) 473 [(5, .int (zI i)), (4, .ref (x + 340)), (3, .ref (x + 339)), (2, .ref (x + 334)), (1, .ref x), (0, .ref b)] [.int (zI 1)]
    refine v_istore X dL_law_473 475 rfl (by decide) (L' := [(6, .int (zI 1)), (5, .int (zI i)), (4, .ref (x + 340)), (3, .ref (x + 339)), (2, .ref (x + 334)), (1, .ref x), (0, .ref b)]) rfl ?_
    refine v_aload_n X dL_law_475 476 rfl 4 rfl ?_
    refine v_aload_n X dL_law_476 477 rfl 6 rfl ?_
    refine v_iload X dL_law_477 479 rfl 1 rfl ?_
    refine v_iconst X dL_law_479 480 rfl ?_
    refine v_iadd X dL_law_480 481 rfl ?_
    refine v_scr X hM hX hbl hbf (by omega) (by omega) hLx ha1 dL_law_481 482 rfl ?_
    refine v_aload_n X dL_law_482 483 rfl 6 rfl ?_
    refine v_iload X dL_law_483 485 rfl 1 rfl ?_
    refine v_iconst X dL_law_485 486 rfl ?_
    refine v_iadd X dL_law_486 487 rfl ?_
    refine v_scr X hM hX hbl hbf (by omega) (by omega) hLx ha2 dL_law_487 488 rfl ?_
    refine v_aload_n X dL_law_488 489 rfl 6 rfl ?_
    refine v_iload X dL_law_489 491 rfl 1 rfl ?_
    refine v_iconst X dL_law_491 492 rfl ?_
    refine v_iadd X dL_law_492 493 rfl ?_
    refine v_scr X hM hX hbl hbf (by omega) (by omega) hLx ha3 dL_law_493 494 rfl ?_
    refine v_if_eq X (by omega) dL_law_494 497 501 rfl (by decide) (fun c_3 => ?_) (fun c_3 => ?_)
    · skip
      refine v_iconst X dL_law_501 502 rfl ?_
      refine v_aload_n X dL_law_502 503 rfl 6 rfl ?_
      refine v_iload X dL_law_503 505 rfl 1 rfl ?_
      refine v_iconst X dL_law_505 506 rfl ?_
      refine v_iadd X dL_law_506 507 rfl ?_
      refine v_scr X hM hX hbl hbf (by omega) (by omega) hLx ha4 dL_law_507 508 rfl ?_
      refine v_muV X hM (h_mo.1) (c_X10_testify_f1 l E (x + 334) mo co cv hc nx sz hs a1 a2 0 a4 hO hI hRM hch n0 n1 s0 s1 ga1 ga2 ga4 (by omega) q0) kvX10_testify kiX10_testify kl_L_206 (q0 := 0) rfl rfl (As := [.int (zI a1), .int (zI a2), .int (zI 0), .int (zI a4)]) rfl rfl (rm_law rfl (by omega) (by omega)) dL_law_508 511 rfl (k' := kq + 1) (n' := nq + 6) rfl rfl (fsI (fun q q1 q2 => (Or.inr (by omega)))) h_mo (fun rv H4 lo4 hM hF hpo => ?_)
      obtain ⟨g2_5, rfl, hp_f_6, hw_0⟩ := hpo
      have h_mo : PR E (x + 334) (modelW E (x + 334) (updC (updC mo 0 (updZ (mo 0) 0 1)) 1 g2_5)) H4 := hw_0
      replace hzl := Nat.le_trans hzl hF.1
      replace h_cm := h_cm.kept hF 1 rfl (fsd (by omega))
      replace h_co := h_co.kept hF 28 rfl (fsd (by omega))
      replace h_bf := h_bf.kept hF 28 rfl (fsd (by omega))
      replace h_sv := h_sv.kept hF 28 rfl (fsd (by omega))
      replace h_hi := h_hi.kept hF 2 rfl (fsd (by omega))
      replace h_hf := h_hf.kept hF (fsd (by omega))
      replace h_dk := h_dk.kept hF 3 rfl (fsd (by omega))
      replace h_se := h_se.kept hF 5 rfl (fsd (by omega))
      replace h_pg := h_pg.kept hF 1 rfl (fsd (by omega))
      replace h_sb := h_sb.kept hF 1 rfl (fsd (by omega))
      replace h_sa := h_sa.kept hF 1 rfl (fsd (by omega))
      replace h_pr := h_pr.kept hF 10 rfl (fsd (by omega))
      replace h_ln := h_ln.kept hF 1 rfl (fsd (by omega))
      replace h_la := h_la.kept hF 1 rfl (fsd (by omega))
      replace h_out := h_out.kept hF 1 rfl (fsd (by omega))
      replace h_outD := h_outD.kept hF 1 rfl (fsd (by omega))
      show V p l e room_1 s m args below meth cd Q 9 H4 lo4 (kq + 1) (nq + 6) 511 [(6, .int (zI 1)), (5, .int (zI i)), (4, .ref (x + 340)), (3, .ref (x + 339)), (2, .ref (x + 334)), (1, .ref x), (0, .ref b)] [.int (zI 0)]
      refine v_istore X dL_law_511 513 rfl (by decide) (L' := [(7, .int (zI 0)), (6, .int (zI 1)), (5, .int (zI i)), (4, .ref (x + 340)), (3, .ref (x + 339)), (2, .ref (x + 334)), (1, .ref x), (0, .ref b)]) rfl ?_
      refine v_aload_n X dL_law_513 514 rfl 5 rfl ?_
      refine v_rdV X hM.C h_mo.1 (c_X10_thrown l E (x + 334) (updC (updC mo 0 (updZ (mo 0) 0 1)) 1 g2_5)) kvX10_thrown kiX10_thrown kl_L_196 rfl rfl (As := []) rfl rfl (rm_law0 rfl (by omega) (by omega)) dL_law_514 517 rfl ?_
      show V p l e room_1 s m args below meth cd Q 9 H4 lo4 (kq + 1) (nq + 6) 517 [(7, .int (zI 0)), (6, .int (zI 1)), (5, .int (zI i)), (4, .ref (x + 340)), (3, .ref (x + 339)), (2, .ref (x + 334)), (1, .ref x), (0, .ref b)] [.int (zI 1)]
      refine v_iload X dL_law_517 519 rfl 1 rfl ?_
      refine v_icmp_eq X (by omega) (by omega) dL_law_519 522 524 rfl (by decide) (fun c_7 => ?_) (fun c_7 => ?_)
      · skip
        refine v_iload X dL_law_524 526 rfl 1 rfl ?_
        refine v_if_ne X (by omega) dL_law_526 529 541 rfl (by decide) (fun c_8 => ?_) (fun c_8 => ?_)
        · skip
          refine v_goto X dL_law_541 3555 (by decide) ?_
          refine v_widen (k' := kq + 60) (n' := nq + 4000) (by omega) (by omega) ?_
          exact V_pick [2, 3, 4, 5, 6, 7] rfl (kk _ _ hM ⟨hzl, _, _, _, _, _, _, _, _, _, _, _, _, _, _, _, _, _, _, _, _, _, _, _, _, _, _, _, _, ⟨h_cm, h_co, h_bf, h_sv, h_hi, h_hf, h_dk, h_se, h_pg, h_sb, h_sa, h_pr, h_ln, h_la, h_mo, h_out, h_outD⟩, (hP0.g2 hp_f_6)⟩)
        · skip
          exfalso; omega
      · skip
        exfalso; omega
    · skip
      exfalso; omega
  · skip
    exfalso; omega
set_option maxHeartbeats 4000000 in
set_option maxRecDepth 20000 in
theorem lo_testify_f0_2 (hl : l.stackTraces = false) (X : CF p m cd code 9 s args RL) (hX : va_X b Lx xs s s.heap) (hbl : b < s.heap.size) (hLx : Lx ≤ 2560) (hM : MS E [] s H lo) (hk : kq + 60 ≤ 603072) (hn : nq + 4000 ≤ 7211113) (hx : s.heap.size ≤ x) (hzl : x + 341 ≤ H.size) {v : Nat} {N : Nat} {f : Int → Int} {nn : Int} {v2 : Nat} {N2 : Nat} {f2 : Int → Int} {n2 : Int} {co : Nat → Int → Int} {bf : Nat → Int → Int} {cv : Nat → Int → Int} {hc : Nat → Nat → Int → Int} {nx : Int} {sz : Int} {hs : Int} {er : Int} {fa : Int} {ss : Int} {dk : Nat → Int → Int} {se : Nat → Int → Int} {po : Int} {si : Int} {pr : Nat → Int → Int} {ml : Int} {ml2 : Int} {mo : Nat → Int → Int} {lg : Nat → Int64} {dg : Nat → UInt64} (hW : LawW E x v N f nn v2 N2 f2 n2 co bf cv hc nx sz hs er fa ss dk se po si pr ml ml2 mo lg dg H) (hP : LawP x v N f nn v2 N2 f2 n2 co cv hc nx sz hs er fa ss po si pr mo) (i0 : 0 ≤ i) (i1 : i + 5 ≤ (Lx : Int)) {a1 : Int} (ha1 : (xs (i + 1).toNat).toInt = a1) (ga1 : Rg a1) {a2 : Int} (ha2 : (xs (i + 2).toNat).toInt = a2) (ga2 : Rg a2) {a3 : Int} (ha3 : (xs (i + 3).toNat).toInt = a3) (ga3 : Rg a3) {a4 : Int} (ha4 : (xs (i + 4).toNat).toInt = a4) (ga4 : Rg a4) (q0 : flC co 2 a1 a2 a4 = 2) (q1 : a3 = 0) (kk : ∀ (H1 : Heap) (lo1 : List Loc), MS E [] s H1 lo1 → LawI E x H1 → V p l e room_1 s m args below meth cd Q 9 H1 lo1 (kq + 60) (nq + 4000) 3555 [(5, .int (zI i)), (4, .ref (x + 340)), (3, .ref (x + 339)), (2, .ref (x + 334)), (1, .ref x), (0, .ref b)] []) : V p l e room_1 s m args below meth cd Q 9 H lo kq nq 436 [(5, .int (zI i)), (4, .ref (x + 340)), (3, .ref (x + 339)), (2, .ref (x + 334)), (1, .ref x), (0, .ref b)] [] := by
  obtain ⟨h_cm, h_co, h_bf, h_sv, h_hi, h_hf, h_dk, h_se, h_pg, h_sb, h_sa, h_pr, h_ln, h_la, h_mo, h_out, h_outD⟩ := hW
  have hP0 := hP
  obtain ⟨⟨hD, hDv, hDh⟩, ⟨hRM, hch, hcs⟩, ⟨⟨n0, n1⟩, ⟨s0, s1⟩, hhs⟩, ⟨hm8, hnn, hAg, hNN, hnN, hf9⟩, ⟨T, hSB, hLT, hn38⟩, hPB, ⟨her, hfa, hss, ger, gfa, gss, gms⟩, ⟨gpo, gsi⟩, ⟨hv1, hv2, hvv⟩⟩ := hP
  have hO := hD.inv.ok
  have hI := hD.inv.ts
  have hSt := hD.inv.st
  have hS := hD.inv.sn
  have hR := hRM.1.2
  have hG := gp_inv hD
  have hb0 := hO.b0
  have hbw := hO.bw
  have hbf : ¬ Fr [] s.heap.size b := fun z => z.elim (fun q => q.elim) (fun q => by omega)
  refine v_aload_n X dL_law_436 437 rfl 4 rfl ?_
  refine v_aload_n X dL_law_437 438 rfl 5 rfl ?_
  refine v_iload X dL_law_438 440 rfl 0 rfl ?_
  refine v_iconst X dL_law_440 441 rfl ?_
  refine v_iadd X dL_law_441 442 rfl ?_
  refine v_scr X hM hX hbl hbf (by omega) (by omega) hLx ha1 dL_law_442 443 rfl ?_
  refine v_aload_n X dL_law_443 444 rfl 5 rfl ?_
  refine v_iload X dL_law_444 446 rfl 0 rfl ?_
  refine v_iconst X dL_law_446 447 rfl ?_
  refine v_iadd X dL_law_447 448 rfl ?_
  refine v_scr X hM hX hbl hbf (by omega) (by omega) hLx ha2 dL_law_448 449 rfl ?_
  refine v_aload_n X dL_law_449 450 rfl 5 rfl ?_
  refine v_iload X dL_law_450 452 rfl 0 rfl ?_
  refine v_iconst X dL_law_452 453 rfl ?_
  refine v_iadd X dL_law_453 454 rfl ?_
  refine v_scr X hM hX hbl hbf (by omega) (by omega) hLx ha3 dL_law_454 455 rfl ?_
  refine v_if_eq X (by omega) dL_law_455 458 462 rfl (by decide) (fun c_1 => ?_) (fun c_1 => ?_)
  · skip
    refine v_iconst X dL_law_462 463 rfl ?_
    refine v_aload_n X dL_law_463 464 rfl 5 rfl ?_
    refine v_iload X dL_law_464 466 rfl 0 rfl ?_
    refine v_iconst X dL_law_466 467 rfl ?_
    refine v_iadd X dL_law_467 468 rfl ?_
    refine v_scr X hM hX hbl hbf (by omega) (by omega) hLx ha4 dL_law_468 469 rfl ?_
    refine v_aload_n X dL_law_469 470 rfl 2 rfl ?_
    refine v_mwS X hM (w_X9_testify_2_t l hl E x co hs er fa ss a1 a2 0 a4 (x + 339) lg hO ga1 ga2 ga4 (by omega) q0) kwL_testify ksL_testify kl_L_203 (As := [.ref x, .int (zI a1), .int (zI a2), .int (zI 0), .int (zI a4), .ref (x + 339)]) rfl rfl (rm_lawW rfl (by omega) (by omega)) dL_law_470 473 rfl (k' := kq + 1) (n' := nq + 6) rfl rfl (fun q hq => hq.elim) ⟨h_cm, h_co, h_out⟩ (fun rv H2 lo2 hM hF hpo => ?_)
    subst hpo
    replace hzl := Nat.le_trans hzl hF.1
    replace h_cm := h_cm.kept hF 1 rfl (fun q _ _ h => h.elim)
    replace h_co := h_co.kept hF 28 rfl (fun q _ _ h => h.elim)
    replace h_bf := h_bf.kept hF 28 rfl (fun q _ _ h => h.elim)
    replace h_sv := h_sv.kept hF 28 rfl (fun q _ _ h => h.elim)
    replace h_hi := h_hi.kept hF 2 rfl (fun q _ _ h => h.elim)
    replace h_hf := h_hf.kept hF (fun q _ _ h => h.elim)
    replace h_dk := h_dk.kept hF 3 rfl (fun q _ _ h => h.elim)
    replace h_se := h_se.kept hF 5 rfl (fun q _ _ h => h.elim)
    replace h_pg := h_pg.kept hF 1 rfl (fun q _ _ h => h.elim)
    replace h_sb := h_sb.kept hF 1 rfl (fun q _ _ h => h.elim)
    replace h_sa := h_sa.kept hF 1 rfl (fun q _ _ h => h.elim)
    replace h_pr := h_pr.kept hF 10 rfl (fun q _ _ h => h.elim)
    replace h_ln := h_ln.kept hF 1 rfl (fun q _ _ h => h.elim)
    replace h_la := h_la.kept hF 1 rfl (fun q _ _ h => h.elim)
    replace h_mo := h_mo.kept hF 5 rfl (fun q _ _ h => h.elim)
    replace h_out := h_out.kept hF 1 rfl (fun q _ _ h => h.elim)
    replace h_outD := h_outD.kept hF 1 rfl (fun q _ _ h => h.elim)
    show V p l e room_1 s m args below meth cd Q 9 H2 lo2 (kq + 1) (nq + 6) 473 [(5, .int (zI i)), (4, .ref (x + 340)), (3, .ref (x + 339)), (2, .ref (x + 334)), (1, .ref x), (0, .ref b)] [.int (zI 2)]
    refine v_istore X dL_law_473 475 rfl (by decide) (L' := [(6, .int (zI 2)), (5, .int (zI i)), (4, .ref (x + 340)), (3, .ref (x + 339)), (2, .ref (x + 334)), (1, .ref x), (0, .ref b)]) rfl ?_
    refine v_aload_n X dL_law_475 476 rfl 4 rfl ?_
    refine v_aload_n X dL_law_476 477 rfl 6 rfl ?_
    refine v_iload X dL_law_477 479 rfl 1 rfl ?_
    refine v_iconst X dL_law_479 480 rfl ?_
    refine v_iadd X dL_law_480 481 rfl ?_
    refine v_scr X hM hX hbl hbf (by omega) (by omega) hLx ha1 dL_law_481 482 rfl ?_
    refine v_aload_n X dL_law_482 483 rfl 6 rfl ?_
    refine v_iload X dL_law_483 485 rfl 1 rfl ?_
    refine v_iconst X dL_law_485 486 rfl ?_
    refine v_iadd X dL_law_486 487 rfl ?_
    refine v_scr X hM hX hbl hbf (by omega) (by omega) hLx ha2 dL_law_487 488 rfl ?_
    refine v_aload_n X dL_law_488 489 rfl 6 rfl ?_
    refine v_iload X dL_law_489 491 rfl 1 rfl ?_
    refine v_iconst X dL_law_491 492 rfl ?_
    refine v_iadd X dL_law_492 493 rfl ?_
    refine v_scr X hM hX hbl hbf (by omega) (by omega) hLx ha3 dL_law_493 494 rfl ?_
    refine v_if_eq X (by omega) dL_law_494 497 501 rfl (by decide) (fun c_3 => ?_) (fun c_3 => ?_)
    · skip
      refine v_iconst X dL_law_501 502 rfl ?_
      refine v_aload_n X dL_law_502 503 rfl 6 rfl ?_
      refine v_iload X dL_law_503 505 rfl 1 rfl ?_
      refine v_iconst X dL_law_505 506 rfl ?_
      refine v_iadd X dL_law_506 507 rfl ?_
      refine v_scr X hM hX hbl hbf (by omega) (by omega) hLx ha4 dL_law_507 508 rfl ?_
      refine v_muV X hM (h_mo.1) (c_X10_testify_f2 l E (x + 334) mo co cv hc nx sz hs a1 a2 0 a4 hO hI hRM hch n0 n1 s0 s1 ga1 ga2 ga4 (by omega) q0) kvX10_testify kiX10_testify kl_L_206 (q0 := 0) rfl rfl (As := [.int (zI a1), .int (zI a2), .int (zI 0), .int (zI a4)]) rfl rfl (rm_law rfl (by omega) (by omega)) dL_law_508 511 rfl (k' := kq + 1) (n' := nq + 6) rfl rfl (fsI (fun q q1 q2 => (Or.inr (by omega)))) h_mo (fun rv H4 lo4 hM hF hpo => ?_)
      obtain ⟨g2_5, rfl, hp_f_6, hw_0⟩ := hpo
      have h_mo : PR E (x + 334) (modelW E (x + 334) (updC (updC mo 0 (updZ (mo 0) 0 2)) 1 g2_5)) H4 := hw_0
      replace hzl := Nat.le_trans hzl hF.1
      replace h_cm := h_cm.kept hF 1 rfl (fsd (by omega))
      replace h_co := h_co.kept hF 28 rfl (fsd (by omega))
      replace h_bf := h_bf.kept hF 28 rfl (fsd (by omega))
      replace h_sv := h_sv.kept hF 28 rfl (fsd (by omega))
      replace h_hi := h_hi.kept hF 2 rfl (fsd (by omega))
      replace h_hf := h_hf.kept hF (fsd (by omega))
      replace h_dk := h_dk.kept hF 3 rfl (fsd (by omega))
      replace h_se := h_se.kept hF 5 rfl (fsd (by omega))
      replace h_pg := h_pg.kept hF 1 rfl (fsd (by omega))
      replace h_sb := h_sb.kept hF 1 rfl (fsd (by omega))
      replace h_sa := h_sa.kept hF 1 rfl (fsd (by omega))
      replace h_pr := h_pr.kept hF 10 rfl (fsd (by omega))
      replace h_ln := h_ln.kept hF 1 rfl (fsd (by omega))
      replace h_la := h_la.kept hF 1 rfl (fsd (by omega))
      replace h_out := h_out.kept hF 1 rfl (fsd (by omega))
      replace h_outD := h_outD.kept hF 1 rfl (fsd (by omega))
      show V p l e room_1 s m args below meth cd Q 9 H4 lo4 (kq + 1) (nq + 6) 511 [(6, .int (zI 2)), (5, .int (zI i)), (4, .ref (x + 340)), (3, .ref (x + 339)), (2, .ref (x + 334)), (1, .ref x), (0, .ref b)] [.int (zI 0)]
      refine v_istore X dL_law_511 513 rfl (by decide) (L' := [(7, .int (zI 0)), (6, .int (zI 2)), (5, .int (zI i)), (4, .ref (x + 340)), (3, .ref (x + 339)), (2, .ref (x + 334)), (1, .ref x), (0, .ref b)]) rfl ?_
      refine v_aload_n X dL_law_513 514 rfl 5 rfl ?_
      refine v_rdV X hM.C h_mo.1 (c_X10_thrown l E (x + 334) (updC (updC mo 0 (updZ (mo 0) 0 2)) 1 g2_5)) kvX10_thrown kiX10_thrown kl_L_196 rfl rfl (As := []) rfl rfl (rm_law0 rfl (by omega) (by omega)) dL_law_514 517 rfl ?_
      show V p l e room_1 s m args below meth cd Q 9 H4 lo4 (kq + 1) (nq + 6) 517 [(7, .int (zI 0)), (6, .int (zI 2)), (5, .int (zI i)), (4, .ref (x + 340)), (3, .ref (x + 339)), (2, .ref (x + 334)), (1, .ref x), (0, .ref b)] [.int (zI 2)]
      refine v_iload X dL_law_517 519 rfl 1 rfl ?_
      refine v_icmp_eq X (by omega) (by omega) dL_law_519 522 524 rfl (by decide) (fun c_7 => ?_) (fun c_7 => ?_)
      · skip
        refine v_iload X dL_law_524 526 rfl 1 rfl ?_
        refine v_if_ne X (by omega) dL_law_526 529 541 rfl (by decide) (fun c_8 => ?_) (fun c_8 => ?_)
        · skip
          refine v_goto X dL_law_541 3555 (by decide) ?_
          refine v_widen (k' := kq + 60) (n' := nq + 4000) (by omega) (by omega) ?_
          exact V_pick [2, 3, 4, 5, 6, 7] rfl (kk _ _ hM ⟨hzl, _, _, _, _, _, _, _, _, _, _, _, _, _, _, _, _, _, _, _, _, _, _, _, _, _, _, _, _, ⟨h_cm, h_co, h_bf, h_sv, h_hi, h_hf, h_dk, h_se, h_pg, h_sb, h_sa, h_pr, h_ln, h_la, h_mo, h_out, h_outD⟩, (hP0.g2 hp_f_6)⟩)
        · skip
          exfalso; omega
      · skip
        exfalso; omega
    · skip
      exfalso; omega
  · skip
    exfalso; omega
set_option maxHeartbeats 4000000 in
set_option maxRecDepth 20000 in
theorem lo_testify_f0_3 (hl : l.stackTraces = false) (X : CF p m cd code 9 s args RL) (hX : va_X b Lx xs s s.heap) (hbl : b < s.heap.size) (hLx : Lx ≤ 2560) (hM : MS E [] s H lo) (hk : kq + 60 ≤ 603072) (hn : nq + 4000 ≤ 7211113) (hx : s.heap.size ≤ x) (hzl : x + 341 ≤ H.size) {v : Nat} {N : Nat} {f : Int → Int} {nn : Int} {v2 : Nat} {N2 : Nat} {f2 : Int → Int} {n2 : Int} {co : Nat → Int → Int} {bf : Nat → Int → Int} {cv : Nat → Int → Int} {hc : Nat → Nat → Int → Int} {nx : Int} {sz : Int} {hs : Int} {er : Int} {fa : Int} {ss : Int} {dk : Nat → Int → Int} {se : Nat → Int → Int} {po : Int} {si : Int} {pr : Nat → Int → Int} {ml : Int} {ml2 : Int} {mo : Nat → Int → Int} {lg : Nat → Int64} {dg : Nat → UInt64} (hW : LawW E x v N f nn v2 N2 f2 n2 co bf cv hc nx sz hs er fa ss dk se po si pr ml ml2 mo lg dg H) (hP : LawP x v N f nn v2 N2 f2 n2 co cv hc nx sz hs er fa ss po si pr mo) (i0 : 0 ≤ i) (i1 : i + 5 ≤ (Lx : Int)) {a1 : Int} (ha1 : (xs (i + 1).toNat).toInt = a1) (ga1 : Rg a1) {a2 : Int} (ha2 : (xs (i + 2).toNat).toInt = a2) (ga2 : Rg a2) {a3 : Int} (ha3 : (xs (i + 3).toNat).toInt = a3) (ga3 : Rg a3) {a4 : Int} (ha4 : (xs (i + 4).toNat).toInt = a4) (ga4 : Rg a4) (q0 : flC co 2 a1 a2 a4 = 4) (q1 : a3 = 0) (kk : ∀ (H1 : Heap) (lo1 : List Loc), MS E [] s H1 lo1 → LawI E x H1 → V p l e room_1 s m args below meth cd Q 9 H1 lo1 (kq + 60) (nq + 4000) 3555 [(5, .int (zI i)), (4, .ref (x + 340)), (3, .ref (x + 339)), (2, .ref (x + 334)), (1, .ref x), (0, .ref b)] []) : V p l e room_1 s m args below meth cd Q 9 H lo kq nq 436 [(5, .int (zI i)), (4, .ref (x + 340)), (3, .ref (x + 339)), (2, .ref (x + 334)), (1, .ref x), (0, .ref b)] [] := by
  obtain ⟨h_cm, h_co, h_bf, h_sv, h_hi, h_hf, h_dk, h_se, h_pg, h_sb, h_sa, h_pr, h_ln, h_la, h_mo, h_out, h_outD⟩ := hW
  have hP0 := hP
  obtain ⟨⟨hD, hDv, hDh⟩, ⟨hRM, hch, hcs⟩, ⟨⟨n0, n1⟩, ⟨s0, s1⟩, hhs⟩, ⟨hm8, hnn, hAg, hNN, hnN, hf9⟩, ⟨T, hSB, hLT, hn38⟩, hPB, ⟨her, hfa, hss, ger, gfa, gss, gms⟩, ⟨gpo, gsi⟩, ⟨hv1, hv2, hvv⟩⟩ := hP
  have hO := hD.inv.ok
  have hI := hD.inv.ts
  have hSt := hD.inv.st
  have hS := hD.inv.sn
  have hR := hRM.1.2
  have hG := gp_inv hD
  have hb0 := hO.b0
  have hbw := hO.bw
  have hbf : ¬ Fr [] s.heap.size b := fun z => z.elim (fun q => q.elim) (fun q => by omega)
  refine v_aload_n X dL_law_436 437 rfl 4 rfl ?_
  refine v_aload_n X dL_law_437 438 rfl 5 rfl ?_
  refine v_iload X dL_law_438 440 rfl 0 rfl ?_
  refine v_iconst X dL_law_440 441 rfl ?_
  refine v_iadd X dL_law_441 442 rfl ?_
  refine v_scr X hM hX hbl hbf (by omega) (by omega) hLx ha1 dL_law_442 443 rfl ?_
  refine v_aload_n X dL_law_443 444 rfl 5 rfl ?_
  refine v_iload X dL_law_444 446 rfl 0 rfl ?_
  refine v_iconst X dL_law_446 447 rfl ?_
  refine v_iadd X dL_law_447 448 rfl ?_
  refine v_scr X hM hX hbl hbf (by omega) (by omega) hLx ha2 dL_law_448 449 rfl ?_
  refine v_aload_n X dL_law_449 450 rfl 5 rfl ?_
  refine v_iload X dL_law_450 452 rfl 0 rfl ?_
  refine v_iconst X dL_law_452 453 rfl ?_
  refine v_iadd X dL_law_453 454 rfl ?_
  refine v_scr X hM hX hbl hbf (by omega) (by omega) hLx ha3 dL_law_454 455 rfl ?_
  refine v_if_eq X (by omega) dL_law_455 458 462 rfl (by decide) (fun c_1 => ?_) (fun c_1 => ?_)
  · skip
    refine v_iconst X dL_law_462 463 rfl ?_
    refine v_aload_n X dL_law_463 464 rfl 5 rfl ?_
    refine v_iload X dL_law_464 466 rfl 0 rfl ?_
    refine v_iconst X dL_law_466 467 rfl ?_
    refine v_iadd X dL_law_467 468 rfl ?_
    refine v_scr X hM hX hbl hbf (by omega) (by omega) hLx ha4 dL_law_468 469 rfl ?_
    refine v_aload_n X dL_law_469 470 rfl 2 rfl ?_
    refine v_mwS X hM (w_X9_testify_4_t l hl E x co hs er fa ss a1 a2 0 a4 (x + 339) lg hO ga1 ga2 ga4 (by omega) q0) kwL_testify ksL_testify kl_L_203 (As := [.ref x, .int (zI a1), .int (zI a2), .int (zI 0), .int (zI a4), .ref (x + 339)]) rfl rfl (rm_lawW rfl (by omega) (by omega)) dL_law_470 473 rfl (k' := kq + 1) (n' := nq + 6) rfl rfl (fun q hq => hq.elim) ⟨h_cm, h_co, h_out⟩ (fun rv H2 lo2 hM hF hpo => ?_)
    subst hpo
    replace hzl := Nat.le_trans hzl hF.1
    replace h_cm := h_cm.kept hF 1 rfl (fun q _ _ h => h.elim)
    replace h_co := h_co.kept hF 28 rfl (fun q _ _ h => h.elim)
    replace h_bf := h_bf.kept hF 28 rfl (fun q _ _ h => h.elim)
    replace h_sv := h_sv.kept hF 28 rfl (fun q _ _ h => h.elim)
    replace h_hi := h_hi.kept hF 2 rfl (fun q _ _ h => h.elim)
    replace h_hf := h_hf.kept hF (fun q _ _ h => h.elim)
    replace h_dk := h_dk.kept hF 3 rfl (fun q _ _ h => h.elim)
    replace h_se := h_se.kept hF 5 rfl (fun q _ _ h => h.elim)
    replace h_pg := h_pg.kept hF 1 rfl (fun q _ _ h => h.elim)
    replace h_sb := h_sb.kept hF 1 rfl (fun q _ _ h => h.elim)
    replace h_sa := h_sa.kept hF 1 rfl (fun q _ _ h => h.elim)
    replace h_pr := h_pr.kept hF 10 rfl (fun q _ _ h => h.elim)
    replace h_ln := h_ln.kept hF 1 rfl (fun q _ _ h => h.elim)
    replace h_la := h_la.kept hF 1 rfl (fun q _ _ h => h.elim)
    replace h_mo := h_mo.kept hF 5 rfl (fun q _ _ h => h.elim)
    replace h_out := h_out.kept hF 1 rfl (fun q _ _ h => h.elim)
    replace h_outD := h_outD.kept hF 1 rfl (fun q _ _ h => h.elim)
    show V p l e room_1 s m args below meth cd Q 9 H2 lo2 (kq + 1) (nq + 6) 473 [(5, .int (zI i)), (4, .ref (x + 340)), (3, .ref (x + 339)), (2, .ref (x + 334)), (1, .ref x), (0, .ref b)] [.int (zI 3)]
    refine v_istore X dL_law_473 475 rfl (by decide) (L' := [(6, .int (zI 3)), (5, .int (zI i)), (4, .ref (x + 340)), (3, .ref (x + 339)), (2, .ref (x + 334)), (1, .ref x), (0, .ref b)]) rfl ?_
    refine v_aload_n X dL_law_475 476 rfl 4 rfl ?_
    refine v_aload_n X dL_law_476 477 rfl 6 rfl ?_
    refine v_iload X dL_law_477 479 rfl 1 rfl ?_
    refine v_iconst X dL_law_479 480 rfl ?_
    refine v_iadd X dL_law_480 481 rfl ?_
    refine v_scr X hM hX hbl hbf (by omega) (by omega) hLx ha1 dL_law_481 482 rfl ?_
    refine v_aload_n X dL_law_482 483 rfl 6 rfl ?_
    refine v_iload X dL_law_483 485 rfl 1 rfl ?_
    refine v_iconst X dL_law_485 486 rfl ?_
    refine v_iadd X dL_law_486 487 rfl ?_
    refine v_scr X hM hX hbl hbf (by omega) (by omega) hLx ha2 dL_law_487 488 rfl ?_
    refine v_aload_n X dL_law_488 489 rfl 6 rfl ?_
    refine v_iload X dL_law_489 491 rfl 1 rfl ?_
    refine v_iconst X dL_law_491 492 rfl ?_
    refine v_iadd X dL_law_492 493 rfl ?_
    refine v_scr X hM hX hbl hbf (by omega) (by omega) hLx ha3 dL_law_493 494 rfl ?_
    refine v_if_eq X (by omega) dL_law_494 497 501 rfl (by decide) (fun c_3 => ?_) (fun c_3 => ?_)
    · skip
      refine v_iconst X dL_law_501 502 rfl ?_
      refine v_aload_n X dL_law_502 503 rfl 6 rfl ?_
      refine v_iload X dL_law_503 505 rfl 1 rfl ?_
      refine v_iconst X dL_law_505 506 rfl ?_
      refine v_iadd X dL_law_506 507 rfl ?_
      refine v_scr X hM hX hbl hbf (by omega) (by omega) hLx ha4 dL_law_507 508 rfl ?_
      refine v_muV X hM (h_mo.1) (c_X10_testify_f4 l E (x + 334) mo co cv hc nx sz hs a1 a2 0 a4 hO hI hRM hch n0 n1 s0 s1 ga1 ga2 ga4 (by omega) q0) kvX10_testify kiX10_testify kl_L_206 (q0 := 0) rfl rfl (As := [.int (zI a1), .int (zI a2), .int (zI 0), .int (zI a4)]) rfl rfl (rm_law rfl (by omega) (by omega)) dL_law_508 511 rfl (k' := kq + 1) (n' := nq + 6) rfl rfl (fsI (fun q q1 q2 => (Or.inr (by omega)))) h_mo (fun rv H4 lo4 hM hF hpo => ?_)
      obtain ⟨g2_5, rfl, hp_f_6, hw_0⟩ := hpo
      have h_mo : PR E (x + 334) (modelW E (x + 334) (updC (updC mo 0 (updZ (mo 0) 0 3)) 1 g2_5)) H4 := hw_0
      replace hzl := Nat.le_trans hzl hF.1
      replace h_cm := h_cm.kept hF 1 rfl (fsd (by omega))
      replace h_co := h_co.kept hF 28 rfl (fsd (by omega))
      replace h_bf := h_bf.kept hF 28 rfl (fsd (by omega))
      replace h_sv := h_sv.kept hF 28 rfl (fsd (by omega))
      replace h_hi := h_hi.kept hF 2 rfl (fsd (by omega))
      replace h_hf := h_hf.kept hF (fsd (by omega))
      replace h_dk := h_dk.kept hF 3 rfl (fsd (by omega))
      replace h_se := h_se.kept hF 5 rfl (fsd (by omega))
      replace h_pg := h_pg.kept hF 1 rfl (fsd (by omega))
      replace h_sb := h_sb.kept hF 1 rfl (fsd (by omega))
      replace h_sa := h_sa.kept hF 1 rfl (fsd (by omega))
      replace h_pr := h_pr.kept hF 10 rfl (fsd (by omega))
      replace h_ln := h_ln.kept hF 1 rfl (fsd (by omega))
      replace h_la := h_la.kept hF 1 rfl (fsd (by omega))
      replace h_out := h_out.kept hF 1 rfl (fsd (by omega))
      replace h_outD := h_outD.kept hF 1 rfl (fsd (by omega))
      show V p l e room_1 s m args below meth cd Q 9 H4 lo4 (kq + 1) (nq + 6) 511 [(6, .int (zI 3)), (5, .int (zI i)), (4, .ref (x + 340)), (3, .ref (x + 339)), (2, .ref (x + 334)), (1, .ref x), (0, .ref b)] [.int (zI 0)]
      refine v_istore X dL_law_511 513 rfl (by decide) (L' := [(7, .int (zI 0)), (6, .int (zI 3)), (5, .int (zI i)), (4, .ref (x + 340)), (3, .ref (x + 339)), (2, .ref (x + 334)), (1, .ref x), (0, .ref b)]) rfl ?_
      refine v_aload_n X dL_law_513 514 rfl 5 rfl ?_
      refine v_rdV X hM.C h_mo.1 (c_X10_thrown l E (x + 334) (updC (updC mo 0 (updZ (mo 0) 0 3)) 1 g2_5)) kvX10_thrown kiX10_thrown kl_L_196 rfl rfl (As := []) rfl rfl (rm_law0 rfl (by omega) (by omega)) dL_law_514 517 rfl ?_
      show V p l e room_1 s m args below meth cd Q 9 H4 lo4 (kq + 1) (nq + 6) 517 [(7, .int (zI 0)), (6, .int (zI 3)), (5, .int (zI i)), (4, .ref (x + 340)), (3, .ref (x + 339)), (2, .ref (x + 334)), (1, .ref x), (0, .ref b)] [.int (zI 3)]
      refine v_iload X dL_law_517 519 rfl 1 rfl ?_
      refine v_icmp_eq X (by omega) (by omega) dL_law_519 522 524 rfl (by decide) (fun c_7 => ?_) (fun c_7 => ?_)
      · skip
        refine v_iload X dL_law_524 526 rfl 1 rfl ?_
        refine v_if_ne X (by omega) dL_law_526 529 541 rfl (by decide) (fun c_8 => ?_) (fun c_8 => ?_)
        · skip
          refine v_goto X dL_law_541 3555 (by decide) ?_
          refine v_widen (k' := kq + 60) (n' := nq + 4000) (by omega) (by omega) ?_
          exact V_pick [2, 3, 4, 5, 6, 7] rfl (kk _ _ hM ⟨hzl, _, _, _, _, _, _, _, _, _, _, _, _, _, _, _, _, _, _, _, _, _, _, _, _, _, _, _, _, ⟨h_cm, h_co, h_bf, h_sv, h_hi, h_hf, h_dk, h_se, h_pg, h_sb, h_sa, h_pr, h_ln, h_la, h_mo, h_out, h_outD⟩, (hP0.g2 hp_f_6)⟩)
        · skip
          exfalso; omega
      · skip
        exfalso; omega
    · skip
      exfalso; omega
  · skip
    exfalso; omega
set_option maxHeartbeats 4000000 in
set_option maxRecDepth 20000 in
theorem lo_testify_f1 (hl : l.stackTraces = false) (X : CF p m cd code 9 s args RL) (hX : va_X b Lx xs s s.heap) (hbl : b < s.heap.size) (hLx : Lx ≤ 2560) (hM : MS E [] s H lo) (hk : kq + 60 ≤ 603072) (hn : nq + 4000 ≤ 7211113) (hx : s.heap.size ≤ x) (hzl : x + 341 ≤ H.size) {v : Nat} {N : Nat} {f : Int → Int} {nn : Int} {v2 : Nat} {N2 : Nat} {f2 : Int → Int} {n2 : Int} {co : Nat → Int → Int} {bf : Nat → Int → Int} {cv : Nat → Int → Int} {hc : Nat → Nat → Int → Int} {nx : Int} {sz : Int} {hs : Int} {er : Int} {fa : Int} {ss : Int} {dk : Nat → Int → Int} {se : Nat → Int → Int} {po : Int} {si : Int} {pr : Nat → Int → Int} {ml : Int} {ml2 : Int} {mo : Nat → Int → Int} {lg : Nat → Int64} {dg : Nat → UInt64} (hW : LawW E x v N f nn v2 N2 f2 n2 co bf cv hc nx sz hs er fa ss dk se po si pr ml ml2 mo lg dg H) (hP : LawP x v N f nn v2 N2 f2 n2 co cv hc nx sz hs er fa ss po si pr mo) (i0 : 0 ≤ i) (i1 : i + 5 ≤ (Lx : Int)) {a1 : Int} (ha1 : (xs (i + 1).toNat).toInt = a1) (ga1 : Rg a1) {a2 : Int} (ha2 : (xs (i + 2).toNat).toInt = a2) (ga2 : Rg a2) {a3 : Int} (ha3 : (xs (i + 3).toNat).toInt = a3) (ga3 : Rg a3) {a4 : Int} (ha4 : (xs (i + 4).toNat).toInt = a4) (ga4 : Rg a4) (q0 : flC co 2 a1 a2 a4 = 0) (q1 : ¬ a3 = 0) (kk : ∀ (H1 : Heap) (lo1 : List Loc), MS E [] s H1 lo1 → LawI E x H1 → V p l e room_1 s m args below meth cd Q 9 H1 lo1 (kq + 60) (nq + 4000) 3555 [(5, .int (zI i)), (4, .ref (x + 340)), (3, .ref (x + 339)), (2, .ref (x + 334)), (1, .ref x), (0, .ref b)] []) : V p l e room_1 s m args below meth cd Q 9 H lo kq nq 436 [(5, .int (zI i)), (4, .ref (x + 340)), (3, .ref (x + 339)), (2, .ref (x + 334)), (1, .ref x), (0, .ref b)] [] := by
  obtain ⟨h_cm, h_co, h_bf, h_sv, h_hi, h_hf, h_dk, h_se, h_pg, h_sb, h_sa, h_pr, h_ln, h_la, h_mo, h_out, h_outD⟩ := hW
  have hP0 := hP
  obtain ⟨⟨hD, hDv, hDh⟩, ⟨hRM, hch, hcs⟩, ⟨⟨n0, n1⟩, ⟨s0, s1⟩, hhs⟩, ⟨hm8, hnn, hAg, hNN, hnN, hf9⟩, ⟨T, hSB, hLT, hn38⟩, hPB, ⟨her, hfa, hss, ger, gfa, gss, gms⟩, ⟨gpo, gsi⟩, ⟨hv1, hv2, hvv⟩⟩ := hP
  have hO := hD.inv.ok
  have hI := hD.inv.ts
  have hSt := hD.inv.st
  have hS := hD.inv.sn
  have hR := hRM.1.2
  have hG := gp_inv hD
  have hb0 := hO.b0
  have hbw := hO.bw
  have hbf : ¬ Fr [] s.heap.size b := fun z => z.elim (fun q => q.elim) (fun q => by omega)
  have hD2 := op_inv hD (kd := 2) (a := a1) (b := a2) (f := 1) (z := a4) (by decide) q0
  refine v_aload_n X dL_law_436 437 rfl 4 rfl ?_
  refine v_aload_n X dL_law_437 438 rfl 5 rfl ?_
  refine v_iload X dL_law_438 440 rfl 0 rfl ?_
  refine v_iconst X dL_law_440 441 rfl ?_
  refine v_iadd X dL_law_441 442 rfl ?_
  refine v_scr X hM hX hbl hbf (by omega) (by omega) hLx ha1 dL_law_442 443 rfl ?_
  refine v_aload_n X dL_law_443 444 rfl 5 rfl ?_
  refine v_iload X dL_law_444 446 rfl 0 rfl ?_
  refine v_iconst X dL_law_446 447 rfl ?_
  refine v_iadd X dL_law_447 448 rfl ?_
  refine v_scr X hM hX hbl hbf (by omega) (by omega) hLx ha2 dL_law_448 449 rfl ?_
  refine v_aload_n X dL_law_449 450 rfl 5 rfl ?_
  refine v_iload X dL_law_450 452 rfl 0 rfl ?_
  refine v_iconst X dL_law_452 453 rfl ?_
  refine v_iadd X dL_law_453 454 rfl ?_
  refine v_scr X hM hX hbl hbf (by omega) (by omega) hLx ha3 dL_law_454 455 rfl ?_
  refine v_if_eq X (by omega) dL_law_455 458 462 rfl (by decide) (fun c_1 => ?_) (fun c_1 => ?_)
  · skip
    exfalso; omega
  · skip
    refine v_iconst X dL_law_458 459 rfl ?_
    refine v_goto X dL_law_459 463 (by decide) ?_
    refine v_aload_n X dL_law_463 464 rfl 5 rfl ?_
    refine v_iload X dL_law_464 466 rfl 0 rfl ?_
    refine v_iconst X dL_law_466 467 rfl ?_
    refine v_iadd X dL_law_467 468 rfl ?_
    refine v_scr X hM hX hbl hbf (by omega) (by omega) hLx ha4 dL_law_468 469 rfl ?_
    refine v_aload_n X dL_law_469 470 rfl 2 rfl ?_
    refine v_mwS X hM (w_X9_testify l hl E x co hs er fa ss a1 a2 1 a4 hc nx sz (x + 339) lg hO ga1 ga2 ga4 (by omega) q0 n0 n1 s0 s1 (by omega) (by omega) (by omega) (by omega) (by omega) (by omega) (by omega) (by omega) (by omega) (by omega)) kwL_testify ksL_testify kl_L_203 (As := [.ref x, .int (zI a1), .int (zI a2), .int (zI 1), .int (zI a4), .ref (x + 339)]) rfl rfl (rm_lawW rfl (by omega) (by omega)) dL_law_470 473 rfl (k' := kq + 1) (n' := nq + 6) rfl rfl (by intro q hq; simp only [Fr, Fs, or_false, false_or] at hq ⊢; omega) ⟨h_cm, h_co, h_hi, h_hf, h_out⟩ (fun rv H2 lo2 hM hF hpo => ?_)
    obtain ⟨rfl, hw_0, hw_1, hw_2, hw_3⟩ := hpo
    have h_co : PR E (x + 1) (courtW E (x + 1) (opC co 2 a1 a2 1 a4)) H2 := hw_0
    have h_hi : PR E (x + 85) [(x + 85, .inr (7, [.ref (x + 86), .int (zI (if nx < 7 then nx + 1 else 0)), .int (zI (min (sz + 1) 8))])), (x + 86, .inl (E 102 3, 8, .inr (.inr (.inr (.inr (hisA (x + 87) 8))))))] H2 := hw_1
    have h_hf : HF E (x + 87) 8 (fun j => if j = nx.toNat then co else hc j) H2 := hw_2
    have h_out : PR E (x + 339) [(x + 339, .inl (E 102 4, 1, .inr (.inl (fun _ => zL (opV co 2 a1 a2 1 a4)))))] H2 := hw_3
    replace hzl := Nat.le_trans hzl hF.1
    replace h_cm := h_cm.kept hF 1 rfl (by intro q q1 q2 q3; simp only [Fs, or_false] at q3; omega)
    replace h_bf := h_bf.kept hF 28 rfl (by intro q q1 q2 q3; simp only [Fs, or_false] at q3; omega)
    replace h_sv := h_sv.kept hF 28 rfl (by intro q q1 q2 q3; simp only [Fs, or_false] at q3; omega)
    replace h_dk := h_dk.kept hF 3 rfl (by intro q q1 q2 q3; simp only [Fs, or_false] at q3; omega)
    replace h_se := h_se.kept hF 5 rfl (by intro q q1 q2 q3; simp only [Fs, or_false] at q3; omega)
    replace h_pg := h_pg.kept hF 1 rfl (by intro q q1 q2 q3; simp only [Fs, or_false] at q3; omega)
    replace h_sb := h_sb.kept hF 1 rfl (by intro q q1 q2 q3; simp only [Fs, or_false] at q3; omega)
    replace h_sa := h_sa.kept hF 1 rfl (by intro q q1 q2 q3; simp only [Fs, or_false] at q3; omega)
    replace h_pr := h_pr.kept hF 10 rfl (by intro q q1 q2 q3; simp only [Fs, or_false] at q3; omega)
    replace h_ln := h_ln.kept hF 1 rfl (by intro q q1 q2 q3; simp only [Fs, or_false] at q3; omega)
    replace h_la := h_la.kept hF 1 rfl (by intro q q1 q2 q3; simp only [Fs, or_false] at q3; omega)
    replace h_mo := h_mo.kept hF 5 rfl (by intro q q1 q2 q3; simp only [Fs, or_false] at q3; omega)
    replace h_outD := h_outD.kept hF 1 rfl (by intro q q1 q2 q3; simp only [Fs, or_false] at q3; omega)
    show V p l e room_1 s m args below meth cd Q 9 H2 lo2 (kq + 1) (nq + 6) 473 [(5, .int (zI i)), (4, .ref (x + 340)), (3, .ref (x + 339)), (2, .ref (x + 334)), (1, .ref x), (0, .ref b)] [.int (zI 0)]
    refine v_istore X dL_law_473 475 rfl (by decide) (L' := [(6, .int (zI 0)), (5, .int (zI i)), (4, .ref (x + 340)), (3, .ref (x + 339)), (2, .ref (x + 334)), (1, .ref x), (0, .ref b)]) rfl ?_
    refine v_aload_n X dL_law_475 476 rfl 4 rfl ?_
    refine v_aload_n X dL_law_476 477 rfl 6 rfl ?_
    refine v_iload X dL_law_477 479 rfl 1 rfl ?_
    refine v_iconst X dL_law_479 480 rfl ?_
    refine v_iadd X dL_law_480 481 rfl ?_
    refine v_scr X hM hX hbl hbf (by omega) (by omega) hLx ha1 dL_law_481 482 rfl ?_
    refine v_aload_n X dL_law_482 483 rfl 6 rfl ?_
    refine v_iload X dL_law_483 485 rfl 1 rfl ?_
    refine v_iconst X dL_law_485 486 rfl ?_
    refine v_iadd X dL_law_486 487 rfl ?_
    refine v_scr X hM hX hbl hbf (by omega) (by omega) hLx ha2 dL_law_487 488 rfl ?_
    refine v_aload_n X dL_law_488 489 rfl 6 rfl ?_
    refine v_iload X dL_law_489 491 rfl 1 rfl ?_
    refine v_iconst X dL_law_491 492 rfl ?_
    refine v_iadd X dL_law_492 493 rfl ?_
    refine v_scr X hM hX hbl hbf (by omega) (by omega) hLx ha3 dL_law_493 494 rfl ?_
    refine v_if_eq X (by omega) dL_law_494 497 501 rfl (by decide) (fun c_3 => ?_) (fun c_3 => ?_)
    · skip
      exfalso; omega
    · skip
      refine v_iconst X dL_law_497 498 rfl ?_
      refine v_goto X dL_law_498 502 (by decide) ?_
      refine v_aload_n X dL_law_502 503 rfl 6 rfl ?_
      refine v_iload X dL_law_503 505 rfl 1 rfl ?_
      refine v_iconst X dL_law_505 506 rfl ?_
      refine v_iadd X dL_law_506 507 rfl ?_
      refine v_scr X hM hX hbl hbf (by omega) (by omega) hLx ha4 dL_law_507 508 rfl ?_
      refine v_muV X hM (h_mo.1) (c_X10_testify_ok l E (x + 334) mo co cv hc nx sz hs a1 a2 1 a4 hO hI hRM hch n0 n1 s0 s1 ga1 ga2 ga4 (by omega) q0 hD2.inv.ok) kvX10_testify kiX10_testify kl_L_206 (q0 := 0) rfl rfl (As := [.int (zI a1), .int (zI a2), .int (zI 1), .int (zI a4)]) rfl rfl (rm_law rfl (by omega) (by omega)) dL_law_508 511 rfl (k' := kq + 1) (n' := nq + 6) rfl rfl (fsI (fun q q1 q2 => (Or.inr (by omega)))) h_mo (fun rv H4 lo4 hM hF hpo => ?_)
      obtain ⟨g2_5, q4_6, rfl, hp_f_7, hw_0⟩ := hpo
      have h_mo : PR E (x + 334) (modelW E (x + 334) (updC (updC mo 0 (updZ (updZ (updZ (mo 0) 0 0) 2 (min (sz + 1) 8)) 4 q4_6)) 1 g2_5)) H4 := hw_0
      replace hzl := Nat.le_trans hzl hF.1
      replace h_cm := h_cm.kept hF 1 rfl (fsd (by omega))
      replace h_co := h_co.kept hF 28 rfl (fsd (by omega))
      replace h_bf := h_bf.kept hF 28 rfl (fsd (by omega))
      replace h_sv := h_sv.kept hF 28 rfl (fsd (by omega))
      replace h_hi := h_hi.kept hF 2 rfl (fsd (by omega))
      replace h_hf := h_hf.kept hF (fsd (by omega))
      replace h_dk := h_dk.kept hF 3 rfl (fsd (by omega))
      replace h_se := h_se.kept hF 5 rfl (fsd (by omega))
      replace h_pg := h_pg.kept hF 1 rfl (fsd (by omega))
      replace h_sb := h_sb.kept hF 1 rfl (fsd (by omega))
      replace h_sa := h_sa.kept hF 1 rfl (fsd (by omega))
      replace h_pr := h_pr.kept hF 10 rfl (fsd (by omega))
      replace h_ln := h_ln.kept hF 1 rfl (fsd (by omega))
      replace h_la := h_la.kept hF 1 rfl (fsd (by omega))
      replace h_out := h_out.kept hF 1 rfl (fsd (by omega))
      replace h_outD := h_outD.kept hF 1 rfl (fsd (by omega))
      show V p l e room_1 s m args below meth cd Q 9 H4 lo4 (kq + 1) (nq + 6) 511 [(6, .int (zI 0)), (5, .int (zI i)), (4, .ref (x + 340)), (3, .ref (x + 339)), (2, .ref (x + 334)), (1, .ref x), (0, .ref b)] [.int (zI (opV co 2 a1 a2 1 a4))]
      refine v_istore X dL_law_511 513 rfl (by decide) (L' := [(7, .int (zI (opV co 2 a1 a2 1 a4))), (6, .int (zI 0)), (5, .int (zI i)), (4, .ref (x + 340)), (3, .ref (x + 339)), (2, .ref (x + 334)), (1, .ref x), (0, .ref b)]) rfl ?_
      refine v_aload_n X dL_law_513 514 rfl 5 rfl ?_
      refine v_rdV X hM.C h_mo.1 (c_X10_thrown l E (x + 334) (updC (updC mo 0 (updZ (updZ (updZ (mo 0) 0 0) 2 (min (sz + 1) 8)) 4 q4_6)) 1 g2_5)) kvX10_thrown kiX10_thrown kl_L_196 rfl rfl (As := []) rfl rfl (rm_law0 rfl (by omega) (by omega)) dL_law_514 517 rfl ?_
      show V p l e room_1 s m args below meth cd Q 9 H4 lo4 (kq + 1) (nq + 6) 517 [(7, .int (zI (opV co 2 a1 a2 1 a4))), (6, .int (zI 0)), (5, .int (zI i)), (4, .ref (x + 340)), (3, .ref (x + 339)), (2, .ref (x + 334)), (1, .ref x), (0, .ref b)] [.int (zI 0)]
      refine v_iload X dL_law_517 519 rfl 1 rfl ?_
      refine v_icmp_eq X (by omega) (by omega) dL_law_519 522 524 rfl (by decide) (fun c_8 => ?_) (fun c_8 => ?_)
      · skip
        refine v_iload X dL_law_524 526 rfl 1 rfl ?_
        refine v_if_ne X (by omega) dL_law_526 529 541 rfl (by decide) (fun c_9 => ?_) (fun c_9 => ?_)
        · skip
          exfalso; omega
        · skip
          refine v_aload_n X dL_law_529 530 rfl 4 rfl ?_
          refine v_iconst X dL_law_530 531 rfl ?_
          refine v_lald X hM.C h_out.1 0 rfl dL_law_531 532 rfl ?_
          show V p l e room_1 s m args below meth cd Q 9 H4 lo4 (kq + 1) (nq + 6) 532 [(7, .int (zI (opV co 2 a1 a2 1 a4))), (6, .int (zI 0)), (5, .int (zI i)), (4, .ref (x + 340)), (3, .ref (x + 339)), (2, .ref (x + 334)), (1, .ref x), (0, .ref b)] [.long (zL (opV co 2 a1 a2 1 a4))]
          refine v_iload X dL_law_532 534 rfl 0 rfl ?_
          refine v_i2l X dL_law_534 535 rfl ?_
          refine v_lcmp0 X dL_law_535 536 rfl ?_
          refine v_if_eq X (by omega) dL_law_536 539 541 rfl (by decide) (fun c_10 => ?_) (fun c_10 => ?_)
          · skip
            refine v_goto X dL_law_541 3555 (by decide) ?_
            refine v_widen (k' := kq + 60) (n' := nq + 4000) (by omega) (by omega) ?_
            exact V_pick [2, 3, 4, 5, 6, 7] rfl (kk _ _ hM ⟨hzl, _, _, _, _, _, _, _, _, _, _, _, _, _, _, _, _, _, _, _, _, _, _, _, _, _, _, _, _, ⟨h_cm, h_co, h_bf, h_sv, h_hi, h_hf, h_dk, h_se, h_pg, h_sb, h_sa, h_pr, h_ln, h_la, h_mo, h_out, h_outD⟩, (hP0.push hD2 hp_f_7)⟩)
          · skip
            exfalso; omega
      · skip
        exfalso; omega
set_option maxHeartbeats 4000000 in
set_option maxRecDepth 20000 in
theorem lo_testify_f1_1 (hl : l.stackTraces = false) (X : CF p m cd code 9 s args RL) (hX : va_X b Lx xs s s.heap) (hbl : b < s.heap.size) (hLx : Lx ≤ 2560) (hM : MS E [] s H lo) (hk : kq + 60 ≤ 603072) (hn : nq + 4000 ≤ 7211113) (hx : s.heap.size ≤ x) (hzl : x + 341 ≤ H.size) {v : Nat} {N : Nat} {f : Int → Int} {nn : Int} {v2 : Nat} {N2 : Nat} {f2 : Int → Int} {n2 : Int} {co : Nat → Int → Int} {bf : Nat → Int → Int} {cv : Nat → Int → Int} {hc : Nat → Nat → Int → Int} {nx : Int} {sz : Int} {hs : Int} {er : Int} {fa : Int} {ss : Int} {dk : Nat → Int → Int} {se : Nat → Int → Int} {po : Int} {si : Int} {pr : Nat → Int → Int} {ml : Int} {ml2 : Int} {mo : Nat → Int → Int} {lg : Nat → Int64} {dg : Nat → UInt64} (hW : LawW E x v N f nn v2 N2 f2 n2 co bf cv hc nx sz hs er fa ss dk se po si pr ml ml2 mo lg dg H) (hP : LawP x v N f nn v2 N2 f2 n2 co cv hc nx sz hs er fa ss po si pr mo) (i0 : 0 ≤ i) (i1 : i + 5 ≤ (Lx : Int)) {a1 : Int} (ha1 : (xs (i + 1).toNat).toInt = a1) (ga1 : Rg a1) {a2 : Int} (ha2 : (xs (i + 2).toNat).toInt = a2) (ga2 : Rg a2) {a3 : Int} (ha3 : (xs (i + 3).toNat).toInt = a3) (ga3 : Rg a3) {a4 : Int} (ha4 : (xs (i + 4).toNat).toInt = a4) (ga4 : Rg a4) (q0 : flC co 2 a1 a2 a4 = 1) (q1 : ¬ a3 = 0) (kk : ∀ (H1 : Heap) (lo1 : List Loc), MS E [] s H1 lo1 → LawI E x H1 → V p l e room_1 s m args below meth cd Q 9 H1 lo1 (kq + 60) (nq + 4000) 3555 [(5, .int (zI i)), (4, .ref (x + 340)), (3, .ref (x + 339)), (2, .ref (x + 334)), (1, .ref x), (0, .ref b)] []) : V p l e room_1 s m args below meth cd Q 9 H lo kq nq 436 [(5, .int (zI i)), (4, .ref (x + 340)), (3, .ref (x + 339)), (2, .ref (x + 334)), (1, .ref x), (0, .ref b)] [] := by
  obtain ⟨h_cm, h_co, h_bf, h_sv, h_hi, h_hf, h_dk, h_se, h_pg, h_sb, h_sa, h_pr, h_ln, h_la, h_mo, h_out, h_outD⟩ := hW
  have hP0 := hP
  obtain ⟨⟨hD, hDv, hDh⟩, ⟨hRM, hch, hcs⟩, ⟨⟨n0, n1⟩, ⟨s0, s1⟩, hhs⟩, ⟨hm8, hnn, hAg, hNN, hnN, hf9⟩, ⟨T, hSB, hLT, hn38⟩, hPB, ⟨her, hfa, hss, ger, gfa, gss, gms⟩, ⟨gpo, gsi⟩, ⟨hv1, hv2, hvv⟩⟩ := hP
  have hO := hD.inv.ok
  have hI := hD.inv.ts
  have hSt := hD.inv.st
  have hS := hD.inv.sn
  have hR := hRM.1.2
  have hG := gp_inv hD
  have hb0 := hO.b0
  have hbw := hO.bw
  have hbf : ¬ Fr [] s.heap.size b := fun z => z.elim (fun q => q.elim) (fun q => by omega)
  refine v_aload_n X dL_law_436 437 rfl 4 rfl ?_
  refine v_aload_n X dL_law_437 438 rfl 5 rfl ?_
  refine v_iload X dL_law_438 440 rfl 0 rfl ?_
  refine v_iconst X dL_law_440 441 rfl ?_
  refine v_iadd X dL_law_441 442 rfl ?_
  refine v_scr X hM hX hbl hbf (by omega) (by omega) hLx ha1 dL_law_442 443 rfl ?_
  refine v_aload_n X dL_law_443 444 rfl 5 rfl ?_
  refine v_iload X dL_law_444 446 rfl 0 rfl ?_
  refine v_iconst X dL_law_446 447 rfl ?_
  refine v_iadd X dL_law_447 448 rfl ?_
  refine v_scr X hM hX hbl hbf (by omega) (by omega) hLx ha2 dL_law_448 449 rfl ?_
  refine v_aload_n X dL_law_449 450 rfl 5 rfl ?_
  refine v_iload X dL_law_450 452 rfl 0 rfl ?_
  refine v_iconst X dL_law_452 453 rfl ?_
  refine v_iadd X dL_law_453 454 rfl ?_
  refine v_scr X hM hX hbl hbf (by omega) (by omega) hLx ha3 dL_law_454 455 rfl ?_
  refine v_if_eq X (by omega) dL_law_455 458 462 rfl (by decide) (fun c_1 => ?_) (fun c_1 => ?_)
  · skip
    exfalso; omega
  · skip
    refine v_iconst X dL_law_458 459 rfl ?_
    refine v_goto X dL_law_459 463 (by decide) ?_
    refine v_aload_n X dL_law_463 464 rfl 5 rfl ?_
    refine v_iload X dL_law_464 466 rfl 0 rfl ?_
    refine v_iconst X dL_law_466 467 rfl ?_
    refine v_iadd X dL_law_467 468 rfl ?_
    refine v_scr X hM hX hbl hbf (by omega) (by omega) hLx ha4 dL_law_468 469 rfl ?_
    refine v_aload_n X dL_law_469 470 rfl 2 rfl ?_
    refine v_mwS X hM (w_X9_testify_1_t l hl E x co hs er fa ss a1 a2 1 a4 (x + 339) lg hO ga1 ga2 ga4 (by omega) q0) kwL_testify ksL_testify kl_L_203 (As := [.ref x, .int (zI a1), .int (zI a2), .int (zI 1), .int (zI a4), .ref (x + 339)]) rfl rfl (rm_lawW rfl (by omega) (by omega)) dL_law_470 473 rfl (k' := kq + 1) (n' := nq + 6) rfl rfl (fun q hq => hq.elim) ⟨h_cm, h_co, h_out⟩ (fun rv H2 lo2 hM hF hpo => ?_)
    subst hpo
    replace hzl := Nat.le_trans hzl hF.1
    replace h_cm := h_cm.kept hF 1 rfl (fun q _ _ h => h.elim)
    replace h_co := h_co.kept hF 28 rfl (fun q _ _ h => h.elim)
    replace h_bf := h_bf.kept hF 28 rfl (fun q _ _ h => h.elim)
    replace h_sv := h_sv.kept hF 28 rfl (fun q _ _ h => h.elim)
    replace h_hi := h_hi.kept hF 2 rfl (fun q _ _ h => h.elim)
    replace h_hf := h_hf.kept hF (fun q _ _ h => h.elim)
    replace h_dk := h_dk.kept hF 3 rfl (fun q _ _ h => h.elim)
    replace h_se := h_se.kept hF 5 rfl (fun q _ _ h => h.elim)
    replace h_pg := h_pg.kept hF 1 rfl (fun q _ _ h => h.elim)
    replace h_sb := h_sb.kept hF 1 rfl (fun q _ _ h => h.elim)
    replace h_sa := h_sa.kept hF 1 rfl (fun q _ _ h => h.elim)
    replace h_pr := h_pr.kept hF 10 rfl (fun q _ _ h => h.elim)
    replace h_ln := h_ln.kept hF 1 rfl (fun q _ _ h => h.elim)
    replace h_la := h_la.kept hF 1 rfl (fun q _ _ h => h.elim)
    replace h_mo := h_mo.kept hF 5 rfl (fun q _ _ h => h.elim)
    replace h_out := h_out.kept hF 1 rfl (fun q _ _ h => h.elim)
    replace h_outD := h_outD.kept hF 1 rfl (fun q _ _ h => h.elim)
    show V p l e room_1 s m args below meth cd Q 9 H2 lo2 (kq + 1) (nq + 6) 473 [(5, .int (zI i)), (4, .ref (x + 340)), (3, .ref (x + 339)), (2, .ref (x + 334)), (1, .ref x), (0, .ref b)] [.int (zI 1)]
    refine v_istore X dL_law_473 475 rfl (by decide) (L' := [(6, .int (zI 1)), (5, .int (zI i)), (4, .ref (x + 340)), (3, .ref (x + 339)), (2, .ref (x + 334)), (1, .ref x), (0, .ref b)]) rfl ?_
    refine v_aload_n X dL_law_475 476 rfl 4 rfl ?_
    refine v_aload_n X dL_law_476 477 rfl 6 rfl ?_
    refine v_iload X dL_law_477 479 rfl 1 rfl ?_
    refine v_iconst X dL_law_479 480 rfl ?_
    refine v_iadd X dL_law_480 481 rfl ?_
    refine v_scr X hM hX hbl hbf (by omega) (by omega) hLx ha1 dL_law_481 482 rfl ?_
    refine v_aload_n X dL_law_482 483 rfl 6 rfl ?_
    refine v_iload X dL_law_483 485 rfl 1 rfl ?_
    refine v_iconst X dL_law_485 486 rfl ?_
    refine v_iadd X dL_law_486 487 rfl ?_
    refine v_scr X hM hX hbl hbf (by omega) (by omega) hLx ha2 dL_law_487 488 rfl ?_
    refine v_aload_n X dL_law_488 489 rfl 6 rfl ?_
    refine v_iload X dL_law_489 491 rfl 1 rfl ?_
    refine v_iconst X dL_law_491 492 rfl ?_
    refine v_iadd X dL_law_492 493 rfl ?_
    refine v_scr X hM hX hbl hbf (by omega) (by omega) hLx ha3 dL_law_493 494 rfl ?_
    refine v_if_eq X (by omega) dL_law_494 497 501 rfl (by decide) (fun c_3 => ?_) (fun c_3 => ?_)
    · skip
      exfalso; omega
    · skip
      refine v_iconst X dL_law_497 498 rfl ?_
      refine v_goto X dL_law_498 502 (by decide) ?_
      refine v_aload_n X dL_law_502 503 rfl 6 rfl ?_
      refine v_iload X dL_law_503 505 rfl 1 rfl ?_
      refine v_iconst X dL_law_505 506 rfl ?_
      refine v_iadd X dL_law_506 507 rfl ?_
      refine v_scr X hM hX hbl hbf (by omega) (by omega) hLx ha4 dL_law_507 508 rfl ?_
      refine v_muV X hM (h_mo.1) (c_X10_testify_f1 l E (x + 334) mo co cv hc nx sz hs a1 a2 1 a4 hO hI hRM hch n0 n1 s0 s1 ga1 ga2 ga4 (by omega) q0) kvX10_testify kiX10_testify kl_L_206 (q0 := 0) rfl rfl (As := [.int (zI a1), .int (zI a2), .int (zI 1), .int (zI a4)]) rfl rfl (rm_law rfl (by omega) (by omega)) dL_law_508 511 rfl (k' := kq + 1) (n' := nq + 6) rfl rfl (fsI (fun q q1 q2 => (Or.inr (by omega)))) h_mo (fun rv H4 lo4 hM hF hpo => ?_)
      obtain ⟨g2_5, rfl, hp_f_6, hw_0⟩ := hpo
      have h_mo : PR E (x + 334) (modelW E (x + 334) (updC (updC mo 0 (updZ (mo 0) 0 1)) 1 g2_5)) H4 := hw_0
      replace hzl := Nat.le_trans hzl hF.1
      replace h_cm := h_cm.kept hF 1 rfl (fsd (by omega))
      replace h_co := h_co.kept hF 28 rfl (fsd (by omega))
      replace h_bf := h_bf.kept hF 28 rfl (fsd (by omega))
      replace h_sv := h_sv.kept hF 28 rfl (fsd (by omega))
      replace h_hi := h_hi.kept hF 2 rfl (fsd (by omega))
      replace h_hf := h_hf.kept hF (fsd (by omega))
      replace h_dk := h_dk.kept hF 3 rfl (fsd (by omega))
      replace h_se := h_se.kept hF 5 rfl (fsd (by omega))
      replace h_pg := h_pg.kept hF 1 rfl (fsd (by omega))
      replace h_sb := h_sb.kept hF 1 rfl (fsd (by omega))
      replace h_sa := h_sa.kept hF 1 rfl (fsd (by omega))
      replace h_pr := h_pr.kept hF 10 rfl (fsd (by omega))
      replace h_ln := h_ln.kept hF 1 rfl (fsd (by omega))
      replace h_la := h_la.kept hF 1 rfl (fsd (by omega))
      replace h_out := h_out.kept hF 1 rfl (fsd (by omega))
      replace h_outD := h_outD.kept hF 1 rfl (fsd (by omega))
      show V p l e room_1 s m args below meth cd Q 9 H4 lo4 (kq + 1) (nq + 6) 511 [(6, .int (zI 1)), (5, .int (zI i)), (4, .ref (x + 340)), (3, .ref (x + 339)), (2, .ref (x + 334)), (1, .ref x), (0, .ref b)] [.int (zI 0)]
      refine v_istore X dL_law_511 513 rfl (by decide) (L' := [(7, .int (zI 0)), (6, .int (zI 1)), (5, .int (zI i)), (4, .ref (x + 340)), (3, .ref (x + 339)), (2, .ref (x + 334)), (1, .ref x), (0, .ref b)]) rfl ?_
      refine v_aload_n X dL_law_513 514 rfl 5 rfl ?_
      refine v_rdV X hM.C h_mo.1 (c_X10_thrown l E (x + 334) (updC (updC mo 0 (updZ (mo 0) 0 1)) 1 g2_5)) kvX10_thrown kiX10_thrown kl_L_196 rfl rfl (As := []) rfl rfl (rm_law0 rfl (by omega) (by omega)) dL_law_514 517 rfl ?_
      show V p l e room_1 s m args below meth cd Q 9 H4 lo4 (kq + 1) (nq + 6) 517 [(7, .int (zI 0)), (6, .int (zI 1)), (5, .int (zI i)), (4, .ref (x + 340)), (3, .ref (x + 339)), (2, .ref (x + 334)), (1, .ref x), (0, .ref b)] [.int (zI 1)]
      refine v_iload X dL_law_517 519 rfl 1 rfl ?_
      refine v_icmp_eq X (by omega) (by omega) dL_law_519 522 524 rfl (by decide) (fun c_7 => ?_) (fun c_7 => ?_)
      · skip
        refine v_iload X dL_law_524 526 rfl 1 rfl ?_
        refine v_if_ne X (by omega) dL_law_526 529 541 rfl (by decide) (fun c_8 => ?_) (fun c_8 => ?_)
        · skip
          refine v_goto X dL_law_541 3555 (by decide) ?_
          refine v_widen (k' := kq + 60) (n' := nq + 4000) (by omega) (by omega) ?_
          exact V_pick [2, 3, 4, 5, 6, 7] rfl (kk _ _ hM ⟨hzl, _, _, _, _, _, _, _, _, _, _, _, _, _, _, _, _, _, _, _, _, _, _, _, _, _, _, _, _, ⟨h_cm, h_co, h_bf, h_sv, h_hi, h_hf, h_dk, h_se, h_pg, h_sb, h_sa, h_pr, h_ln, h_la, h_mo, h_out, h_outD⟩, (hP0.g2 hp_f_6)⟩)
        · skip
          exfalso; omega
      · skip
        exfalso; omega
set_option maxHeartbeats 4000000 in
set_option maxRecDepth 20000 in
theorem lo_testify_f1_2 (hl : l.stackTraces = false) (X : CF p m cd code 9 s args RL) (hX : va_X b Lx xs s s.heap) (hbl : b < s.heap.size) (hLx : Lx ≤ 2560) (hM : MS E [] s H lo) (hk : kq + 60 ≤ 603072) (hn : nq + 4000 ≤ 7211113) (hx : s.heap.size ≤ x) (hzl : x + 341 ≤ H.size) {v : Nat} {N : Nat} {f : Int → Int} {nn : Int} {v2 : Nat} {N2 : Nat} {f2 : Int → Int} {n2 : Int} {co : Nat → Int → Int} {bf : Nat → Int → Int} {cv : Nat → Int → Int} {hc : Nat → Nat → Int → Int} {nx : Int} {sz : Int} {hs : Int} {er : Int} {fa : Int} {ss : Int} {dk : Nat → Int → Int} {se : Nat → Int → Int} {po : Int} {si : Int} {pr : Nat → Int → Int} {ml : Int} {ml2 : Int} {mo : Nat → Int → Int} {lg : Nat → Int64} {dg : Nat → UInt64} (hW : LawW E x v N f nn v2 N2 f2 n2 co bf cv hc nx sz hs er fa ss dk se po si pr ml ml2 mo lg dg H) (hP : LawP x v N f nn v2 N2 f2 n2 co cv hc nx sz hs er fa ss po si pr mo) (i0 : 0 ≤ i) (i1 : i + 5 ≤ (Lx : Int)) {a1 : Int} (ha1 : (xs (i + 1).toNat).toInt = a1) (ga1 : Rg a1) {a2 : Int} (ha2 : (xs (i + 2).toNat).toInt = a2) (ga2 : Rg a2) {a3 : Int} (ha3 : (xs (i + 3).toNat).toInt = a3) (ga3 : Rg a3) {a4 : Int} (ha4 : (xs (i + 4).toNat).toInt = a4) (ga4 : Rg a4) (q0 : flC co 2 a1 a2 a4 = 2) (q1 : ¬ a3 = 0) (kk : ∀ (H1 : Heap) (lo1 : List Loc), MS E [] s H1 lo1 → LawI E x H1 → V p l e room_1 s m args below meth cd Q 9 H1 lo1 (kq + 60) (nq + 4000) 3555 [(5, .int (zI i)), (4, .ref (x + 340)), (3, .ref (x + 339)), (2, .ref (x + 334)), (1, .ref x), (0, .ref b)] []) : V p l e room_1 s m args below meth cd Q 9 H lo kq nq 436 [(5, .int (zI i)), (4, .ref (x + 340)), (3, .ref (x + 339)), (2, .ref (x + 334)), (1, .ref x), (0, .ref b)] [] := by
  obtain ⟨h_cm, h_co, h_bf, h_sv, h_hi, h_hf, h_dk, h_se, h_pg, h_sb, h_sa, h_pr, h_ln, h_la, h_mo, h_out, h_outD⟩ := hW
  have hP0 := hP
  obtain ⟨⟨hD, hDv, hDh⟩, ⟨hRM, hch, hcs⟩, ⟨⟨n0, n1⟩, ⟨s0, s1⟩, hhs⟩, ⟨hm8, hnn, hAg, hNN, hnN, hf9⟩, ⟨T, hSB, hLT, hn38⟩, hPB, ⟨her, hfa, hss, ger, gfa, gss, gms⟩, ⟨gpo, gsi⟩, ⟨hv1, hv2, hvv⟩⟩ := hP
  have hO := hD.inv.ok
  have hI := hD.inv.ts
  have hSt := hD.inv.st
  have hS := hD.inv.sn
  have hR := hRM.1.2
  have hG := gp_inv hD
  have hb0 := hO.b0
  have hbw := hO.bw
  have hbf : ¬ Fr [] s.heap.size b := fun z => z.elim (fun q => q.elim) (fun q => by omega)
  refine v_aload_n X dL_law_436 437 rfl 4 rfl ?_
  refine v_aload_n X dL_law_437 438 rfl 5 rfl ?_
  refine v_iload X dL_law_438 440 rfl 0 rfl ?_
  refine v_iconst X dL_law_440 441 rfl ?_
  refine v_iadd X dL_law_441 442 rfl ?_
  refine v_scr X hM hX hbl hbf (by omega) (by omega) hLx ha1 dL_law_442 443 rfl ?_
  refine v_aload_n X dL_law_443 444 rfl 5 rfl ?_
  refine v_iload X dL_law_444 446 rfl 0 rfl ?_
  refine v_iconst X dL_law_446 447 rfl ?_
  refine v_iadd X dL_law_447 448 rfl ?_
  refine v_scr X hM hX hbl hbf (by omega) (by omega) hLx ha2 dL_law_448 449 rfl ?_
  refine v_aload_n X dL_law_449 450 rfl 5 rfl ?_
  refine v_iload X dL_law_450 452 rfl 0 rfl ?_
  refine v_iconst X dL_law_452 453 rfl ?_
  refine v_iadd X dL_law_453 454 rfl ?_
  refine v_scr X hM hX hbl hbf (by omega) (by omega) hLx ha3 dL_law_454 455 rfl ?_
  refine v_if_eq X (by omega) dL_law_455 458 462 rfl (by decide) (fun c_1 => ?_) (fun c_1 => ?_)
  · skip
    exfalso; omega
  · skip
    refine v_iconst X dL_law_458 459 rfl ?_
    refine v_goto X dL_law_459 463 (by decide) ?_
    refine v_aload_n X dL_law_463 464 rfl 5 rfl ?_
    refine v_iload X dL_law_464 466 rfl 0 rfl ?_
    refine v_iconst X dL_law_466 467 rfl ?_
    refine v_iadd X dL_law_467 468 rfl ?_
    refine v_scr X hM hX hbl hbf (by omega) (by omega) hLx ha4 dL_law_468 469 rfl ?_
    refine v_aload_n X dL_law_469 470 rfl 2 rfl ?_
    refine v_mwS X hM (w_X9_testify_2_t l hl E x co hs er fa ss a1 a2 1 a4 (x + 339) lg hO ga1 ga2 ga4 (by omega) q0) kwL_testify ksL_testify kl_L_203 (As := [.ref x, .int (zI a1), .int (zI a2), .int (zI 1), .int (zI a4), .ref (x + 339)]) rfl rfl (rm_lawW rfl (by omega) (by omega)) dL_law_470 473 rfl (k' := kq + 1) (n' := nq + 6) rfl rfl (fun q hq => hq.elim) ⟨h_cm, h_co, h_out⟩ (fun rv H2 lo2 hM hF hpo => ?_)
    subst hpo
    replace hzl := Nat.le_trans hzl hF.1
    replace h_cm := h_cm.kept hF 1 rfl (fun q _ _ h => h.elim)
    replace h_co := h_co.kept hF 28 rfl (fun q _ _ h => h.elim)
    replace h_bf := h_bf.kept hF 28 rfl (fun q _ _ h => h.elim)
    replace h_sv := h_sv.kept hF 28 rfl (fun q _ _ h => h.elim)
    replace h_hi := h_hi.kept hF 2 rfl (fun q _ _ h => h.elim)
    replace h_hf := h_hf.kept hF (fun q _ _ h => h.elim)
    replace h_dk := h_dk.kept hF 3 rfl (fun q _ _ h => h.elim)
    replace h_se := h_se.kept hF 5 rfl (fun q _ _ h => h.elim)
    replace h_pg := h_pg.kept hF 1 rfl (fun q _ _ h => h.elim)
    replace h_sb := h_sb.kept hF 1 rfl (fun q _ _ h => h.elim)
    replace h_sa := h_sa.kept hF 1 rfl (fun q _ _ h => h.elim)
    replace h_pr := h_pr.kept hF 10 rfl (fun q _ _ h => h.elim)
    replace h_ln := h_ln.kept hF 1 rfl (fun q _ _ h => h.elim)
    replace h_la := h_la.kept hF 1 rfl (fun q _ _ h => h.elim)
    replace h_mo := h_mo.kept hF 5 rfl (fun q _ _ h => h.elim)
    replace h_out := h_out.kept hF 1 rfl (fun q _ _ h => h.elim)
    replace h_outD := h_outD.kept hF 1 rfl (fun q _ _ h => h.elim)
    show V p l e room_1 s m args below meth cd Q 9 H2 lo2 (kq + 1) (nq + 6) 473 [(5, .int (zI i)), (4, .ref (x + 340)), (3, .ref (x + 339)), (2, .ref (x + 334)), (1, .ref x), (0, .ref b)] [.int (zI 2)]
    refine v_istore X dL_law_473 475 rfl (by decide) (L' := [(6, .int (zI 2)), (5, .int (zI i)), (4, .ref (x + 340)), (3, .ref (x + 339)), (2, .ref (x + 334)), (1, .ref x), (0, .ref b)]) rfl ?_
    refine v_aload_n X dL_law_475 476 rfl 4 rfl ?_
    refine v_aload_n X dL_law_476 477 rfl 6 rfl ?_
    refine v_iload X dL_law_477 479 rfl 1 rfl ?_
    refine v_iconst X dL_law_479 480 rfl ?_
    refine v_iadd X dL_law_480 481 rfl ?_
    refine v_scr X hM hX hbl hbf (by omega) (by omega) hLx ha1 dL_law_481 482 rfl ?_
    refine v_aload_n X dL_law_482 483 rfl 6 rfl ?_
    refine v_iload X dL_law_483 485 rfl 1 rfl ?_
    refine v_iconst X dL_law_485 486 rfl ?_
    refine v_iadd X dL_law_486 487 rfl ?_
    refine v_scr X hM hX hbl hbf (by omega) (by omega) hLx ha2 dL_law_487 488 rfl ?_
    refine v_aload_n X dL_law_488 489 rfl 6 rfl ?_
    refine v_iload X dL_law_489 491 rfl 1 rfl ?_
    refine v_iconst X dL_law_491 492 rfl ?_
    refine v_iadd X dL_law_492 493 rfl ?_
    refine v_scr X hM hX hbl hbf (by omega) (by omega) hLx ha3 dL_law_493 494 rfl ?_
    refine v_if_eq X (by omega) dL_law_494 497 501 rfl (by decide) (fun c_3 => ?_) (fun c_3 => ?_)
    · skip
      exfalso; omega
    · skip
      refine v_iconst X dL_law_497 498 rfl ?_
      refine v_goto X dL_law_498 502 (by decide) ?_
      refine v_aload_n X dL_law_502 503 rfl 6 rfl ?_
      refine v_iload X dL_law_503 505 rfl 1 rfl ?_
      refine v_iconst X dL_law_505 506 rfl ?_
      refine v_iadd X dL_law_506 507 rfl ?_
      refine v_scr X hM hX hbl hbf (by omega) (by omega) hLx ha4 dL_law_507 508 rfl ?_
      refine v_muV X hM (h_mo.1) (c_X10_testify_f2 l E (x + 334) mo co cv hc nx sz hs a1 a2 1 a4 hO hI hRM hch n0 n1 s0 s1 ga1 ga2 ga4 (by omega) q0) kvX10_testify kiX10_testify kl_L_206 (q0 := 0) rfl rfl (As := [.int (zI a1), .int (zI a2), .int (zI 1), .int (zI a4)]) rfl rfl (rm_law rfl (by omega) (by omega)) dL_law_508 511 rfl (k' := kq + 1) (n' := nq + 6) rfl rfl (fsI (fun q q1 q2 => (Or.inr (by omega)))) h_mo (fun rv H4 lo4 hM hF hpo => ?_)
      obtain ⟨g2_5, rfl, hp_f_6, hw_0⟩ := hpo
      have h_mo : PR E (x + 334) (modelW E (x + 334) (updC (updC mo 0 (updZ (mo 0) 0 2)) 1 g2_5)) H4 := hw_0
      replace hzl := Nat.le_trans hzl hF.1
      replace h_cm := h_cm.kept hF 1 rfl (fsd (by omega))
      replace h_co := h_co.kept hF 28 rfl (fsd (by omega))
      replace h_bf := h_bf.kept hF 28 rfl (fsd (by omega))
      replace h_sv := h_sv.kept hF 28 rfl (fsd (by omega))
      replace h_hi := h_hi.kept hF 2 rfl (fsd (by omega))
      replace h_hf := h_hf.kept hF (fsd (by omega))
      replace h_dk := h_dk.kept hF 3 rfl (fsd (by omega))
      replace h_se := h_se.kept hF 5 rfl (fsd (by omega))
      replace h_pg := h_pg.kept hF 1 rfl (fsd (by omega))
      replace h_sb := h_sb.kept hF 1 rfl (fsd (by omega))
      replace h_sa := h_sa.kept hF 1 rfl (fsd (by omega))
      replace h_pr := h_pr.kept hF 10 rfl (fsd (by omega))
      replace h_ln := h_ln.kept hF 1 rfl (fsd (by omega))
      replace h_la := h_la.kept hF 1 rfl (fsd (by omega))
      replace h_out := h_out.kept hF 1 rfl (fsd (by omega))
      replace h_outD := h_outD.kept hF 1 rfl (fsd (by omega))
      show V p l e room_1 s m args below meth cd Q 9 H4 lo4 (kq + 1) (nq + 6) 511 [(6, .int (zI 2)), (5, .int (zI i)), (4, .ref (x + 340)), (3, .ref (x + 339)), (2, .ref (x + 334)), (1, .ref x), (0, .ref b)] [.int (zI 0)]
      refine v_istore X dL_law_511 513 rfl (by decide) (L' := [(7, .int (zI 0)), (6, .int (zI 2)), (5, .int (zI i)), (4, .ref (x + 340)), (3, .ref (x + 339)), (2, .ref (x + 334)), (1, .ref x), (0, .ref b)]) rfl ?_
      refine v_aload_n X dL_law_513 514 rfl 5 rfl ?_
      refine v_rdV X hM.C h_mo.1 (c_X10_thrown l E (x + 334) (updC (updC mo 0 (updZ (mo 0) 0 2)) 1 g2_5)) kvX10_thrown kiX10_thrown kl_L_196 rfl rfl (As := []) rfl rfl (rm_law0 rfl (by omega) (by omega)) dL_law_514 517 rfl ?_
      show V p l e room_1 s m args below meth cd Q 9 H4 lo4 (kq + 1) (nq + 6) 517 [(7, .int (zI 0)), (6, .int (zI 2)), (5, .int (zI i)), (4, .ref (x + 340)), (3, .ref (x + 339)), (2, .ref (x + 334)), (1, .ref x), (0, .ref b)] [.int (zI 2)]
      refine v_iload X dL_law_517 519 rfl 1 rfl ?_
      refine v_icmp_eq X (by omega) (by omega) dL_law_519 522 524 rfl (by decide) (fun c_7 => ?_) (fun c_7 => ?_)
      · skip
        refine v_iload X dL_law_524 526 rfl 1 rfl ?_
        refine v_if_ne X (by omega) dL_law_526 529 541 rfl (by decide) (fun c_8 => ?_) (fun c_8 => ?_)
        · skip
          refine v_goto X dL_law_541 3555 (by decide) ?_
          refine v_widen (k' := kq + 60) (n' := nq + 4000) (by omega) (by omega) ?_
          exact V_pick [2, 3, 4, 5, 6, 7] rfl (kk _ _ hM ⟨hzl, _, _, _, _, _, _, _, _, _, _, _, _, _, _, _, _, _, _, _, _, _, _, _, _, _, _, _, _, ⟨h_cm, h_co, h_bf, h_sv, h_hi, h_hf, h_dk, h_se, h_pg, h_sb, h_sa, h_pr, h_ln, h_la, h_mo, h_out, h_outD⟩, (hP0.g2 hp_f_6)⟩)
        · skip
          exfalso; omega
      · skip
        exfalso; omega
set_option maxHeartbeats 4000000 in
set_option maxRecDepth 20000 in
theorem lo_testify_f1_3 (hl : l.stackTraces = false) (X : CF p m cd code 9 s args RL) (hX : va_X b Lx xs s s.heap) (hbl : b < s.heap.size) (hLx : Lx ≤ 2560) (hM : MS E [] s H lo) (hk : kq + 60 ≤ 603072) (hn : nq + 4000 ≤ 7211113) (hx : s.heap.size ≤ x) (hzl : x + 341 ≤ H.size) {v : Nat} {N : Nat} {f : Int → Int} {nn : Int} {v2 : Nat} {N2 : Nat} {f2 : Int → Int} {n2 : Int} {co : Nat → Int → Int} {bf : Nat → Int → Int} {cv : Nat → Int → Int} {hc : Nat → Nat → Int → Int} {nx : Int} {sz : Int} {hs : Int} {er : Int} {fa : Int} {ss : Int} {dk : Nat → Int → Int} {se : Nat → Int → Int} {po : Int} {si : Int} {pr : Nat → Int → Int} {ml : Int} {ml2 : Int} {mo : Nat → Int → Int} {lg : Nat → Int64} {dg : Nat → UInt64} (hW : LawW E x v N f nn v2 N2 f2 n2 co bf cv hc nx sz hs er fa ss dk se po si pr ml ml2 mo lg dg H) (hP : LawP x v N f nn v2 N2 f2 n2 co cv hc nx sz hs er fa ss po si pr mo) (i0 : 0 ≤ i) (i1 : i + 5 ≤ (Lx : Int)) {a1 : Int} (ha1 : (xs (i + 1).toNat).toInt = a1) (ga1 : Rg a1) {a2 : Int} (ha2 : (xs (i + 2).toNat).toInt = a2) (ga2 : Rg a2) {a3 : Int} (ha3 : (xs (i + 3).toNat).toInt = a3) (ga3 : Rg a3) {a4 : Int} (ha4 : (xs (i + 4).toNat).toInt = a4) (ga4 : Rg a4) (q0 : flC co 2 a1 a2 a4 = 4) (q1 : ¬ a3 = 0) (kk : ∀ (H1 : Heap) (lo1 : List Loc), MS E [] s H1 lo1 → LawI E x H1 → V p l e room_1 s m args below meth cd Q 9 H1 lo1 (kq + 60) (nq + 4000) 3555 [(5, .int (zI i)), (4, .ref (x + 340)), (3, .ref (x + 339)), (2, .ref (x + 334)), (1, .ref x), (0, .ref b)] []) : V p l e room_1 s m args below meth cd Q 9 H lo kq nq 436 [(5, .int (zI i)), (4, .ref (x + 340)), (3, .ref (x + 339)), (2, .ref (x + 334)), (1, .ref x), (0, .ref b)] [] := by
  obtain ⟨h_cm, h_co, h_bf, h_sv, h_hi, h_hf, h_dk, h_se, h_pg, h_sb, h_sa, h_pr, h_ln, h_la, h_mo, h_out, h_outD⟩ := hW
  have hP0 := hP
  obtain ⟨⟨hD, hDv, hDh⟩, ⟨hRM, hch, hcs⟩, ⟨⟨n0, n1⟩, ⟨s0, s1⟩, hhs⟩, ⟨hm8, hnn, hAg, hNN, hnN, hf9⟩, ⟨T, hSB, hLT, hn38⟩, hPB, ⟨her, hfa, hss, ger, gfa, gss, gms⟩, ⟨gpo, gsi⟩, ⟨hv1, hv2, hvv⟩⟩ := hP
  have hO := hD.inv.ok
  have hI := hD.inv.ts
  have hSt := hD.inv.st
  have hS := hD.inv.sn
  have hR := hRM.1.2
  have hG := gp_inv hD
  have hb0 := hO.b0
  have hbw := hO.bw
  have hbf : ¬ Fr [] s.heap.size b := fun z => z.elim (fun q => q.elim) (fun q => by omega)
  refine v_aload_n X dL_law_436 437 rfl 4 rfl ?_
  refine v_aload_n X dL_law_437 438 rfl 5 rfl ?_
  refine v_iload X dL_law_438 440 rfl 0 rfl ?_
  refine v_iconst X dL_law_440 441 rfl ?_
  refine v_iadd X dL_law_441 442 rfl ?_
  refine v_scr X hM hX hbl hbf (by omega) (by omega) hLx ha1 dL_law_442 443 rfl ?_
  refine v_aload_n X dL_law_443 444 rfl 5 rfl ?_
  refine v_iload X dL_law_444 446 rfl 0 rfl ?_
  refine v_iconst X dL_law_446 447 rfl ?_
  refine v_iadd X dL_law_447 448 rfl ?_
  refine v_scr X hM hX hbl hbf (by omega) (by omega) hLx ha2 dL_law_448 449 rfl ?_
  refine v_aload_n X dL_law_449 450 rfl 5 rfl ?_
  refine v_iload X dL_law_450 452 rfl 0 rfl ?_
  refine v_iconst X dL_law_452 453 rfl ?_
  refine v_iadd X dL_law_453 454 rfl ?_
  refine v_scr X hM hX hbl hbf (by omega) (by omega) hLx ha3 dL_law_454 455 rfl ?_
  refine v_if_eq X (by omega) dL_law_455 458 462 rfl (by decide) (fun c_1 => ?_) (fun c_1 => ?_)
  · skip
    exfalso; omega
  · skip
    refine v_iconst X dL_law_458 459 rfl ?_
    refine v_goto X dL_law_459 463 (by decide) ?_
    refine v_aload_n X dL_law_463 464 rfl 5 rfl ?_
    refine v_iload X dL_law_464 466 rfl 0 rfl ?_
    refine v_iconst X dL_law_466 467 rfl ?_
    refine v_iadd X dL_law_467 468 rfl ?_
    refine v_scr X hM hX hbl hbf (by omega) (by omega) hLx ha4 dL_law_468 469 rfl ?_
    refine v_aload_n X dL_law_469 470 rfl 2 rfl ?_
    refine v_mwS X hM (w_X9_testify_4_t l hl E x co hs er fa ss a1 a2 1 a4 (x + 339) lg hO ga1 ga2 ga4 (by omega) q0) kwL_testify ksL_testify kl_L_203 (As := [.ref x, .int (zI a1), .int (zI a2), .int (zI 1), .int (zI a4), .ref (x + 339)]) rfl rfl (rm_lawW rfl (by omega) (by omega)) dL_law_470 473 rfl (k' := kq + 1) (n' := nq + 6) rfl rfl (fun q hq => hq.elim) ⟨h_cm, h_co, h_out⟩ (fun rv H2 lo2 hM hF hpo => ?_)
    subst hpo
    replace hzl := Nat.le_trans hzl hF.1
    replace h_cm := h_cm.kept hF 1 rfl (fun q _ _ h => h.elim)
    replace h_co := h_co.kept hF 28 rfl (fun q _ _ h => h.elim)
    replace h_bf := h_bf.kept hF 28 rfl (fun q _ _ h => h.elim)
    replace h_sv := h_sv.kept hF 28 rfl (fun q _ _ h => h.elim)
    replace h_hi := h_hi.kept hF 2 rfl (fun q _ _ h => h.elim)
    replace h_hf := h_hf.kept hF (fun q _ _ h => h.elim)
    replace h_dk := h_dk.kept hF 3 rfl (fun q _ _ h => h.elim)
    replace h_se := h_se.kept hF 5 rfl (fun q _ _ h => h.elim)
    replace h_pg := h_pg.kept hF 1 rfl (fun q _ _ h => h.elim)
    replace h_sb := h_sb.kept hF 1 rfl (fun q _ _ h => h.elim)
    replace h_sa := h_sa.kept hF 1 rfl (fun q _ _ h => h.elim)
    replace h_pr := h_pr.kept hF 10 rfl (fun q _ _ h => h.elim)
    replace h_ln := h_ln.kept hF 1 rfl (fun q _ _ h => h.elim)
    replace h_la := h_la.kept hF 1 rfl (fun q _ _ h => h.elim)
    replace h_mo := h_mo.kept hF 5 rfl (fun q _ _ h => h.elim)
    replace h_out := h_out.kept hF 1 rfl (fun q _ _ h => h.elim)
    replace h_outD := h_outD.kept hF 1 rfl (fun q _ _ h => h.elim)
    show V p l e room_1 s m args below meth cd Q 9 H2 lo2 (kq + 1) (nq + 6) 473 [(5, .int (zI i)), (4, .ref (x + 340)), (3, .ref (x + 339)), (2, .ref (x + 334)), (1, .ref x), (0, .ref b)] [.int (zI 3)]
    refine v_istore X dL_law_473 475 rfl (by decide) (L' := [(6, .int (zI 3)), (5, .int (zI i)), (4, .ref (x + 340)), (3, .ref (x + 339)), (2, .ref (x + 334)), (1, .ref x), (0, .ref b)]) rfl ?_
    refine v_aload_n X dL_law_475 476 rfl 4 rfl ?_
    refine v_aload_n X dL_law_476 477 rfl 6 rfl ?_
    refine v_iload X dL_law_477 479 rfl 1 rfl ?_
    refine v_iconst X dL_law_479 480 rfl ?_
    refine v_iadd X dL_law_480 481 rfl ?_
    refine v_scr X hM hX hbl hbf (by omega) (by omega) hLx ha1 dL_law_481 482 rfl ?_
    refine v_aload_n X dL_law_482 483 rfl 6 rfl ?_
    refine v_iload X dL_law_483 485 rfl 1 rfl ?_
    refine v_iconst X dL_law_485 486 rfl ?_
    refine v_iadd X dL_law_486 487 rfl ?_
    refine v_scr X hM hX hbl hbf (by omega) (by omega) hLx ha2 dL_law_487 488 rfl ?_
    refine v_aload_n X dL_law_488 489 rfl 6 rfl ?_
    refine v_iload X dL_law_489 491 rfl 1 rfl ?_
    refine v_iconst X dL_law_491 492 rfl ?_
    refine v_iadd X dL_law_492 493 rfl ?_
    refine v_scr X hM hX hbl hbf (by omega) (by omega) hLx ha3 dL_law_493 494 rfl ?_
    refine v_if_eq X (by omega) dL_law_494 497 501 rfl (by decide) (fun c_3 => ?_) (fun c_3 => ?_)
    · skip
      exfalso; omega
    · skip
      refine v_iconst X dL_law_497 498 rfl ?_
      refine v_goto X dL_law_498 502 (by decide) ?_
      refine v_aload_n X dL_law_502 503 rfl 6 rfl ?_
      refine v_iload X dL_law_503 505 rfl 1 rfl ?_
      refine v_iconst X dL_law_505 506 rfl ?_
      refine v_iadd X dL_law_506 507 rfl ?_
      refine v_scr X hM hX hbl hbf (by omega) (by omega) hLx ha4 dL_law_507 508 rfl ?_
      refine v_muV X hM (h_mo.1) (c_X10_testify_f4 l E (x + 334) mo co cv hc nx sz hs a1 a2 1 a4 hO hI hRM hch n0 n1 s0 s1 ga1 ga2 ga4 (by omega) q0) kvX10_testify kiX10_testify kl_L_206 (q0 := 0) rfl rfl (As := [.int (zI a1), .int (zI a2), .int (zI 1), .int (zI a4)]) rfl rfl (rm_law rfl (by omega) (by omega)) dL_law_508 511 rfl (k' := kq + 1) (n' := nq + 6) rfl rfl (fsI (fun q q1 q2 => (Or.inr (by omega)))) h_mo (fun rv H4 lo4 hM hF hpo => ?_)
      obtain ⟨g2_5, rfl, hp_f_6, hw_0⟩ := hpo
      have h_mo : PR E (x + 334) (modelW E (x + 334) (updC (updC mo 0 (updZ (mo 0) 0 3)) 1 g2_5)) H4 := hw_0
      replace hzl := Nat.le_trans hzl hF.1
      replace h_cm := h_cm.kept hF 1 rfl (fsd (by omega))
      replace h_co := h_co.kept hF 28 rfl (fsd (by omega))
      replace h_bf := h_bf.kept hF 28 rfl (fsd (by omega))
      replace h_sv := h_sv.kept hF 28 rfl (fsd (by omega))
      replace h_hi := h_hi.kept hF 2 rfl (fsd (by omega))
      replace h_hf := h_hf.kept hF (fsd (by omega))
      replace h_dk := h_dk.kept hF 3 rfl (fsd (by omega))
      replace h_se := h_se.kept hF 5 rfl (fsd (by omega))
      replace h_pg := h_pg.kept hF 1 rfl (fsd (by omega))
      replace h_sb := h_sb.kept hF 1 rfl (fsd (by omega))
      replace h_sa := h_sa.kept hF 1 rfl (fsd (by omega))
      replace h_pr := h_pr.kept hF 10 rfl (fsd (by omega))
      replace h_ln := h_ln.kept hF 1 rfl (fsd (by omega))
      replace h_la := h_la.kept hF 1 rfl (fsd (by omega))
      replace h_out := h_out.kept hF 1 rfl (fsd (by omega))
      replace h_outD := h_outD.kept hF 1 rfl (fsd (by omega))
      show V p l e room_1 s m args below meth cd Q 9 H4 lo4 (kq + 1) (nq + 6) 511 [(6, .int (zI 3)), (5, .int (zI i)), (4, .ref (x + 340)), (3, .ref (x + 339)), (2, .ref (x + 334)), (1, .ref x), (0, .ref b)] [.int (zI 0)]
      refine v_istore X dL_law_511 513 rfl (by decide) (L' := [(7, .int (zI 0)), (6, .int (zI 3)), (5, .int (zI i)), (4, .ref (x + 340)), (3, .ref (x + 339)), (2, .ref (x + 334)), (1, .ref x), (0, .ref b)]) rfl ?_
      refine v_aload_n X dL_law_513 514 rfl 5 rfl ?_
      refine v_rdV X hM.C h_mo.1 (c_X10_thrown l E (x + 334) (updC (updC mo 0 (updZ (mo 0) 0 3)) 1 g2_5)) kvX10_thrown kiX10_thrown kl_L_196 rfl rfl (As := []) rfl rfl (rm_law0 rfl (by omega) (by omega)) dL_law_514 517 rfl ?_
      show V p l e room_1 s m args below meth cd Q 9 H4 lo4 (kq + 1) (nq + 6) 517 [(7, .int (zI 0)), (6, .int (zI 3)), (5, .int (zI i)), (4, .ref (x + 340)), (3, .ref (x + 339)), (2, .ref (x + 334)), (1, .ref x), (0, .ref b)] [.int (zI 3)]
      refine v_iload X dL_law_517 519 rfl 1 rfl ?_
      refine v_icmp_eq X (by omega) (by omega) dL_law_519 522 524 rfl (by decide) (fun c_7 => ?_) (fun c_7 => ?_)
      · skip
        refine v_iload X dL_law_524 526 rfl 1 rfl ?_
        refine v_if_ne X (by omega) dL_law_526 529 541 rfl (by decide) (fun c_8 => ?_) (fun c_8 => ?_)
        · skip
          refine v_goto X dL_law_541 3555 (by decide) ?_
          refine v_widen (k' := kq + 60) (n' := nq + 4000) (by omega) (by omega) ?_
          exact V_pick [2, 3, 4, 5, 6, 7] rfl (kk _ _ hM ⟨hzl, _, _, _, _, _, _, _, _, _, _, _, _, _, _, _, _, _, _, _, _, _, _, _, _, _, _, _, _, ⟨h_cm, h_co, h_bf, h_sv, h_hi, h_hf, h_dk, h_se, h_pg, h_sb, h_sa, h_pr, h_ln, h_la, h_mo, h_out, h_outD⟩, (hP0.g2 hp_f_6)⟩)
        · skip
          exfalso; omega
      · skip
        exfalso; omega
set_option maxHeartbeats 4000000 in
set_option maxRecDepth 20000 in
theorem lo_question_f0 (hl : l.stackTraces = false) (X : CF p m cd code 9 s args RL) (hX : va_X b Lx xs s s.heap) (hbl : b < s.heap.size) (hLx : Lx ≤ 2560) (hM : MS E [] s H lo) (hk : kq + 60 ≤ 603072) (hn : nq + 4000 ≤ 7211113) (hx : s.heap.size ≤ x) (hzl : x + 341 ≤ H.size) {v : Nat} {N : Nat} {f : Int → Int} {nn : Int} {v2 : Nat} {N2 : Nat} {f2 : Int → Int} {n2 : Int} {co : Nat → Int → Int} {bf : Nat → Int → Int} {cv : Nat → Int → Int} {hc : Nat → Nat → Int → Int} {nx : Int} {sz : Int} {hs : Int} {er : Int} {fa : Int} {ss : Int} {dk : Nat → Int → Int} {se : Nat → Int → Int} {po : Int} {si : Int} {pr : Nat → Int → Int} {ml : Int} {ml2 : Int} {mo : Nat → Int → Int} {lg : Nat → Int64} {dg : Nat → UInt64} (hW : LawW E x v N f nn v2 N2 f2 n2 co bf cv hc nx sz hs er fa ss dk se po si pr ml ml2 mo lg dg H) (hP : LawP x v N f nn v2 N2 f2 n2 co cv hc nx sz hs er fa ss po si pr mo) (i0 : 0 ≤ i) (i1 : i + 5 ≤ (Lx : Int)) {a1 : Int} (ha1 : (xs (i + 1).toNat).toInt = a1) (ga1 : Rg a1) {a2 : Int} (ha2 : (xs (i + 2).toNat).toInt = a2) (ga2 : Rg a2) {a3 : Int} (ha3 : (xs (i + 3).toNat).toInt = a3) (ga3 : Rg a3) (q0 : flC co 3 a1 a2 0 = 0) (q1 : a3 = 0) (kk : ∀ (H1 : Heap) (lo1 : List Loc), MS E [] s H1 lo1 → LawI E x H1 → V p l e room_1 s m args below meth cd Q 9 H1 lo1 (kq + 60) (nq + 4000) 3555 [(5, .int (zI i)), (4, .ref (x + 340)), (3, .ref (x + 339)), (2, .ref (x + 334)), (1, .ref x), (0, .ref b)] []) : V p l e room_1 s m args below meth cd Q 9 H lo kq nq 544 [(5, .int (zI i)), (4, .ref (x + 340)), (3, .ref (x + 339)), (2, .ref (x + 334)), (1, .ref x), (0, .ref b)] [] := by
  obtain ⟨h_cm, h_co, h_bf, h_sv, h_hi, h_hf, h_dk, h_se, h_pg, h_sb, h_sa, h_pr, h_ln, h_la, h_mo, h_out, h_outD⟩ := hW
  have hP0 := hP
  obtain ⟨⟨hD, hDv, hDh⟩, ⟨hRM, hch, hcs⟩, ⟨⟨n0, n1⟩, ⟨s0, s1⟩, hhs⟩, ⟨hm8, hnn, hAg, hNN, hnN, hf9⟩, ⟨T, hSB, hLT, hn38⟩, hPB, ⟨her, hfa, hss, ger, gfa, gss, gms⟩, ⟨gpo, gsi⟩, ⟨hv1, hv2, hvv⟩⟩ := hP
  have hO := hD.inv.ok
  have hI := hD.inv.ts
  have hSt := hD.inv.st
  have hS := hD.inv.sn
  have hR := hRM.1.2
  have hG := gp_inv hD
  have hb0 := hO.b0
  have hbw := hO.bw
  have hbf : ¬ Fr [] s.heap.size b := fun z => z.elim (fun q => q.elim) (fun q => by omega)
  have hD2 := op_inv hD (kd := 3) (a := a1) (b := a2) (f := 0) (z := 0) (by decide) q0
  refine v_aload_n X dL_law_544 545 rfl 4 rfl ?_
  refine v_aload_n X dL_law_545 546 rfl 5 rfl ?_
  refine v_iload X dL_law_546 548 rfl 0 rfl ?_
  refine v_iconst X dL_law_548 549 rfl ?_
  refine v_iadd X dL_law_549 550 rfl ?_
  refine v_scr X hM hX hbl hbf (by omega) (by omega) hLx ha1 dL_law_550 551 rfl ?_
  refine v_aload_n X dL_law_551 552 rfl 5 rfl ?_
  refine v_iload X dL_law_552 554 rfl 0 rfl ?_
  refine v_iconst X dL_law_554 555 rfl ?_
  refine v_iadd X dL_law_555 556 rfl ?_
  refine v_scr X hM hX hbl hbf (by omega) (by omega) hLx ha2 dL_law_556 557 rfl ?_
  refine v_aload_n X dL_law_557 558 rfl 5 rfl ?_
  refine v_iload X dL_law_558 560 rfl 0 rfl ?_
  refine v_iconst X dL_law_560 561 rfl ?_
  refine v_iadd X dL_law_561 562 rfl ?_
  refine v_scr X hM hX hbl hbf (by omega) (by omega) hLx ha3 dL_law_562 563 rfl ?_
  refine v_if_eq X (by omega) dL_law_563 566 570 rfl (by decide) (fun c_1 => ?_) (fun c_1 => ?_)
  · skip
    refine v_iconst X dL_law_570 571 rfl ?_
    refine v_aload_n X dL_law_571 572 rfl 2 rfl ?_
    refine v_mwS X hM (w_X9_question l hl E x co hs er fa ss a1 a2 0 hc nx sz (x + 339) lg hO ga1 ga2 (by omega) q0 n0 n1 s0 s1 (by omega) (by omega) (by omega) (by omega) (by omega) (by omega) (by omega) (by omega) (by omega) (by omega)) kwL_question ksL_question kl_L_207 (As := [.ref x, .int (zI a1), .int (zI a2), .int (zI 0), .ref (x + 339)]) rfl rfl (rm_lawW rfl (by omega) (by omega)) dL_law_572 575 rfl (k' := kq + 1) (n' := nq + 6) rfl rfl (by intro q hq; simp only [Fr, Fs, or_false, false_or] at hq ⊢; omega) ⟨h_cm, h_co, h_hi, h_hf, h_out⟩ (fun rv H2 lo2 hM hF hpo => ?_)
    obtain ⟨rfl, hw_0, hw_1, hw_2, hw_3⟩ := hpo
    have h_co : PR E (x + 1) (courtW E (x + 1) (opC co 3 a1 a2 0 0)) H2 := hw_0
    have h_hi : PR E (x + 85) [(x + 85, .inr (7, [.ref (x + 86), .int (zI (if nx < 7 then nx + 1 else 0)), .int (zI (min (sz + 1) 8))])), (x + 86, .inl (E 102 3, 8, .inr (.inr (.inr (.inr (hisA (x + 87) 8))))))] H2 := hw_1
    have h_hf : HF E (x + 87) 8 (fun j => if j = nx.toNat then co else hc j) H2 := hw_2
    have h_out : PR E (x + 339) [(x + 339, .inl (E 102 4, 1, .inr (.inl (fun _ => zL (opV co 3 a1 a2 0 0)))))] H2 := hw_3
    replace hzl := Nat.le_trans hzl hF.1
    replace h_cm := h_cm.kept hF 1 rfl (by intro q q1 q2 q3; simp only [Fs, or_false] at q3; omega)
    replace h_bf := h_bf.kept hF 28 rfl (by intro q q1 q2 q3; simp only [Fs, or_false] at q3; omega)
    replace h_sv := h_sv.kept hF 28 rfl (by intro q q1 q2 q3; simp only [Fs, or_false] at q3; omega)
    replace h_dk := h_dk.kept hF 3 rfl (by intro q q1 q2 q3; simp only [Fs, or_false] at q3; omega)
    replace h_se := h_se.kept hF 5 rfl (by intro q q1 q2 q3; simp only [Fs, or_false] at q3; omega)
    replace h_pg := h_pg.kept hF 1 rfl (by intro q q1 q2 q3; simp only [Fs, or_false] at q3; omega)
    replace h_sb := h_sb.kept hF 1 rfl (by intro q q1 q2 q3; simp only [Fs, or_false] at q3; omega)
    replace h_sa := h_sa.kept hF 1 rfl (by intro q q1 q2 q3; simp only [Fs, or_false] at q3; omega)
    replace h_pr := h_pr.kept hF 10 rfl (by intro q q1 q2 q3; simp only [Fs, or_false] at q3; omega)
    replace h_ln := h_ln.kept hF 1 rfl (by intro q q1 q2 q3; simp only [Fs, or_false] at q3; omega)
    replace h_la := h_la.kept hF 1 rfl (by intro q q1 q2 q3; simp only [Fs, or_false] at q3; omega)
    replace h_mo := h_mo.kept hF 5 rfl (by intro q q1 q2 q3; simp only [Fs, or_false] at q3; omega)
    replace h_outD := h_outD.kept hF 1 rfl (by intro q q1 q2 q3; simp only [Fs, or_false] at q3; omega)
    show V p l e room_1 s m args below meth cd Q 9 H2 lo2 (kq + 1) (nq + 6) 575 [(5, .int (zI i)), (4, .ref (x + 340)), (3, .ref (x + 339)), (2, .ref (x + 334)), (1, .ref x), (0, .ref b)] [.int (zI 0)]
    refine v_istore X dL_law_575 577 rfl (by decide) (L' := [(6, .int (zI 0)), (5, .int (zI i)), (4, .ref (x + 340)), (3, .ref (x + 339)), (2, .ref (x + 334)), (1, .ref x), (0, .ref b)]) rfl ?_
    refine v_aload_n X dL_law_577 578 rfl 4 rfl ?_
    refine v_aload_n X dL_law_578 579 rfl 6 rfl ?_
    refine v_iload X dL_law_579 581 rfl 1 rfl ?_
    refine v_iconst X dL_law_581 582 rfl ?_
    refine v_iadd X dL_law_582 583 rfl ?_
    refine v_scr X hM hX hbl hbf (by omega) (by omega) hLx ha1 dL_law_583 584 rfl ?_
    refine v_aload_n X dL_law_584 585 rfl 6 rfl ?_
    refine v_iload X dL_law_585 587 rfl 1 rfl ?_
    refine v_iconst X dL_law_587 588 rfl ?_
    refine v_iadd X dL_law_588 589 rfl ?_
    refine v_scr X hM hX hbl hbf (by omega) (by omega) hLx ha2 dL_law_589 590 rfl ?_
    refine v_aload_n X dL_law_590 591 rfl 6 rfl ?_
    refine v_iload X dL_law_591 593 rfl 1 rfl ?_
    refine v_iconst X dL_law_593 594 rfl ?_
    refine v_iadd X dL_law_594 595 rfl ?_
    refine v_scr X hM hX hbl hbf (by omega) (by omega) hLx ha3 dL_law_595 596 rfl ?_
    refine v_if_eq X (by omega) dL_law_596 599 603 rfl (by decide) (fun c_3 => ?_) (fun c_3 => ?_)
    · skip
      refine v_iconst X dL_law_603 604 rfl ?_
      refine v_muV X hM (h_mo.1) (c_X10_question_ok l E (x + 334) mo co cv hc nx sz hs a1 a2 0 hO hI hRM hch n0 n1 s0 s1 ga1 ga2 (by omega) q0 hD2.inv.ok) kvX10_question kiX10_question kl_L_210 (q0 := 0) rfl rfl (As := [.int (zI a1), .int (zI a2), .int (zI 0)]) rfl rfl (rm_law rfl (by omega) (by omega)) dL_law_604 607 rfl (k' := kq + 1) (n' := nq + 6) rfl rfl (fsI (fun q q1 q2 => (Or.inr (by omega)))) h_mo (fun rv H4 lo4 hM hF hpo => ?_)
      obtain ⟨g2_5, q4_6, rfl, hp_f_7, hw_0⟩ := hpo
      have h_mo : PR E (x + 334) (modelW E (x + 334) (updC (updC mo 0 (updZ (updZ (updZ (mo 0) 0 0) 2 (min (sz + 1) 8)) 4 q4_6)) 1 g2_5)) H4 := hw_0
      replace hzl := Nat.le_trans hzl hF.1
      replace h_cm := h_cm.kept hF 1 rfl (fsd (by omega))
      replace h_co := h_co.kept hF 28 rfl (fsd (by omega))
      replace h_bf := h_bf.kept hF 28 rfl (fsd (by omega))
      replace h_sv := h_sv.kept hF 28 rfl (fsd (by omega))
      replace h_hi := h_hi.kept hF 2 rfl (fsd (by omega))
      replace h_hf := h_hf.kept hF (fsd (by omega))
      replace h_dk := h_dk.kept hF 3 rfl (fsd (by omega))
      replace h_se := h_se.kept hF 5 rfl (fsd (by omega))
      replace h_pg := h_pg.kept hF 1 rfl (fsd (by omega))
      replace h_sb := h_sb.kept hF 1 rfl (fsd (by omega))
      replace h_sa := h_sa.kept hF 1 rfl (fsd (by omega))
      replace h_pr := h_pr.kept hF 10 rfl (fsd (by omega))
      replace h_ln := h_ln.kept hF 1 rfl (fsd (by omega))
      replace h_la := h_la.kept hF 1 rfl (fsd (by omega))
      replace h_out := h_out.kept hF 1 rfl (fsd (by omega))
      replace h_outD := h_outD.kept hF 1 rfl (fsd (by omega))
      show V p l e room_1 s m args below meth cd Q 9 H4 lo4 (kq + 1) (nq + 6) 607 [(6, .int (zI 0)), (5, .int (zI i)), (4, .ref (x + 340)), (3, .ref (x + 339)), (2, .ref (x + 334)), (1, .ref x), (0, .ref b)] [.int (zI (opV co 3 a1 a2 0 0))]
      refine v_istore X dL_law_607 609 rfl (by decide) (L' := [(7, .int (zI (opV co 3 a1 a2 0 0))), (6, .int (zI 0)), (5, .int (zI i)), (4, .ref (x + 340)), (3, .ref (x + 339)), (2, .ref (x + 334)), (1, .ref x), (0, .ref b)]) rfl ?_
      refine v_aload_n X dL_law_609 610 rfl 5 rfl ?_
      refine v_rdV X hM.C h_mo.1 (c_X10_thrown l E (x + 334) (updC (updC mo 0 (updZ (updZ (updZ (mo 0) 0 0) 2 (min (sz + 1) 8)) 4 q4_6)) 1 g2_5)) kvX10_thrown kiX10_thrown kl_L_196 rfl rfl (As := []) rfl rfl (rm_law0 rfl (by omega) (by omega)) dL_law_610 613 rfl ?_
      show V p l e room_1 s m args below meth cd Q 9 H4 lo4 (kq + 1) (nq + 6) 613 [(7, .int (zI (opV co 3 a1 a2 0 0))), (6, .int (zI 0)), (5, .int (zI i)), (4, .ref (x + 340)), (3, .ref (x + 339)), (2, .ref (x + 334)), (1, .ref x), (0, .ref b)] [.int (zI 0)]
      refine v_iload X dL_law_613 615 rfl 1 rfl ?_
      refine v_icmp_eq X (by omega) (by omega) dL_law_615 618 620 rfl (by decide) (fun c_8 => ?_) (fun c_8 => ?_)
      · skip
        refine v_iload X dL_law_620 622 rfl 1 rfl ?_
        refine v_if_ne X (by omega) dL_law_622 625 637 rfl (by decide) (fun c_9 => ?_) (fun c_9 => ?_)
        · skip
          exfalso; omega
        · skip
          refine v_aload_n X dL_law_625 626 rfl 4 rfl ?_
          refine v_iconst X dL_law_626 627 rfl ?_
          refine v_lald X hM.C h_out.1 0 rfl dL_law_627 628 rfl ?_
          show V p l e room_1 s m args below meth cd Q 9 H4 lo4 (kq + 1) (nq + 6) 628 [(7, .int (zI (opV co 3 a1 a2 0 0))), (6, .int (zI 0)), (5, .int (zI i)), (4, .ref (x + 340)), (3, .ref (x + 339)), (2, .ref (x + 334)), (1, .ref x), (0, .ref b)] [.long (zL (opV co 3 a1 a2 0 0))]
          refine v_iload X dL_law_628 630 rfl 0 rfl ?_
          refine v_i2l X dL_law_630 631 rfl ?_
          refine v_lcmp0 X dL_law_631 632 rfl ?_
          refine v_if_eq X (by omega) dL_law_632 635 637 rfl (by decide) (fun c_10 => ?_) (fun c_10 => ?_)
          · skip
            refine v_goto X dL_law_637 3555 (by decide) ?_
            refine v_widen (k' := kq + 60) (n' := nq + 4000) (by omega) (by omega) ?_
            exact V_pick [2, 3, 4, 5, 6, 7] rfl (kk _ _ hM ⟨hzl, _, _, _, _, _, _, _, _, _, _, _, _, _, _, _, _, _, _, _, _, _, _, _, _, _, _, _, _, ⟨h_cm, h_co, h_bf, h_sv, h_hi, h_hf, h_dk, h_se, h_pg, h_sb, h_sa, h_pr, h_ln, h_la, h_mo, h_out, h_outD⟩, (hP0.push hD2 hp_f_7)⟩)
          · skip
            exfalso; omega
      · skip
        exfalso; omega
    · skip
      exfalso; omega
  · skip
    exfalso; omega
set_option maxHeartbeats 4000000 in
set_option maxRecDepth 20000 in
theorem lo_question_f0_1 (hl : l.stackTraces = false) (X : CF p m cd code 9 s args RL) (hX : va_X b Lx xs s s.heap) (hbl : b < s.heap.size) (hLx : Lx ≤ 2560) (hM : MS E [] s H lo) (hk : kq + 60 ≤ 603072) (hn : nq + 4000 ≤ 7211113) (hx : s.heap.size ≤ x) (hzl : x + 341 ≤ H.size) {v : Nat} {N : Nat} {f : Int → Int} {nn : Int} {v2 : Nat} {N2 : Nat} {f2 : Int → Int} {n2 : Int} {co : Nat → Int → Int} {bf : Nat → Int → Int} {cv : Nat → Int → Int} {hc : Nat → Nat → Int → Int} {nx : Int} {sz : Int} {hs : Int} {er : Int} {fa : Int} {ss : Int} {dk : Nat → Int → Int} {se : Nat → Int → Int} {po : Int} {si : Int} {pr : Nat → Int → Int} {ml : Int} {ml2 : Int} {mo : Nat → Int → Int} {lg : Nat → Int64} {dg : Nat → UInt64} (hW : LawW E x v N f nn v2 N2 f2 n2 co bf cv hc nx sz hs er fa ss dk se po si pr ml ml2 mo lg dg H) (hP : LawP x v N f nn v2 N2 f2 n2 co cv hc nx sz hs er fa ss po si pr mo) (i0 : 0 ≤ i) (i1 : i + 5 ≤ (Lx : Int)) {a1 : Int} (ha1 : (xs (i + 1).toNat).toInt = a1) (ga1 : Rg a1) {a2 : Int} (ha2 : (xs (i + 2).toNat).toInt = a2) (ga2 : Rg a2) {a3 : Int} (ha3 : (xs (i + 3).toNat).toInt = a3) (ga3 : Rg a3) (q0 : flC co 3 a1 a2 0 = 1) (q1 : a3 = 0) (kk : ∀ (H1 : Heap) (lo1 : List Loc), MS E [] s H1 lo1 → LawI E x H1 → V p l e room_1 s m args below meth cd Q 9 H1 lo1 (kq + 60) (nq + 4000) 3555 [(5, .int (zI i)), (4, .ref (x + 340)), (3, .ref (x + 339)), (2, .ref (x + 334)), (1, .ref x), (0, .ref b)] []) : V p l e room_1 s m args below meth cd Q 9 H lo kq nq 544 [(5, .int (zI i)), (4, .ref (x + 340)), (3, .ref (x + 339)), (2, .ref (x + 334)), (1, .ref x), (0, .ref b)] [] := by
  obtain ⟨h_cm, h_co, h_bf, h_sv, h_hi, h_hf, h_dk, h_se, h_pg, h_sb, h_sa, h_pr, h_ln, h_la, h_mo, h_out, h_outD⟩ := hW
  have hP0 := hP
  obtain ⟨⟨hD, hDv, hDh⟩, ⟨hRM, hch, hcs⟩, ⟨⟨n0, n1⟩, ⟨s0, s1⟩, hhs⟩, ⟨hm8, hnn, hAg, hNN, hnN, hf9⟩, ⟨T, hSB, hLT, hn38⟩, hPB, ⟨her, hfa, hss, ger, gfa, gss, gms⟩, ⟨gpo, gsi⟩, ⟨hv1, hv2, hvv⟩⟩ := hP
  have hO := hD.inv.ok
  have hI := hD.inv.ts
  have hSt := hD.inv.st
  have hS := hD.inv.sn
  have hR := hRM.1.2
  have hG := gp_inv hD
  have hb0 := hO.b0
  have hbw := hO.bw
  have hbf : ¬ Fr [] s.heap.size b := fun z => z.elim (fun q => q.elim) (fun q => by omega)
  refine v_aload_n X dL_law_544 545 rfl 4 rfl ?_
  refine v_aload_n X dL_law_545 546 rfl 5 rfl ?_
  refine v_iload X dL_law_546 548 rfl 0 rfl ?_
  refine v_iconst X dL_law_548 549 rfl ?_
  refine v_iadd X dL_law_549 550 rfl ?_
  refine v_scr X hM hX hbl hbf (by omega) (by omega) hLx ha1 dL_law_550 551 rfl ?_
  refine v_aload_n X dL_law_551 552 rfl 5 rfl ?_
  refine v_iload X dL_law_552 554 rfl 0 rfl ?_
  refine v_iconst X dL_law_554 555 rfl ?_
  refine v_iadd X dL_law_555 556 rfl ?_
  refine v_scr X hM hX hbl hbf (by omega) (by omega) hLx ha2 dL_law_556 557 rfl ?_
  refine v_aload_n X dL_law_557 558 rfl 5 rfl ?_
  refine v_iload X dL_law_558 560 rfl 0 rfl ?_
  refine v_iconst X dL_law_560 561 rfl ?_
  refine v_iadd X dL_law_561 562 rfl ?_
  refine v_scr X hM hX hbl hbf (by omega) (by omega) hLx ha3 dL_law_562 563 rfl ?_
  refine v_if_eq X (by omega) dL_law_563 566 570 rfl (by decide) (fun c_1 => ?_) (fun c_1 => ?_)
  · skip
    refine v_iconst X dL_law_570 571 rfl ?_
    refine v_aload_n X dL_law_571 572 rfl 2 rfl ?_
    refine v_mwS X hM (w_X9_question_1_t l hl E x co hs er fa ss a1 a2 0 (x + 339) lg hO ga1 ga2 (by omega) q0) kwL_question ksL_question kl_L_207 (As := [.ref x, .int (zI a1), .int (zI a2), .int (zI 0), .ref (x + 339)]) rfl rfl (rm_lawW rfl (by omega) (by omega)) dL_law_572 575 rfl (k' := kq + 1) (n' := nq + 6) rfl rfl (fun q hq => hq.elim) ⟨h_cm, h_co, h_out⟩ (fun rv H2 lo2 hM hF hpo => ?_)
    subst hpo
    replace hzl := Nat.le_trans hzl hF.1
    replace h_cm := h_cm.kept hF 1 rfl (fun q _ _ h => h.elim)
    replace h_co := h_co.kept hF 28 rfl (fun q _ _ h => h.elim)
    replace h_bf := h_bf.kept hF 28 rfl (fun q _ _ h => h.elim)
    replace h_sv := h_sv.kept hF 28 rfl (fun q _ _ h => h.elim)
    replace h_hi := h_hi.kept hF 2 rfl (fun q _ _ h => h.elim)
    replace h_hf := h_hf.kept hF (fun q _ _ h => h.elim)
    replace h_dk := h_dk.kept hF 3 rfl (fun q _ _ h => h.elim)
    replace h_se := h_se.kept hF 5 rfl (fun q _ _ h => h.elim)
    replace h_pg := h_pg.kept hF 1 rfl (fun q _ _ h => h.elim)
    replace h_sb := h_sb.kept hF 1 rfl (fun q _ _ h => h.elim)
    replace h_sa := h_sa.kept hF 1 rfl (fun q _ _ h => h.elim)
    replace h_pr := h_pr.kept hF 10 rfl (fun q _ _ h => h.elim)
    replace h_ln := h_ln.kept hF 1 rfl (fun q _ _ h => h.elim)
    replace h_la := h_la.kept hF 1 rfl (fun q _ _ h => h.elim)
    replace h_mo := h_mo.kept hF 5 rfl (fun q _ _ h => h.elim)
    replace h_out := h_out.kept hF 1 rfl (fun q _ _ h => h.elim)
    replace h_outD := h_outD.kept hF 1 rfl (fun q _ _ h => h.elim)
    show V p l e room_1 s m args below meth cd Q 9 H2 lo2 (kq + 1) (nq + 6) 575 [(5, .int (zI i)), (4, .ref (x + 340)), (3, .ref (x + 339)), (2, .ref (x + 334)), (1, .ref x), (0, .ref b)] [.int (zI 1)]
    refine v_istore X dL_law_575 577 rfl (by decide) (L' := [(6, .int (zI 1)), (5, .int (zI i)), (4, .ref (x + 340)), (3, .ref (x + 339)), (2, .ref (x + 334)), (1, .ref x), (0, .ref b)]) rfl ?_
    refine v_aload_n X dL_law_577 578 rfl 4 rfl ?_
    refine v_aload_n X dL_law_578 579 rfl 6 rfl ?_
    refine v_iload X dL_law_579 581 rfl 1 rfl ?_
    refine v_iconst X dL_law_581 582 rfl ?_
    refine v_iadd X dL_law_582 583 rfl ?_
    refine v_scr X hM hX hbl hbf (by omega) (by omega) hLx ha1 dL_law_583 584 rfl ?_
    refine v_aload_n X dL_law_584 585 rfl 6 rfl ?_
    refine v_iload X dL_law_585 587 rfl 1 rfl ?_
    refine v_iconst X dL_law_587 588 rfl ?_
    refine v_iadd X dL_law_588 589 rfl ?_
    refine v_scr X hM hX hbl hbf (by omega) (by omega) hLx ha2 dL_law_589 590 rfl ?_
    refine v_aload_n X dL_law_590 591 rfl 6 rfl ?_
    refine v_iload X dL_law_591 593 rfl 1 rfl ?_
    refine v_iconst X dL_law_593 594 rfl ?_
    refine v_iadd X dL_law_594 595 rfl ?_
    refine v_scr X hM hX hbl hbf (by omega) (by omega) hLx ha3 dL_law_595 596 rfl ?_
    refine v_if_eq X (by omega) dL_law_596 599 603 rfl (by decide) (fun c_3 => ?_) (fun c_3 => ?_)
    · skip
      refine v_iconst X dL_law_603 604 rfl ?_
      refine v_muV X hM (h_mo.1) (c_X10_question_f1 l E (x + 334) mo co cv hc nx sz hs a1 a2 0 hO hI hRM hch n0 n1 s0 s1 ga1 ga2 (by omega) q0) kvX10_question kiX10_question kl_L_210 (q0 := 0) rfl rfl (As := [.int (zI a1), .int (zI a2), .int (zI 0)]) rfl rfl (rm_law rfl (by omega) (by omega)) dL_law_604 607 rfl (k' := kq + 1) (n' := nq + 6) rfl rfl (fsI (fun q q1 q2 => (Or.inr (by omega)))) h_mo (fun rv H4 lo4 hM hF hpo => ?_)
      obtain ⟨g2_5, rfl, hp_f_6, hw_0⟩ := hpo
      have h_mo : PR E (x + 334) (modelW E (x + 334) (updC (updC mo 0 (updZ (mo 0) 0 1)) 1 g2_5)) H4 := hw_0
      replace hzl := Nat.le_trans hzl hF.1
      replace h_cm := h_cm.kept hF 1 rfl (fsd (by omega))
      replace h_co := h_co.kept hF 28 rfl (fsd (by omega))
      replace h_bf := h_bf.kept hF 28 rfl (fsd (by omega))
      replace h_sv := h_sv.kept hF 28 rfl (fsd (by omega))
      replace h_hi := h_hi.kept hF 2 rfl (fsd (by omega))
      replace h_hf := h_hf.kept hF (fsd (by omega))
      replace h_dk := h_dk.kept hF 3 rfl (fsd (by omega))
      replace h_se := h_se.kept hF 5 rfl (fsd (by omega))
      replace h_pg := h_pg.kept hF 1 rfl (fsd (by omega))
      replace h_sb := h_sb.kept hF 1 rfl (fsd (by omega))
      replace h_sa := h_sa.kept hF 1 rfl (fsd (by omega))
      replace h_pr := h_pr.kept hF 10 rfl (fsd (by omega))
      replace h_ln := h_ln.kept hF 1 rfl (fsd (by omega))
      replace h_la := h_la.kept hF 1 rfl (fsd (by omega))
      replace h_out := h_out.kept hF 1 rfl (fsd (by omega))
      replace h_outD := h_outD.kept hF 1 rfl (fsd (by omega))
      show V p l e room_1 s m args below meth cd Q 9 H4 lo4 (kq + 1) (nq + 6) 607 [(6, .int (zI 1)), (5, .int (zI i)), (4, .ref (x + 340)), (3, .ref (x + 339)), (2, .ref (x + 334)), (1, .ref x), (0, .ref b)] [.int (zI 0)]
      refine v_istore X dL_law_607 609 rfl (by decide) (L' := [(7, .int (zI 0)), (6, .int (zI 1)), (5, .int (zI i)), (4, .ref (x + 340)), (3, .ref (x + 339)), (2, .ref (x + 334)), (1, .ref x), (0, .ref b)]) rfl ?_
      refine v_aload_n X dL_law_609 610 rfl 5 rfl ?_
      refine v_rdV X hM.C h_mo.1 (c_X10_thrown l E (x + 334) (updC (updC mo 0 (updZ (mo 0) 0 1)) 1 g2_5)) kvX10_thrown kiX10_thrown kl_L_196 rfl rfl (As := []) rfl rfl (rm_law0 rfl (by omega) (by omega)) dL_law_610 613 rfl ?_
      show V p l e room_1 s m args below meth cd Q 9 H4 lo4 (kq + 1) (nq + 6) 613 [(7, .int (zI 0)), (6, .int (zI 1)), (5, .int (zI i)), (4, .ref (x + 340)), (3, .ref (x + 339)), (2, .ref (x + 334)), (1, .ref x), (0, .ref b)] [.int (zI 1)]
      refine v_iload X dL_law_613 615 rfl 1 rfl ?_
      refine v_icmp_eq X (by omega) (by omega) dL_law_615 618 620 rfl (by decide) (fun c_7 => ?_) (fun c_7 => ?_)
      · skip
        refine v_iload X dL_law_620 622 rfl 1 rfl ?_
        refine v_if_ne X (by omega) dL_law_622 625 637 rfl (by decide) (fun c_8 => ?_) (fun c_8 => ?_)
        · skip
          refine v_goto X dL_law_637 3555 (by decide) ?_
          refine v_widen (k' := kq + 60) (n' := nq + 4000) (by omega) (by omega) ?_
          exact V_pick [2, 3, 4, 5, 6, 7] rfl (kk _ _ hM ⟨hzl, _, _, _, _, _, _, _, _, _, _, _, _, _, _, _, _, _, _, _, _, _, _, _, _, _, _, _, _, ⟨h_cm, h_co, h_bf, h_sv, h_hi, h_hf, h_dk, h_se, h_pg, h_sb, h_sa, h_pr, h_ln, h_la, h_mo, h_out, h_outD⟩, (hP0.g2 hp_f_6)⟩)
        · skip
          exfalso; omega
      · skip
        exfalso; omega
    · skip
      exfalso; omega
  · skip
    exfalso; omega
set_option maxHeartbeats 4000000 in
set_option maxRecDepth 20000 in
theorem lo_question_f0_2 (hl : l.stackTraces = false) (X : CF p m cd code 9 s args RL) (hX : va_X b Lx xs s s.heap) (hbl : b < s.heap.size) (hLx : Lx ≤ 2560) (hM : MS E [] s H lo) (hk : kq + 60 ≤ 603072) (hn : nq + 4000 ≤ 7211113) (hx : s.heap.size ≤ x) (hzl : x + 341 ≤ H.size) {v : Nat} {N : Nat} {f : Int → Int} {nn : Int} {v2 : Nat} {N2 : Nat} {f2 : Int → Int} {n2 : Int} {co : Nat → Int → Int} {bf : Nat → Int → Int} {cv : Nat → Int → Int} {hc : Nat → Nat → Int → Int} {nx : Int} {sz : Int} {hs : Int} {er : Int} {fa : Int} {ss : Int} {dk : Nat → Int → Int} {se : Nat → Int → Int} {po : Int} {si : Int} {pr : Nat → Int → Int} {ml : Int} {ml2 : Int} {mo : Nat → Int → Int} {lg : Nat → Int64} {dg : Nat → UInt64} (hW : LawW E x v N f nn v2 N2 f2 n2 co bf cv hc nx sz hs er fa ss dk se po si pr ml ml2 mo lg dg H) (hP : LawP x v N f nn v2 N2 f2 n2 co cv hc nx sz hs er fa ss po si pr mo) (i0 : 0 ≤ i) (i1 : i + 5 ≤ (Lx : Int)) {a1 : Int} (ha1 : (xs (i + 1).toNat).toInt = a1) (ga1 : Rg a1) {a2 : Int} (ha2 : (xs (i + 2).toNat).toInt = a2) (ga2 : Rg a2) {a3 : Int} (ha3 : (xs (i + 3).toNat).toInt = a3) (ga3 : Rg a3) (q0 : flC co 3 a1 a2 0 = 3) (q1 : a3 = 0) (kk : ∀ (H1 : Heap) (lo1 : List Loc), MS E [] s H1 lo1 → LawI E x H1 → V p l e room_1 s m args below meth cd Q 9 H1 lo1 (kq + 60) (nq + 4000) 3555 [(5, .int (zI i)), (4, .ref (x + 340)), (3, .ref (x + 339)), (2, .ref (x + 334)), (1, .ref x), (0, .ref b)] []) : V p l e room_1 s m args below meth cd Q 9 H lo kq nq 544 [(5, .int (zI i)), (4, .ref (x + 340)), (3, .ref (x + 339)), (2, .ref (x + 334)), (1, .ref x), (0, .ref b)] [] := by
  obtain ⟨h_cm, h_co, h_bf, h_sv, h_hi, h_hf, h_dk, h_se, h_pg, h_sb, h_sa, h_pr, h_ln, h_la, h_mo, h_out, h_outD⟩ := hW
  have hP0 := hP
  obtain ⟨⟨hD, hDv, hDh⟩, ⟨hRM, hch, hcs⟩, ⟨⟨n0, n1⟩, ⟨s0, s1⟩, hhs⟩, ⟨hm8, hnn, hAg, hNN, hnN, hf9⟩, ⟨T, hSB, hLT, hn38⟩, hPB, ⟨her, hfa, hss, ger, gfa, gss, gms⟩, ⟨gpo, gsi⟩, ⟨hv1, hv2, hvv⟩⟩ := hP
  have hO := hD.inv.ok
  have hI := hD.inv.ts
  have hSt := hD.inv.st
  have hS := hD.inv.sn
  have hR := hRM.1.2
  have hG := gp_inv hD
  have hb0 := hO.b0
  have hbw := hO.bw
  have hbf : ¬ Fr [] s.heap.size b := fun z => z.elim (fun q => q.elim) (fun q => by omega)
  refine v_aload_n X dL_law_544 545 rfl 4 rfl ?_
  refine v_aload_n X dL_law_545 546 rfl 5 rfl ?_
  refine v_iload X dL_law_546 548 rfl 0 rfl ?_
  refine v_iconst X dL_law_548 549 rfl ?_
  refine v_iadd X dL_law_549 550 rfl ?_
  refine v_scr X hM hX hbl hbf (by omega) (by omega) hLx ha1 dL_law_550 551 rfl ?_
  refine v_aload_n X dL_law_551 552 rfl 5 rfl ?_
  refine v_iload X dL_law_552 554 rfl 0 rfl ?_
  refine v_iconst X dL_law_554 555 rfl ?_
  refine v_iadd X dL_law_555 556 rfl ?_
  refine v_scr X hM hX hbl hbf (by omega) (by omega) hLx ha2 dL_law_556 557 rfl ?_
  refine v_aload_n X dL_law_557 558 rfl 5 rfl ?_
  refine v_iload X dL_law_558 560 rfl 0 rfl ?_
  refine v_iconst X dL_law_560 561 rfl ?_
  refine v_iadd X dL_law_561 562 rfl ?_
  refine v_scr X hM hX hbl hbf (by omega) (by omega) hLx ha3 dL_law_562 563 rfl ?_
  refine v_if_eq X (by omega) dL_law_563 566 570 rfl (by decide) (fun c_1 => ?_) (fun c_1 => ?_)
  · skip
    refine v_iconst X dL_law_570 571 rfl ?_
    refine v_aload_n X dL_law_571 572 rfl 2 rfl ?_
    refine v_mwS X hM (w_X9_question_3_t l hl E x co hs er fa ss a1 a2 0 (x + 339) lg hO ga1 ga2 (by omega) q0) kwL_question ksL_question kl_L_207 (As := [.ref x, .int (zI a1), .int (zI a2), .int (zI 0), .ref (x + 339)]) rfl rfl (rm_lawW rfl (by omega) (by omega)) dL_law_572 575 rfl (k' := kq + 1) (n' := nq + 6) rfl rfl (fun q hq => hq.elim) ⟨h_cm, h_co, h_out⟩ (fun rv H2 lo2 hM hF hpo => ?_)
    subst hpo
    replace hzl := Nat.le_trans hzl hF.1
    replace h_cm := h_cm.kept hF 1 rfl (fun q _ _ h => h.elim)
    replace h_co := h_co.kept hF 28 rfl (fun q _ _ h => h.elim)
    replace h_bf := h_bf.kept hF 28 rfl (fun q _ _ h => h.elim)
    replace h_sv := h_sv.kept hF 28 rfl (fun q _ _ h => h.elim)
    replace h_hi := h_hi.kept hF 2 rfl (fun q _ _ h => h.elim)
    replace h_hf := h_hf.kept hF (fun q _ _ h => h.elim)
    replace h_dk := h_dk.kept hF 3 rfl (fun q _ _ h => h.elim)
    replace h_se := h_se.kept hF 5 rfl (fun q _ _ h => h.elim)
    replace h_pg := h_pg.kept hF 1 rfl (fun q _ _ h => h.elim)
    replace h_sb := h_sb.kept hF 1 rfl (fun q _ _ h => h.elim)
    replace h_sa := h_sa.kept hF 1 rfl (fun q _ _ h => h.elim)
    replace h_pr := h_pr.kept hF 10 rfl (fun q _ _ h => h.elim)
    replace h_ln := h_ln.kept hF 1 rfl (fun q _ _ h => h.elim)
    replace h_la := h_la.kept hF 1 rfl (fun q _ _ h => h.elim)
    replace h_mo := h_mo.kept hF 5 rfl (fun q _ _ h => h.elim)
    replace h_out := h_out.kept hF 1 rfl (fun q _ _ h => h.elim)
    replace h_outD := h_outD.kept hF 1 rfl (fun q _ _ h => h.elim)
    show V p l e room_1 s m args below meth cd Q 9 H2 lo2 (kq + 1) (nq + 6) 575 [(5, .int (zI i)), (4, .ref (x + 340)), (3, .ref (x + 339)), (2, .ref (x + 334)), (1, .ref x), (0, .ref b)] [.int (zI 2)]
    refine v_istore X dL_law_575 577 rfl (by decide) (L' := [(6, .int (zI 2)), (5, .int (zI i)), (4, .ref (x + 340)), (3, .ref (x + 339)), (2, .ref (x + 334)), (1, .ref x), (0, .ref b)]) rfl ?_
    refine v_aload_n X dL_law_577 578 rfl 4 rfl ?_
    refine v_aload_n X dL_law_578 579 rfl 6 rfl ?_
    refine v_iload X dL_law_579 581 rfl 1 rfl ?_
    refine v_iconst X dL_law_581 582 rfl ?_
    refine v_iadd X dL_law_582 583 rfl ?_
    refine v_scr X hM hX hbl hbf (by omega) (by omega) hLx ha1 dL_law_583 584 rfl ?_
    refine v_aload_n X dL_law_584 585 rfl 6 rfl ?_
    refine v_iload X dL_law_585 587 rfl 1 rfl ?_
    refine v_iconst X dL_law_587 588 rfl ?_
    refine v_iadd X dL_law_588 589 rfl ?_
    refine v_scr X hM hX hbl hbf (by omega) (by omega) hLx ha2 dL_law_589 590 rfl ?_
    refine v_aload_n X dL_law_590 591 rfl 6 rfl ?_
    refine v_iload X dL_law_591 593 rfl 1 rfl ?_
    refine v_iconst X dL_law_593 594 rfl ?_
    refine v_iadd X dL_law_594 595 rfl ?_
    refine v_scr X hM hX hbl hbf (by omega) (by omega) hLx ha3 dL_law_595 596 rfl ?_
    refine v_if_eq X (by omega) dL_law_596 599 603 rfl (by decide) (fun c_3 => ?_) (fun c_3 => ?_)
    · skip
      refine v_iconst X dL_law_603 604 rfl ?_
      refine v_muV X hM (h_mo.1) (c_X10_question_f3 l E (x + 334) mo co cv hc nx sz hs a1 a2 0 hO hI hRM hch n0 n1 s0 s1 ga1 ga2 (by omega) q0) kvX10_question kiX10_question kl_L_210 (q0 := 0) rfl rfl (As := [.int (zI a1), .int (zI a2), .int (zI 0)]) rfl rfl (rm_law rfl (by omega) (by omega)) dL_law_604 607 rfl (k' := kq + 1) (n' := nq + 6) rfl rfl (fsI (fun q q1 q2 => (Or.inr (by omega)))) h_mo (fun rv H4 lo4 hM hF hpo => ?_)
      obtain ⟨g2_5, rfl, hp_f_6, hw_0⟩ := hpo
      have h_mo : PR E (x + 334) (modelW E (x + 334) (updC (updC mo 0 (updZ (mo 0) 0 2)) 1 g2_5)) H4 := hw_0
      replace hzl := Nat.le_trans hzl hF.1
      replace h_cm := h_cm.kept hF 1 rfl (fsd (by omega))
      replace h_co := h_co.kept hF 28 rfl (fsd (by omega))
      replace h_bf := h_bf.kept hF 28 rfl (fsd (by omega))
      replace h_sv := h_sv.kept hF 28 rfl (fsd (by omega))
      replace h_hi := h_hi.kept hF 2 rfl (fsd (by omega))
      replace h_hf := h_hf.kept hF (fsd (by omega))
      replace h_dk := h_dk.kept hF 3 rfl (fsd (by omega))
      replace h_se := h_se.kept hF 5 rfl (fsd (by omega))
      replace h_pg := h_pg.kept hF 1 rfl (fsd (by omega))
      replace h_sb := h_sb.kept hF 1 rfl (fsd (by omega))
      replace h_sa := h_sa.kept hF 1 rfl (fsd (by omega))
      replace h_pr := h_pr.kept hF 10 rfl (fsd (by omega))
      replace h_ln := h_ln.kept hF 1 rfl (fsd (by omega))
      replace h_la := h_la.kept hF 1 rfl (fsd (by omega))
      replace h_out := h_out.kept hF 1 rfl (fsd (by omega))
      replace h_outD := h_outD.kept hF 1 rfl (fsd (by omega))
      show V p l e room_1 s m args below meth cd Q 9 H4 lo4 (kq + 1) (nq + 6) 607 [(6, .int (zI 2)), (5, .int (zI i)), (4, .ref (x + 340)), (3, .ref (x + 339)), (2, .ref (x + 334)), (1, .ref x), (0, .ref b)] [.int (zI 0)]
      refine v_istore X dL_law_607 609 rfl (by decide) (L' := [(7, .int (zI 0)), (6, .int (zI 2)), (5, .int (zI i)), (4, .ref (x + 340)), (3, .ref (x + 339)), (2, .ref (x + 334)), (1, .ref x), (0, .ref b)]) rfl ?_
      refine v_aload_n X dL_law_609 610 rfl 5 rfl ?_
      refine v_rdV X hM.C h_mo.1 (c_X10_thrown l E (x + 334) (updC (updC mo 0 (updZ (mo 0) 0 2)) 1 g2_5)) kvX10_thrown kiX10_thrown kl_L_196 rfl rfl (As := []) rfl rfl (rm_law0 rfl (by omega) (by omega)) dL_law_610 613 rfl ?_
      show V p l e room_1 s m args below meth cd Q 9 H4 lo4 (kq + 1) (nq + 6) 613 [(7, .int (zI 0)), (6, .int (zI 2)), (5, .int (zI i)), (4, .ref (x + 340)), (3, .ref (x + 339)), (2, .ref (x + 334)), (1, .ref x), (0, .ref b)] [.int (zI 2)]
      refine v_iload X dL_law_613 615 rfl 1 rfl ?_
      refine v_icmp_eq X (by omega) (by omega) dL_law_615 618 620 rfl (by decide) (fun c_7 => ?_) (fun c_7 => ?_)
      · skip
        refine v_iload X dL_law_620 622 rfl 1 rfl ?_
        refine v_if_ne X (by omega) dL_law_622 625 637 rfl (by decide) (fun c_8 => ?_) (fun c_8 => ?_)
        · skip
          refine v_goto X dL_law_637 3555 (by decide) ?_
          refine v_widen (k' := kq + 60) (n' := nq + 4000) (by omega) (by omega) ?_
          exact V_pick [2, 3, 4, 5, 6, 7] rfl (kk _ _ hM ⟨hzl, _, _, _, _, _, _, _, _, _, _, _, _, _, _, _, _, _, _, _, _, _, _, _, _, _, _, _, _, ⟨h_cm, h_co, h_bf, h_sv, h_hi, h_hf, h_dk, h_se, h_pg, h_sb, h_sa, h_pr, h_ln, h_la, h_mo, h_out, h_outD⟩, (hP0.g2 hp_f_6)⟩)
        · skip
          exfalso; omega
      · skip
        exfalso; omega
    · skip
      exfalso; omega
  · skip
    exfalso; omega
set_option maxHeartbeats 4000000 in
set_option maxRecDepth 20000 in
theorem lo_question_f0_3 (hl : l.stackTraces = false) (X : CF p m cd code 9 s args RL) (hX : va_X b Lx xs s s.heap) (hbl : b < s.heap.size) (hLx : Lx ≤ 2560) (hM : MS E [] s H lo) (hk : kq + 60 ≤ 603072) (hn : nq + 4000 ≤ 7211113) (hx : s.heap.size ≤ x) (hzl : x + 341 ≤ H.size) {v : Nat} {N : Nat} {f : Int → Int} {nn : Int} {v2 : Nat} {N2 : Nat} {f2 : Int → Int} {n2 : Int} {co : Nat → Int → Int} {bf : Nat → Int → Int} {cv : Nat → Int → Int} {hc : Nat → Nat → Int → Int} {nx : Int} {sz : Int} {hs : Int} {er : Int} {fa : Int} {ss : Int} {dk : Nat → Int → Int} {se : Nat → Int → Int} {po : Int} {si : Int} {pr : Nat → Int → Int} {ml : Int} {ml2 : Int} {mo : Nat → Int → Int} {lg : Nat → Int64} {dg : Nat → UInt64} (hW : LawW E x v N f nn v2 N2 f2 n2 co bf cv hc nx sz hs er fa ss dk se po si pr ml ml2 mo lg dg H) (hP : LawP x v N f nn v2 N2 f2 n2 co cv hc nx sz hs er fa ss po si pr mo) (i0 : 0 ≤ i) (i1 : i + 5 ≤ (Lx : Int)) {a1 : Int} (ha1 : (xs (i + 1).toNat).toInt = a1) (ga1 : Rg a1) {a2 : Int} (ha2 : (xs (i + 2).toNat).toInt = a2) (ga2 : Rg a2) {a3 : Int} (ha3 : (xs (i + 3).toNat).toInt = a3) (ga3 : Rg a3) (q0 : flC co 3 a1 a2 0 = 4) (q1 : a3 = 0) (kk : ∀ (H1 : Heap) (lo1 : List Loc), MS E [] s H1 lo1 → LawI E x H1 → V p l e room_1 s m args below meth cd Q 9 H1 lo1 (kq + 60) (nq + 4000) 3555 [(5, .int (zI i)), (4, .ref (x + 340)), (3, .ref (x + 339)), (2, .ref (x + 334)), (1, .ref x), (0, .ref b)] []) : V p l e room_1 s m args below meth cd Q 9 H lo kq nq 544 [(5, .int (zI i)), (4, .ref (x + 340)), (3, .ref (x + 339)), (2, .ref (x + 334)), (1, .ref x), (0, .ref b)] [] := by
  obtain ⟨h_cm, h_co, h_bf, h_sv, h_hi, h_hf, h_dk, h_se, h_pg, h_sb, h_sa, h_pr, h_ln, h_la, h_mo, h_out, h_outD⟩ := hW
  have hP0 := hP
  obtain ⟨⟨hD, hDv, hDh⟩, ⟨hRM, hch, hcs⟩, ⟨⟨n0, n1⟩, ⟨s0, s1⟩, hhs⟩, ⟨hm8, hnn, hAg, hNN, hnN, hf9⟩, ⟨T, hSB, hLT, hn38⟩, hPB, ⟨her, hfa, hss, ger, gfa, gss, gms⟩, ⟨gpo, gsi⟩, ⟨hv1, hv2, hvv⟩⟩ := hP
  have hO := hD.inv.ok
  have hI := hD.inv.ts
  have hSt := hD.inv.st
  have hS := hD.inv.sn
  have hR := hRM.1.2
  have hG := gp_inv hD
  have hb0 := hO.b0
  have hbw := hO.bw
  have hbf : ¬ Fr [] s.heap.size b := fun z => z.elim (fun q => q.elim) (fun q => by omega)
  refine v_aload_n X dL_law_544 545 rfl 4 rfl ?_
  refine v_aload_n X dL_law_545 546 rfl 5 rfl ?_
  refine v_iload X dL_law_546 548 rfl 0 rfl ?_
  refine v_iconst X dL_law_548 549 rfl ?_
  refine v_iadd X dL_law_549 550 rfl ?_
  refine v_scr X hM hX hbl hbf (by omega) (by omega) hLx ha1 dL_law_550 551 rfl ?_
  refine v_aload_n X dL_law_551 552 rfl 5 rfl ?_
  refine v_iload X dL_law_552 554 rfl 0 rfl ?_
  refine v_iconst X dL_law_554 555 rfl ?_
  refine v_iadd X dL_law_555 556 rfl ?_
  refine v_scr X hM hX hbl hbf (by omega) (by omega) hLx ha2 dL_law_556 557 rfl ?_
  refine v_aload_n X dL_law_557 558 rfl 5 rfl ?_
  refine v_iload X dL_law_558 560 rfl 0 rfl ?_
  refine v_iconst X dL_law_560 561 rfl ?_
  refine v_iadd X dL_law_561 562 rfl ?_
  refine v_scr X hM hX hbl hbf (by omega) (by omega) hLx ha3 dL_law_562 563 rfl ?_
  refine v_if_eq X (by omega) dL_law_563 566 570 rfl (by decide) (fun c_1 => ?_) (fun c_1 => ?_)
  · skip
    refine v_iconst X dL_law_570 571 rfl ?_
    refine v_aload_n X dL_law_571 572 rfl 2 rfl ?_
    refine v_mwS X hM (w_X9_question_4_t l hl E x co hs er fa ss a1 a2 0 (x + 339) lg hO ga1 ga2 (by omega) q0) kwL_question ksL_question kl_L_207 (As := [.ref x, .int (zI a1), .int (zI a2), .int (zI 0), .ref (x + 339)]) rfl rfl (rm_lawW rfl (by omega) (by omega)) dL_law_572 575 rfl (k' := kq + 1) (n' := nq + 6) rfl rfl (fun q hq => hq.elim) ⟨h_cm, h_co, h_out⟩ (fun rv H2 lo2 hM hF hpo => ?_)
    subst hpo
    replace hzl := Nat.le_trans hzl hF.1
    replace h_cm := h_cm.kept hF 1 rfl (fun q _ _ h => h.elim)
    replace h_co := h_co.kept hF 28 rfl (fun q _ _ h => h.elim)
    replace h_bf := h_bf.kept hF 28 rfl (fun q _ _ h => h.elim)
    replace h_sv := h_sv.kept hF 28 rfl (fun q _ _ h => h.elim)
    replace h_hi := h_hi.kept hF 2 rfl (fun q _ _ h => h.elim)
    replace h_hf := h_hf.kept hF (fun q _ _ h => h.elim)
    replace h_dk := h_dk.kept hF 3 rfl (fun q _ _ h => h.elim)
    replace h_se := h_se.kept hF 5 rfl (fun q _ _ h => h.elim)
    replace h_pg := h_pg.kept hF 1 rfl (fun q _ _ h => h.elim)
    replace h_sb := h_sb.kept hF 1 rfl (fun q _ _ h => h.elim)
    replace h_sa := h_sa.kept hF 1 rfl (fun q _ _ h => h.elim)
    replace h_pr := h_pr.kept hF 10 rfl (fun q _ _ h => h.elim)
    replace h_ln := h_ln.kept hF 1 rfl (fun q _ _ h => h.elim)
    replace h_la := h_la.kept hF 1 rfl (fun q _ _ h => h.elim)
    replace h_mo := h_mo.kept hF 5 rfl (fun q _ _ h => h.elim)
    replace h_out := h_out.kept hF 1 rfl (fun q _ _ h => h.elim)
    replace h_outD := h_outD.kept hF 1 rfl (fun q _ _ h => h.elim)
    show V p l e room_1 s m args below meth cd Q 9 H2 lo2 (kq + 1) (nq + 6) 575 [(5, .int (zI i)), (4, .ref (x + 340)), (3, .ref (x + 339)), (2, .ref (x + 334)), (1, .ref x), (0, .ref b)] [.int (zI 3)]
    refine v_istore X dL_law_575 577 rfl (by decide) (L' := [(6, .int (zI 3)), (5, .int (zI i)), (4, .ref (x + 340)), (3, .ref (x + 339)), (2, .ref (x + 334)), (1, .ref x), (0, .ref b)]) rfl ?_
    refine v_aload_n X dL_law_577 578 rfl 4 rfl ?_
    refine v_aload_n X dL_law_578 579 rfl 6 rfl ?_
    refine v_iload X dL_law_579 581 rfl 1 rfl ?_
    refine v_iconst X dL_law_581 582 rfl ?_
    refine v_iadd X dL_law_582 583 rfl ?_
    refine v_scr X hM hX hbl hbf (by omega) (by omega) hLx ha1 dL_law_583 584 rfl ?_
    refine v_aload_n X dL_law_584 585 rfl 6 rfl ?_
    refine v_iload X dL_law_585 587 rfl 1 rfl ?_
    refine v_iconst X dL_law_587 588 rfl ?_
    refine v_iadd X dL_law_588 589 rfl ?_
    refine v_scr X hM hX hbl hbf (by omega) (by omega) hLx ha2 dL_law_589 590 rfl ?_
    refine v_aload_n X dL_law_590 591 rfl 6 rfl ?_
    refine v_iload X dL_law_591 593 rfl 1 rfl ?_
    refine v_iconst X dL_law_593 594 rfl ?_
    refine v_iadd X dL_law_594 595 rfl ?_
    refine v_scr X hM hX hbl hbf (by omega) (by omega) hLx ha3 dL_law_595 596 rfl ?_
    refine v_if_eq X (by omega) dL_law_596 599 603 rfl (by decide) (fun c_3 => ?_) (fun c_3 => ?_)
    · skip
      refine v_iconst X dL_law_603 604 rfl ?_
      refine v_muV X hM (h_mo.1) (c_X10_question_f4 l E (x + 334) mo co cv hc nx sz hs a1 a2 0 hO hI hRM hch n0 n1 s0 s1 ga1 ga2 (by omega) q0) kvX10_question kiX10_question kl_L_210 (q0 := 0) rfl rfl (As := [.int (zI a1), .int (zI a2), .int (zI 0)]) rfl rfl (rm_law rfl (by omega) (by omega)) dL_law_604 607 rfl (k' := kq + 1) (n' := nq + 6) rfl rfl (fsI (fun q q1 q2 => (Or.inr (by omega)))) h_mo (fun rv H4 lo4 hM hF hpo => ?_)
      obtain ⟨g2_5, rfl, hp_f_6, hw_0⟩ := hpo
      have h_mo : PR E (x + 334) (modelW E (x + 334) (updC (updC mo 0 (updZ (mo 0) 0 3)) 1 g2_5)) H4 := hw_0
      replace hzl := Nat.le_trans hzl hF.1
      replace h_cm := h_cm.kept hF 1 rfl (fsd (by omega))
      replace h_co := h_co.kept hF 28 rfl (fsd (by omega))
      replace h_bf := h_bf.kept hF 28 rfl (fsd (by omega))
      replace h_sv := h_sv.kept hF 28 rfl (fsd (by omega))
      replace h_hi := h_hi.kept hF 2 rfl (fsd (by omega))
      replace h_hf := h_hf.kept hF (fsd (by omega))
      replace h_dk := h_dk.kept hF 3 rfl (fsd (by omega))
      replace h_se := h_se.kept hF 5 rfl (fsd (by omega))
      replace h_pg := h_pg.kept hF 1 rfl (fsd (by omega))
      replace h_sb := h_sb.kept hF 1 rfl (fsd (by omega))
      replace h_sa := h_sa.kept hF 1 rfl (fsd (by omega))
      replace h_pr := h_pr.kept hF 10 rfl (fsd (by omega))
      replace h_ln := h_ln.kept hF 1 rfl (fsd (by omega))
      replace h_la := h_la.kept hF 1 rfl (fsd (by omega))
      replace h_out := h_out.kept hF 1 rfl (fsd (by omega))
      replace h_outD := h_outD.kept hF 1 rfl (fsd (by omega))
      show V p l e room_1 s m args below meth cd Q 9 H4 lo4 (kq + 1) (nq + 6) 607 [(6, .int (zI 3)), (5, .int (zI i)), (4, .ref (x + 340)), (3, .ref (x + 339)), (2, .ref (x + 334)), (1, .ref x), (0, .ref b)] [.int (zI 0)]
      refine v_istore X dL_law_607 609 rfl (by decide) (L' := [(7, .int (zI 0)), (6, .int (zI 3)), (5, .int (zI i)), (4, .ref (x + 340)), (3, .ref (x + 339)), (2, .ref (x + 334)), (1, .ref x), (0, .ref b)]) rfl ?_
      refine v_aload_n X dL_law_609 610 rfl 5 rfl ?_
      refine v_rdV X hM.C h_mo.1 (c_X10_thrown l E (x + 334) (updC (updC mo 0 (updZ (mo 0) 0 3)) 1 g2_5)) kvX10_thrown kiX10_thrown kl_L_196 rfl rfl (As := []) rfl rfl (rm_law0 rfl (by omega) (by omega)) dL_law_610 613 rfl ?_
      show V p l e room_1 s m args below meth cd Q 9 H4 lo4 (kq + 1) (nq + 6) 613 [(7, .int (zI 0)), (6, .int (zI 3)), (5, .int (zI i)), (4, .ref (x + 340)), (3, .ref (x + 339)), (2, .ref (x + 334)), (1, .ref x), (0, .ref b)] [.int (zI 3)]
      refine v_iload X dL_law_613 615 rfl 1 rfl ?_
      refine v_icmp_eq X (by omega) (by omega) dL_law_615 618 620 rfl (by decide) (fun c_7 => ?_) (fun c_7 => ?_)
      · skip
        refine v_iload X dL_law_620 622 rfl 1 rfl ?_
        refine v_if_ne X (by omega) dL_law_622 625 637 rfl (by decide) (fun c_8 => ?_) (fun c_8 => ?_)
        · skip
          refine v_goto X dL_law_637 3555 (by decide) ?_
          refine v_widen (k' := kq + 60) (n' := nq + 4000) (by omega) (by omega) ?_
          exact V_pick [2, 3, 4, 5, 6, 7] rfl (kk _ _ hM ⟨hzl, _, _, _, _, _, _, _, _, _, _, _, _, _, _, _, _, _, _, _, _, _, _, _, _, _, _, _, _, ⟨h_cm, h_co, h_bf, h_sv, h_hi, h_hf, h_dk, h_se, h_pg, h_sb, h_sa, h_pr, h_ln, h_la, h_mo, h_out, h_outD⟩, (hP0.g2 hp_f_6)⟩)
        · skip
          exfalso; omega
      · skip
        exfalso; omega
    · skip
      exfalso; omega
  · skip
    exfalso; omega
set_option maxHeartbeats 4000000 in
set_option maxRecDepth 20000 in
theorem lo_question_f1 (hl : l.stackTraces = false) (X : CF p m cd code 9 s args RL) (hX : va_X b Lx xs s s.heap) (hbl : b < s.heap.size) (hLx : Lx ≤ 2560) (hM : MS E [] s H lo) (hk : kq + 60 ≤ 603072) (hn : nq + 4000 ≤ 7211113) (hx : s.heap.size ≤ x) (hzl : x + 341 ≤ H.size) {v : Nat} {N : Nat} {f : Int → Int} {nn : Int} {v2 : Nat} {N2 : Nat} {f2 : Int → Int} {n2 : Int} {co : Nat → Int → Int} {bf : Nat → Int → Int} {cv : Nat → Int → Int} {hc : Nat → Nat → Int → Int} {nx : Int} {sz : Int} {hs : Int} {er : Int} {fa : Int} {ss : Int} {dk : Nat → Int → Int} {se : Nat → Int → Int} {po : Int} {si : Int} {pr : Nat → Int → Int} {ml : Int} {ml2 : Int} {mo : Nat → Int → Int} {lg : Nat → Int64} {dg : Nat → UInt64} (hW : LawW E x v N f nn v2 N2 f2 n2 co bf cv hc nx sz hs er fa ss dk se po si pr ml ml2 mo lg dg H) (hP : LawP x v N f nn v2 N2 f2 n2 co cv hc nx sz hs er fa ss po si pr mo) (i0 : 0 ≤ i) (i1 : i + 5 ≤ (Lx : Int)) {a1 : Int} (ha1 : (xs (i + 1).toNat).toInt = a1) (ga1 : Rg a1) {a2 : Int} (ha2 : (xs (i + 2).toNat).toInt = a2) (ga2 : Rg a2) {a3 : Int} (ha3 : (xs (i + 3).toNat).toInt = a3) (ga3 : Rg a3) (q0 : flC co 3 a1 a2 0 = 0) (q1 : ¬ a3 = 0) (kk : ∀ (H1 : Heap) (lo1 : List Loc), MS E [] s H1 lo1 → LawI E x H1 → V p l e room_1 s m args below meth cd Q 9 H1 lo1 (kq + 60) (nq + 4000) 3555 [(5, .int (zI i)), (4, .ref (x + 340)), (3, .ref (x + 339)), (2, .ref (x + 334)), (1, .ref x), (0, .ref b)] []) : V p l e room_1 s m args below meth cd Q 9 H lo kq nq 544 [(5, .int (zI i)), (4, .ref (x + 340)), (3, .ref (x + 339)), (2, .ref (x + 334)), (1, .ref x), (0, .ref b)] [] := by
  obtain ⟨h_cm, h_co, h_bf, h_sv, h_hi, h_hf, h_dk, h_se, h_pg, h_sb, h_sa, h_pr, h_ln, h_la, h_mo, h_out, h_outD⟩ := hW
  have hP0 := hP
  obtain ⟨⟨hD, hDv, hDh⟩, ⟨hRM, hch, hcs⟩, ⟨⟨n0, n1⟩, ⟨s0, s1⟩, hhs⟩, ⟨hm8, hnn, hAg, hNN, hnN, hf9⟩, ⟨T, hSB, hLT, hn38⟩, hPB, ⟨her, hfa, hss, ger, gfa, gss, gms⟩, ⟨gpo, gsi⟩, ⟨hv1, hv2, hvv⟩⟩ := hP
  have hO := hD.inv.ok
  have hI := hD.inv.ts
  have hSt := hD.inv.st
  have hS := hD.inv.sn
  have hR := hRM.1.2
  have hG := gp_inv hD
  have hb0 := hO.b0
  have hbw := hO.bw
  have hbf : ¬ Fr [] s.heap.size b := fun z => z.elim (fun q => q.elim) (fun q => by omega)
  have hD2 := op_inv hD (kd := 3) (a := a1) (b := a2) (f := 1) (z := 0) (by decide) q0
  refine v_aload_n X dL_law_544 545 rfl 4 rfl ?_
  refine v_aload_n X dL_law_545 546 rfl 5 rfl ?_
  refine v_iload X dL_law_546 548 rfl 0 rfl ?_
  refine v_iconst X dL_law_548 549 rfl ?_
  refine v_iadd X dL_law_549 550 rfl ?_
  refine v_scr X hM hX hbl hbf (by omega) (by omega) hLx ha1 dL_law_550 551 rfl ?_
  refine v_aload_n X dL_law_551 552 rfl 5 rfl ?_
  refine v_iload X dL_law_552 554 rfl 0 rfl ?_
  refine v_iconst X dL_law_554 555 rfl ?_
  refine v_iadd X dL_law_555 556 rfl ?_
  refine v_scr X hM hX hbl hbf (by omega) (by omega) hLx ha2 dL_law_556 557 rfl ?_
  refine v_aload_n X dL_law_557 558 rfl 5 rfl ?_
  refine v_iload X dL_law_558 560 rfl 0 rfl ?_
  refine v_iconst X dL_law_560 561 rfl ?_
  refine v_iadd X dL_law_561 562 rfl ?_
  refine v_scr X hM hX hbl hbf (by omega) (by omega) hLx ha3 dL_law_562 563 rfl ?_
  refine v_if_eq X (by omega) dL_law_563 566 570 rfl (by decide) (fun c_1 => ?_) (fun c_1 => ?_)
  · skip
    exfalso; omega
  · skip
    refine v_iconst X dL_law_566 567 rfl ?_
    refine v_goto X dL_law_567 571 (by decide) ?_
    refine v_aload_n X dL_law_571 572 rfl 2 rfl ?_
    refine v_mwS X hM (w_X9_question l hl E x co hs er fa ss a1 a2 1 hc nx sz (x + 339) lg hO ga1 ga2 (by omega) q0 n0 n1 s0 s1 (by omega) (by omega) (by omega) (by omega) (by omega) (by omega) (by omega) (by omega) (by omega) (by omega)) kwL_question ksL_question kl_L_207 (As := [.ref x, .int (zI a1), .int (zI a2), .int (zI 1), .ref (x + 339)]) rfl rfl (rm_lawW rfl (by omega) (by omega)) dL_law_572 575 rfl (k' := kq + 1) (n' := nq + 6) rfl rfl (by intro q hq; simp only [Fr, Fs, or_false, false_or] at hq ⊢; omega) ⟨h_cm, h_co, h_hi, h_hf, h_out⟩ (fun rv H2 lo2 hM hF hpo => ?_)
    obtain ⟨rfl, hw_0, hw_1, hw_2, hw_3⟩ := hpo
    have h_co : PR E (x + 1) (courtW E (x + 1) (opC co 3 a1 a2 1 0)) H2 := hw_0
    have h_hi : PR E (x + 85) [(x + 85, .inr (7, [.ref (x + 86), .int (zI (if nx < 7 then nx + 1 else 0)), .int (zI (min (sz + 1) 8))])), (x + 86, .inl (E 102 3, 8, .inr (.inr (.inr (.inr (hisA (x + 87) 8))))))] H2 := hw_1
    have h_hf : HF E (x + 87) 8 (fun j => if j = nx.toNat then co else hc j) H2 := hw_2
    have h_out : PR E (x + 339) [(x + 339, .inl (E 102 4, 1, .inr (.inl (fun _ => zL (opV co 3 a1 a2 1 0)))))] H2 := hw_3
    replace hzl := Nat.le_trans hzl hF.1
    replace h_cm := h_cm.kept hF 1 rfl (by intro q q1 q2 q3; simp only [Fs, or_false] at q3; omega)
    replace h_bf := h_bf.kept hF 28 rfl (by intro q q1 q2 q3; simp only [Fs, or_false] at q3; omega)
    replace h_sv := h_sv.kept hF 28 rfl (by intro q q1 q2 q3; simp only [Fs, or_false] at q3; omega)
    replace h_dk := h_dk.kept hF 3 rfl (by intro q q1 q2 q3; simp only [Fs, or_false] at q3; omega)
    replace h_se := h_se.kept hF 5 rfl (by intro q q1 q2 q3; simp only [Fs, or_false] at q3; omega)
    replace h_pg := h_pg.kept hF 1 rfl (by intro q q1 q2 q3; simp only [Fs, or_false] at q3; omega)
    replace h_sb := h_sb.kept hF 1 rfl (by intro q q1 q2 q3; simp only [Fs, or_false] at q3; omega)
    replace h_sa := h_sa.kept hF 1 rfl (by intro q q1 q2 q3; simp only [Fs, or_false] at q3; omega)
    replace h_pr := h_pr.kept hF 10 rfl (by intro q q1 q2 q3; simp only [Fs, or_false] at q3; omega)
    replace h_ln := h_ln.kept hF 1 rfl (by intro q q1 q2 q3; simp only [Fs, or_false] at q3; omega)
    replace h_la := h_la.kept hF 1 rfl (by intro q q1 q2 q3; simp only [Fs, or_false] at q3; omega)
    replace h_mo := h_mo.kept hF 5 rfl (by intro q q1 q2 q3; simp only [Fs, or_false] at q3; omega)
    replace h_outD := h_outD.kept hF 1 rfl (by intro q q1 q2 q3; simp only [Fs, or_false] at q3; omega)
    show V p l e room_1 s m args below meth cd Q 9 H2 lo2 (kq + 1) (nq + 6) 575 [(5, .int (zI i)), (4, .ref (x + 340)), (3, .ref (x + 339)), (2, .ref (x + 334)), (1, .ref x), (0, .ref b)] [.int (zI 0)]
    refine v_istore X dL_law_575 577 rfl (by decide) (L' := [(6, .int (zI 0)), (5, .int (zI i)), (4, .ref (x + 340)), (3, .ref (x + 339)), (2, .ref (x + 334)), (1, .ref x), (0, .ref b)]) rfl ?_
    refine v_aload_n X dL_law_577 578 rfl 4 rfl ?_
    refine v_aload_n X dL_law_578 579 rfl 6 rfl ?_
    refine v_iload X dL_law_579 581 rfl 1 rfl ?_
    refine v_iconst X dL_law_581 582 rfl ?_
    refine v_iadd X dL_law_582 583 rfl ?_
    refine v_scr X hM hX hbl hbf (by omega) (by omega) hLx ha1 dL_law_583 584 rfl ?_
    refine v_aload_n X dL_law_584 585 rfl 6 rfl ?_
    refine v_iload X dL_law_585 587 rfl 1 rfl ?_
    refine v_iconst X dL_law_587 588 rfl ?_
    refine v_iadd X dL_law_588 589 rfl ?_
    refine v_scr X hM hX hbl hbf (by omega) (by omega) hLx ha2 dL_law_589 590 rfl ?_
    refine v_aload_n X dL_law_590 591 rfl 6 rfl ?_
    refine v_iload X dL_law_591 593 rfl 1 rfl ?_
    refine v_iconst X dL_law_593 594 rfl ?_
    refine v_iadd X dL_law_594 595 rfl ?_
    refine v_scr X hM hX hbl hbf (by omega) (by omega) hLx ha3 dL_law_595 596 rfl ?_
    refine v_if_eq X (by omega) dL_law_596 599 603 rfl (by decide) (fun c_3 => ?_) (fun c_3 => ?_)
    · skip
      exfalso; omega
    · skip
      refine v_iconst X dL_law_599 600 rfl ?_
      refine v_goto X dL_law_600 604 (by decide) ?_
      refine v_muV X hM (h_mo.1) (c_X10_question_ok l E (x + 334) mo co cv hc nx sz hs a1 a2 1 hO hI hRM hch n0 n1 s0 s1 ga1 ga2 (by omega) q0 hD2.inv.ok) kvX10_question kiX10_question kl_L_210 (q0 := 0) rfl rfl (As := [.int (zI a1), .int (zI a2), .int (zI 1)]) rfl rfl (rm_law rfl (by omega) (by omega)) dL_law_604 607 rfl (k' := kq + 1) (n' := nq + 6) rfl rfl (fsI (fun q q1 q2 => (Or.inr (by omega)))) h_mo (fun rv H4 lo4 hM hF hpo => ?_)
      obtain ⟨g2_5, q4_6, rfl, hp_f_7, hw_0⟩ := hpo
      have h_mo : PR E (x + 334) (modelW E (x + 334) (updC (updC mo 0 (updZ (updZ (updZ (mo 0) 0 0) 2 (min (sz + 1) 8)) 4 q4_6)) 1 g2_5)) H4 := hw_0
      replace hzl := Nat.le_trans hzl hF.1
      replace h_cm := h_cm.kept hF 1 rfl (fsd (by omega))
      replace h_co := h_co.kept hF 28 rfl (fsd (by omega))
      replace h_bf := h_bf.kept hF 28 rfl (fsd (by omega))
      replace h_sv := h_sv.kept hF 28 rfl (fsd (by omega))
      replace h_hi := h_hi.kept hF 2 rfl (fsd (by omega))
      replace h_hf := h_hf.kept hF (fsd (by omega))
      replace h_dk := h_dk.kept hF 3 rfl (fsd (by omega))
      replace h_se := h_se.kept hF 5 rfl (fsd (by omega))
      replace h_pg := h_pg.kept hF 1 rfl (fsd (by omega))
      replace h_sb := h_sb.kept hF 1 rfl (fsd (by omega))
      replace h_sa := h_sa.kept hF 1 rfl (fsd (by omega))
      replace h_pr := h_pr.kept hF 10 rfl (fsd (by omega))
      replace h_ln := h_ln.kept hF 1 rfl (fsd (by omega))
      replace h_la := h_la.kept hF 1 rfl (fsd (by omega))
      replace h_out := h_out.kept hF 1 rfl (fsd (by omega))
      replace h_outD := h_outD.kept hF 1 rfl (fsd (by omega))
      show V p l e room_1 s m args below meth cd Q 9 H4 lo4 (kq + 1) (nq + 6) 607 [(6, .int (zI 0)), (5, .int (zI i)), (4, .ref (x + 340)), (3, .ref (x + 339)), (2, .ref (x + 334)), (1, .ref x), (0, .ref b)] [.int (zI (opV co 3 a1 a2 1 0))]
      refine v_istore X dL_law_607 609 rfl (by decide) (L' := [(7, .int (zI (opV co 3 a1 a2 1 0))), (6, .int (zI 0)), (5, .int (zI i)), (4, .ref (x + 340)), (3, .ref (x + 339)), (2, .ref (x + 334)), (1, .ref x), (0, .ref b)]) rfl ?_
      refine v_aload_n X dL_law_609 610 rfl 5 rfl ?_
      refine v_rdV X hM.C h_mo.1 (c_X10_thrown l E (x + 334) (updC (updC mo 0 (updZ (updZ (updZ (mo 0) 0 0) 2 (min (sz + 1) 8)) 4 q4_6)) 1 g2_5)) kvX10_thrown kiX10_thrown kl_L_196 rfl rfl (As := []) rfl rfl (rm_law0 rfl (by omega) (by omega)) dL_law_610 613 rfl ?_
      show V p l e room_1 s m args below meth cd Q 9 H4 lo4 (kq + 1) (nq + 6) 613 [(7, .int (zI (opV co 3 a1 a2 1 0))), (6, .int (zI 0)), (5, .int (zI i)), (4, .ref (x + 340)), (3, .ref (x + 339)), (2, .ref (x + 334)), (1, .ref x), (0, .ref b)] [.int (zI 0)]
      refine v_iload X dL_law_613 615 rfl 1 rfl ?_
      refine v_icmp_eq X (by omega) (by omega) dL_law_615 618 620 rfl (by decide) (fun c_8 => ?_) (fun c_8 => ?_)
      · skip
        refine v_iload X dL_law_620 622 rfl 1 rfl ?_
        refine v_if_ne X (by omega) dL_law_622 625 637 rfl (by decide) (fun c_9 => ?_) (fun c_9 => ?_)
        · skip
          exfalso; omega
        · skip
          refine v_aload_n X dL_law_625 626 rfl 4 rfl ?_
          refine v_iconst X dL_law_626 627 rfl ?_
          refine v_lald X hM.C h_out.1 0 rfl dL_law_627 628 rfl ?_
          show V p l e room_1 s m args below meth cd Q 9 H4 lo4 (kq + 1) (nq + 6) 628 [(7, .int (zI (opV co 3 a1 a2 1 0))), (6, .int (zI 0)), (5, .int (zI i)), (4, .ref (x + 340)), (3, .ref (x + 339)), (2, .ref (x + 334)), (1, .ref x), (0, .ref b)] [.long (zL (opV co 3 a1 a2 1 0))]
          refine v_iload X dL_law_628 630 rfl 0 rfl ?_
          refine v_i2l X dL_law_630 631 rfl ?_
          refine v_lcmp0 X dL_law_631 632 rfl ?_
          refine v_if_eq X (by omega) dL_law_632 635 637 rfl (by decide) (fun c_10 => ?_) (fun c_10 => ?_)
          · skip
            refine v_goto X dL_law_637 3555 (by decide) ?_
            refine v_widen (k' := kq + 60) (n' := nq + 4000) (by omega) (by omega) ?_
            exact V_pick [2, 3, 4, 5, 6, 7] rfl (kk _ _ hM ⟨hzl, _, _, _, _, _, _, _, _, _, _, _, _, _, _, _, _, _, _, _, _, _, _, _, _, _, _, _, _, ⟨h_cm, h_co, h_bf, h_sv, h_hi, h_hf, h_dk, h_se, h_pg, h_sb, h_sa, h_pr, h_ln, h_la, h_mo, h_out, h_outD⟩, (hP0.push hD2 hp_f_7)⟩)
          · skip
            exfalso; omega
      · skip
        exfalso; omega
set_option maxHeartbeats 4000000 in
set_option maxRecDepth 20000 in
theorem lo_question_f1_1 (hl : l.stackTraces = false) (X : CF p m cd code 9 s args RL) (hX : va_X b Lx xs s s.heap) (hbl : b < s.heap.size) (hLx : Lx ≤ 2560) (hM : MS E [] s H lo) (hk : kq + 60 ≤ 603072) (hn : nq + 4000 ≤ 7211113) (hx : s.heap.size ≤ x) (hzl : x + 341 ≤ H.size) {v : Nat} {N : Nat} {f : Int → Int} {nn : Int} {v2 : Nat} {N2 : Nat} {f2 : Int → Int} {n2 : Int} {co : Nat → Int → Int} {bf : Nat → Int → Int} {cv : Nat → Int → Int} {hc : Nat → Nat → Int → Int} {nx : Int} {sz : Int} {hs : Int} {er : Int} {fa : Int} {ss : Int} {dk : Nat → Int → Int} {se : Nat → Int → Int} {po : Int} {si : Int} {pr : Nat → Int → Int} {ml : Int} {ml2 : Int} {mo : Nat → Int → Int} {lg : Nat → Int64} {dg : Nat → UInt64} (hW : LawW E x v N f nn v2 N2 f2 n2 co bf cv hc nx sz hs er fa ss dk se po si pr ml ml2 mo lg dg H) (hP : LawP x v N f nn v2 N2 f2 n2 co cv hc nx sz hs er fa ss po si pr mo) (i0 : 0 ≤ i) (i1 : i + 5 ≤ (Lx : Int)) {a1 : Int} (ha1 : (xs (i + 1).toNat).toInt = a1) (ga1 : Rg a1) {a2 : Int} (ha2 : (xs (i + 2).toNat).toInt = a2) (ga2 : Rg a2) {a3 : Int} (ha3 : (xs (i + 3).toNat).toInt = a3) (ga3 : Rg a3) (q0 : flC co 3 a1 a2 0 = 1) (q1 : ¬ a3 = 0) (kk : ∀ (H1 : Heap) (lo1 : List Loc), MS E [] s H1 lo1 → LawI E x H1 → V p l e room_1 s m args below meth cd Q 9 H1 lo1 (kq + 60) (nq + 4000) 3555 [(5, .int (zI i)), (4, .ref (x + 340)), (3, .ref (x + 339)), (2, .ref (x + 334)), (1, .ref x), (0, .ref b)] []) : V p l e room_1 s m args below meth cd Q 9 H lo kq nq 544 [(5, .int (zI i)), (4, .ref (x + 340)), (3, .ref (x + 339)), (2, .ref (x + 334)), (1, .ref x), (0, .ref b)] [] := by
  obtain ⟨h_cm, h_co, h_bf, h_sv, h_hi, h_hf, h_dk, h_se, h_pg, h_sb, h_sa, h_pr, h_ln, h_la, h_mo, h_out, h_outD⟩ := hW
  have hP0 := hP
  obtain ⟨⟨hD, hDv, hDh⟩, ⟨hRM, hch, hcs⟩, ⟨⟨n0, n1⟩, ⟨s0, s1⟩, hhs⟩, ⟨hm8, hnn, hAg, hNN, hnN, hf9⟩, ⟨T, hSB, hLT, hn38⟩, hPB, ⟨her, hfa, hss, ger, gfa, gss, gms⟩, ⟨gpo, gsi⟩, ⟨hv1, hv2, hvv⟩⟩ := hP
  have hO := hD.inv.ok
  have hI := hD.inv.ts
  have hSt := hD.inv.st
  have hS := hD.inv.sn
  have hR := hRM.1.2
  have hG := gp_inv hD
  have hb0 := hO.b0
  have hbw := hO.bw
  have hbf : ¬ Fr [] s.heap.size b := fun z => z.elim (fun q => q.elim) (fun q => by omega)
  refine v_aload_n X dL_law_544 545 rfl 4 rfl ?_
  refine v_aload_n X dL_law_545 546 rfl 5 rfl ?_
  refine v_iload X dL_law_546 548 rfl 0 rfl ?_
  refine v_iconst X dL_law_548 549 rfl ?_
  refine v_iadd X dL_law_549 550 rfl ?_
  refine v_scr X hM hX hbl hbf (by omega) (by omega) hLx ha1 dL_law_550 551 rfl ?_
  refine v_aload_n X dL_law_551 552 rfl 5 rfl ?_
  refine v_iload X dL_law_552 554 rfl 0 rfl ?_
  refine v_iconst X dL_law_554 555 rfl ?_
  refine v_iadd X dL_law_555 556 rfl ?_
  refine v_scr X hM hX hbl hbf (by omega) (by omega) hLx ha2 dL_law_556 557 rfl ?_
  refine v_aload_n X dL_law_557 558 rfl 5 rfl ?_
  refine v_iload X dL_law_558 560 rfl 0 rfl ?_
  refine v_iconst X dL_law_560 561 rfl ?_
  refine v_iadd X dL_law_561 562 rfl ?_
  refine v_scr X hM hX hbl hbf (by omega) (by omega) hLx ha3 dL_law_562 563 rfl ?_
  refine v_if_eq X (by omega) dL_law_563 566 570 rfl (by decide) (fun c_1 => ?_) (fun c_1 => ?_)
  · skip
    exfalso; omega
  · skip
    refine v_iconst X dL_law_566 567 rfl ?_
    refine v_goto X dL_law_567 571 (by decide) ?_
    refine v_aload_n X dL_law_571 572 rfl 2 rfl ?_
    refine v_mwS X hM (w_X9_question_1_t l hl E x co hs er fa ss a1 a2 1 (x + 339) lg hO ga1 ga2 (by omega) q0) kwL_question ksL_question kl_L_207 (As := [.ref x, .int (zI a1), .int (zI a2), .int (zI 1), .ref (x + 339)]) rfl rfl (rm_lawW rfl (by omega) (by omega)) dL_law_572 575 rfl (k' := kq + 1) (n' := nq + 6) rfl rfl (fun q hq => hq.elim) ⟨h_cm, h_co, h_out⟩ (fun rv H2 lo2 hM hF hpo => ?_)
    subst hpo
    replace hzl := Nat.le_trans hzl hF.1
    replace h_cm := h_cm.kept hF 1 rfl (fun q _ _ h => h.elim)
    replace h_co := h_co.kept hF 28 rfl (fun q _ _ h => h.elim)
    replace h_bf := h_bf.kept hF 28 rfl (fun q _ _ h => h.elim)
    replace h_sv := h_sv.kept hF 28 rfl (fun q _ _ h => h.elim)
    replace h_hi := h_hi.kept hF 2 rfl (fun q _ _ h => h.elim)
    replace h_hf := h_hf.kept hF (fun q _ _ h => h.elim)
    replace h_dk := h_dk.kept hF 3 rfl (fun q _ _ h => h.elim)
    replace h_se := h_se.kept hF 5 rfl (fun q _ _ h => h.elim)
    replace h_pg := h_pg.kept hF 1 rfl (fun q _ _ h => h.elim)
    replace h_sb := h_sb.kept hF 1 rfl (fun q _ _ h => h.elim)
    replace h_sa := h_sa.kept hF 1 rfl (fun q _ _ h => h.elim)
    replace h_pr := h_pr.kept hF 10 rfl (fun q _ _ h => h.elim)
    replace h_ln := h_ln.kept hF 1 rfl (fun q _ _ h => h.elim)
    replace h_la := h_la.kept hF 1 rfl (fun q _ _ h => h.elim)
    replace h_mo := h_mo.kept hF 5 rfl (fun q _ _ h => h.elim)
    replace h_out := h_out.kept hF 1 rfl (fun q _ _ h => h.elim)
    replace h_outD := h_outD.kept hF 1 rfl (fun q _ _ h => h.elim)
    show V p l e room_1 s m args below meth cd Q 9 H2 lo2 (kq + 1) (nq + 6) 575 [(5, .int (zI i)), (4, .ref (x + 340)), (3, .ref (x + 339)), (2, .ref (x + 334)), (1, .ref x), (0, .ref b)] [.int (zI 1)]
    refine v_istore X dL_law_575 577 rfl (by decide) (L' := [(6, .int (zI 1)), (5, .int (zI i)), (4, .ref (x + 340)), (3, .ref (x + 339)), (2, .ref (x + 334)), (1, .ref x), (0, .ref b)]) rfl ?_
    refine v_aload_n X dL_law_577 578 rfl 4 rfl ?_
    refine v_aload_n X dL_law_578 579 rfl 6 rfl ?_
    refine v_iload X dL_law_579 581 rfl 1 rfl ?_
    refine v_iconst X dL_law_581 582 rfl ?_
    refine v_iadd X dL_law_582 583 rfl ?_
    refine v_scr X hM hX hbl hbf (by omega) (by omega) hLx ha1 dL_law_583 584 rfl ?_
    refine v_aload_n X dL_law_584 585 rfl 6 rfl ?_
    refine v_iload X dL_law_585 587 rfl 1 rfl ?_
    refine v_iconst X dL_law_587 588 rfl ?_
    refine v_iadd X dL_law_588 589 rfl ?_
    refine v_scr X hM hX hbl hbf (by omega) (by omega) hLx ha2 dL_law_589 590 rfl ?_
    refine v_aload_n X dL_law_590 591 rfl 6 rfl ?_
    refine v_iload X dL_law_591 593 rfl 1 rfl ?_
    refine v_iconst X dL_law_593 594 rfl ?_
    refine v_iadd X dL_law_594 595 rfl ?_
    refine v_scr X hM hX hbl hbf (by omega) (by omega) hLx ha3 dL_law_595 596 rfl ?_
    refine v_if_eq X (by omega) dL_law_596 599 603 rfl (by decide) (fun c_3 => ?_) (fun c_3 => ?_)
    · skip
      exfalso; omega
    · skip
      refine v_iconst X dL_law_599 600 rfl ?_
      refine v_goto X dL_law_600 604 (by decide) ?_
      refine v_muV X hM (h_mo.1) (c_X10_question_f1 l E (x + 334) mo co cv hc nx sz hs a1 a2 1 hO hI hRM hch n0 n1 s0 s1 ga1 ga2 (by omega) q0) kvX10_question kiX10_question kl_L_210 (q0 := 0) rfl rfl (As := [.int (zI a1), .int (zI a2), .int (zI 1)]) rfl rfl (rm_law rfl (by omega) (by omega)) dL_law_604 607 rfl (k' := kq + 1) (n' := nq + 6) rfl rfl (fsI (fun q q1 q2 => (Or.inr (by omega)))) h_mo (fun rv H4 lo4 hM hF hpo => ?_)
      obtain ⟨g2_5, rfl, hp_f_6, hw_0⟩ := hpo
      have h_mo : PR E (x + 334) (modelW E (x + 334) (updC (updC mo 0 (updZ (mo 0) 0 1)) 1 g2_5)) H4 := hw_0
      replace hzl := Nat.le_trans hzl hF.1
      replace h_cm := h_cm.kept hF 1 rfl (fsd (by omega))
      replace h_co := h_co.kept hF 28 rfl (fsd (by omega))
      replace h_bf := h_bf.kept hF 28 rfl (fsd (by omega))
      replace h_sv := h_sv.kept hF 28 rfl (fsd (by omega))
      replace h_hi := h_hi.kept hF 2 rfl (fsd (by omega))
      replace h_hf := h_hf.kept hF (fsd (by omega))
      replace h_dk := h_dk.kept hF 3 rfl (fsd (by omega))
      replace h_se := h_se.kept hF 5 rfl (fsd (by omega))
      replace h_pg := h_pg.kept hF 1 rfl (fsd (by omega))
      replace h_sb := h_sb.kept hF 1 rfl (fsd (by omega))
      replace h_sa := h_sa.kept hF 1 rfl (fsd (by omega))
      replace h_pr := h_pr.kept hF 10 rfl (fsd (by omega))
      replace h_ln := h_ln.kept hF 1 rfl (fsd (by omega))
      replace h_la := h_la.kept hF 1 rfl (fsd (by omega))
      replace h_out := h_out.kept hF 1 rfl (fsd (by omega))
      replace h_outD := h_outD.kept hF 1 rfl (fsd (by omega))
      show V p l e room_1 s m args below meth cd Q 9 H4 lo4 (kq + 1) (nq + 6) 607 [(6, .int (zI 1)), (5, .int (zI i)), (4, .ref (x + 340)), (3, .ref (x + 339)), (2, .ref (x + 334)), (1, .ref x), (0, .ref b)] [.int (zI 0)]
      refine v_istore X dL_law_607 609 rfl (by decide) (L' := [(7, .int (zI 0)), (6, .int (zI 1)), (5, .int (zI i)), (4, .ref (x + 340)), (3, .ref (x + 339)), (2, .ref (x + 334)), (1, .ref x), (0, .ref b)]) rfl ?_
      refine v_aload_n X dL_law_609 610 rfl 5 rfl ?_
      refine v_rdV X hM.C h_mo.1 (c_X10_thrown l E (x + 334) (updC (updC mo 0 (updZ (mo 0) 0 1)) 1 g2_5)) kvX10_thrown kiX10_thrown kl_L_196 rfl rfl (As := []) rfl rfl (rm_law0 rfl (by omega) (by omega)) dL_law_610 613 rfl ?_
      show V p l e room_1 s m args below meth cd Q 9 H4 lo4 (kq + 1) (nq + 6) 613 [(7, .int (zI 0)), (6, .int (zI 1)), (5, .int (zI i)), (4, .ref (x + 340)), (3, .ref (x + 339)), (2, .ref (x + 334)), (1, .ref x), (0, .ref b)] [.int (zI 1)]
      refine v_iload X dL_law_613 615 rfl 1 rfl ?_
      refine v_icmp_eq X (by omega) (by omega) dL_law_615 618 620 rfl (by decide) (fun c_7 => ?_) (fun c_7 => ?_)
      · skip
        refine v_iload X dL_law_620 622 rfl 1 rfl ?_
        refine v_if_ne X (by omega) dL_law_622 625 637 rfl (by decide) (fun c_8 => ?_) (fun c_8 => ?_)
        · skip
          refine v_goto X dL_law_637 3555 (by decide) ?_
          refine v_widen (k' := kq + 60) (n' := nq + 4000) (by omega) (by omega) ?_
          exact V_pick [2, 3, 4, 5, 6, 7] rfl (kk _ _ hM ⟨hzl, _, _, _, _, _, _, _, _, _, _, _, _, _, _, _, _, _, _, _, _, _, _, _, _, _, _, _, _, ⟨h_cm, h_co, h_bf, h_sv, h_hi, h_hf, h_dk, h_se, h_pg, h_sb, h_sa, h_pr, h_ln, h_la, h_mo, h_out, h_outD⟩, (hP0.g2 hp_f_6)⟩)
        · skip
          exfalso; omega
      · skip
        exfalso; omega
set_option maxHeartbeats 4000000 in
set_option maxRecDepth 20000 in
theorem lo_question_f1_2 (hl : l.stackTraces = false) (X : CF p m cd code 9 s args RL) (hX : va_X b Lx xs s s.heap) (hbl : b < s.heap.size) (hLx : Lx ≤ 2560) (hM : MS E [] s H lo) (hk : kq + 60 ≤ 603072) (hn : nq + 4000 ≤ 7211113) (hx : s.heap.size ≤ x) (hzl : x + 341 ≤ H.size) {v : Nat} {N : Nat} {f : Int → Int} {nn : Int} {v2 : Nat} {N2 : Nat} {f2 : Int → Int} {n2 : Int} {co : Nat → Int → Int} {bf : Nat → Int → Int} {cv : Nat → Int → Int} {hc : Nat → Nat → Int → Int} {nx : Int} {sz : Int} {hs : Int} {er : Int} {fa : Int} {ss : Int} {dk : Nat → Int → Int} {se : Nat → Int → Int} {po : Int} {si : Int} {pr : Nat → Int → Int} {ml : Int} {ml2 : Int} {mo : Nat → Int → Int} {lg : Nat → Int64} {dg : Nat → UInt64} (hW : LawW E x v N f nn v2 N2 f2 n2 co bf cv hc nx sz hs er fa ss dk se po si pr ml ml2 mo lg dg H) (hP : LawP x v N f nn v2 N2 f2 n2 co cv hc nx sz hs er fa ss po si pr mo) (i0 : 0 ≤ i) (i1 : i + 5 ≤ (Lx : Int)) {a1 : Int} (ha1 : (xs (i + 1).toNat).toInt = a1) (ga1 : Rg a1) {a2 : Int} (ha2 : (xs (i + 2).toNat).toInt = a2) (ga2 : Rg a2) {a3 : Int} (ha3 : (xs (i + 3).toNat).toInt = a3) (ga3 : Rg a3) (q0 : flC co 3 a1 a2 0 = 3) (q1 : ¬ a3 = 0) (kk : ∀ (H1 : Heap) (lo1 : List Loc), MS E [] s H1 lo1 → LawI E x H1 → V p l e room_1 s m args below meth cd Q 9 H1 lo1 (kq + 60) (nq + 4000) 3555 [(5, .int (zI i)), (4, .ref (x + 340)), (3, .ref (x + 339)), (2, .ref (x + 334)), (1, .ref x), (0, .ref b)] []) : V p l e room_1 s m args below meth cd Q 9 H lo kq nq 544 [(5, .int (zI i)), (4, .ref (x + 340)), (3, .ref (x + 339)), (2, .ref (x + 334)), (1, .ref x), (0, .ref b)] [] := by
  obtain ⟨h_cm, h_co, h_bf, h_sv, h_hi, h_hf, h_dk, h_se, h_pg, h_sb, h_sa, h_pr, h_ln, h_la, h_mo, h_out, h_outD⟩ := hW
  have hP0 := hP
  obtain ⟨⟨hD, hDv, hDh⟩, ⟨hRM, hch, hcs⟩, ⟨⟨n0, n1⟩, ⟨s0, s1⟩, hhs⟩, ⟨hm8, hnn, hAg, hNN, hnN, hf9⟩, ⟨T, hSB, hLT, hn38⟩, hPB, ⟨her, hfa, hss, ger, gfa, gss, gms⟩, ⟨gpo, gsi⟩, ⟨hv1, hv2, hvv⟩⟩ := hP
  have hO := hD.inv.ok
  have hI := hD.inv.ts
  have hSt := hD.inv.st
  have hS := hD.inv.sn
  have hR := hRM.1.2
  have hG := gp_inv hD
  have hb0 := hO.b0
  have hbw := hO.bw
  have hbf : ¬ Fr [] s.heap.size b := fun z => z.elim (fun q => q.elim) (fun q => by omega)
  refine v_aload_n X dL_law_544 545 rfl 4 rfl ?_
  refine v_aload_n X dL_law_545 546 rfl 5 rfl ?_
  refine v_iload X dL_law_546 548 rfl 0 rfl ?_
  refine v_iconst X dL_law_548 549 rfl ?_
  refine v_iadd X dL_law_549 550 rfl ?_
  refine v_scr X hM hX hbl hbf (by omega) (by omega) hLx ha1 dL_law_550 551 rfl ?_
  refine v_aload_n X dL_law_551 552 rfl 5 rfl ?_
  refine v_iload X dL_law_552 554 rfl 0 rfl ?_
  refine v_iconst X dL_law_554 555 rfl ?_
  refine v_iadd X dL_law_555 556 rfl ?_
  refine v_scr X hM hX hbl hbf (by omega) (by omega) hLx ha2 dL_law_556 557 rfl ?_
  refine v_aload_n X dL_law_557 558 rfl 5 rfl ?_
  refine v_iload X dL_law_558 560 rfl 0 rfl ?_
  refine v_iconst X dL_law_560 561 rfl ?_
  refine v_iadd X dL_law_561 562 rfl ?_
  refine v_scr X hM hX hbl hbf (by omega) (by omega) hLx ha3 dL_law_562 563 rfl ?_
  refine v_if_eq X (by omega) dL_law_563 566 570 rfl (by decide) (fun c_1 => ?_) (fun c_1 => ?_)
  · skip
    exfalso; omega
  · skip
    refine v_iconst X dL_law_566 567 rfl ?_
    refine v_goto X dL_law_567 571 (by decide) ?_
    refine v_aload_n X dL_law_571 572 rfl 2 rfl ?_
    refine v_mwS X hM (w_X9_question_3_t l hl E x co hs er fa ss a1 a2 1 (x + 339) lg hO ga1 ga2 (by omega) q0) kwL_question ksL_question kl_L_207 (As := [.ref x, .int (zI a1), .int (zI a2), .int (zI 1), .ref (x + 339)]) rfl rfl (rm_lawW rfl (by omega) (by omega)) dL_law_572 575 rfl (k' := kq + 1) (n' := nq + 6) rfl rfl (fun q hq => hq.elim) ⟨h_cm, h_co, h_out⟩ (fun rv H2 lo2 hM hF hpo => ?_)
    subst hpo
    replace hzl := Nat.le_trans hzl hF.1
    replace h_cm := h_cm.kept hF 1 rfl (fun q _ _ h => h.elim)
    replace h_co := h_co.kept hF 28 rfl (fun q _ _ h => h.elim)
    replace h_bf := h_bf.kept hF 28 rfl (fun q _ _ h => h.elim)
    replace h_sv := h_sv.kept hF 28 rfl (fun q _ _ h => h.elim)
    replace h_hi := h_hi.kept hF 2 rfl (fun q _ _ h => h.elim)
    replace h_hf := h_hf.kept hF (fun q _ _ h => h.elim)
    replace h_dk := h_dk.kept hF 3 rfl (fun q _ _ h => h.elim)
    replace h_se := h_se.kept hF 5 rfl (fun q _ _ h => h.elim)
    replace h_pg := h_pg.kept hF 1 rfl (fun q _ _ h => h.elim)
    replace h_sb := h_sb.kept hF 1 rfl (fun q _ _ h => h.elim)
    replace h_sa := h_sa.kept hF 1 rfl (fun q _ _ h => h.elim)
    replace h_pr := h_pr.kept hF 10 rfl (fun q _ _ h => h.elim)
    replace h_ln := h_ln.kept hF 1 rfl (fun q _ _ h => h.elim)
    replace h_la := h_la.kept hF 1 rfl (fun q _ _ h => h.elim)
    replace h_mo := h_mo.kept hF 5 rfl (fun q _ _ h => h.elim)
    replace h_out := h_out.kept hF 1 rfl (fun q _ _ h => h.elim)
    replace h_outD := h_outD.kept hF 1 rfl (fun q _ _ h => h.elim)
    show V p l e room_1 s m args below meth cd Q 9 H2 lo2 (kq + 1) (nq + 6) 575 [(5, .int (zI i)), (4, .ref (x + 340)), (3, .ref (x + 339)), (2, .ref (x + 334)), (1, .ref x), (0, .ref b)] [.int (zI 2)]
    refine v_istore X dL_law_575 577 rfl (by decide) (L' := [(6, .int (zI 2)), (5, .int (zI i)), (4, .ref (x + 340)), (3, .ref (x + 339)), (2, .ref (x + 334)), (1, .ref x), (0, .ref b)]) rfl ?_
    refine v_aload_n X dL_law_577 578 rfl 4 rfl ?_
    refine v_aload_n X dL_law_578 579 rfl 6 rfl ?_
    refine v_iload X dL_law_579 581 rfl 1 rfl ?_
    refine v_iconst X dL_law_581 582 rfl ?_
    refine v_iadd X dL_law_582 583 rfl ?_
    refine v_scr X hM hX hbl hbf (by omega) (by omega) hLx ha1 dL_law_583 584 rfl ?_
    refine v_aload_n X dL_law_584 585 rfl 6 rfl ?_
    refine v_iload X dL_law_585 587 rfl 1 rfl ?_
    refine v_iconst X dL_law_587 588 rfl ?_
    refine v_iadd X dL_law_588 589 rfl ?_
    refine v_scr X hM hX hbl hbf (by omega) (by omega) hLx ha2 dL_law_589 590 rfl ?_
    refine v_aload_n X dL_law_590 591 rfl 6 rfl ?_
    refine v_iload X dL_law_591 593 rfl 1 rfl ?_
    refine v_iconst X dL_law_593 594 rfl ?_
    refine v_iadd X dL_law_594 595 rfl ?_
    refine v_scr X hM hX hbl hbf (by omega) (by omega) hLx ha3 dL_law_595 596 rfl ?_
    refine v_if_eq X (by omega) dL_law_596 599 603 rfl (by decide) (fun c_3 => ?_) (fun c_3 => ?_)
    · skip
      exfalso; omega
    · skip
      refine v_iconst X dL_law_599 600 rfl ?_
      refine v_goto X dL_law_600 604 (by decide) ?_
      refine v_muV X hM (h_mo.1) (c_X10_question_f3 l E (x + 334) mo co cv hc nx sz hs a1 a2 1 hO hI hRM hch n0 n1 s0 s1 ga1 ga2 (by omega) q0) kvX10_question kiX10_question kl_L_210 (q0 := 0) rfl rfl (As := [.int (zI a1), .int (zI a2), .int (zI 1)]) rfl rfl (rm_law rfl (by omega) (by omega)) dL_law_604 607 rfl (k' := kq + 1) (n' := nq + 6) rfl rfl (fsI (fun q q1 q2 => (Or.inr (by omega)))) h_mo (fun rv H4 lo4 hM hF hpo => ?_)
      obtain ⟨g2_5, rfl, hp_f_6, hw_0⟩ := hpo
      have h_mo : PR E (x + 334) (modelW E (x + 334) (updC (updC mo 0 (updZ (mo 0) 0 2)) 1 g2_5)) H4 := hw_0
      replace hzl := Nat.le_trans hzl hF.1
      replace h_cm := h_cm.kept hF 1 rfl (fsd (by omega))
      replace h_co := h_co.kept hF 28 rfl (fsd (by omega))
      replace h_bf := h_bf.kept hF 28 rfl (fsd (by omega))
      replace h_sv := h_sv.kept hF 28 rfl (fsd (by omega))
      replace h_hi := h_hi.kept hF 2 rfl (fsd (by omega))
      replace h_hf := h_hf.kept hF (fsd (by omega))
      replace h_dk := h_dk.kept hF 3 rfl (fsd (by omega))
      replace h_se := h_se.kept hF 5 rfl (fsd (by omega))
      replace h_pg := h_pg.kept hF 1 rfl (fsd (by omega))
      replace h_sb := h_sb.kept hF 1 rfl (fsd (by omega))
      replace h_sa := h_sa.kept hF 1 rfl (fsd (by omega))
      replace h_pr := h_pr.kept hF 10 rfl (fsd (by omega))
      replace h_ln := h_ln.kept hF 1 rfl (fsd (by omega))
      replace h_la := h_la.kept hF 1 rfl (fsd (by omega))
      replace h_out := h_out.kept hF 1 rfl (fsd (by omega))
      replace h_outD := h_outD.kept hF 1 rfl (fsd (by omega))
      show V p l e room_1 s m args below meth cd Q 9 H4 lo4 (kq + 1) (nq + 6) 607 [(6, .int (zI 2)), (5, .int (zI i)), (4, .ref (x + 340)), (3, .ref (x + 339)), (2, .ref (x + 334)), (1, .ref x), (0, .ref b)] [.int (zI 0)]
      refine v_istore X dL_law_607 609 rfl (by decide) (L' := [(7, .int (zI 0)), (6, .int (zI 2)), (5, .int (zI i)), (4, .ref (x + 340)), (3, .ref (x + 339)), (2, .ref (x + 334)), (1, .ref x), (0, .ref b)]) rfl ?_
      refine v_aload_n X dL_law_609 610 rfl 5 rfl ?_
      refine v_rdV X hM.C h_mo.1 (c_X10_thrown l E (x + 334) (updC (updC mo 0 (updZ (mo 0) 0 2)) 1 g2_5)) kvX10_thrown kiX10_thrown kl_L_196 rfl rfl (As := []) rfl rfl (rm_law0 rfl (by omega) (by omega)) dL_law_610 613 rfl ?_
      show V p l e room_1 s m args below meth cd Q 9 H4 lo4 (kq + 1) (nq + 6) 613 [(7, .int (zI 0)), (6, .int (zI 2)), (5, .int (zI i)), (4, .ref (x + 340)), (3, .ref (x + 339)), (2, .ref (x + 334)), (1, .ref x), (0, .ref b)] [.int (zI 2)]
      refine v_iload X dL_law_613 615 rfl 1 rfl ?_
      refine v_icmp_eq X (by omega) (by omega) dL_law_615 618 620 rfl (by decide) (fun c_7 => ?_) (fun c_7 => ?_)
      · skip
        refine v_iload X dL_law_620 622 rfl 1 rfl ?_
        refine v_if_ne X (by omega) dL_law_622 625 637 rfl (by decide) (fun c_8 => ?_) (fun c_8 => ?_)
        · skip
          refine v_goto X dL_law_637 3555 (by decide) ?_
          refine v_widen (k' := kq + 60) (n' := nq + 4000) (by omega) (by omega) ?_
          exact V_pick [2, 3, 4, 5, 6, 7] rfl (kk _ _ hM ⟨hzl, _, _, _, _, _, _, _, _, _, _, _, _, _, _, _, _, _, _, _, _, _, _, _, _, _, _, _, _, ⟨h_cm, h_co, h_bf, h_sv, h_hi, h_hf, h_dk, h_se, h_pg, h_sb, h_sa, h_pr, h_ln, h_la, h_mo, h_out, h_outD⟩, (hP0.g2 hp_f_6)⟩)
        · skip
          exfalso; omega
      · skip
        exfalso; omega
set_option maxHeartbeats 4000000 in
set_option maxRecDepth 20000 in
theorem lo_question_f1_3 (hl : l.stackTraces = false) (X : CF p m cd code 9 s args RL) (hX : va_X b Lx xs s s.heap) (hbl : b < s.heap.size) (hLx : Lx ≤ 2560) (hM : MS E [] s H lo) (hk : kq + 60 ≤ 603072) (hn : nq + 4000 ≤ 7211113) (hx : s.heap.size ≤ x) (hzl : x + 341 ≤ H.size) {v : Nat} {N : Nat} {f : Int → Int} {nn : Int} {v2 : Nat} {N2 : Nat} {f2 : Int → Int} {n2 : Int} {co : Nat → Int → Int} {bf : Nat → Int → Int} {cv : Nat → Int → Int} {hc : Nat → Nat → Int → Int} {nx : Int} {sz : Int} {hs : Int} {er : Int} {fa : Int} {ss : Int} {dk : Nat → Int → Int} {se : Nat → Int → Int} {po : Int} {si : Int} {pr : Nat → Int → Int} {ml : Int} {ml2 : Int} {mo : Nat → Int → Int} {lg : Nat → Int64} {dg : Nat → UInt64} (hW : LawW E x v N f nn v2 N2 f2 n2 co bf cv hc nx sz hs er fa ss dk se po si pr ml ml2 mo lg dg H) (hP : LawP x v N f nn v2 N2 f2 n2 co cv hc nx sz hs er fa ss po si pr mo) (i0 : 0 ≤ i) (i1 : i + 5 ≤ (Lx : Int)) {a1 : Int} (ha1 : (xs (i + 1).toNat).toInt = a1) (ga1 : Rg a1) {a2 : Int} (ha2 : (xs (i + 2).toNat).toInt = a2) (ga2 : Rg a2) {a3 : Int} (ha3 : (xs (i + 3).toNat).toInt = a3) (ga3 : Rg a3) (q0 : flC co 3 a1 a2 0 = 4) (q1 : ¬ a3 = 0) (kk : ∀ (H1 : Heap) (lo1 : List Loc), MS E [] s H1 lo1 → LawI E x H1 → V p l e room_1 s m args below meth cd Q 9 H1 lo1 (kq + 60) (nq + 4000) 3555 [(5, .int (zI i)), (4, .ref (x + 340)), (3, .ref (x + 339)), (2, .ref (x + 334)), (1, .ref x), (0, .ref b)] []) : V p l e room_1 s m args below meth cd Q 9 H lo kq nq 544 [(5, .int (zI i)), (4, .ref (x + 340)), (3, .ref (x + 339)), (2, .ref (x + 334)), (1, .ref x), (0, .ref b)] [] := by
  obtain ⟨h_cm, h_co, h_bf, h_sv, h_hi, h_hf, h_dk, h_se, h_pg, h_sb, h_sa, h_pr, h_ln, h_la, h_mo, h_out, h_outD⟩ := hW
  have hP0 := hP
  obtain ⟨⟨hD, hDv, hDh⟩, ⟨hRM, hch, hcs⟩, ⟨⟨n0, n1⟩, ⟨s0, s1⟩, hhs⟩, ⟨hm8, hnn, hAg, hNN, hnN, hf9⟩, ⟨T, hSB, hLT, hn38⟩, hPB, ⟨her, hfa, hss, ger, gfa, gss, gms⟩, ⟨gpo, gsi⟩, ⟨hv1, hv2, hvv⟩⟩ := hP
  have hO := hD.inv.ok
  have hI := hD.inv.ts
  have hSt := hD.inv.st
  have hS := hD.inv.sn
  have hR := hRM.1.2
  have hG := gp_inv hD
  have hb0 := hO.b0
  have hbw := hO.bw
  have hbf : ¬ Fr [] s.heap.size b := fun z => z.elim (fun q => q.elim) (fun q => by omega)
  refine v_aload_n X dL_law_544 545 rfl 4 rfl ?_
  refine v_aload_n X dL_law_545 546 rfl 5 rfl ?_
  refine v_iload X dL_law_546 548 rfl 0 rfl ?_
  refine v_iconst X dL_law_548 549 rfl ?_
  refine v_iadd X dL_law_549 550 rfl ?_
  refine v_scr X hM hX hbl hbf (by omega) (by omega) hLx ha1 dL_law_550 551 rfl ?_
  refine v_aload_n X dL_law_551 552 rfl 5 rfl ?_
  refine v_iload X dL_law_552 554 rfl 0 rfl ?_
  refine v_iconst X dL_law_554 555 rfl ?_
  refine v_iadd X dL_law_555 556 rfl ?_
  refine v_scr X hM hX hbl hbf (by omega) (by omega) hLx ha2 dL_law_556 557 rfl ?_
  refine v_aload_n X dL_law_557 558 rfl 5 rfl ?_
  refine v_iload X dL_law_558 560 rfl 0 rfl ?_
  refine v_iconst X dL_law_560 561 rfl ?_
  refine v_iadd X dL_law_561 562 rfl ?_
  refine v_scr X hM hX hbl hbf (by omega) (by omega) hLx ha3 dL_law_562 563 rfl ?_
  refine v_if_eq X (by omega) dL_law_563 566 570 rfl (by decide) (fun c_1 => ?_) (fun c_1 => ?_)
  · skip
    exfalso; omega
  · skip
    refine v_iconst X dL_law_566 567 rfl ?_
    refine v_goto X dL_law_567 571 (by decide) ?_
    refine v_aload_n X dL_law_571 572 rfl 2 rfl ?_
    refine v_mwS X hM (w_X9_question_4_t l hl E x co hs er fa ss a1 a2 1 (x + 339) lg hO ga1 ga2 (by omega) q0) kwL_question ksL_question kl_L_207 (As := [.ref x, .int (zI a1), .int (zI a2), .int (zI 1), .ref (x + 339)]) rfl rfl (rm_lawW rfl (by omega) (by omega)) dL_law_572 575 rfl (k' := kq + 1) (n' := nq + 6) rfl rfl (fun q hq => hq.elim) ⟨h_cm, h_co, h_out⟩ (fun rv H2 lo2 hM hF hpo => ?_)
    subst hpo
    replace hzl := Nat.le_trans hzl hF.1
    replace h_cm := h_cm.kept hF 1 rfl (fun q _ _ h => h.elim)
    replace h_co := h_co.kept hF 28 rfl (fun q _ _ h => h.elim)
    replace h_bf := h_bf.kept hF 28 rfl (fun q _ _ h => h.elim)
    replace h_sv := h_sv.kept hF 28 rfl (fun q _ _ h => h.elim)
    replace h_hi := h_hi.kept hF 2 rfl (fun q _ _ h => h.elim)
    replace h_hf := h_hf.kept hF (fun q _ _ h => h.elim)
    replace h_dk := h_dk.kept hF 3 rfl (fun q _ _ h => h.elim)
    replace h_se := h_se.kept hF 5 rfl (fun q _ _ h => h.elim)
    replace h_pg := h_pg.kept hF 1 rfl (fun q _ _ h => h.elim)
    replace h_sb := h_sb.kept hF 1 rfl (fun q _ _ h => h.elim)
    replace h_sa := h_sa.kept hF 1 rfl (fun q _ _ h => h.elim)
    replace h_pr := h_pr.kept hF 10 rfl (fun q _ _ h => h.elim)
    replace h_ln := h_ln.kept hF 1 rfl (fun q _ _ h => h.elim)
    replace h_la := h_la.kept hF 1 rfl (fun q _ _ h => h.elim)
    replace h_mo := h_mo.kept hF 5 rfl (fun q _ _ h => h.elim)
    replace h_out := h_out.kept hF 1 rfl (fun q _ _ h => h.elim)
    replace h_outD := h_outD.kept hF 1 rfl (fun q _ _ h => h.elim)
    show V p l e room_1 s m args below meth cd Q 9 H2 lo2 (kq + 1) (nq + 6) 575 [(5, .int (zI i)), (4, .ref (x + 340)), (3, .ref (x + 339)), (2, .ref (x + 334)), (1, .ref x), (0, .ref b)] [.int (zI 3)]
    refine v_istore X dL_law_575 577 rfl (by decide) (L' := [(6, .int (zI 3)), (5, .int (zI i)), (4, .ref (x + 340)), (3, .ref (x + 339)), (2, .ref (x + 334)), (1, .ref x), (0, .ref b)]) rfl ?_
    refine v_aload_n X dL_law_577 578 rfl 4 rfl ?_
    refine v_aload_n X dL_law_578 579 rfl 6 rfl ?_
    refine v_iload X dL_law_579 581 rfl 1 rfl ?_
    refine v_iconst X dL_law_581 582 rfl ?_
    refine v_iadd X dL_law_582 583 rfl ?_
    refine v_scr X hM hX hbl hbf (by omega) (by omega) hLx ha1 dL_law_583 584 rfl ?_
    refine v_aload_n X dL_law_584 585 rfl 6 rfl ?_
    refine v_iload X dL_law_585 587 rfl 1 rfl ?_
    refine v_iconst X dL_law_587 588 rfl ?_
    refine v_iadd X dL_law_588 589 rfl ?_
    refine v_scr X hM hX hbl hbf (by omega) (by omega) hLx ha2 dL_law_589 590 rfl ?_
    refine v_aload_n X dL_law_590 591 rfl 6 rfl ?_
    refine v_iload X dL_law_591 593 rfl 1 rfl ?_
    refine v_iconst X dL_law_593 594 rfl ?_
    refine v_iadd X dL_law_594 595 rfl ?_
    refine v_scr X hM hX hbl hbf (by omega) (by omega) hLx ha3 dL_law_595 596 rfl ?_
    refine v_if_eq X (by omega) dL_law_596 599 603 rfl (by decide) (fun c_3 => ?_) (fun c_3 => ?_)
    · skip
      exfalso; omega
    · skip
      refine v_iconst X dL_law_599 600 rfl ?_
      refine v_goto X dL_law_600 604 (by decide) ?_
      refine v_muV X hM (h_mo.1) (c_X10_question_f4 l E (x + 334) mo co cv hc nx sz hs a1 a2 1 hO hI hRM hch n0 n1 s0 s1 ga1 ga2 (by omega) q0) kvX10_question kiX10_question kl_L_210 (q0 := 0) rfl rfl (As := [.int (zI a1), .int (zI a2), .int (zI 1)]) rfl rfl (rm_law rfl (by omega) (by omega)) dL_law_604 607 rfl (k' := kq + 1) (n' := nq + 6) rfl rfl (fsI (fun q q1 q2 => (Or.inr (by omega)))) h_mo (fun rv H4 lo4 hM hF hpo => ?_)
      obtain ⟨g2_5, rfl, hp_f_6, hw_0⟩ := hpo
      have h_mo : PR E (x + 334) (modelW E (x + 334) (updC (updC mo 0 (updZ (mo 0) 0 3)) 1 g2_5)) H4 := hw_0
      replace hzl := Nat.le_trans hzl hF.1
      replace h_cm := h_cm.kept hF 1 rfl (fsd (by omega))
      replace h_co := h_co.kept hF 28 rfl (fsd (by omega))
      replace h_bf := h_bf.kept hF 28 rfl (fsd (by omega))
      replace h_sv := h_sv.kept hF 28 rfl (fsd (by omega))
      replace h_hi := h_hi.kept hF 2 rfl (fsd (by omega))
      replace h_hf := h_hf.kept hF (fsd (by omega))
      replace h_dk := h_dk.kept hF 3 rfl (fsd (by omega))
      replace h_se := h_se.kept hF 5 rfl (fsd (by omega))
      replace h_pg := h_pg.kept hF 1 rfl (fsd (by omega))
      replace h_sb := h_sb.kept hF 1 rfl (fsd (by omega))
      replace h_sa := h_sa.kept hF 1 rfl (fsd (by omega))
      replace h_pr := h_pr.kept hF 10 rfl (fsd (by omega))
      replace h_ln := h_ln.kept hF 1 rfl (fsd (by omega))
      replace h_la := h_la.kept hF 1 rfl (fsd (by omega))
      replace h_out := h_out.kept hF 1 rfl (fsd (by omega))
      replace h_outD := h_outD.kept hF 1 rfl (fsd (by omega))
      show V p l e room_1 s m args below meth cd Q 9 H4 lo4 (kq + 1) (nq + 6) 607 [(6, .int (zI 3)), (5, .int (zI i)), (4, .ref (x + 340)), (3, .ref (x + 339)), (2, .ref (x + 334)), (1, .ref x), (0, .ref b)] [.int (zI 0)]
      refine v_istore X dL_law_607 609 rfl (by decide) (L' := [(7, .int (zI 0)), (6, .int (zI 3)), (5, .int (zI i)), (4, .ref (x + 340)), (3, .ref (x + 339)), (2, .ref (x + 334)), (1, .ref x), (0, .ref b)]) rfl ?_
      refine v_aload_n X dL_law_609 610 rfl 5 rfl ?_
      refine v_rdV X hM.C h_mo.1 (c_X10_thrown l E (x + 334) (updC (updC mo 0 (updZ (mo 0) 0 3)) 1 g2_5)) kvX10_thrown kiX10_thrown kl_L_196 rfl rfl (As := []) rfl rfl (rm_law0 rfl (by omega) (by omega)) dL_law_610 613 rfl ?_
      show V p l e room_1 s m args below meth cd Q 9 H4 lo4 (kq + 1) (nq + 6) 613 [(7, .int (zI 0)), (6, .int (zI 3)), (5, .int (zI i)), (4, .ref (x + 340)), (3, .ref (x + 339)), (2, .ref (x + 334)), (1, .ref x), (0, .ref b)] [.int (zI 3)]
      refine v_iload X dL_law_613 615 rfl 1 rfl ?_
      refine v_icmp_eq X (by omega) (by omega) dL_law_615 618 620 rfl (by decide) (fun c_7 => ?_) (fun c_7 => ?_)
      · skip
        refine v_iload X dL_law_620 622 rfl 1 rfl ?_
        refine v_if_ne X (by omega) dL_law_622 625 637 rfl (by decide) (fun c_8 => ?_) (fun c_8 => ?_)
        · skip
          refine v_goto X dL_law_637 3555 (by decide) ?_
          refine v_widen (k' := kq + 60) (n' := nq + 4000) (by omega) (by omega) ?_
          exact V_pick [2, 3, 4, 5, 6, 7] rfl (kk _ _ hM ⟨hzl, _, _, _, _, _, _, _, _, _, _, _, _, _, _, _, _, _, _, _, _, _, _, _, _, _, _, _, _, ⟨h_cm, h_co, h_bf, h_sv, h_hi, h_hf, h_dk, h_se, h_pg, h_sb, h_sa, h_pr, h_ln, h_la, h_mo, h_out, h_outD⟩, (hP0.g2 hp_f_6)⟩)
        · skip
          exfalso; omega
      · skip
        exfalso; omega
set_option maxHeartbeats 4000000 in
set_option maxRecDepth 20000 in
theorem lo_undo (hl : l.stackTraces = false) (X : CF p m cd code 9 s args RL) (hX : va_X b Lx xs s s.heap) (hbl : b < s.heap.size) (hLx : Lx ≤ 2560) (hM : MS E [] s H lo) (hk : kq + 60 ≤ 603072) (hn : nq + 4000 ≤ 7211113) (hx : s.heap.size ≤ x) (hzl : x + 341 ≤ H.size) {v : Nat} {N : Nat} {f : Int → Int} {nn : Int} {v2 : Nat} {N2 : Nat} {f2 : Int → Int} {n2 : Int} {co : Nat → Int → Int} {bf : Nat → Int → Int} {cv : Nat → Int → Int} {hc : Nat → Nat → Int → Int} {nx : Int} {sz : Int} {hs : Int} {er : Int} {fa : Int} {ss : Int} {dk : Nat → Int → Int} {se : Nat → Int → Int} {po : Int} {si : Int} {pr : Nat → Int → Int} {ml : Int} {ml2 : Int} {mo : Nat → Int → Int} {lg : Nat → Int64} {dg : Nat → UInt64} (hW : LawW E x v N f nn v2 N2 f2 n2 co bf cv hc nx sz hs er fa ss dk se po si pr ml ml2 mo lg dg H) (hP : LawP x v N f nn v2 N2 f2 n2 co cv hc nx sz hs er fa ss po si pr mo) (i0 : 0 ≤ i) (i1 : i + 5 ≤ (Lx : Int)) (q0 : ¬ sz = 0) (kk : ∀ (H1 : Heap) (lo1 : List Loc), MS E [] s H1 lo1 → LawI E x H1 → V p l e room_1 s m args below meth cd Q 9 H1 lo1 (kq + 60) (nq + 4000) 3555 [(5, .int (zI i)), (4, .ref (x + 340)), (3, .ref (x + 339)), (2, .ref (x + 334)), (1, .ref x), (0, .ref b)] []) : V p l e room_1 s m args below meth cd Q 9 H lo kq nq 3454 [(5, .int (zI i)), (4, .ref (x + 340)), (3, .ref (x + 339)), (2, .ref (x + 334)), (1, .ref x), (0, .ref b)] [] := by
  obtain ⟨h_cm, h_co, h_bf, h_sv, h_hi, h_hf, h_dk, h_se, h_pg, h_sb, h_sa, h_pr, h_ln, h_la, h_mo, h_out, h_outD⟩ := hW
  have hP0 := hP
  obtain ⟨⟨hD, hDv, hDh⟩, ⟨hRM, hch, hcs⟩, ⟨⟨n0, n1⟩, ⟨s0, s1⟩, hhs⟩, ⟨hm8, hnn, hAg, hNN, hnN, hf9⟩, ⟨T, hSB, hLT, hn38⟩, hPB, ⟨her, hfa, hss, ger, gfa, gss, gms⟩, ⟨gpo, gsi⟩, ⟨hv1, hv2, hvv⟩⟩ := hP
  have hO := hD.inv.ok
  have hI := hD.inv.ts
  have hSt := hD.inv.st
  have hS := hD.inv.sn
  have hR := hRM.1.2
  have hG := gp_inv hD
  have hb0 := hO.b0
  have hbw := hO.bw
  have hbf : ¬ Fr [] s.heap.size b := fun z => z.elim (fun q => q.elim) (fun q => by omega)
  refine v_aload_n X dL_law_3454 3455 rfl 4 rfl ?_
  refine v_aload_n X dL_law_3455 3456 rfl 2 rfl ?_
  refine v_mwS X hM (w_X9_undo l hl E x co hs er fa ss hc nx sz (x + 339) lg hO q0 n0 n1 s0 s1 (by omega) (by omega) (by omega) (by omega) (by omega) (by omega) (by omega) (by omega) (by omega)) kwL_undo ksL_undo kl_L_393 (As := [.ref x, .ref (x + 339)]) rfl rfl (rm_lawW rfl (by omega) (by omega)) dL_law_3456 3459 rfl (k' := kq + 1) (n' := nq + 6) rfl rfl (by intro q hq; simp only [Fr, Fs, or_false, false_or] at hq ⊢; omega) ⟨h_cm, h_co, h_hi, h_hf, h_out⟩ (fun rv H1 lo1 hM hF hpo => ?_)
  obtain ⟨rfl, hw_0, hw_1, hw_2⟩ := hpo
  have h_co : PR E (x + 1) (courtW E (x + 1) (hc (if 0 < nx then nx - 1 else 7).toNat)) H1 := hw_0
  have h_hi : PR E (x + 85) [(x + 85, .inr (7, [.ref (x + 86), .int (zI (if 0 < nx then nx - 1 else 7)), .int (zI (sz - 1))])), (x + 86, .inl (E 102 3, 8, .inr (.inr (.inr (.inr (hisA (x + 87) 8))))))] H1 := hw_1
  have h_out : PR E (x + 339) [(x + 339, .inl (E 102 4, 1, .inr (.inl (fun _ => zL (sz - 1)))))] H1 := hw_2
  replace hzl := Nat.le_trans hzl hF.1
  replace h_cm := h_cm.kept hF 1 rfl (by intro q q1 q2 q3; simp only [Fs, or_false] at q3; omega)
  replace h_bf := h_bf.kept hF 28 rfl (by intro q q1 q2 q3; simp only [Fs, or_false] at q3; omega)
  replace h_sv := h_sv.kept hF 28 rfl (by intro q q1 q2 q3; simp only [Fs, or_false] at q3; omega)
  replace h_hf := h_hf.kept hF (by intro q q1 q2 q3; simp only [Fs, or_false] at q3; omega)
  replace h_dk := h_dk.kept hF 3 rfl (by intro q q1 q2 q3; simp only [Fs, or_false] at q3; omega)
  replace h_se := h_se.kept hF 5 rfl (by intro q q1 q2 q3; simp only [Fs, or_false] at q3; omega)
  replace h_pg := h_pg.kept hF 1 rfl (by intro q q1 q2 q3; simp only [Fs, or_false] at q3; omega)
  replace h_sb := h_sb.kept hF 1 rfl (by intro q q1 q2 q3; simp only [Fs, or_false] at q3; omega)
  replace h_sa := h_sa.kept hF 1 rfl (by intro q q1 q2 q3; simp only [Fs, or_false] at q3; omega)
  replace h_pr := h_pr.kept hF 10 rfl (by intro q q1 q2 q3; simp only [Fs, or_false] at q3; omega)
  replace h_ln := h_ln.kept hF 1 rfl (by intro q q1 q2 q3; simp only [Fs, or_false] at q3; omega)
  replace h_la := h_la.kept hF 1 rfl (by intro q q1 q2 q3; simp only [Fs, or_false] at q3; omega)
  replace h_mo := h_mo.kept hF 5 rfl (by intro q q1 q2 q3; simp only [Fs, or_false] at q3; omega)
  replace h_outD := h_outD.kept hF 1 rfl (by intro q q1 q2 q3; simp only [Fs, or_false] at q3; omega)
  show V p l e room_1 s m args below meth cd Q 9 H1 lo1 (kq + 1) (nq + 6) 3459 [(5, .int (zI i)), (4, .ref (x + 340)), (3, .ref (x + 339)), (2, .ref (x + 334)), (1, .ref x), (0, .ref b)] [.int (zI 0)]
  refine v_istore X dL_law_3459 3461 rfl (by decide) (L' := [(6, .int (zI 0)), (5, .int (zI i)), (4, .ref (x + 340)), (3, .ref (x + 339)), (2, .ref (x + 334)), (1, .ref x), (0, .ref b)]) rfl ?_
  refine v_aload_n X dL_law_3461 3462 rfl 4 rfl ?_
  refine v_muV X hM (h_mo.1) (c_X10_undo l E (x + 334) mo co cv hc nx sz hs hO hRM hch n0 n1 s0 s1 q0) kvX10_undo kiX10_undo kl_L_395 (q0 := 0) rfl rfl (As := []) rfl rfl (rm_law rfl (by omega) (by omega)) dL_law_3462 3465 rfl (k' := kq + 1) (n' := nq + 6) rfl rfl (fsI (fun q q1 q2 => (Or.inr (by omega)))) h_mo (fun rv H2 lo2 hM hF hpo => ?_)
  obtain ⟨g2_3, rfl, hp_f_4, hw_0⟩ := hpo
  have h_mo : PR E (x + 334) (modelW E (x + 334) (updC (updC mo 0 (updZ (updZ (mo 0) 0 0) 2 (sz - 1))) 1 g2_3)) H2 := hw_0
  replace hzl := Nat.le_trans hzl hF.1
  replace h_cm := h_cm.kept hF 1 rfl (fsd (by omega))
  replace h_co := h_co.kept hF 28 rfl (fsd (by omega))
  replace h_bf := h_bf.kept hF 28 rfl (fsd (by omega))
  replace h_sv := h_sv.kept hF 28 rfl (fsd (by omega))
  replace h_hi := h_hi.kept hF 2 rfl (fsd (by omega))
  replace h_hf := h_hf.kept hF (fsd (by omega))
  replace h_dk := h_dk.kept hF 3 rfl (fsd (by omega))
  replace h_se := h_se.kept hF 5 rfl (fsd (by omega))
  replace h_pg := h_pg.kept hF 1 rfl (fsd (by omega))
  replace h_sb := h_sb.kept hF 1 rfl (fsd (by omega))
  replace h_sa := h_sa.kept hF 1 rfl (fsd (by omega))
  replace h_pr := h_pr.kept hF 10 rfl (fsd (by omega))
  replace h_ln := h_ln.kept hF 1 rfl (fsd (by omega))
  replace h_la := h_la.kept hF 1 rfl (fsd (by omega))
  replace h_out := h_out.kept hF 1 rfl (fsd (by omega))
  replace h_outD := h_outD.kept hF 1 rfl (fsd (by omega))
  show V p l e room_1 s m args below meth cd Q 9 H2 lo2 (kq + 1) (nq + 6) 3465 [(6, .int (zI 0)), (5, .int (zI i)), (4, .ref (x + 340)), (3, .ref (x + 339)), (2, .ref (x + 334)), (1, .ref x), (0, .ref b)] [.int (zI (sz - 1))]
  refine v_istore X dL_law_3465 3467 rfl (by decide) (L' := [(7, .int (zI (sz - 1))), (6, .int (zI 0)), (5, .int (zI i)), (4, .ref (x + 340)), (3, .ref (x + 339)), (2, .ref (x + 334)), (1, .ref x), (0, .ref b)]) rfl ?_
  refine v_aload_n X dL_law_3467 3468 rfl 5 rfl ?_
  refine v_rdV X hM.C h_mo.1 (c_X10_thrown l E (x + 334) (updC (updC mo 0 (updZ (updZ (mo 0) 0 0) 2 (sz - 1))) 1 g2_3)) kvX10_thrown kiX10_thrown kl_L_196 rfl rfl (As := []) rfl rfl (rm_law0 rfl (by omega) (by omega)) dL_law_3468 3471 rfl ?_
  show V p l e room_1 s m args below meth cd Q 9 H2 lo2 (kq + 1) (nq + 6) 3471 [(7, .int (zI (sz - 1))), (6, .int (zI 0)), (5, .int (zI i)), (4, .ref (x + 340)), (3, .ref (x + 339)), (2, .ref (x + 334)), (1, .ref x), (0, .ref b)] [.int (zI 0)]
  refine v_iload X dL_law_3471 3473 rfl 1 rfl ?_
  refine v_icmp_eq X (by omega) (by omega) dL_law_3473 3476 3478 rfl (by decide) (fun c_5 => ?_) (fun c_5 => ?_)
  · skip
    refine v_iload X dL_law_3478 3480 rfl 1 rfl ?_
    refine v_if_ne X (by omega) dL_law_3480 3483 3495 rfl (by decide) (fun c_6 => ?_) (fun c_6 => ?_)
    · skip
      exfalso; omega
    · skip
      refine v_aload_n X dL_law_3483 3484 rfl 4 rfl ?_
      refine v_iconst X dL_law_3484 3485 rfl ?_
      refine v_lald X hM.C h_out.1 0 rfl dL_law_3485 3486 rfl ?_
      show V p l e room_1 s m args below meth cd Q 9 H2 lo2 (kq + 1) (nq + 6) 3486 [(7, .int (zI (sz - 1))), (6, .int (zI 0)), (5, .int (zI i)), (4, .ref (x + 340)), (3, .ref (x + 339)), (2, .ref (x + 334)), (1, .ref x), (0, .ref b)] [.long (zL (sz - 1))]
      refine v_iload X dL_law_3486 3488 rfl 0 rfl ?_
      refine v_i2l X dL_law_3488 3489 rfl ?_
      refine v_lcmp0 X dL_law_3489 3490 rfl ?_
      refine v_if_eq X (by omega) dL_law_3490 3493 3495 rfl (by decide) (fun c_7 => ?_) (fun c_7 => ?_)
      · skip
        refine v_goto X dL_law_3495 3555 (by decide) ?_
        refine v_widen (k' := kq + 60) (n' := nq + 4000) (by omega) (by omega) ?_
        exact V_pick [2, 3, 4, 5, 6, 7] rfl (kk _ _ hM ⟨hzl, _, _, _, _, _, _, _, _, _, _, _, _, _, _, _, _, _, _, _, _, _, _, _, _, _, _, _, _, ⟨h_cm, h_co, h_bf, h_sv, h_hi, h_hf, h_dk, h_se, h_pg, h_sb, h_sa, h_pr, h_ln, h_la, h_mo, h_out, h_outD⟩, (hP0.undo q0 hp_f_4)⟩)
      · skip
        exfalso; omega
  · skip
    exfalso; omega
set_option maxHeartbeats 4000000 in
set_option maxRecDepth 20000 in
theorem lo_undo_1 (hl : l.stackTraces = false) (X : CF p m cd code 9 s args RL) (hX : va_X b Lx xs s s.heap) (hbl : b < s.heap.size) (hLx : Lx ≤ 2560) (hM : MS E [] s H lo) (hk : kq + 60 ≤ 603072) (hn : nq + 4000 ≤ 7211113) (hx : s.heap.size ≤ x) (hzl : x + 341 ≤ H.size) {v : Nat} {N : Nat} {f : Int → Int} {nn : Int} {v2 : Nat} {N2 : Nat} {f2 : Int → Int} {n2 : Int} {co : Nat → Int → Int} {bf : Nat → Int → Int} {cv : Nat → Int → Int} {hc : Nat → Nat → Int → Int} {nx : Int} {sz : Int} {hs : Int} {er : Int} {fa : Int} {ss : Int} {dk : Nat → Int → Int} {se : Nat → Int → Int} {po : Int} {si : Int} {pr : Nat → Int → Int} {ml : Int} {ml2 : Int} {mo : Nat → Int → Int} {lg : Nat → Int64} {dg : Nat → UInt64} (hW : LawW E x v N f nn v2 N2 f2 n2 co bf cv hc nx sz hs er fa ss dk se po si pr ml ml2 mo lg dg H) (hP : LawP x v N f nn v2 N2 f2 n2 co cv hc nx sz hs er fa ss po si pr mo) (i0 : 0 ≤ i) (i1 : i + 5 ≤ (Lx : Int)) (q0 : ¬ (¬ sz = 0)) (kk : ∀ (H1 : Heap) (lo1 : List Loc), MS E [] s H1 lo1 → LawI E x H1 → V p l e room_1 s m args below meth cd Q 9 H1 lo1 (kq + 60) (nq + 4000) 3555 [(5, .int (zI i)), (4, .ref (x + 340)), (3, .ref (x + 339)), (2, .ref (x + 334)), (1, .ref x), (0, .ref b)] []) : V p l e room_1 s m args below meth cd Q 9 H lo kq nq 3454 [(5, .int (zI i)), (4, .ref (x + 340)), (3, .ref (x + 339)), (2, .ref (x + 334)), (1, .ref x), (0, .ref b)] [] := by
  obtain ⟨h_cm, h_co, h_bf, h_sv, h_hi, h_hf, h_dk, h_se, h_pg, h_sb, h_sa, h_pr, h_ln, h_la, h_mo, h_out, h_outD⟩ := hW
  have hP0 := hP
  obtain ⟨⟨hD, hDv, hDh⟩, ⟨hRM, hch, hcs⟩, ⟨⟨n0, n1⟩, ⟨s0, s1⟩, hhs⟩, ⟨hm8, hnn, hAg, hNN, hnN, hf9⟩, ⟨T, hSB, hLT, hn38⟩, hPB, ⟨her, hfa, hss, ger, gfa, gss, gms⟩, ⟨gpo, gsi⟩, ⟨hv1, hv2, hvv⟩⟩ := hP
  have hO := hD.inv.ok
  have hI := hD.inv.ts
  have hSt := hD.inv.st
  have hS := hD.inv.sn
  have hR := hRM.1.2
  have hG := gp_inv hD
  have hb0 := hO.b0
  have hbw := hO.bw
  have hbf : ¬ Fr [] s.heap.size b := fun z => z.elim (fun q => q.elim) (fun q => by omega)
  refine v_aload_n X dL_law_3454 3455 rfl 4 rfl ?_
  refine v_aload_n X dL_law_3455 3456 rfl 2 rfl ?_
  refine v_mwS X hM (w_X9_undo_0_t l hl E x co hs er fa ss hc nx sz (x + 339) lg hO q0 n0 n1 s0 s1) kwL_undo ksL_undo kl_L_393 (As := [.ref x, .ref (x + 339)]) rfl rfl (rm_lawW rfl (by omega) (by omega)) dL_law_3456 3459 rfl (k' := kq + 1) (n' := nq + 6) rfl rfl (fun q hq => hq.elim) ⟨h_cm, h_co, h_hi, h_hf, h_out⟩ (fun rv H1 lo1 hM hF hpo => ?_)
  subst hpo
  replace hzl := Nat.le_trans hzl hF.1
  replace h_cm := h_cm.kept hF 1 rfl (fun q _ _ h => h.elim)
  replace h_co := h_co.kept hF 28 rfl (fun q _ _ h => h.elim)
  replace h_bf := h_bf.kept hF 28 rfl (fun q _ _ h => h.elim)
  replace h_sv := h_sv.kept hF 28 rfl (fun q _ _ h => h.elim)
  replace h_hi := h_hi.kept hF 2 rfl (fun q _ _ h => h.elim)
  replace h_hf := h_hf.kept hF (fun q _ _ h => h.elim)
  replace h_dk := h_dk.kept hF 3 rfl (fun q _ _ h => h.elim)
  replace h_se := h_se.kept hF 5 rfl (fun q _ _ h => h.elim)
  replace h_pg := h_pg.kept hF 1 rfl (fun q _ _ h => h.elim)
  replace h_sb := h_sb.kept hF 1 rfl (fun q _ _ h => h.elim)
  replace h_sa := h_sa.kept hF 1 rfl (fun q _ _ h => h.elim)
  replace h_pr := h_pr.kept hF 10 rfl (fun q _ _ h => h.elim)
  replace h_ln := h_ln.kept hF 1 rfl (fun q _ _ h => h.elim)
  replace h_la := h_la.kept hF 1 rfl (fun q _ _ h => h.elim)
  replace h_mo := h_mo.kept hF 5 rfl (fun q _ _ h => h.elim)
  replace h_out := h_out.kept hF 1 rfl (fun q _ _ h => h.elim)
  replace h_outD := h_outD.kept hF 1 rfl (fun q _ _ h => h.elim)
  show V p l e room_1 s m args below meth cd Q 9 H1 lo1 (kq + 1) (nq + 6) 3459 [(5, .int (zI i)), (4, .ref (x + 340)), (3, .ref (x + 339)), (2, .ref (x + 334)), (1, .ref x), (0, .ref b)] [.int (zI 1)]
  refine v_istore X dL_law_3459 3461 rfl (by decide) (L' := [(6, .int (zI 1)), (5, .int (zI i)), (4, .ref (x + 340)), (3, .ref (x + 339)), (2, .ref (x + 334)), (1, .ref x), (0, .ref b)]) rfl ?_
  refine v_aload_n X dL_law_3461 3462 rfl 4 rfl ?_
  refine v_muV X hM (h_mo.1) (c_X10_undo_0 l E (x + 334) mo co cv hc nx sz hs hO hRM hch n0 n1 s0 s1 q0) kvX10_undo kiX10_undo kl_L_395 (q0 := 0) rfl rfl (As := []) rfl rfl (rm_law rfl (by omega) (by omega)) dL_law_3462 3465 rfl (k' := kq + 1) (n' := nq + 6) rfl rfl (fsI (fun q q1 q2 => (Or.inr (by omega)))) h_mo (fun rv H2 lo2 hM hF hpo => ?_)
  obtain ⟨g2_3, rfl, hp_f_4, hw_0⟩ := hpo
  have h_mo : PR E (x + 334) (modelW E (x + 334) (updC (updC mo 0 (updZ (mo 0) 0 1)) 1 g2_3)) H2 := hw_0
  replace hzl := Nat.le_trans hzl hF.1
  replace h_cm := h_cm.kept hF 1 rfl (fsd (by omega))
  replace h_co := h_co.kept hF 28 rfl (fsd (by omega))
  replace h_bf := h_bf.kept hF 28 rfl (fsd (by omega))
  replace h_sv := h_sv.kept hF 28 rfl (fsd (by omega))
  replace h_hi := h_hi.kept hF 2 rfl (fsd (by omega))
  replace h_hf := h_hf.kept hF (fsd (by omega))
  replace h_dk := h_dk.kept hF 3 rfl (fsd (by omega))
  replace h_se := h_se.kept hF 5 rfl (fsd (by omega))
  replace h_pg := h_pg.kept hF 1 rfl (fsd (by omega))
  replace h_sb := h_sb.kept hF 1 rfl (fsd (by omega))
  replace h_sa := h_sa.kept hF 1 rfl (fsd (by omega))
  replace h_pr := h_pr.kept hF 10 rfl (fsd (by omega))
  replace h_ln := h_ln.kept hF 1 rfl (fsd (by omega))
  replace h_la := h_la.kept hF 1 rfl (fsd (by omega))
  replace h_out := h_out.kept hF 1 rfl (fsd (by omega))
  replace h_outD := h_outD.kept hF 1 rfl (fsd (by omega))
  show V p l e room_1 s m args below meth cd Q 9 H2 lo2 (kq + 1) (nq + 6) 3465 [(6, .int (zI 1)), (5, .int (zI i)), (4, .ref (x + 340)), (3, .ref (x + 339)), (2, .ref (x + 334)), (1, .ref x), (0, .ref b)] [.int (zI 0)]
  refine v_istore X dL_law_3465 3467 rfl (by decide) (L' := [(7, .int (zI 0)), (6, .int (zI 1)), (5, .int (zI i)), (4, .ref (x + 340)), (3, .ref (x + 339)), (2, .ref (x + 334)), (1, .ref x), (0, .ref b)]) rfl ?_
  refine v_aload_n X dL_law_3467 3468 rfl 5 rfl ?_
  refine v_rdV X hM.C h_mo.1 (c_X10_thrown l E (x + 334) (updC (updC mo 0 (updZ (mo 0) 0 1)) 1 g2_3)) kvX10_thrown kiX10_thrown kl_L_196 rfl rfl (As := []) rfl rfl (rm_law0 rfl (by omega) (by omega)) dL_law_3468 3471 rfl ?_
  show V p l e room_1 s m args below meth cd Q 9 H2 lo2 (kq + 1) (nq + 6) 3471 [(7, .int (zI 0)), (6, .int (zI 1)), (5, .int (zI i)), (4, .ref (x + 340)), (3, .ref (x + 339)), (2, .ref (x + 334)), (1, .ref x), (0, .ref b)] [.int (zI 1)]
  refine v_iload X dL_law_3471 3473 rfl 1 rfl ?_
  refine v_icmp_eq X (by omega) (by omega) dL_law_3473 3476 3478 rfl (by decide) (fun c_5 => ?_) (fun c_5 => ?_)
  · skip
    refine v_iload X dL_law_3478 3480 rfl 1 rfl ?_
    refine v_if_ne X (by omega) dL_law_3480 3483 3495 rfl (by decide) (fun c_6 => ?_) (fun c_6 => ?_)
    · skip
      refine v_goto X dL_law_3495 3555 (by decide) ?_
      refine v_widen (k' := kq + 60) (n' := nq + 4000) (by omega) (by omega) ?_
      exact V_pick [2, 3, 4, 5, 6, 7] rfl (kk _ _ hM ⟨hzl, _, _, _, _, _, _, _, _, _, _, _, _, _, _, _, _, _, _, _, _, _, _, _, _, _, _, _, _, ⟨h_cm, h_co, h_bf, h_sv, h_hi, h_hf, h_dk, h_se, h_pg, h_sb, h_sa, h_pr, h_ln, h_la, h_mo, h_out, h_outD⟩, (hP0.g2 hp_f_4)⟩)
    · skip
      exfalso; omega
  · skip
    exfalso; omega
set_option maxHeartbeats 4000000 in
set_option maxRecDepth 20000 in
theorem lo_restore (hl : l.stackTraces = false) (X : CF p m cd code 9 s args RL) (hX : va_X b Lx xs s s.heap) (hbl : b < s.heap.size) (hLx : Lx ≤ 2560) (hM : MS E [] s H lo) (hk : kq + 60 ≤ 603072) (hn : nq + 4000 ≤ 7211113) (hx : s.heap.size ≤ x) (hzl : x + 341 ≤ H.size) {v : Nat} {N : Nat} {f : Int → Int} {nn : Int} {v2 : Nat} {N2 : Nat} {f2 : Int → Int} {n2 : Int} {co : Nat → Int → Int} {bf : Nat → Int → Int} {cv : Nat → Int → Int} {hc : Nat → Nat → Int → Int} {nx : Int} {sz : Int} {hs : Int} {er : Int} {fa : Int} {ss : Int} {dk : Nat → Int → Int} {se : Nat → Int → Int} {po : Int} {si : Int} {pr : Nat → Int → Int} {ml : Int} {ml2 : Int} {mo : Nat → Int → Int} {lg : Nat → Int64} {dg : Nat → UInt64} (hW : LawW E x v N f nn v2 N2 f2 n2 co bf cv hc nx sz hs er fa ss dk se po si pr ml ml2 mo lg dg H) (hP : LawP x v N f nn v2 N2 f2 n2 co cv hc nx sz hs er fa ss po si pr mo) (i0 : 0 ≤ i) (i1 : i + 5 ≤ (Lx : Int)) (q0 : hs = 1) (kk : ∀ (H1 : Heap) (lo1 : List Loc), MS E [] s H1 lo1 → LawI E x H1 → V p l e room_1 s m args below meth cd Q 9 H1 lo1 (kq + 60) (nq + 4000) 3555 [(5, .int (zI i)), (4, .ref (x + 340)), (3, .ref (x + 339)), (2, .ref (x + 334)), (1, .ref x), (0, .ref b)] []) : V p l e room_1 s m args below meth cd Q 9 H lo kq nq 3511 [(5, .int (zI i)), (4, .ref (x + 340)), (3, .ref (x + 339)), (2, .ref (x + 334)), (1, .ref x), (0, .ref b)] [] := by
  obtain ⟨h_cm, h_co, h_bf, h_sv, h_hi, h_hf, h_dk, h_se, h_pg, h_sb, h_sa, h_pr, h_ln, h_la, h_mo, h_out, h_outD⟩ := hW
  have hP0 := hP
  obtain ⟨⟨hD, hDv, hDh⟩, ⟨hRM, hch, hcs⟩, ⟨⟨n0, n1⟩, ⟨s0, s1⟩, hhs⟩, ⟨hm8, hnn, hAg, hNN, hnN, hf9⟩, ⟨T, hSB, hLT, hn38⟩, hPB, ⟨her, hfa, hss, ger, gfa, gss, gms⟩, ⟨gpo, gsi⟩, ⟨hv1, hv2, hvv⟩⟩ := hP
  have hO := hD.inv.ok
  have hI := hD.inv.ts
  have hSt := hD.inv.st
  have hS := hD.inv.sn
  have hR := hRM.1.2
  have hG := gp_inv hD
  have hb0 := hO.b0
  have hbw := hO.bw
  have hbf : ¬ Fr [] s.heap.size b := fun z => z.elim (fun q => q.elim) (fun q => by omega)
  refine v_aload_n X dL_law_3511 3512 rfl 4 rfl ?_
  refine v_aload_n X dL_law_3512 3513 rfl 2 rfl ?_
  refine v_mwS X hM (w_X9_restore l hl E x co hs er fa ss cv nx sz (x + 339) lg hO q0 (by omega) (by omega) (by omega) (by omega) (by omega) (by omega) (by omega) (by omega) (by omega) (by omega)) kwL_restore ksL_restore kl_L_400 (As := [.ref x, .ref (x + 339)]) rfl rfl (rm_lawW rfl (by omega) (by omega)) dL_law_3513 3516 rfl (k' := kq + 1) (n' := nq + 6) rfl rfl (by intro q hq; simp only [Fr, Fs, or_false, false_or] at hq ⊢; omega) ⟨h_cm, h_co, h_sv, h_hi, h_out⟩ (fun rv H1 lo1 hM hF hpo => ?_)
  obtain ⟨rfl, hw_0, hw_1, hw_2⟩ := hpo
  have h_co : PR E (x + 1) (courtW E (x + 1) cv) H1 := hw_0
  have h_hi : PR E (x + 85) [(x + 85, .inr (7, [.ref (x + 86), .int (zI nx), .int (zI 0)])), (x + 86, .inl (E 102 3, 8, .inr (.inr (.inr (.inr (hisA (x + 87) 8))))))] H1 := hw_1
  have h_out : PR E (x + 339) [(x + 339, .inl (E 102 4, 1, .inr (.inl (fun _ => zL (cv 0 0)))))] H1 := hw_2
  replace hzl := Nat.le_trans hzl hF.1
  replace h_cm := h_cm.kept hF 1 rfl (by intro q q1 q2 q3; simp only [Fs, or_false] at q3; omega)
  replace h_bf := h_bf.kept hF 28 rfl (by intro q q1 q2 q3; simp only [Fs, or_false] at q3; omega)
  replace h_sv := h_sv.kept hF 28 rfl (by intro q q1 q2 q3; simp only [Fs, or_false] at q3; omega)
  replace h_hf := h_hf.kept hF (by intro q q1 q2 q3; simp only [Fs, or_false] at q3; omega)
  replace h_dk := h_dk.kept hF 3 rfl (by intro q q1 q2 q3; simp only [Fs, or_false] at q3; omega)
  replace h_se := h_se.kept hF 5 rfl (by intro q q1 q2 q3; simp only [Fs, or_false] at q3; omega)
  replace h_pg := h_pg.kept hF 1 rfl (by intro q q1 q2 q3; simp only [Fs, or_false] at q3; omega)
  replace h_sb := h_sb.kept hF 1 rfl (by intro q q1 q2 q3; simp only [Fs, or_false] at q3; omega)
  replace h_sa := h_sa.kept hF 1 rfl (by intro q q1 q2 q3; simp only [Fs, or_false] at q3; omega)
  replace h_pr := h_pr.kept hF 10 rfl (by intro q q1 q2 q3; simp only [Fs, or_false] at q3; omega)
  replace h_ln := h_ln.kept hF 1 rfl (by intro q q1 q2 q3; simp only [Fs, or_false] at q3; omega)
  replace h_la := h_la.kept hF 1 rfl (by intro q q1 q2 q3; simp only [Fs, or_false] at q3; omega)
  replace h_mo := h_mo.kept hF 5 rfl (by intro q q1 q2 q3; simp only [Fs, or_false] at q3; omega)
  replace h_outD := h_outD.kept hF 1 rfl (by intro q q1 q2 q3; simp only [Fs, or_false] at q3; omega)
  show V p l e room_1 s m args below meth cd Q 9 H1 lo1 (kq + 1) (nq + 6) 3516 [(5, .int (zI i)), (4, .ref (x + 340)), (3, .ref (x + 339)), (2, .ref (x + 334)), (1, .ref x), (0, .ref b)] [.int (zI 0)]
  refine v_istore X dL_law_3516 3518 rfl (by decide) (L' := [(6, .int (zI 0)), (5, .int (zI i)), (4, .ref (x + 340)), (3, .ref (x + 339)), (2, .ref (x + 334)), (1, .ref x), (0, .ref b)]) rfl ?_
  refine v_aload_n X dL_law_3518 3519 rfl 4 rfl ?_
  refine v_muV X hM (h_mo.1) (c_X10_restore l E (x + 334) mo co cv hc nx sz hs hO hRM hch n0 n1 s0 s1 (by omega) (by omega) q0) kvX10_restore kiX10_restore kl_L_402 (q0 := 0) rfl rfl (As := []) rfl rfl (rm_law rfl (by omega) (by omega)) dL_law_3519 3522 rfl (k' := kq + 1) (n' := nq + 6) rfl rfl (fsI (fun q q1 q2 => (Or.inr (by omega)))) h_mo (fun rv H2 lo2 hM hF hpo => ?_)
  obtain ⟨g2_3, rfl, hp_f_4, hw_0⟩ := hpo
  have h_mo : PR E (x + 334) (modelW E (x + 334) (updC (updC mo 0 (updZ (updZ (mo 0) 0 0) 2 0)) 1 g2_3)) H2 := hw_0
  replace hzl := Nat.le_trans hzl hF.1
  replace h_cm := h_cm.kept hF 1 rfl (fsd (by omega))
  replace h_co := h_co.kept hF 28 rfl (fsd (by omega))
  replace h_bf := h_bf.kept hF 28 rfl (fsd (by omega))
  replace h_sv := h_sv.kept hF 28 rfl (fsd (by omega))
  replace h_hi := h_hi.kept hF 2 rfl (fsd (by omega))
  replace h_hf := h_hf.kept hF (fsd (by omega))
  replace h_dk := h_dk.kept hF 3 rfl (fsd (by omega))
  replace h_se := h_se.kept hF 5 rfl (fsd (by omega))
  replace h_pg := h_pg.kept hF 1 rfl (fsd (by omega))
  replace h_sb := h_sb.kept hF 1 rfl (fsd (by omega))
  replace h_sa := h_sa.kept hF 1 rfl (fsd (by omega))
  replace h_pr := h_pr.kept hF 10 rfl (fsd (by omega))
  replace h_ln := h_ln.kept hF 1 rfl (fsd (by omega))
  replace h_la := h_la.kept hF 1 rfl (fsd (by omega))
  replace h_out := h_out.kept hF 1 rfl (fsd (by omega))
  replace h_outD := h_outD.kept hF 1 rfl (fsd (by omega))
  show V p l e room_1 s m args below meth cd Q 9 H2 lo2 (kq + 1) (nq + 6) 3522 [(6, .int (zI 0)), (5, .int (zI i)), (4, .ref (x + 340)), (3, .ref (x + 339)), (2, .ref (x + 334)), (1, .ref x), (0, .ref b)] [.int (zI (cv 0 0))]
  refine v_istore X dL_law_3522 3524 rfl (by decide) (L' := [(7, .int (zI (cv 0 0))), (6, .int (zI 0)), (5, .int (zI i)), (4, .ref (x + 340)), (3, .ref (x + 339)), (2, .ref (x + 334)), (1, .ref x), (0, .ref b)]) rfl ?_
  refine v_aload_n X dL_law_3524 3525 rfl 5 rfl ?_
  refine v_rdV X hM.C h_mo.1 (c_X10_thrown l E (x + 334) (updC (updC mo 0 (updZ (updZ (mo 0) 0 0) 2 0)) 1 g2_3)) kvX10_thrown kiX10_thrown kl_L_196 rfl rfl (As := []) rfl rfl (rm_law0 rfl (by omega) (by omega)) dL_law_3525 3528 rfl ?_
  show V p l e room_1 s m args below meth cd Q 9 H2 lo2 (kq + 1) (nq + 6) 3528 [(7, .int (zI (cv 0 0))), (6, .int (zI 0)), (5, .int (zI i)), (4, .ref (x + 340)), (3, .ref (x + 339)), (2, .ref (x + 334)), (1, .ref x), (0, .ref b)] [.int (zI 0)]
  refine v_iload X dL_law_3528 3530 rfl 1 rfl ?_
  refine v_icmp_eq X (by omega) (by omega) dL_law_3530 3533 3535 rfl (by decide) (fun c_5 => ?_) (fun c_5 => ?_)
  · skip
    refine v_iload X dL_law_3535 3537 rfl 1 rfl ?_
    refine v_if_ne X (by omega) dL_law_3537 3540 3552 rfl (by decide) (fun c_6 => ?_) (fun c_6 => ?_)
    · skip
      exfalso; omega
    · skip
      refine v_aload_n X dL_law_3540 3541 rfl 4 rfl ?_
      refine v_iconst X dL_law_3541 3542 rfl ?_
      refine v_lald X hM.C h_out.1 0 rfl dL_law_3542 3543 rfl ?_
      show V p l e room_1 s m args below meth cd Q 9 H2 lo2 (kq + 1) (nq + 6) 3543 [(7, .int (zI (cv 0 0))), (6, .int (zI 0)), (5, .int (zI i)), (4, .ref (x + 340)), (3, .ref (x + 339)), (2, .ref (x + 334)), (1, .ref x), (0, .ref b)] [.long (zL (cv 0 0))]
      refine v_iload X dL_law_3543 3545 rfl 0 rfl ?_
      refine v_i2l X dL_law_3545 3546 rfl ?_
      refine v_lcmp0 X dL_law_3546 3547 rfl ?_
      refine v_if_eq X (by omega) dL_law_3547 3550 3552 rfl (by decide) (fun c_7 => ?_) (fun c_7 => ?_)
      · skip
        refine v_goto X dL_law_3552 3555 (by decide) ?_
        refine v_widen (k' := kq + 60) (n' := nq + 4000) (by omega) (by omega) ?_
        exact V_pick [2, 3, 4, 5, 6, 7] rfl (kk _ _ hM ⟨hzl, _, _, _, _, _, _, _, _, _, _, _, _, _, _, _, _, _, _, _, _, _, _, _, _, _, _, _, _, ⟨h_cm, h_co, h_bf, h_sv, h_hi, h_hf, h_dk, h_se, h_pg, h_sb, h_sa, h_pr, h_ln, h_la, h_mo, h_out, h_outD⟩, (hP0.restore q0 hp_f_4)⟩)
      · skip
        exfalso; omega
  · skip
    exfalso; omega
set_option maxHeartbeats 4000000 in
set_option maxRecDepth 20000 in
theorem lo_restore_1 (hl : l.stackTraces = false) (X : CF p m cd code 9 s args RL) (hX : va_X b Lx xs s s.heap) (hbl : b < s.heap.size) (hLx : Lx ≤ 2560) (hM : MS E [] s H lo) (hk : kq + 60 ≤ 603072) (hn : nq + 4000 ≤ 7211113) (hx : s.heap.size ≤ x) (hzl : x + 341 ≤ H.size) {v : Nat} {N : Nat} {f : Int → Int} {nn : Int} {v2 : Nat} {N2 : Nat} {f2 : Int → Int} {n2 : Int} {co : Nat → Int → Int} {bf : Nat → Int → Int} {cv : Nat → Int → Int} {hc : Nat → Nat → Int → Int} {nx : Int} {sz : Int} {hs : Int} {er : Int} {fa : Int} {ss : Int} {dk : Nat → Int → Int} {se : Nat → Int → Int} {po : Int} {si : Int} {pr : Nat → Int → Int} {ml : Int} {ml2 : Int} {mo : Nat → Int → Int} {lg : Nat → Int64} {dg : Nat → UInt64} (hW : LawW E x v N f nn v2 N2 f2 n2 co bf cv hc nx sz hs er fa ss dk se po si pr ml ml2 mo lg dg H) (hP : LawP x v N f nn v2 N2 f2 n2 co cv hc nx sz hs er fa ss po si pr mo) (i0 : 0 ≤ i) (i1 : i + 5 ≤ (Lx : Int)) (q0 : ¬ (hs = 1)) (kk : ∀ (H1 : Heap) (lo1 : List Loc), MS E [] s H1 lo1 → LawI E x H1 → V p l e room_1 s m args below meth cd Q 9 H1 lo1 (kq + 60) (nq + 4000) 3555 [(5, .int (zI i)), (4, .ref (x + 340)), (3, .ref (x + 339)), (2, .ref (x + 334)), (1, .ref x), (0, .ref b)] []) : V p l e room_1 s m args below meth cd Q 9 H lo kq nq 3511 [(5, .int (zI i)), (4, .ref (x + 340)), (3, .ref (x + 339)), (2, .ref (x + 334)), (1, .ref x), (0, .ref b)] [] := by
  obtain ⟨h_cm, h_co, h_bf, h_sv, h_hi, h_hf, h_dk, h_se, h_pg, h_sb, h_sa, h_pr, h_ln, h_la, h_mo, h_out, h_outD⟩ := hW
  have hP0 := hP
  obtain ⟨⟨hD, hDv, hDh⟩, ⟨hRM, hch, hcs⟩, ⟨⟨n0, n1⟩, ⟨s0, s1⟩, hhs⟩, ⟨hm8, hnn, hAg, hNN, hnN, hf9⟩, ⟨T, hSB, hLT, hn38⟩, hPB, ⟨her, hfa, hss, ger, gfa, gss, gms⟩, ⟨gpo, gsi⟩, ⟨hv1, hv2, hvv⟩⟩ := hP
  have hO := hD.inv.ok
  have hI := hD.inv.ts
  have hSt := hD.inv.st
  have hS := hD.inv.sn
  have hR := hRM.1.2
  have hG := gp_inv hD
  have hb0 := hO.b0
  have hbw := hO.bw
  have hbf : ¬ Fr [] s.heap.size b := fun z => z.elim (fun q => q.elim) (fun q => by omega)
  refine v_aload_n X dL_law_3511 3512 rfl 4 rfl ?_
  refine v_aload_n X dL_law_3512 3513 rfl 2 rfl ?_
  refine v_mwS X hM (w_X9_restore_0_t l hl E x co hs er fa ss cv nx sz (x + 339) lg hO q0 (by omega)) kwL_restore ksL_restore kl_L_400 (As := [.ref x, .ref (x + 339)]) rfl rfl (rm_lawW rfl (by omega) (by omega)) dL_law_3513 3516 rfl (k' := kq + 1) (n' := nq + 6) rfl rfl (fun q hq => hq.elim) ⟨h_cm, h_co, h_sv, h_hi, h_out⟩ (fun rv H1 lo1 hM hF hpo => ?_)
  subst hpo
  replace hzl := Nat.le_trans hzl hF.1
  replace h_cm := h_cm.kept hF 1 rfl (fun q _ _ h => h.elim)
  replace h_co := h_co.kept hF 28 rfl (fun q _ _ h => h.elim)
  replace h_bf := h_bf.kept hF 28 rfl (fun q _ _ h => h.elim)
  replace h_sv := h_sv.kept hF 28 rfl (fun q _ _ h => h.elim)
  replace h_hi := h_hi.kept hF 2 rfl (fun q _ _ h => h.elim)
  replace h_hf := h_hf.kept hF (fun q _ _ h => h.elim)
  replace h_dk := h_dk.kept hF 3 rfl (fun q _ _ h => h.elim)
  replace h_se := h_se.kept hF 5 rfl (fun q _ _ h => h.elim)
  replace h_pg := h_pg.kept hF 1 rfl (fun q _ _ h => h.elim)
  replace h_sb := h_sb.kept hF 1 rfl (fun q _ _ h => h.elim)
  replace h_sa := h_sa.kept hF 1 rfl (fun q _ _ h => h.elim)
  replace h_pr := h_pr.kept hF 10 rfl (fun q _ _ h => h.elim)
  replace h_ln := h_ln.kept hF 1 rfl (fun q _ _ h => h.elim)
  replace h_la := h_la.kept hF 1 rfl (fun q _ _ h => h.elim)
  replace h_mo := h_mo.kept hF 5 rfl (fun q _ _ h => h.elim)
  replace h_out := h_out.kept hF 1 rfl (fun q _ _ h => h.elim)
  replace h_outD := h_outD.kept hF 1 rfl (fun q _ _ h => h.elim)
  show V p l e room_1 s m args below meth cd Q 9 H1 lo1 (kq + 1) (nq + 6) 3516 [(5, .int (zI i)), (4, .ref (x + 340)), (3, .ref (x + 339)), (2, .ref (x + 334)), (1, .ref x), (0, .ref b)] [.int (zI 1)]
  refine v_istore X dL_law_3516 3518 rfl (by decide) (L' := [(6, .int (zI 1)), (5, .int (zI i)), (4, .ref (x + 340)), (3, .ref (x + 339)), (2, .ref (x + 334)), (1, .ref x), (0, .ref b)]) rfl ?_
  refine v_aload_n X dL_law_3518 3519 rfl 4 rfl ?_
  refine v_muV X hM (h_mo.1) (c_X10_restore_0 l E (x + 334) mo co cv hc nx sz hs hO hRM hch n0 n1 s0 s1 (by omega) (by omega) q0) kvX10_restore kiX10_restore kl_L_402 (q0 := 0) rfl rfl (As := []) rfl rfl (rm_law rfl (by omega) (by omega)) dL_law_3519 3522 rfl (k' := kq + 1) (n' := nq + 6) rfl rfl (fsI (fun q q1 q2 => (Or.inr (by omega)))) h_mo (fun rv H2 lo2 hM hF hpo => ?_)
  obtain ⟨g2_3, rfl, hp_f_4, hw_0⟩ := hpo
  have h_mo : PR E (x + 334) (modelW E (x + 334) (updC (updC mo 0 (updZ (mo 0) 0 1)) 1 g2_3)) H2 := hw_0
  replace hzl := Nat.le_trans hzl hF.1
  replace h_cm := h_cm.kept hF 1 rfl (fsd (by omega))
  replace h_co := h_co.kept hF 28 rfl (fsd (by omega))
  replace h_bf := h_bf.kept hF 28 rfl (fsd (by omega))
  replace h_sv := h_sv.kept hF 28 rfl (fsd (by omega))
  replace h_hi := h_hi.kept hF 2 rfl (fsd (by omega))
  replace h_hf := h_hf.kept hF (fsd (by omega))
  replace h_dk := h_dk.kept hF 3 rfl (fsd (by omega))
  replace h_se := h_se.kept hF 5 rfl (fsd (by omega))
  replace h_pg := h_pg.kept hF 1 rfl (fsd (by omega))
  replace h_sb := h_sb.kept hF 1 rfl (fsd (by omega))
  replace h_sa := h_sa.kept hF 1 rfl (fsd (by omega))
  replace h_pr := h_pr.kept hF 10 rfl (fsd (by omega))
  replace h_ln := h_ln.kept hF 1 rfl (fsd (by omega))
  replace h_la := h_la.kept hF 1 rfl (fsd (by omega))
  replace h_out := h_out.kept hF 1 rfl (fsd (by omega))
  replace h_outD := h_outD.kept hF 1 rfl (fsd (by omega))
  show V p l e room_1 s m args below meth cd Q 9 H2 lo2 (kq + 1) (nq + 6) 3522 [(6, .int (zI 1)), (5, .int (zI i)), (4, .ref (x + 340)), (3, .ref (x + 339)), (2, .ref (x + 334)), (1, .ref x), (0, .ref b)] [.int (zI 0)]
  refine v_istore X dL_law_3522 3524 rfl (by decide) (L' := [(7, .int (zI 0)), (6, .int (zI 1)), (5, .int (zI i)), (4, .ref (x + 340)), (3, .ref (x + 339)), (2, .ref (x + 334)), (1, .ref x), (0, .ref b)]) rfl ?_
  refine v_aload_n X dL_law_3524 3525 rfl 5 rfl ?_
  refine v_rdV X hM.C h_mo.1 (c_X10_thrown l E (x + 334) (updC (updC mo 0 (updZ (mo 0) 0 1)) 1 g2_3)) kvX10_thrown kiX10_thrown kl_L_196 rfl rfl (As := []) rfl rfl (rm_law0 rfl (by omega) (by omega)) dL_law_3525 3528 rfl ?_
  show V p l e room_1 s m args below meth cd Q 9 H2 lo2 (kq + 1) (nq + 6) 3528 [(7, .int (zI 0)), (6, .int (zI 1)), (5, .int (zI i)), (4, .ref (x + 340)), (3, .ref (x + 339)), (2, .ref (x + 334)), (1, .ref x), (0, .ref b)] [.int (zI 1)]
  refine v_iload X dL_law_3528 3530 rfl 1 rfl ?_
  refine v_icmp_eq X (by omega) (by omega) dL_law_3530 3533 3535 rfl (by decide) (fun c_5 => ?_) (fun c_5 => ?_)
  · skip
    refine v_iload X dL_law_3535 3537 rfl 1 rfl ?_
    refine v_if_ne X (by omega) dL_law_3537 3540 3552 rfl (by decide) (fun c_6 => ?_) (fun c_6 => ?_)
    · skip
      refine v_goto X dL_law_3552 3555 (by decide) ?_
      refine v_widen (k' := kq + 60) (n' := nq + 4000) (by omega) (by omega) ?_
      exact V_pick [2, 3, 4, 5, 6, 7] rfl (kk _ _ hM ⟨hzl, _, _, _, _, _, _, _, _, _, _, _, _, _, _, _, _, _, _, _, _, _, _, _, _, _, _, _, _, ⟨h_cm, h_co, h_bf, h_sv, h_hi, h_hf, h_dk, h_se, h_pg, h_sb, h_sa, h_pr, h_ln, h_la, h_mo, h_out, h_outD⟩, (hP0.g2 hp_f_4)⟩)
    · skip
      exfalso; omega
  · skip
    exfalso; omega
set_option maxHeartbeats 4000000 in
set_option maxRecDepth 20000 in
theorem lo_save (hl : l.stackTraces = false) (X : CF p m cd code 9 s args RL) (hX : va_X b Lx xs s s.heap) (hbl : b < s.heap.size) (hLx : Lx ≤ 2560) (hM : MS E [] s H lo) (hk : kq + 60 ≤ 603072) (hn : nq + 4000 ≤ 7211113) (hx : s.heap.size ≤ x) (hzl : x + 341 ≤ H.size) {v : Nat} {N : Nat} {f : Int → Int} {nn : Int} {v2 : Nat} {N2 : Nat} {f2 : Int → Int} {n2 : Int} {co : Nat → Int → Int} {bf : Nat → Int → Int} {cv : Nat → Int → Int} {hc : Nat → Nat → Int → Int} {nx : Int} {sz : Int} {hs : Int} {er : Int} {fa : Int} {ss : Int} {dk : Nat → Int → Int} {se : Nat → Int → Int} {po : Int} {si : Int} {pr : Nat → Int → Int} {ml : Int} {ml2 : Int} {mo : Nat → Int → Int} {lg : Nat → Int64} {dg : Nat → UInt64} (hW : LawW E x v N f nn v2 N2 f2 n2 co bf cv hc nx sz hs er fa ss dk se po si pr ml ml2 mo lg dg H) (hP : LawP x v N f nn v2 N2 f2 n2 co cv hc nx sz hs er fa ss po si pr mo) (i0 : 0 ≤ i) (i1 : i + 5 ≤ (Lx : Int)) (kk : ∀ (H1 : Heap) (lo1 : List Loc), MS E [] s H1 lo1 → LawI E x H1 → V p l e room_1 s m args below meth cd Q 9 H1 lo1 (kq + 60) (nq + 4000) 3555 [(5, .int (zI i)), (4, .ref (x + 340)), (3, .ref (x + 339)), (2, .ref (x + 334)), (1, .ref x), (0, .ref b)] []) : V p l e room_1 s m args below meth cd Q 9 H lo kq nq 3498 [(5, .int (zI i)), (4, .ref (x + 340)), (3, .ref (x + 339)), (2, .ref (x + 334)), (1, .ref x), (0, .ref b)] [] := by
  obtain ⟨h_cm, h_co, h_bf, h_sv, h_hi, h_hf, h_dk, h_se, h_pg, h_sb, h_sa, h_pr, h_ln, h_la, h_mo, h_out, h_outD⟩ := hW
  have hP0 := hP
  obtain ⟨⟨hD, hDv, hDh⟩, ⟨hRM, hch, hcs⟩, ⟨⟨n0, n1⟩, ⟨s0, s1⟩, hhs⟩, ⟨hm8, hnn, hAg, hNN, hnN, hf9⟩, ⟨T, hSB, hLT, hn38⟩, hPB, ⟨her, hfa, hss, ger, gfa, gss, gms⟩, ⟨gpo, gsi⟩, ⟨hv1, hv2, hvv⟩⟩ := hP
  have hO := hD.inv.ok
  have hI := hD.inv.ts
  have hSt := hD.inv.st
  have hS := hD.inv.sn
  have hR := hRM.1.2
  have hG := gp_inv hD
  have hb0 := hO.b0
  have hbw := hO.bw
  have hbf : ¬ Fr [] s.heap.size b := fun z => z.elim (fun q => q.elim) (fun q => by omega)
  refine v_aload_n X dL_law_3498 3499 rfl 4 rfl ?_
  refine v_muV X hM (h_cm.1) (c_X9_save l E x co hs er fa ss cv hO (by omega) (by omega) (by omega)) kvX9_save kiX9_save kl_L_396 (q0 := 0) rfl rfl (As := []) rfl rfl (rm_law rfl (by omega) (by omega)) dL_law_3499 3502 rfl (k' := kq + 0) (n' := nq + 0) rfl rfl (by intro q hq; simp only [Fr, Fs, or_false, false_or] at hq ⊢; omega) ⟨h_cm, h_co, h_sv⟩ (fun rv H1 lo1 hM hF hpo => ?_)
  obtain ⟨rfl, hw_0, hw_1⟩ := hpo
  have h_cm : PR E x [(x, .inr (11, [.ref (x + 1), .ref (x + 29), .ref (x + 57), .ref (x + 85), .ref (x + 311), .ref (x + 314), .ref (x + 319), .ref (x + 332), .int (zI 1), .int (zI er), .int (zI fa), .int (zI ss)]))] H1 := hw_0
  have h_sv : PR E (x + 57) (courtW E (x + 57) co) H1 := hw_1
  replace hzl := Nat.le_trans hzl hF.1
  replace h_co := h_co.kept hF 28 rfl (by intro q q1 q2 q3; simp only [Fs, or_false] at q3; omega)
  replace h_bf := h_bf.kept hF 28 rfl (by intro q q1 q2 q3; simp only [Fs, or_false] at q3; omega)
  replace h_hi := h_hi.kept hF 2 rfl (by intro q q1 q2 q3; simp only [Fs, or_false] at q3; omega)
  replace h_hf := h_hf.kept hF (by intro q q1 q2 q3; simp only [Fs, or_false] at q3; omega)
  replace h_dk := h_dk.kept hF 3 rfl (by intro q q1 q2 q3; simp only [Fs, or_false] at q3; omega)
  replace h_se := h_se.kept hF 5 rfl (by intro q q1 q2 q3; simp only [Fs, or_false] at q3; omega)
  replace h_pg := h_pg.kept hF 1 rfl (by intro q q1 q2 q3; simp only [Fs, or_false] at q3; omega)
  replace h_sb := h_sb.kept hF 1 rfl (by intro q q1 q2 q3; simp only [Fs, or_false] at q3; omega)
  replace h_sa := h_sa.kept hF 1 rfl (by intro q q1 q2 q3; simp only [Fs, or_false] at q3; omega)
  replace h_pr := h_pr.kept hF 10 rfl (by intro q q1 q2 q3; simp only [Fs, or_false] at q3; omega)
  replace h_ln := h_ln.kept hF 1 rfl (by intro q q1 q2 q3; simp only [Fs, or_false] at q3; omega)
  replace h_la := h_la.kept hF 1 rfl (by intro q q1 q2 q3; simp only [Fs, or_false] at q3; omega)
  replace h_mo := h_mo.kept hF 5 rfl (by intro q q1 q2 q3; simp only [Fs, or_false] at q3; omega)
  replace h_out := h_out.kept hF 1 rfl (by intro q q1 q2 q3; simp only [Fs, or_false] at q3; omega)
  replace h_outD := h_outD.kept hF 1 rfl (by intro q q1 q2 q3; simp only [Fs, or_false] at q3; omega)
  show V p l e room_1 s m args below meth cd Q 9 H1 lo1 kq nq 3502 [(5, .int (zI i)), (4, .ref (x + 340)), (3, .ref (x + 339)), (2, .ref (x + 334)), (1, .ref x), (0, .ref b)] [.int (zI (co 0 0))]
  refine v_aload_n X dL_law_3502 3503 rfl 3 rfl ?_
  refine v_muV X hM (h_mo.1) (c_X10_save l E (x + 334) mo co cv hc nx sz hs hO hRM hch n0 n1 s0 s1) kvX10_save kiX10_save kl_L_399 (q0 := 0) rfl rfl (As := []) rfl rfl (rm_law rfl (by omega) (by omega)) dL_law_3503 3506 rfl (k' := kq + 0) (n' := nq + 0) rfl rfl (fsI (fun q q1 q2 => (Or.inr (by omega)))) h_mo (fun rv H2 lo2 hM hF hpo => ?_)
  obtain ⟨g2_3, rfl, hp_f_4, hw_0⟩ := hpo
  have h_mo : PR E (x + 334) (modelW E (x + 334) (updC (updC mo 0 (updZ (updZ (mo 0) 0 0) 3 1)) 1 g2_3)) H2 := hw_0
  replace hzl := Nat.le_trans hzl hF.1
  replace h_cm := h_cm.kept hF 1 rfl (fsd (by omega))
  replace h_co := h_co.kept hF 28 rfl (fsd (by omega))
  replace h_bf := h_bf.kept hF 28 rfl (fsd (by omega))
  replace h_sv := h_sv.kept hF 28 rfl (fsd (by omega))
  replace h_hi := h_hi.kept hF 2 rfl (fsd (by omega))
  replace h_hf := h_hf.kept hF (fsd (by omega))
  replace h_dk := h_dk.kept hF 3 rfl (fsd (by omega))
  replace h_se := h_se.kept hF 5 rfl (fsd (by omega))
  replace h_pg := h_pg.kept hF 1 rfl (fsd (by omega))
  replace h_sb := h_sb.kept hF 1 rfl (fsd (by omega))
  replace h_sa := h_sa.kept hF 1 rfl (fsd (by omega))
  replace h_pr := h_pr.kept hF 10 rfl (fsd (by omega))
  replace h_ln := h_ln.kept hF 1 rfl (fsd (by omega))
  replace h_la := h_la.kept hF 1 rfl (fsd (by omega))
  replace h_out := h_out.kept hF 1 rfl (fsd (by omega))
  replace h_outD := h_outD.kept hF 1 rfl (fsd (by omega))
  show V p l e room_1 s m args below meth cd Q 9 H2 lo2 kq nq 3506 [(5, .int (zI i)), (4, .ref (x + 340)), (3, .ref (x + 339)), (2, .ref (x + 334)), (1, .ref x), (0, .ref b)] [.int (zI (co 0 0)), .int (zI (co 0 0))]
  refine v_icmp_same X dL_law_3506 3555 (by decide) ?_
  refine v_widen (k' := kq + 60) (n' := nq + 4000) (by omega) (by omega) ?_
  exact V_pick [0, 1, 2, 3, 4, 5] rfl (kk _ _ hM ⟨hzl, _, _, _, _, _, _, _, _, _, _, _, _, _, _, _, _, _, _, _, _, _, _, _, _, _, _, _, _, ⟨h_cm, h_co, h_bf, h_sv, h_hi, h_hf, h_dk, h_se, h_pg, h_sb, h_sa, h_pr, h_ln, h_la, h_mo, h_out, h_outD⟩, (hP0.save hp_f_4)⟩)
end LAWOPS
