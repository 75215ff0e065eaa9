section ROWS
variable {p : Program} {l : Launch} {e : Env} {R : Room} {s : State} {m : MethodId} {args : Array Value} {below : List Frame} {meth : Method} {c : Code} {Q : State → Prop} {nL : Nat} {H : Heap} {locs : List Loc} {k n : Nat} {pc : Nat} {L L' : List (Nat × Value)} {st : List Value} {cc : ByteArray} {own : String}
theorem v_iload_n {kf : Fin 4} {x : Int32} (X : CF p m c cc nL s args own) (hdg : decode cc pc = .ok (.iload_n kf, 1)) (pc' : Nat) (hp : pc + 1 = pc') (j : Nat) (hj : L[j]? = some ((kf : Nat), .int x)) (kk : V p l e R s m args below meth c Q nL H locs k n pc' L (.int x :: st)) : V p l e R s m args below meth c Q nL H locs k n pc L (st) := by
  subst hp
  exact fun ls hl => lv_iload_n X.1 X.2.1 hdg rfl (lv_at hl j hj) (kk ls hl)
theorem v_iload {i : Nat} {x : Int32} (X : CF p m c cc nL s args own) (hdg : decode cc pc = .ok (.iload i, 2)) (pc' : Nat) (hp : pc + 2 = pc') (j : Nat) (hj : L[j]? = some (i, .int x)) (kk : V p l e R s m args below meth c Q nL H locs k n pc' L (.int x :: st)) : V p l e R s m args below meth c Q nL H locs k n pc L (st) := by
  subst hp
  exact fun ls hl => lv_iload X.1 X.2.1 hdg (lv_at hl j hj) (kk ls hl)
theorem v_lload_n {kf : Fin 4} {x : Int64} (X : CF p m c cc nL s args own) (hdg : decode cc pc = .ok (.lload_n kf, 1)) (pc' : Nat) (hp : pc + 1 = pc') (j : Nat) (hj : L[j]? = some ((kf : Nat), .long x)) (kk : V p l e R s m args below meth c Q nL H locs k n pc' L (.long x :: st)) : V p l e R s m args below meth c Q nL H locs k n pc L (st) := by
  subst hp
  exact fun ls hl => lv_lload_n X.1 X.2.1 hdg rfl (lv_at hl j hj) (kk ls hl)
theorem v_lload {i : Nat} {x : Int64} (X : CF p m c cc nL s args own) (hdg : decode cc pc = .ok (.lload i, 2)) (pc' : Nat) (hp : pc + 2 = pc') (j : Nat) (hj : L[j]? = some (i, .long x)) (kk : V p l e R s m args below meth c Q nL H locs k n pc' L (.long x :: st)) : V p l e R s m args below meth c Q nL H locs k n pc L (st) := by
  subst hp
  exact fun ls hl => lv_lload X.1 X.2.1 hdg (lv_at hl j hj) (kk ls hl)
theorem v_fload_n {kf : Fin 4} {x : UInt32} (X : CF p m c cc nL s args own) (hdg : decode cc pc = .ok (.fload_n kf, 1)) (pc' : Nat) (hp : pc + 1 = pc') (j : Nat) (hj : L[j]? = some ((kf : Nat), .float x)) (kk : V p l e R s m args below meth c Q nL H locs k n pc' L (.float x :: st)) : V p l e R s m args below meth c Q nL H locs k n pc L (st) := by
  subst hp
  exact fun ls hl => lv_fload_n X.1 X.2.1 hdg rfl (lv_at hl j hj) (kk ls hl)
theorem v_fload {i : Nat} {x : UInt32} (X : CF p m c cc nL s args own) (hdg : decode cc pc = .ok (.fload i, 2)) (pc' : Nat) (hp : pc + 2 = pc') (j : Nat) (hj : L[j]? = some (i, .float x)) (kk : V p l e R s m args below meth c Q nL H locs k n pc' L (.float x :: st)) : V p l e R s m args below meth c Q nL H locs k n pc L (st) := by
  subst hp
  exact fun ls hl => lv_fload X.1 X.2.1 hdg (lv_at hl j hj) (kk ls hl)
theorem v_dload_n {kf : Fin 4} {x : UInt64} (X : CF p m c cc nL s args own) (hdg : decode cc pc = .ok (.dload_n kf, 1)) (pc' : Nat) (hp : pc + 1 = pc') (j : Nat) (hj : L[j]? = some ((kf : Nat), .double x)) (kk : V p l e R s m args below meth c Q nL H locs k n pc' L (.double x :: st)) : V p l e R s m args below meth c Q nL H locs k n pc L (st) := by
  subst hp
  exact fun ls hl => lv_dload_n X.1 X.2.1 hdg rfl (lv_at hl j hj) (kk ls hl)
theorem v_dload {i : Nat} {x : UInt64} (X : CF p m c cc nL s args own) (hdg : decode cc pc = .ok (.dload i, 2)) (pc' : Nat) (hp : pc + 2 = pc') (j : Nat) (hj : L[j]? = some (i, .double x)) (kk : V p l e R s m args below meth c Q nL H locs k n pc' L (.double x :: st)) : V p l e R s m args below meth c Q nL H locs k n pc L (st) := by
  subst hp
  exact fun ls hl => lv_dload X.1 X.2.1 hdg (lv_at hl j hj) (kk ls hl)
theorem v_aload_n {kf : Fin 4} {x : Nat} (X : CF p m c cc nL s args own) (hdg : decode cc pc = .ok (.aload_n kf, 1)) (pc' : Nat) (hp : pc + 1 = pc') (j : Nat) (hj : L[j]? = some ((kf : Nat), .ref x)) (kk : V p l e R s m args below meth c Q nL H locs k n pc' L (.ref x :: st)) : V p l e R s m args below meth c Q nL H locs k n pc L (st) := by
  subst hp
  exact fun ls hl => lv_aload_n X.1 X.2.1 hdg rfl (lv_at hl j hj) (kk ls hl)
theorem v_aload {i : Nat} {x : Nat} (X : CF p m c cc nL s args own) (hdg : decode cc pc = .ok (.aload i, 2)) (pc' : Nat) (hp : pc + 2 = pc') (j : Nat) (hj : L[j]? = some (i, .ref x)) (kk : V p l e R s m args below meth c Q nL H locs k n pc' L (.ref x :: st)) : V p l e R s m args below meth c Q nL H locs k n pc L (st) := by
  subst hp
  exact fun ls hl => lv_aload X.1 X.2.1 hdg (lv_at hl j hj) (kk ls hl)
theorem v_istore_n {kf : Fin 4} {i : Nat} {x : Int32} (X : CF p m c cc nL s args own) (hdg : decode cc pc = .ok (.istore_n kf, 1)) (pc' : Nat) (hp : pc + 1 = pc') (hi : (kf : Nat) = i) (hn : i < nL) (hL : (i, Value.int x) :: L.filter (fun q => !(q.1 == i) && !(q.1 + 1 == i && q.2.category == 2)) = L') (kk : V p l e R s m args below meth c Q nL H locs k n pc' L' (st)) : V p l e R s m args below meth c Q nL H locs k n pc L (.int x :: st) := by
  subst hp
  exact fun ls hl => lv_istore_n X.1 X.2.1 hdg hi hl hn hL (fun ls' hl' => kk ls' hl')
theorem v_istore {i : Nat} {x : Int32} (X : CF p m c cc nL s args own) (hdg : decode cc pc = .ok (.istore i, 2)) (pc' : Nat) (hp : pc + 2 = pc') (hn : i < nL) (hL : (i, Value.int x) :: L.filter (fun q => !(q.1 == i) && !(q.1 + 1 == i && q.2.category == 2)) = L') (kk : V p l e R s m args below meth c Q nL H locs k n pc' L' (st)) : V p l e R s m args below meth c Q nL H locs k n pc L (.int x :: st) := by
  subst hp
  exact fun ls hl => lv_istore X.1 X.2.1 hdg hl hn hL (fun ls' hl' => kk ls' hl')
theorem v_astore_n {kf : Fin 4} {i : Nat} {x : Nat} (X : CF p m c cc nL s args own) (hdg : decode cc pc = .ok (.astore_n kf, 1)) (pc' : Nat) (hp : pc + 1 = pc') (hi : (kf : Nat) = i) (hn : i < nL) (hL : (i, Value.ref x) :: L.filter (fun q => !(q.1 == i) && !(q.1 + 1 == i && q.2.category == 2)) = L') (kk : V p l e R s m args below meth c Q nL H locs k n pc' L' (st)) : V p l e R s m args below meth c Q nL H locs k n pc L (.ref x :: st) := by
  subst hp
  exact fun ls hl => lv_astore_n X.1 X.2.1 hdg hi hl hn hL (fun ls' hl' => kk ls' hl')
theorem v_astore {i : Nat} {x : Nat} (X : CF p m c cc nL s args own) (hdg : decode cc pc = .ok (.astore i, 2)) (pc' : Nat) (hp : pc + 2 = pc') (hn : i < nL) (hL : (i, Value.ref x) :: L.filter (fun q => !(q.1 == i) && !(q.1 + 1 == i && q.2.category == 2)) = L') (kk : V p l e R s m args below meth c Q nL H locs k n pc' L' (st)) : V p l e R s m args below meth c Q nL H locs k n pc L (.ref x :: st) := by
  subst hp
  exact fun ls hl => lv_astore X.1 X.2.1 hdg hl hn hL (fun ls' hl' => kk ls' hl')
theorem v_fstore_n {kf : Fin 4} {i : Nat} {x : UInt32} (X : CF p m c cc nL s args own) (hdg : decode cc pc = .ok (.fstore_n kf, 1)) (pc' : Nat) (hp : pc + 1 = pc') (hi : (kf : Nat) = i) (hn : i < nL) (hL : (i, Value.float x) :: L.filter (fun q => !(q.1 == i) && !(q.1 + 1 == i && q.2.category == 2)) = L') (kk : V p l e R s m args below meth c Q nL H locs k n pc' L' (st)) : V p l e R s m args below meth c Q nL H locs k n pc L (.float x :: st) := by
  subst hp
  exact fun ls hl => lv_fstore_n X.1 X.2.1 hdg hi hl hn hL (fun ls' hl' => kk ls' hl')
theorem v_fstore {i : Nat} {x : UInt32} (X : CF p m c cc nL s args own) (hdg : decode cc pc = .ok (.fstore i, 2)) (pc' : Nat) (hp : pc + 2 = pc') (hn : i < nL) (hL : (i, Value.float x) :: L.filter (fun q => !(q.1 == i) && !(q.1 + 1 == i && q.2.category == 2)) = L') (kk : V p l e R s m args below meth c Q nL H locs k n pc' L' (st)) : V p l e R s m args below meth c Q nL H locs k n pc L (.float x :: st) := by
  subst hp
  exact fun ls hl => lv_fstore X.1 X.2.1 hdg hl hn hL (fun ls' hl' => kk ls' hl')
theorem v_locals (ks : List Nat) (hL : lv_pick L ks = L') (kk : V p l e R s m args below meth c Q nL H locs k n pc L' (st)) : V p l e R s m args below meth c Q nL H locs k n pc L (st) := fun ls hl => kk ls (lv_sub hl ks hL)
theorem v_iconst {z : Int} (X : CF p m c cc nL s args own) (hdg : decode cc pc = .ok (.iconst z, 1)) (pc' : Nat) (hp : pc + 1 = pc') (kk : V p l e R s m args below meth c Q nL H locs k n pc' L (.int (zI z) :: st)) : V p l e R s m args below meth c Q nL H locs k n pc L (st) := by
  subst hp
  exact fun ls hl => lv_iconst X.1 X.2.1 hdg rfl (kk ls hl)
theorem v_bipush {z : Int} (X : CF p m c cc nL s args own) (hdg : decode cc pc = .ok (.bipush z, 2)) (pc' : Nat) (hp : pc + 2 = pc') (hz : (Int8.ofInt z).toInt32 = zI z) (kk : V p l e R s m args below meth c Q nL H locs k n pc' L (.int (zI z) :: st)) : V p l e R s m args below meth c Q nL H locs k n pc L (st) := by
  subst hp
  exact fun ls hl => lv_bipush X.1 X.2.1 hdg hz (kk ls hl)
theorem v_sipush {z : Int} (X : CF p m c cc nL s args own) (hdg : decode cc pc = .ok (.sipush z, 3)) (pc' : Nat) (hp : pc + 3 = pc') (hz : (Int16.ofInt z).toInt32 = zI z) (kk : V p l e R s m args below meth c Q nL H locs k n pc' L (.int (zI z) :: st)) : V p l e R s m args below meth c Q nL H locs k n pc L (st) := by
  subst hp
  exact fun ls hl => lv_sipush X.1 X.2.1 hdg hz (kk ls hl)
theorem v_iadd {x y : Int} (X : CF p m c cc nL s args own) (hdg : decode cc pc = .ok (.iadd, 1)) (pc' : Nat) (hp : pc + 1 = pc') (kk : V p l e R s m args below meth c Q nL H locs k n pc' L (.int (zI (x + y)) :: st)) : V p l e R s m args below meth c Q nL H locs k n pc L (.int (zI y) :: .int (zI x) :: st) := by
  subst hp
  exact fun ls hl => lv_iadd X.1 X.2.1 hdg (by rw [zI_add]; exact kk ls hl)
theorem v_isub {x y : Int} (X : CF p m c cc nL s args own) (hdg : decode cc pc = .ok (.isub, 1)) (pc' : Nat) (hp : pc + 1 = pc') (kk : V p l e R s m args below meth c Q nL H locs k n pc' L (.int (zI (x - y)) :: st)) : V p l e R s m args below meth c Q nL H locs k n pc L (.int (zI y) :: .int (zI x) :: st) := by
  subst hp
  exact fun ls hl => lv_isub X.1 X.2.1 hdg (by rw [zI_sub]; exact kk ls hl)
theorem v_imul {x y : Int} (X : CF p m c cc nL s args own) (hdg : decode cc pc = .ok (.imul, 1)) (pc' : Nat) (hp : pc + 1 = pc') (kk : V p l e R s m args below meth c Q nL H locs k n pc' L (.int (zI (x * y)) :: st)) : V p l e R s m args below meth c Q nL H locs k n pc L (.int (zI y) :: .int (zI x) :: st) := by
  subst hp
  exact fun ls hl => lv_imul X.1 X.2.1 hdg (by rw [zI_mul]; exact kk ls hl)
theorem v_ineg {x : Int} (X : CF p m c cc nL s args own) (hdg : decode cc pc = .ok (.ineg, 1)) (pc' : Nat) (hp : pc + 1 = pc') (kk : V p l e R s m args below meth c Q nL H locs k n pc' L (.int (zI (- x)) :: st)) : V p l e R s m args below meth c Q nL H locs k n pc L (.int (zI x) :: st) := by
  subst hp
  exact fun ls hl => lv_ineg X.1 X.2.1 hdg (by rw [zI_neg]; exact kk ls hl)
theorem v_iinc {i : Nat} {z x : Int} (X : CF p m c cc nL s args own) (hdg : decode cc pc = .ok (.iinc i z, 3)) (pc' : Nat) (hp : pc + 3 = pc') (j : Nat) (hj : L[j]? = some (i, .int (zI x))) (hn : i < nL) (hL : (i, Value.int (zI (x + z))) :: L.filter (fun q => !(q.1 == i) && !(q.1 + 1 == i && q.2.category == 2)) = L') (kk : V p l e R s m args below meth c Q nL H locs k n pc' L' (st)) : V p l e R s m args below meth c Q nL H locs k n pc L (st) := by
  subst hp
  exact fun ls hl => lv_iinc X.1 X.2.1 hdg hl hj (zI_add x z) hn hL (fun ls' hl' => kk ls' hl')
theorem v_dup {v : Value} (X : CF p m c cc nL s args own) (hdg : decode cc pc = .ok (.dup, 1)) (pc' : Nat) (hp : pc + 1 = pc') (hv : v.category = 1) (kk : V p l e R s m args below meth c Q nL H locs k n pc' L (v :: v :: st)) : V p l e R s m args below meth c Q nL H locs k n pc L (v :: st) := by
  subst hp
  exact fun ls hl => lv_dup X.1 X.2.1 hdg hv (kk ls hl)
theorem v_pop {v : Value} (X : CF p m c cc nL s args own) (hdg : decode cc pc = .ok (.pop, 1)) (pc' : Nat) (hp : pc + 1 = pc') (hv : v.category = 1) (kk : V p l e R s m args below meth c Q nL H locs k n pc' L (st)) : V p l e R s m args below meth c Q nL H locs k n pc L (v :: st) := by
  subst hp
  exact fun ls hl => lv_pop X.1 X.2.1 hdg hv (kk ls hl)
theorem v_if_eq {x off : Int} (X : CF p m c cc nL s args own) (hx : Rg x) (hdg : decode cc pc = .ok (.ifCond .eq off, 3)) (pc' tgt : Nat) (hp : pc + 3 = pc') (ht : (pc : Int) + off = (tgt : Int)) (kt : x = 0 → V p l e R s m args below meth c Q nL H locs k n tgt L (st)) (kf : ¬ x = 0 → V p l e R s m args below meth c Q nL H locs k n pc' L (st)) : V p l e R s m args below meth c Q nL H locs k n pc L (.int (zI x) :: st) := by
  subst hp
  have hc : (zI x = 0) ↔ (x = 0) := zI_eq hx (show Rg 0 by omega)
  exact fun ls hl => lv_if_eq X.1 X.2.1 hdg ht (fun h => kt (hc.mp h) ls hl) (fun h => kf (by first | exact (zI_eq hx (show Rg 0 by omega)).mp h | (have h2 := (not_congr hc).mp h; omega)) ls hl)
theorem v_icmp_eq {x y off : Int} (X : CF p m c cc nL s args own) (hx : Rg x) (hy : Rg y) (hdg : decode cc pc = .ok (.if_icmp .eq off, 3)) (pc' tgt : Nat) (hp : pc + 3 = pc') (ht : (pc : Int) + off = (tgt : Int)) (kt : x = y → V p l e R s m args below meth c Q nL H locs k n tgt L (st)) (kf : ¬ x = y → V p l e R s m args below meth c Q nL H locs k n pc' L (st)) : V p l e R s m args below meth c Q nL H locs k n pc L (.int (zI y) :: .int (zI x) :: st) := by
  subst hp
  have hc : (zI x = zI y) ↔ (x = y) := zI_eq hx hy
  exact fun ls hl => lv_icmp_eq X.1 X.2.1 hdg ht (fun h => kt (hc.mp h) ls hl) (fun h => kf (by first | exact (zI_eq hx hy).mp h | (have h2 := (not_congr hc).mp h; omega)) ls hl)
theorem v_if_ne {x off : Int} (X : CF p m c cc nL s args own) (hx : Rg x) (hdg : decode cc pc = .ok (.ifCond .ne off, 3)) (pc' tgt : Nat) (hp : pc + 3 = pc') (ht : (pc : Int) + off = (tgt : Int)) (kt : ¬ x = 0 → V p l e R s m args below meth c Q nL H locs k n tgt L (st)) (kf : x = 0 → V p l e R s m args below meth c Q nL H locs k n pc' L (st)) : V p l e R s m args below meth c Q nL H locs k n pc L (.int (zI x) :: st) := by
  subst hp
  have hc : (¬ zI x = 0) ↔ (¬ x = 0) := not_congr (zI_eq hx (show Rg 0 by omega))
  exact fun ls hl => lv_if_ne X.1 X.2.1 hdg ht (fun h => kt (hc.mp h) ls hl) (fun h => kf (by first | exact (zI_eq hx (show Rg 0 by omega)).mp h | (have h2 := (not_congr hc).mp h; omega)) ls hl)
theorem v_icmp_ne {x y off : Int} (X : CF p m c cc nL s args own) (hx : Rg x) (hy : Rg y) (hdg : decode cc pc = .ok (.if_icmp .ne off, 3)) (pc' tgt : Nat) (hp : pc + 3 = pc') (ht : (pc : Int) + off = (tgt : Int)) (kt : ¬ x = y → V p l e R s m args below meth c Q nL H locs k n tgt L (st)) (kf : x = y → V p l e R s m args below meth c Q nL H locs k n pc' L (st)) : V p l e R s m args below meth c Q nL H locs k n pc L (.int (zI y) :: .int (zI x) :: st) := by
  subst hp
  have hc : (¬ zI x = zI y) ↔ (¬ x = y) := not_congr (zI_eq hx hy)
  exact fun ls hl => lv_icmp_ne X.1 X.2.1 hdg ht (fun h => kt (hc.mp h) ls hl) (fun h => kf (by first | exact (zI_eq hx hy).mp h | (have h2 := (not_congr hc).mp h; omega)) ls hl)
theorem v_if_lt {x off : Int} (X : CF p m c cc nL s args own) (hx : Rg x) (hdg : decode cc pc = .ok (.ifCond .lt off, 3)) (pc' tgt : Nat) (hp : pc + 3 = pc') (ht : (pc : Int) + off = (tgt : Int)) (kt : x < 0 → V p l e R s m args below meth c Q nL H locs k n tgt L (st)) (kf : 0 ≤ x → V p l e R s m args below meth c Q nL H locs k n pc' L (st)) : V p l e R s m args below meth c Q nL H locs k n pc L (.int (zI x) :: st) := by
  subst hp
  have hc : (zI x < 0) ↔ (x < 0) := zI_lt hx (show Rg 0 by omega)
  exact fun ls hl => lv_if_lt X.1 X.2.1 hdg ht (fun h => kt (hc.mp h) ls hl) (fun h => kf (by first | exact (zI_eq hx (show Rg 0 by omega)).mp h | (have h2 := (not_congr hc).mp h; omega)) ls hl)
theorem v_icmp_lt {x y off : Int} (X : CF p m c cc nL s args own) (hx : Rg x) (hy : Rg y) (hdg : decode cc pc = .ok (.if_icmp .lt off, 3)) (pc' tgt : Nat) (hp : pc + 3 = pc') (ht : (pc : Int) + off = (tgt : Int)) (kt : x < y → V p l e R s m args below meth c Q nL H locs k n tgt L (st)) (kf : y ≤ x → V p l e R s m args below meth c Q nL H locs k n pc' L (st)) : V p l e R s m args below meth c Q nL H locs k n pc L (.int (zI y) :: .int (zI x) :: st) := by
  subst hp
  have hc : (zI x < zI y) ↔ (x < y) := zI_lt hx hy
  exact fun ls hl => lv_icmp_lt X.1 X.2.1 hdg ht (fun h => kt (hc.mp h) ls hl) (fun h => kf (by first | exact (zI_eq hx hy).mp h | (have h2 := (not_congr hc).mp h; omega)) ls hl)
theorem v_if_ge {x off : Int} (X : CF p m c cc nL s args own) (hx : Rg x) (hdg : decode cc pc = .ok (.ifCond .ge off, 3)) (pc' tgt : Nat) (hp : pc + 3 = pc') (ht : (pc : Int) + off = (tgt : Int)) (kt : 0 ≤ x → V p l e R s m args below meth c Q nL H locs k n tgt L (st)) (kf : x < 0 → V p l e R s m args below meth c Q nL H locs k n pc' L (st)) : V p l e R s m args below meth c Q nL H locs k n pc L (.int (zI x) :: st) := by
  subst hp
  have hc : (0 ≤ zI x) ↔ (0 ≤ x) := zI_le (show Rg 0 by omega) hx
  exact fun ls hl => lv_if_ge X.1 X.2.1 hdg ht (fun h => kt (hc.mp h) ls hl) (fun h => kf (by first | exact (zI_eq hx (show Rg 0 by omega)).mp h | (have h2 := (not_congr hc).mp h; omega)) ls hl)
theorem v_icmp_ge {x y off : Int} (X : CF p m c cc nL s args own) (hx : Rg x) (hy : Rg y) (hdg : decode cc pc = .ok (.if_icmp .ge off, 3)) (pc' tgt : Nat) (hp : pc + 3 = pc') (ht : (pc : Int) + off = (tgt : Int)) (kt : y ≤ x → V p l e R s m args below meth c Q nL H locs k n tgt L (st)) (kf : x < y → V p l e R s m args below meth c Q nL H locs k n pc' L (st)) : V p l e R s m args below meth c Q nL H locs k n pc L (.int (zI y) :: .int (zI x) :: st) := by
  subst hp
  have hc : (zI y ≤ zI x) ↔ (y ≤ x) := zI_le hy hx
  exact fun ls hl => lv_icmp_ge X.1 X.2.1 hdg ht (fun h => kt (hc.mp h) ls hl) (fun h => kf (by first | exact (zI_eq hx hy).mp h | (have h2 := (not_congr hc).mp h; omega)) ls hl)
theorem v_if_gt {x off : Int} (X : CF p m c cc nL s args own) (hx : Rg x) (hdg : decode cc pc = .ok (.ifCond .gt off, 3)) (pc' tgt : Nat) (hp : pc + 3 = pc') (ht : (pc : Int) + off = (tgt : Int)) (kt : 0 < x → V p l e R s m args below meth c Q nL H locs k n tgt L (st)) (kf : x ≤ 0 → V p l e R s m args below meth c Q nL H locs k n pc' L (st)) : V p l e R s m args below meth c Q nL H locs k n pc L (.int (zI x) :: st) := by
  subst hp
  have hc : (0 < zI x) ↔ (0 < x) := zI_lt (show Rg 0 by omega) hx
  exact fun ls hl => lv_if_gt X.1 X.2.1 hdg ht (fun h => kt (hc.mp h) ls hl) (fun h => kf (by first | exact (zI_eq hx (show Rg 0 by omega)).mp h | (have h2 := (not_congr hc).mp h; omega)) ls hl)
theorem v_icmp_gt {x y off : Int} (X : CF p m c cc nL s args own) (hx : Rg x) (hy : Rg y) (hdg : decode cc pc = .ok (.if_icmp .gt off, 3)) (pc' tgt : Nat) (hp : pc + 3 = pc') (ht : (pc : Int) + off = (tgt : Int)) (kt : y < x → V p l e R s m args below meth c Q nL H locs k n tgt L (st)) (kf : x ≤ y → V p l e R s m args below meth c Q nL H locs k n pc' L (st)) : V p l e R s m args below meth c Q nL H locs k n pc L (.int (zI y) :: .int (zI x) :: st) := by
  subst hp
  have hc : (zI y < zI x) ↔ (y < x) := zI_lt hy hx
  exact fun ls hl => lv_icmp_gt X.1 X.2.1 hdg ht (fun h => kt (hc.mp h) ls hl) (fun h => kf (by first | exact (zI_eq hx hy).mp h | (have h2 := (not_congr hc).mp h; omega)) ls hl)
theorem v_if_le {x off : Int} (X : CF p m c cc nL s args own) (hx : Rg x) (hdg : decode cc pc = .ok (.ifCond .le off, 3)) (pc' tgt : Nat) (hp : pc + 3 = pc') (ht : (pc : Int) + off = (tgt : Int)) (kt : x ≤ 0 → V p l e R s m args below meth c Q nL H locs k n tgt L (st)) (kf : 0 < x → V p l e R s m args below meth c Q nL H locs k n pc' L (st)) : V p l e R s m args below meth c Q nL H locs k n pc L (.int (zI x) :: st) := by
  subst hp
  have hc : (zI x ≤ 0) ↔ (x ≤ 0) := zI_le hx (show Rg 0 by omega)
  exact fun ls hl => lv_if_le X.1 X.2.1 hdg ht (fun h => kt (hc.mp h) ls hl) (fun h => kf (by first | exact (zI_eq hx (show Rg 0 by omega)).mp h | (have h2 := (not_congr hc).mp h; omega)) ls hl)
theorem v_icmp_le {x y off : Int} (X : CF p m c cc nL s args own) (hx : Rg x) (hy : Rg y) (hdg : decode cc pc = .ok (.if_icmp .le off, 3)) (pc' tgt : Nat) (hp : pc + 3 = pc') (ht : (pc : Int) + off = (tgt : Int)) (kt : x ≤ y → V p l e R s m args below meth c Q nL H locs k n tgt L (st)) (kf : y < x → V p l e R s m args below meth c Q nL H locs k n pc' L (st)) : V p l e R s m args below meth c Q nL H locs k n pc L (.int (zI y) :: .int (zI x) :: st) := by
  subst hp
  have hc : (zI x ≤ zI y) ↔ (x ≤ y) := zI_le hx hy
  exact fun ls hl => lv_icmp_le X.1 X.2.1 hdg ht (fun h => kt (hc.mp h) ls hl) (fun h => kf (by first | exact (zI_eq hx hy).mp h | (have h2 := (not_congr hc).mp h; omega)) ls hl)
theorem v_bif_eq {φ : Prop} [Decidable φ] {off : Int} (X : CF p m c cc nL s args own) (hdg : decode cc pc = .ok (.ifCond .eq off, 3)) (pc' tgt : Nat) (hp : pc + 3 = pc') (ht : (pc : Int) + off = (tgt : Int)) (kt : ¬ φ → V p l e R s m args below meth c Q nL H locs k n tgt L (st)) (kf : φ → V p l e R s m args below meth c Q nL H locs k n pc' L (st)) : V p l e R s m args below meth c Q nL H locs k n pc L (.int (zI (bz φ)) :: st) :=
  v_if_eq X (by have := bz_rg (φ := φ); omega) hdg pc' tgt hp ht (fun h => kt (fun q => by rw [bz_t q] at h; omega)) (fun h => kf (Classical.byContradiction fun q => by rw [bz_f q] at h; omega))
theorem v_bif_ne {φ : Prop} [Decidable φ] {off : Int} (X : CF p m c cc nL s args own) (hdg : decode cc pc = .ok (.ifCond .ne off, 3)) (pc' tgt : Nat) (hp : pc + 3 = pc') (ht : (pc : Int) + off = (tgt : Int)) (kt : φ → V p l e R s m args below meth c Q nL H locs k n tgt L (st)) (kf : ¬ φ → V p l e R s m args below meth c Q nL H locs k n pc' L (st)) : V p l e R s m args below meth c Q nL H locs k n pc L (.int (zI (bz φ)) :: st) :=
  v_if_ne X (by have := bz_rg (φ := φ); omega) hdg pc' tgt hp ht (fun h => kt (Classical.byContradiction fun q => by rw [bz_f q] at h; omega)) (fun h => kf (fun q => by rw [bz_t q] at h; omega))
theorem v_goto {off : Int} (X : CF p m c cc nL s args own) (hdg : decode cc pc = .ok (.goto off, 3)) (tgt : Nat) (ht : (pc : Int) + off = (tgt : Int)) (kk : V p l e R s m args below meth c Q nL H locs k n tgt L (st)) : V p l e R s m args below meth c Q nL H locs k n pc L (st) := fun ls hl => lv_goto X.1 X.2.1 hdg ht (kk ls hl)
theorem v_getf {E : Nat → Nat → Nat} {ws : va_W} {a : Nat} {ref C : String} {T : u_T} {N ci index : Nat} (X : CF p m c cc nL s args own) (hC : Cx E s H) (hP : PW E ws H) (hin : ∀ w ∈ u_ws C T N, w ∈ WA) (q0 : Nat) {fs : List Value} (he : ws[q0]? = some (a, .inr (ci, fs))) (hc : vwCl[ci]? = some (C, T, N)) (kf : Nat) (hk : kf < N) (hlink : Cond.fieldLink own index ref (T kf).2.1 (T kf).2.2.1 ∈ WA) (hsame : ∀ x, s.fieldFound? (T kf).1 (T kf).2.1 (T kf).2.2.1 = some x → s.fieldFound? ref (T kf).2.1 (T kf).2.2.1 = some x) {v : Value} (hv : fs[kf]? = some v) (hdg : decode cc pc = .ok (.getfield index, 3)) (pc' : Nat) (hp : pc + 3 = pc') (kk : V p l e R s m args below meth c Q nL H locs k n pc' L (v :: st)) : V p l e R s m args below meth c Q nL H locs k n pc L (.ref a :: st) := by
  subst hp
  exact fun ls hl => va_get X.1 X.2.1 X.2.2.2.2 hin X.2.2.2.1 hC.K hP q0 he hc kf hk (X.2.2.2.2 _ hlink) hsame hv hdg (kk ls hl)
theorem v_getfN {E : Nat → Nat → Nat} {ws : va_W} {a : Nat} {ref C : String} {T : u_T} {N ci index : Nat} {host : String} (X : CF p m c cc nL s args own) (hC : Cx E s H) (hP : PW E ws H) (hin : ∀ w ∈ u_ws C T N, w ∈ WA) (q0 : Nat) {fs : List Value} (he : ws[q0]? = some (a, .inr (ci, fs))) (hc : vwCl[ci]? = some (C, T, N)) (kf : Nat) (hk : kf < N) (hlink : Cond.fieldLinkNest own index ref (T kf).2.1 (T kf).2.2.1 host ∈ WN) (hsame : ∀ x, s.fieldFound? (T kf).1 (T kf).2.1 (T kf).2.2.1 = some x → s.fieldFound? ref (T kf).2.1 (T kf).2.2.1 = some x) {v : Value} (hv : fs[kf]? = some v) (hdg : decode cc pc = .ok (.getfield index, 3)) (pc' : Nat) (hp : pc + 3 = pc') (kk : V p l e R s m args below meth c Q nL H locs k n pc' L (v :: st)) : V p l e R s m args below meth c Q nL H locs k n pc L (.ref a :: st) := by
  subst hp
  exact fun ls hl => va_getN X.1 X.2.1 X.2.2.2.2 hin X.2.2.2.1 hC.K hP q0 he hc kf hk (hC.nest hlink) hsame hv hdg (kk ls hl)
theorem v_iald {E : Nat → Nat → Nat} {ws : va_W} {a : Nat} (X : CF p m c cc nL s args own) (hC : Cx E s H) (hP : PW E ws H) (q0 : Nat) {N : Nat} {g : Int → Int} (he : ws[q0]? = some (a, .inl (E 102 0, N, .inl (zA g)))) {i : Int} (h0 : 0 ≤ i) (h1 : i < N) (hN : N < 2147483648) (hdg : decode cc pc = .ok (.iaload, 1)) (pc' : Nat) (hp : pc + 1 = pc') (kk : V p l e R s m args below meth c Q nL H locs k n pc' L (.int (zI (g i)) :: st)) : V p l e R s m args below meth c Q nL H locs k n pc L (.int (zI i) :: .ref a :: st) := by
  subst hp
  exact fun ls hl => va_iald X.1 X.2.1 hC.K hP q0 0 he rfl (zI_in h0 h1 hN) hdg (by rw [zA_at h0 (by omega)]; exact kk ls hl)
theorem v_alen {E : Nat → Nat → Nat} {ws : va_W} {a : Nat} (X : CF p m c cc nL s args own) (hC : Cx E s H) (hP : PW E ws H) (q0 t0 : Nat) {cA : ClassId} {x : vp_A} (he : ws[q0]? = some (a, .inl (cA, x))) {ty : FieldType} (ht : (tysA E)[t0]? = some (cA, ty)) (hdg : decode cc pc = .ok (.arraylength, 1)) (pc' : Nat) (hp : pc + 1 = pc') (kk : V p l e R s m args below meth c Q nL H locs k n pc' L (.int (zI x.1) :: st)) : V p l e R s m args below meth c Q nL H locs k n pc L (.ref a :: st) := by
  subst hp
  exact fun ls hl => va_alen X.1 X.2.1 hC.K hP q0 t0 he ht (zI_nat x.1) hdg (kk ls hl)
end ROWS
