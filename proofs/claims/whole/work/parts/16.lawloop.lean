/-! The law's loop. -/
theorem hd_gt {L i : Nat} (hL : L ≤ 2048) (hi : i ≤ 2100) : nI L - 4 < nI i ↔ L < i + 4 := by
  rw [Int32.lt_iff_toInt_lt, show (4 : Int32) = nI 4 from rfl, pk_sub_toInt (by omega) (by decide), nI_toInt (by omega)]
  omega
set_option maxHeartbeats 4000000 in
set_option maxRecDepth 100000 in
theorem law_exit {p : Program} {l : Launch} {e : Env} {s : State} {m : MethodId} {below : List Frame} {meth : Method} {c : Code} {b L : Nat} {xs : Nat → Int32} (C0 : lw_At p s m meth c b L xs) {D : va_G} {x0 x1 x2 x3 x4 x5 : Nat} {r1 r2 r3 r4 r5 : ClassId} {z0 z1 z2 z3 z4 z5 : Nat} {t1 t2 t3 t4 t5 : ClassId} {fw fd fb : Nat → Int32} {lq dz : Nat → Bool} {pw mk : Bool} {lc : Nat} {lf : Option Nat} {cs : Nat} {gw gd gl : Nat → Int32} {dy lg : Nat → Bool} {i : Nat} (hi : L < i + 4) (hi2 : i ≤ L + 3) (hL : L ≤ 2048) {H : Heap} {locs : List Loc} {ls : Array Slot} (hK : va_K D vwCl (LT r1 r2 r3 r4 r5 t1 t2 t3 t4 t5) s) (hP : va_P D vwCl (LW x0 x1 x2 x3 x4 x5 r1 r2 r3 r4 r5 z0 z1 z2 z3 z4 z5 t1 t2 t3 t4 t5 fw fd fb lq dz pw mk lc lf cs gw gd gl dy lg) H) (hD : va_D (fun q : Nat => s.heap.size ≤ q) (LW x0 x1 x2 x3 x4 x5 r1 r2 r3 r4 r5 z0 z1 z2 z3 z4 z5 t1 t2 t3 t4 t5 fw fd fb lq dz pw mk lc lf cs gw gd gl dy lg)) (hS : va_S (fun q : Nat => s.heap.size ≤ q) s.heap H locs) (hl : lv_has ls 4 [(3, .int (nI i)), (2, .ref z0), (1, .ref x0), (0, .ref b)]) : W p l e room_1 s m #[Value.ref b] below meth c H locs 12 2420 (lw_Z below #[Value.ref b] s) (F0 m 18 ls []) := by
  obtain ⟨hx, hb, hr, hml, hown, hts, hXs, hbl, hlocks, hgv⟩ := C0
  have hts : ∀ w ∈ wsL_law, w.before #[Value.ref b] s = true := fun w h => hts w (wsL_law_in w h)
  have hown : s.vm.findClass RL = some m.cls := hown
  have hA : ∀ q : Nat, s.heap.size ≤ q → (fun q : Nat => s.heap.size ≤ q) q := fun _ h => h
  have hbA : ¬ (fun q : Nat => s.heap.size ≤ q) b := Nat.not_le.mpr hbl
  have hP : va_P D vwCl [(x0, .inr (0, [.ref x1, .ref x2, .ref x3, .ref x4, .ref x5, .int (bI pw), .int (bI mk), .int (nI lc), .int (nI (lf.getD 0)), .int (nI cs)])), (x1, .inl (r1, 384, .inl fw)), (x2, .inl (r2, 384, .inl fd)), (x3, .inl (r3, 384, .inl fb)), (x4, .inl (r4, 24, .inl (fun j => bI (dz j)))), (x5, .inl (r5, 24, .inl (fun j => bI (lq j)))), (z0, .inr (1, [.ref z1, .ref z2, .ref z3, .ref z4, .ref z5, .int (bI (!pw)), .int (bI mk), .int (nI lc), .int (lfI lf), .int (nI cs)])), (z1, .inl (t1, 384, .inl gw)), (z2, .inl (t2, 384, .inl gd)), (z3, .inl (t3, 384, .inl gl)), (z4, .inl (t4, 24, .inl (fun j => bI (dy j)))), (z5, .inl (t5, 24, .inl (fun j => bI (lg j))))] H := hP
  have hD : va_D (fun q : Nat => s.heap.size ≤ q) [(x0, .inr (0, [.ref x1, .ref x2, .ref x3, .ref x4, .ref x5, .int (bI pw), .int (bI mk), .int (nI lc), .int (nI (lf.getD 0)), .int (nI cs)])), (x1, .inl (r1, 384, .inl fw)), (x2, .inl (r2, 384, .inl fd)), (x3, .inl (r3, 384, .inl fb)), (x4, .inl (r4, 24, .inl (fun j => bI (dz j)))), (x5, .inl (r5, 24, .inl (fun j => bI (lq j)))), (z0, .inr (1, [.ref z1, .ref z2, .ref z3, .ref z4, .ref z5, .int (bI (!pw)), .int (bI mk), .int (nI lc), .int (lfI lf), .int (nI cs)])), (z1, .inl (t1, 384, .inl gw)), (z2, .inl (t2, 384, .inl gd)), (z3, .inl (t3, 384, .inl gl)), (z4, .inl (t4, 24, .inl (fun j => bI (dy j)))), (z5, .inl (t5, 24, .inl (fun j => bI (lg j))))] := hD
  have hK : va_K D vwCl [(r1, .int), (r2, .int), (r3, .int), (r4, .boolean), (r5, .boolean), (t1, .byte), (t2, .byte), (t3, .byte), (t4, .boolean), (t5, .boolean)] s := hK
  refine lv_iload_n hx hb dL_law_18 rfl (lv_at hl 0 rfl) ?_
  refine lv_aload_n hx hb dL_law_19 rfl (lv_at hl 3 rfl) ?_
  refine va_slen hx hb hXs hbl hbA hS dL_law_20 ?_
  refine tp_as (z := nI L) rfl ?_
  refine lv_iconst (v := 4) hx hb dL_law_21 (by decide) ?_
  refine lv_isub hx hb dL_law_22 ?_
  refine lv_icmp_gt (tgt := 327) hx hb dL_law_23 (by decide) (fun c_1 => ?_) (fun c_1 => ?_)
  · -- T of pc 23
    refine lv_iconst (v := 1) hx hb dL_law_327 (by decide) ?_
    refine va_forget (fun q hq => hS.2.2 q hq) ?_
    exact lw_ret hx hb hr hlocks dL_law_328
  · -- F of pc 23
    exact absurd ((hd_gt hL (by omega)).mpr hi) c_1
set_option maxHeartbeats 4000000 in
set_option maxRecDepth 100000 in
theorem law_head {p : Program} {l : Launch} {e : Env} {s : State} {m : MethodId} {below : List Frame} {meth : Method} {c : Code} {b L : Nat} {xs : Nat → Int32} (C0 : lw_At p s m meth c b L xs) {D : va_G} {x0 x1 x2 x3 x4 x5 : Nat} {r1 r2 r3 r4 r5 : ClassId} {z0 z1 z2 z3 z4 z5 : Nat} {t1 t2 t3 t4 t5 : ClassId} {fw fd fb : Nat → Int32} {lq dz : Nat → Bool} {pw mk : Bool} {lc : Nat} {lf : Option Nat} {cs : Nat} {gw gd gl : Nat → Int32} {dy lg : Nat → Bool} {i : Nat} (hi : i + 4 ≤ L) (hL : L ≤ 2048) {H : Heap} {locs : List Loc} {ls : Array Slot} (hK : va_K D vwCl (LT r1 r2 r3 r4 r5 t1 t2 t3 t4 t5) s) (hP : va_P D vwCl (LW x0 x1 x2 x3 x4 x5 r1 r2 r3 r4 r5 z0 z1 z2 z3 z4 z5 t1 t2 t3 t4 t5 fw fd fb lq dz pw mk lc lf cs gw gd gl dy lg) H) (hD : va_D (fun q : Nat => s.heap.size ≤ q) (LW x0 x1 x2 x3 x4 x5 r1 r2 r3 r4 r5 z0 z1 z2 z3 z4 z5 t1 t2 t3 t4 t5 fw fd fb lq dz pw mk lc lf cs gw gd gl dy lg)) (hS : va_S (fun q : Nat => s.heap.size ≤ q) s.heap H locs) (hl : lv_has ls 4 [(3, .int (nI i)), (2, .ref z0), (1, .ref x0), (0, .ref b)]) (next : W p l e room_1 s m #[Value.ref b] below meth c H locs 12 2420 (lw_Z below #[Value.ref b] s) (F0 m 32 ls [.int (xs i &&& 15)])) : W p l e room_1 s m #[Value.ref b] below meth c H locs 12 2420 (lw_Z below #[Value.ref b] s) (F0 m 18 ls []) := by
  obtain ⟨hx, hb, hr, hml, hown, hts, hXs, hbl, hlocks, hgv⟩ := C0
  have hts : ∀ w ∈ wsL_law, w.before #[Value.ref b] s = true := fun w h => hts w (wsL_law_in w h)
  have hown : s.vm.findClass RL = some m.cls := hown
  have hA : ∀ q : Nat, s.heap.size ≤ q → (fun q : Nat => s.heap.size ≤ q) q := fun _ h => h
  have hbA : ¬ (fun q : Nat => s.heap.size ≤ q) b := Nat.not_le.mpr hbl
  have hP : va_P D vwCl [(x0, .inr (0, [.ref x1, .ref x2, .ref x3, .ref x4, .ref x5, .int (bI pw), .int (bI mk), .int (nI lc), .int (nI (lf.getD 0)), .int (nI cs)])), (x1, .inl (r1, 384, .inl fw)), (x2, .inl (r2, 384, .inl fd)), (x3, .inl (r3, 384, .inl fb)), (x4, .inl (r4, 24, .inl (fun j => bI (dz j)))), (x5, .inl (r5, 24, .inl (fun j => bI (lq j)))), (z0, .inr (1, [.ref z1, .ref z2, .ref z3, .ref z4, .ref z5, .int (bI (!pw)), .int (bI mk), .int (nI lc), .int (lfI lf), .int (nI cs)])), (z1, .inl (t1, 384, .inl gw)), (z2, .inl (t2, 384, .inl gd)), (z3, .inl (t3, 384, .inl gl)), (z4, .inl (t4, 24, .inl (fun j => bI (dy j)))), (z5, .inl (t5, 24, .inl (fun j => bI (lg j))))] H := hP
  have hD : va_D (fun q : Nat => s.heap.size ≤ q) [(x0, .inr (0, [.ref x1, .ref x2, .ref x3, .ref x4, .ref x5, .int (bI pw), .int (bI mk), .int (nI lc), .int (nI (lf.getD 0)), .int (nI cs)])), (x1, .inl (r1, 384, .inl fw)), (x2, .inl (r2, 384, .inl fd)), (x3, .inl (r3, 384, .inl fb)), (x4, .inl (r4, 24, .inl (fun j => bI (dz j)))), (x5, .inl (r5, 24, .inl (fun j => bI (lq j)))), (z0, .inr (1, [.ref z1, .ref z2, .ref z3, .ref z4, .ref z5, .int (bI (!pw)), .int (bI mk), .int (nI lc), .int (lfI lf), .int (nI cs)])), (z1, .inl (t1, 384, .inl gw)), (z2, .inl (t2, 384, .inl gd)), (z3, .inl (t3, 384, .inl gl)), (z4, .inl (t4, 24, .inl (fun j => bI (dy j)))), (z5, .inl (t5, 24, .inl (fun j => bI (lg j))))] := hD
  have hK : va_K D vwCl [(r1, .int), (r2, .int), (r3, .int), (r4, .boolean), (r5, .boolean), (t1, .byte), (t2, .byte), (t3, .byte), (t4, .boolean), (t5, .boolean)] s := hK
  refine lv_iload_n hx hb dL_law_18 rfl (lv_at hl 0 rfl) ?_
  refine lv_aload_n hx hb dL_law_19 rfl (lv_at hl 3 rfl) ?_
  refine va_slen hx hb hXs hbl hbA hS dL_law_20 ?_
  refine tp_as (z := nI L) rfl ?_
  refine lv_iconst (v := 4) hx hb dL_law_21 (by decide) ?_
  refine lv_isub hx hb dL_law_22 ?_
  refine lv_icmp_gt (tgt := 327) hx hb dL_law_23 (by decide) (fun c_1 => ?_) (fun c_1 => ?_)
  · -- T of pc 23
    exact absurd ((hd_gt hL (by omega)).mp c_1) (by omega)
  · -- F of pc 23
    refine lv_aload_n hx hb dL_law_26 rfl (lv_at hl 3 rfl) ?_
    refine lv_iload_n hx hb dL_law_27 rfl (lv_at hl 0 rfl) ?_
    refine va_sld hx hb hXs hbl hbA hS (vp_in_nI (by omega) (by omega)) dL_law_28 ?_
    refine tp_as (z := xs i) (by rw [cl_nI (by omega)]) ?_
    refine lv_bipush (v := 15) hx hb dL_law_29 (by decide) ?_
    refine lv_iand hx hb dL_law_31 ?_
    exact next
set_option maxHeartbeats 4000000 in
set_option maxRecDepth 100000 in
theorem law_loop {p : Program} {l : Launch} {e : Env} {s : State} {m : MethodId} {below : List Frame} {meth : Method} {c : Code} {b L : Nat} {xs : Nat → Int32} (C0 : lw_At p s m meth c b L xs) {D : va_G} {x0 x1 x2 x3 x4 x5 : Nat} {r1 r2 r3 r4 r5 : ClassId} {z0 z1 z2 z3 z4 z5 : Nat} {t1 t2 t3 t4 t5 : ClassId} (hL : L ≤ 2048) : ∀ (n i : Nat), i ≤ L + 3 → L ≤ i + 4 * n → ∀ (fw fd fb : Nat → Int32) (lq dz : Nat → Bool) (pw mk : Bool) (lc : Nat) (lf : Option Nat) (cs : Nat) (gw gd gl : Nat → Int32) (dy lg : Nat → Bool), Rel fw fd fb lq dz pw mk lc lf cs gw gd gl dy lg → ∀ (H : Heap) (locs : List Loc) (ls : Array Slot), va_K D vwCl (LT r1 r2 r3 r4 r5 t1 t2 t3 t4 t5) s → va_P D vwCl (LW x0 x1 x2 x3 x4 x5 r1 r2 r3 r4 r5 z0 z1 z2 z3 z4 z5 t1 t2 t3 t4 t5 fw fd fb lq dz pw mk lc lf cs gw gd gl dy lg) H → va_D (fun q : Nat => s.heap.size ≤ q) (LW x0 x1 x2 x3 x4 x5 r1 r2 r3 r4 r5 z0 z1 z2 z3 z4 z5 t1 t2 t3 t4 t5 fw fd fb lq dz pw mk lc lf cs gw gd gl dy lg) → va_S (fun q : Nat => s.heap.size ≤ q) s.heap H locs → lv_has ls 4 [(3, .int (nI i)), (2, .ref z0), (1, .ref x0), (0, .ref b)] → W p l e room_1 s m #[Value.ref b] below meth c H locs 12 2420 (lw_Z below #[Value.ref b] s) (F0 m 18 ls []) := by
  intro n
  induction n with
  | zero =>
    intro i h1 h2 fw fd fb lq dz pw mk lc lf cs gw gd gl dy lg hR H locs ls hK hP hD hS hl
    exact law_exit C0 (by omega) h1 hL hK hP hD hS hl
  | succ n ih =>
    intro i h1 h2 fw fd fb lq dz pw mk lc lf cs gw gd gl dy lg hR H locs ls hK hP hD hS hl
    rcases Nat.lt_or_ge L (i + 4) with hq | hi
    · exact law_exit C0 hq h1 hL hK hP hD hS hl
    · refine law_head C0 hi hL hK hP hD hS hl ?_
      obtain ⟨hx, hb, hr, hml, hown, hts, hXs, hbl, hlocks, hgv⟩ := id C0
      have nx : ∀ (fw fd fb : Nat → Int32) (lq dz : Nat → Bool) (pw mk : Bool) (lc : Nat) (lf : Option Nat) (cs : Nat) (gw gd gl : Nat → Int32) (dy lg : Nat → Bool), Rel fw fd fb lq dz pw mk lc lf cs gw gd gl dy lg → ∀ (H : Heap) (locs : List Loc), va_P D vwCl (LW x0 x1 x2 x3 x4 x5 r1 r2 r3 r4 r5 z0 z1 z2 z3 z4 z5 t1 t2 t3 t4 t5 fw fd fb lq dz pw mk lc lf cs gw gd gl dy lg) H → va_D (fun q : Nat => s.heap.size ≤ q) (LW x0 x1 x2 x3 x4 x5 r1 r2 r3 r4 r5 z0 z1 z2 z3 z4 z5 t1 t2 t3 t4 t5 fw fd fb lq dz pw mk lc lf cs gw gd gl dy lg) → va_S (fun q : Nat => s.heap.size ≤ q) s.heap H locs → W p l e room_1 s m #[Value.ref b] below meth c H locs 12 2420 (lw_Z below #[Value.ref b] s) (F0 m 321 ls []) := by
        intro fw fd fb lq dz pw mk lc lf cs gw gd gl dy lg hR H locs hP hD hS
        refine lv_iinc (v := nI (i + 4)) (lv' := [(3, .int (nI (i + 4))), (2, .ref z0), (1, .ref x0), (0, .ref b)]) hx hb dL_law_321 hl (k := 0) rfl (nI_add i 4) (by decide) rfl (fun ls hl => ?_)
        refine lv_goto (tgt := 18) hx hb dL_law_324 (by decide) ?_
        exact ih (i + 4) (by omega) (by omega) fw fd fb lq dz pw mk lc lf cs gw gd gl dy lg hR H locs ls hK hP hD hS hl
      obtain ⟨j, hj, ej⟩ := pk_andE (xs i) (m := 15) 4 rfl
      refine tp_as ej ?_
      match j, hj with
      | 0, _ =>
        refine lv_tableIn (tgt := 84) hx hb dL_law_32 (by decide) (by decide) rfl (by decide) ?_
        obtain ⟨fw9, fd9, fb9, lq9, dz9, pw9, mk9, lc9, lf9, cs9, gw9, gd9, gl9, dy9, lg9, a9, hcX, hcM, hR9⟩ := j_write l D x0 x1 x2 x3 x4 x5 r1 r2 r3 r4 r5 z0 z1 z2 z3 z4 z5 t1 t2 t3 t4 t5 fw fd fb lq dz pw mk lc lf cs gw gd gl dy lg hR (xs (i + 1)) (xs (i + 2)) (xs (i + 3))
        exact lc_write C0 hi hL hcX hcM hK hP hD hS hl (fun H locs hP hD hS => nx _ _ _ _ _ _ _ _ _ _ _ _ _ _ _ hR9 H locs hP hD hS)
      | 1, _ =>
        refine lv_tableIn (tgt := 127) hx hb dL_law_32 (by decide) (by decide) rfl (by decide) ?_
        obtain ⟨fw9, fd9, fb9, lq9, dz9, pw9, mk9, lc9, lf9, cs9, gw9, gd9, gl9, dy9, lg9, a9, hcX, hcM, hR9⟩ := j_read l D x0 x1 x2 x3 x4 x5 r1 r2 r3 r4 r5 z0 z1 z2 z3 z4 z5 t1 t2 t3 t4 t5 fw fd fb lq dz pw mk lc lf cs gw gd gl dy lg hR (xs (i + 1)) (xs (i + 2))
        exact lc_read C0 hi hL hcX hcM hK hP hD hS hl (fun H locs hP hD hS => nx _ _ _ _ _ _ _ _ _ _ _ _ _ _ _ hR9 H locs hP hD hS)
      | 2, _ =>
        refine lv_tableIn (tgt := 160) hx hb dL_law_32 (by decide) (by decide) rfl (by decide) ?_
        obtain ⟨fw9, fd9, fb9, lq9, dz9, pw9, mk9, lc9, lf9, cs9, gw9, gd9, gl9, dy9, lg9, a9, hcX, hcM, hR9⟩ := j_disk l D x0 x1 x2 x3 x4 x5 r1 r2 r3 r4 r5 z0 z1 z2 z3 z4 z5 t1 t2 t3 t4 t5 fw fd fb lq dz pw mk lc lf cs gw gd gl dy lg hR (xs (i + 1)) (xs (i + 2))
        exact lc_disk C0 hi hL hcX hcM hK hP hD hS hl (fun H locs hP hD hS => nx _ _ _ _ _ _ _ _ _ _ _ _ _ _ _ hR9 H locs hP hD hS)
      | 3, _ =>
        refine lv_tableIn (tgt := 193) hx hb dL_law_32 (by decide) (by decide) rfl (by decide) ?_
        obtain ⟨fw9, fd9, fb9, lq9, dz9, pw9, mk9, lc9, lf9, cs9, gw9, gd9, gl9, dy9, lg9, a9, hcX, hcM, hR9⟩ := j_dirty l D x0 x1 x2 x3 x4 x5 r1 r2 r3 r4 r5 z0 z1 z2 z3 z4 z5 t1 t2 t3 t4 t5 fw fd fb lq dz pw mk lc lf cs gw gd gl dy lg hR (xs (i + 1))
        exact lc_dirty C0 hi hL hcX hcM hK hP hD hS hl (fun H locs hP hD hS => nx _ _ _ _ _ _ _ _ _ _ _ _ _ _ _ hR9 H locs hP hD hS)
      | 4, _ =>
        refine lv_tableIn (tgt := 216) hx hb dL_law_32 (by decide) (by decide) rfl (by decide) ?_
        obtain ⟨fw9, fd9, fb9, lq9, dz9, pw9, mk9, lc9, lf9, cs9, gw9, gd9, gl9, dy9, lg9, a9, hcX, hcM, hR9⟩ := j_commit l D x0 x1 x2 x3 x4 x5 r1 r2 r3 r4 r5 z0 z1 z2 z3 z4 z5 t1 t2 t3 t4 t5 fw fd fb lq dz pw mk lc lf cs gw gd gl dy lg hR 
        exact lc_commit C0 hi hL hcX hcM hK hP hD hS hl (fun H locs hP hD hS => nx _ _ _ _ _ _ _ _ _ _ _ _ _ _ _ hR9 H locs hP hD hS)
      | 5, _ =>
        refine lv_tableIn (tgt := 229) hx hb dL_law_32 (by decide) (by decide) rfl (by decide) ?_
        obtain ⟨fw9, fd9, fb9, lq9, dz9, pw9, mk9, lc9, lf9, cs9, gw9, gd9, gl9, dy9, lg9, a9, hcX, hcM, hR9⟩ := j_revert l D x0 x1 x2 x3 x4 x5 r1 r2 r3 r4 r5 z0 z1 z2 z3 z4 z5 t1 t2 t3 t4 t5 fw fd fb lq dz pw mk lc lf cs gw gd gl dy lg hR 
        exact lc_revert C0 hi hL hcX hcM hK hP hD hS hl (fun H locs hP hD hS => nx _ _ _ _ _ _ _ _ _ _ _ _ _ _ _ hR9 H locs hP hD hS)
      | 6, _ =>
        refine lv_tableIn (tgt := 242) hx hb dL_law_32 (by decide) (by decide) rfl (by decide) ?_
        obtain ⟨fw9, fd9, fb9, lq9, dz9, pw9, mk9, lc9, lf9, cs9, gw9, gd9, gl9, dy9, lg9, a9, hcX, hcM, hR9⟩ := j_cut l D x0 x1 x2 x3 x4 x5 r1 r2 r3 r4 r5 z0 z1 z2 z3 z4 z5 t1 t2 t3 t4 t5 fw fd fb lq dz pw mk lc lf cs gw gd gl dy lg hR (xs (i + 1)) (xs (i + 2))
        exact lc_cut C0 hi hL hcX hcM hK hP hD hS hl (fun H locs hP hD hS => nx _ _ _ _ _ _ _ _ _ _ _ _ _ _ _ hR9 H locs hP hD hS)
      | 7, _ =>
        refine lv_tableIn (tgt := 275) hx hb dL_law_32 (by decide) (by decide) rfl (by decide) ?_
        obtain ⟨fw9, fd9, fb9, lq9, dz9, pw9, mk9, lc9, lf9, cs9, gw9, gd9, gl9, dy9, lg9, a9, hcX, hcM, hR9⟩ := j_start l D x0 x1 x2 x3 x4 x5 r1 r2 r3 r4 r5 z0 z1 z2 z3 z4 z5 t1 t2 t3 t4 t5 fw fd fb lq dz pw mk lc lf cs gw gd gl dy lg hR (xs (i + 1))
        exact lc_start C0 hi hL hcX hcM hK hP hD hS hl (fun H locs hP hD hS => nx _ _ _ _ _ _ _ _ _ _ _ _ _ _ _ hR9 H locs hP hD hS)
      | 8, _ =>
        refine lv_tableIn (tgt := 298) hx hb dL_law_32 (by decide) (by decide) rfl (by decide) ?_
        obtain ⟨fw9, fd9, fb9, lq9, dz9, pw9, mk9, lc9, lf9, cs9, gw9, gd9, gl9, dy9, lg9, a9, hcX, hcM, hR9⟩ := j_state l D x0 x1 x2 x3 x4 x5 r1 r2 r3 r4 r5 z0 z1 z2 z3 z4 z5 t1 t2 t3 t4 t5 fw fd fb lq dz pw mk lc lf cs gw gd gl dy lg hR (xs (i + 1))
        exact lc_state C0 hi hL hcX hcM hK hP hD hS hl (fun H locs hP hD hS => nx _ _ _ _ _ _ _ _ _ _ _ _ _ _ _ hR9 H locs hP hD hS)
      | j + 9, hj =>
        refine lv_tableOut (tgt := 321) hx hb dL_law_32 (Or.inr (by rw [nI_toInt (by omega)]; omega)) (by decide) ?_
        exact nx _ _ _ _ _ _ _ _ _ _ _ _ _ _ _ hR H locs hP hD hS
