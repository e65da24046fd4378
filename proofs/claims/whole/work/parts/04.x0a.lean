/-! The class: its world, its leaves. -/
abbrev XW (h0 a1 a2 a3 a4 a5 : Nat) (k1 k2 k3 k4 k5 : ClassId) (fw fd fb : Nat → Int32) (lq dz : Nat → Bool) (pw mk : Bool) (lc cu cs : Nat) : va_W := [(h0, .inr (0, [.ref a1, .ref a2, .ref a3, .ref a4, .ref a5, .int (bI pw), .int (bI mk), .int (nI lc), .int (nI cu), .int (nI cs)])), (a1, .inl (k1, 384, .inl fw)), (a2, .inl (k2, 384, .inl fd)), (a3, .inl (k3, 384, .inl fb)), (a4, .inl (k4, 24, .inl (fun j => bI (dz j)))), (a5, .inl (k5, 24, .inl (fun j => bI (lq j))))]
abbrev XT (k1 k2 k3 k4 k5 : ClassId) : List (ClassId × FieldType) := [(k1, .int), (k2, .int), (k3, .int), (k4, .boolean), (k5, .boolean)]
set_option maxHeartbeats 4000000 in
set_option maxRecDepth 100000 in
theorem c0_isBlock (l : Launch) (D : va_G) (x : Int32) : ct_i l yX0_isBlock wsX0_isBlock ({ frames := 0, cells := 0, slots := 0, locals := 0 }) D vwCl [] [.int x] [] [] (bI (ix 24 x).isSome) := by
  refine ct_i.of (cc := cX0_isBlock) (maxL := 1) (ty := .boolean) (by decide) rfl (Nat.le_of_ble_eq_true rfl) (nb_bI _) ?_
  intro p e s m args below meth c ls A Q hx hb hml hts hown hK hP hD hA hS hl hret
  have hown : s.vm.findClass RX0 = some m.cls := hown
  have hl : lv_has ls 1 [(0, .int x)] := hl
  have hP : va_P D vwCl [] s.heap := hP
  have hD : va_D A [] := hD
  refine lv_iload_n hx hb dX0_isBlock_0 rfl (lv_at hl 0 rfl) ?_
  refine lv_if_lt (tgt := 14) hx hb dX0_isBlock_1 (by decide) (fun c_1 => ?_) (fun c_1 => ?_)
  · -- T of pc 1
    refine lv_iconst (v := 0) hx hb dX0_isBlock_14 (by decide) ?_
    exact hret _ _ _ _ _ hP hD hS (by have h9 : nI 24 = 24 := rfl; simp [ix, h9, bI, *]) dX0_isBlock_15
  · -- F of pc 1
    refine lv_iload_n hx hb dX0_isBlock_4 rfl (lv_at hl 0 rfl) ?_
    refine lv_bipush (v := 24) hx hb dX0_isBlock_5 (by decide) ?_
    refine lv_icmp_ge (tgt := 14) hx hb dX0_isBlock_7 (by decide) (fun c_2 => ?_) (fun c_2 => ?_)
    · -- T of pc 7
      refine lv_iconst (v := 0) hx hb dX0_isBlock_14 (by decide) ?_
      exact hret _ _ _ _ _ hP hD hS (by have h9 : nI 24 = 24 := rfl; simp [ix, h9, bI, *]) dX0_isBlock_15
    · -- F of pc 7
      refine lv_iconst (v := 1) hx hb dX0_isBlock_10 (by decide) ?_
      refine lv_goto (tgt := 15) hx hb dX0_isBlock_11 (by decide) ?_
      exact hret _ _ _ _ _ hP hD hS (by have h9 : nI 24 = 24 := rfl; simp [ix, h9, bI, *]) dX0_isBlock_15
set_option maxHeartbeats 4000000 in
set_option maxRecDepth 100000 in
theorem c0_isPlace (l : Launch) (D : va_G) (x : Int32) : ct_i l yX0_isPlace wsX0_isPlace ({ frames := 0, cells := 0, slots := 0, locals := 0 }) D vwCl [] [.int x] [] [] (bI (ix 16 x).isSome) := by
  refine ct_i.of (cc := cX0_isPlace) (maxL := 1) (ty := .boolean) (by decide) rfl (Nat.le_of_ble_eq_true rfl) (nb_bI _) ?_
  intro p e s m args below meth c ls A Q hx hb hml hts hown hK hP hD hA hS hl hret
  have hown : s.vm.findClass RX0 = some m.cls := hown
  have hl : lv_has ls 1 [(0, .int x)] := hl
  have hP : va_P D vwCl [] s.heap := hP
  have hD : va_D A [] := hD
  refine lv_iload_n hx hb dX0_isPlace_0 rfl (lv_at hl 0 rfl) ?_
  refine lv_if_lt (tgt := 14) hx hb dX0_isPlace_1 (by decide) (fun c_1 => ?_) (fun c_1 => ?_)
  · -- T of pc 1
    refine lv_iconst (v := 0) hx hb dX0_isPlace_14 (by decide) ?_
    exact hret _ _ _ _ _ hP hD hS (by have h9 : nI 16 = 16 := rfl; simp [ix, h9, bI, *]) dX0_isPlace_15
  · -- F of pc 1
    refine lv_iload_n hx hb dX0_isPlace_4 rfl (lv_at hl 0 rfl) ?_
    refine lv_bipush (v := 16) hx hb dX0_isPlace_5 (by decide) ?_
    refine lv_icmp_ge (tgt := 14) hx hb dX0_isPlace_7 (by decide) (fun c_2 => ?_) (fun c_2 => ?_)
    · -- T of pc 7
      refine lv_iconst (v := 0) hx hb dX0_isPlace_14 (by decide) ?_
      exact hret _ _ _ _ _ hP hD hS (by have h9 : nI 16 = 16 := rfl; simp [ix, h9, bI, *]) dX0_isPlace_15
    · -- F of pc 7
      refine lv_iconst (v := 1) hx hb dX0_isPlace_10 (by decide) ?_
      refine lv_goto (tgt := 15) hx hb dX0_isPlace_11 (by decide) ?_
      exact hret _ _ _ _ _ hP hD hS (by have h9 : nI 16 = 16 := rfl; simp [ix, h9, bI, *]) dX0_isPlace_15
theorem dz_f {b : Bool} (h : bI b = 0) : b = false := by cases b with | false => rfl | true => exact absurd h (by decide)
theorem dz_t {b : Bool} (h : ¬ bI b = 0) : b = true := by cases b with | true => rfl | false => exact absurd rfl h
set_option maxHeartbeats 4000000 in
set_option maxRecDepth 100000 in
theorem c0_countWritten (l : Launch) (D : va_G) (h0 a1 a2 a3 a4 a5 : Nat) (k1 k2 k3 k4 k5 : ClassId) (fw fd fb : Nat → Int32) (lq dz : Nat → Bool) (pw mk : Bool) (lc cu cs : Nat) : ct_i l yX0_countWritten wsX0_countWritten ({ frames := 0, cells := 0, slots := 0, locals := 0 }) D vwCl (XT k1 k2 k3 k4 k5) [.ref h0] (XW h0 a1 a2 a3 a4 a5 k1 k2 k3 k4 k5 fw fd fb lq dz pw mk lc cu cs) (XW h0 a1 a2 a3 a4 a5 k1 k2 k3 k4 k5 fw fd fb lq dz pw mk lc cu cs) (nI (cnt dz 24)) := by
  refine ct_i.of (cc := cX0_countWritten) (maxL := 3) (ty := .int) (by decide) rfl (Nat.le_of_ble_eq_true rfl) rfl ?_
  intro p e s m args below meth c ls A Q hx hb hml hts hown hK hP hD hA hS hl hret
  have hown : s.vm.findClass RX0 = some m.cls := hown
  have hl : lv_has ls 3 [(0, .ref h0)] := hl
  have hP : va_P D vwCl [(h0, .inr (0, [.ref a1, .ref a2, .ref a3, .ref a4, .ref a5, .int (bI pw), .int (bI mk), .int (nI lc), .int (nI cu), .int (nI cs)])), (a1, .inl (k1, 384, .inl fw)), (a2, .inl (k2, 384, .inl fd)), (a3, .inl (k3, 384, .inl fb)), (a4, .inl (k4, 24, .inl (fun j => bI (dz j)))), (a5, .inl (k5, 24, .inl (fun j => bI (lq j))))] s.heap := hP
  have hD : va_D A [(h0, .inr (0, [.ref a1, .ref a2, .ref a3, .ref a4, .ref a5, .int (bI pw), .int (bI mk), .int (nI lc), .int (nI cu), .int (nI cs)])), (a1, .inl (k1, 384, .inl fw)), (a2, .inl (k2, 384, .inl fd)), (a3, .inl (k3, 384, .inl fb)), (a4, .inl (k4, 24, .inl (fun j => bI (dz j)))), (a5, .inl (k5, 24, .inl (fun j => bI (lq j))))] := hD
  refine lv_iconst (v := 0) hx hb dX0_countWritten_0 (by decide) ?_
  refine lv_istore_n (lv' := [(1, .int 0), (0, .ref h0)]) hx hb dX0_countWritten_1 rfl hl (by decide) rfl (fun ls hl => ?_)
  refine lv_iconst (v := 0) hx hb dX0_countWritten_2 (by decide) ?_
  refine lv_istore_n (lv' := [(2, .int 0), (1, .int 0), (0, .ref h0)]) hx hb dX0_countWritten_3 rfl hl (by decide) rfl (fun ls hl => ?_)
  have loop : ∀ (n k : Nat), k + n = 24 → ∀ (ls : Array Slot) (H : Heap) (locs : List Loc), lv_has ls 3 [(2, .int (nI k)), (1, .int (nI (cnt dz k))), (0, .ref h0)] → va_P D vwCl [(h0, .inr (0, [.ref a1, .ref a2, .ref a3, .ref a4, .ref a5, .int (bI pw), .int (bI mk), .int (nI lc), .int (nI cu), .int (nI cs)])), (a1, .inl (k1, 384, .inl fw)), (a2, .inl (k2, 384, .inl fd)), (a3, .inl (k3, 384, .inl fb)), (a4, .inl (k4, 24, .inl (fun j => bI (dz j)))), (a5, .inl (k5, 24, .inl (fun j => bI (lq j))))] H → va_D A [(h0, .inr (0, [.ref a1, .ref a2, .ref a3, .ref a4, .ref a5, .int (bI pw), .int (bI mk), .int (nI lc), .int (nI cu), .int (nI cs)])), (a1, .inl (k1, 384, .inl fw)), (a2, .inl (k2, 384, .inl fd)), (a3, .inl (k3, 384, .inl fb)), (a4, .inl (k4, 24, .inl (fun j => bI (dz j)))), (a5, .inl (k5, 24, .inl (fun j => bI (lq j))))] → va_S A s.heap H locs → W p l e ({ frames := 0, cells := 0, slots := 0, locals := 0 }) s m args below meth c H locs 0 0 Q (F0 m 4 ls []) := by
    intro n
    induction n with
    | zero =>
      intro k hk ls H locs hl hP hD hS
      obtain rfl : k = 24 := by omega
      refine lv_iload_n hx hb dX0_countWritten_4 rfl (lv_at hl 0 rfl) ?_
      refine lv_bipush (v := 24) hx hb dX0_countWritten_5 (by decide) ?_
      refine lv_icmp_ge (tgt := 28) hx hb dX0_countWritten_7 (by decide) (fun c_1 => ?_) (fun c_1 => ?_)
      · -- T of pc 7
        refine lv_iload_n hx hb dX0_countWritten_28 rfl (lv_at hl 1 rfl) ?_
        exact hret _ _ _ _ _ hP hD hS rfl dX0_countWritten_29
      · -- F of pc 7
        exact absurd (by decide) c_1
    | succ n ih =>
      intro k hk ls H locs hl hP hD hS
      refine lv_iload_n hx hb dX0_countWritten_4 rfl (lv_at hl 0 rfl) ?_
      refine lv_bipush (v := 24) hx hb dX0_countWritten_5 (by decide) ?_
      refine lv_icmp_ge (tgt := 28) hx hb dX0_countWritten_7 (by decide) (fun c_2 => ?_) (fun c_2 => ?_)
      · -- T of pc 7
        exact absurd c_2 (show ¬ nI 24 ≤ nI k from nI_ge (by omega) (by decide))
      · -- F of pc 7
        refine lv_aload_n hx hb dX0_countWritten_10 rfl (lv_at hl 2 rfl) ?_
        refine va_get (ci := 0) (v := .ref a4) (C := RX0) (T := TX0) (N := 10) hx hb hts (by decide +kernel) hown hK hP 0 rfl rfl 3 (by decide) (hts (.fieldLink RX0 19 "CommitLog" "written" "[Z") (by decide +kernel)) (fun _ h9 => h9) rfl dX0_countWritten_11 ?_
        refine lv_iload_n hx hb dX0_countWritten_14 rfl (lv_at hl 0 rfl) ?_
        refine va_zald hx hb hK hP 4 3 rfl rfl (vp_in_nI (by omega) (by decide)) dX0_countWritten_15 ?_
        refine tp_as (z := bI (dz k)) (by show bI (dz (nI k).toNatClampNeg) = _; rw [cl_nI (by omega)]) ?_
        refine lv_if_eq (tgt := 22) hx hb dX0_countWritten_16 (by decide) (fun c_3 => ?_) (fun c_3 => ?_)
        · -- T of pc 16
          have e1 : cnt dz (k + 1) = cnt dz k := by simp [cnt, dz_f c_3]
          rw [← e1] at hl
          have hl : lv_has ls 3 [(2, .int (nI k)), (1, .int (nI (cnt dz (k + 1)))), (0, .ref h0)] := hl
          refine lv_iinc (v := (nI (k + 1))) (lv' := [(2, .int (nI (k + 1))), (1, .int (nI (cnt dz (k + 1)))), (0, .ref h0)]) hx hb dX0_countWritten_22 hl (k := 0) rfl (nI_1 _) (by decide) rfl (fun ls hl => ?_)
          refine lv_goto (tgt := 4) hx hb dX0_countWritten_25 (by decide) ?_
          exact ih (k + 1) (by omega) ls H locs (lv_sub hl [0, 1, 2] rfl) hP hD hS
        · -- F of pc 16
          have e1 : cnt dz (k + 1) = cnt dz k + 1 := by simp [cnt, dz_t c_3]
          refine lv_iinc (v := (nI (cnt dz (k + 1)))) (lv' := [(1, .int (nI (cnt dz (k + 1)))), (2, .int (nI k)), (0, .ref h0)]) hx hb dX0_countWritten_19 hl (k := 1) rfl (by rw [e1]; exact nI_1 _) (by decide) rfl (fun ls hl => ?_)
          refine lv_iinc (v := (nI (k + 1))) (lv' := [(2, .int (nI (k + 1))), (1, .int (nI (cnt dz (k + 1)))), (0, .ref h0)]) hx hb dX0_countWritten_22 hl (k := 1) rfl (nI_1 _) (by decide) rfl (fun ls hl => ?_)
          refine lv_goto (tgt := 4) hx hb dX0_countWritten_25 (by decide) ?_
          exact ih (k + 1) (by omega) ls H locs (lv_sub hl [0, 1, 2] rfl) hP hD hS
  exact loop 24 0 rfl ls _ _ (lv_sub hl [0, 1, 2] rfl) hP hD hS
set_option maxHeartbeats 4000000 in
set_option maxRecDepth 100000 in
theorem c0_clearWritten (l : Launch) (D : va_G) (h0 a1 a2 a3 a4 a5 : Nat) (k1 k2 k3 k4 k5 : ClassId) (fw fd fb : Nat → Int32) (lq dz : Nat → Bool) (pw mk : Bool) (lc cu cs : Nat) : ct_v l yX0_clearWritten wsX0_clearWritten ({ frames := 0, cells := 0, slots := 0, locals := 0 }) D vwCl (XT k1 k2 k3 k4 k5) [.ref h0] (XW h0 a1 a2 a3 a4 a5 k1 k2 k3 k4 k5 fw fd fb lq dz pw mk lc cu cs) (XW h0 a1 a2 a3 a4 a5 k1 k2 k3 k4 k5 fw fd fb lq (clr dz 24) pw mk lc cu cs) := by
  refine ct_v.of (cc := cX0_clearWritten) (maxL := 2) (by decide) rfl (Nat.le_of_ble_eq_true rfl) ?_
  intro p e s m args below meth c ls A Q hx hb hml hts hown hK hP hD hA hS hl hret
  have hown : s.vm.findClass RX0 = some m.cls := hown
  have hl : lv_has ls 2 [(0, .ref h0)] := hl
  have hP : va_P D vwCl [(h0, .inr (0, [.ref a1, .ref a2, .ref a3, .ref a4, .ref a5, .int (bI pw), .int (bI mk), .int (nI lc), .int (nI cu), .int (nI cs)])), (a1, .inl (k1, 384, .inl fw)), (a2, .inl (k2, 384, .inl fd)), (a3, .inl (k3, 384, .inl fb)), (a4, .inl (k4, 24, .inl (fun j => bI (dz j)))), (a5, .inl (k5, 24, .inl (fun j => bI (lq j))))] s.heap := hP
  have hD : va_D A [(h0, .inr (0, [.ref a1, .ref a2, .ref a3, .ref a4, .ref a5, .int (bI pw), .int (bI mk), .int (nI lc), .int (nI cu), .int (nI cs)])), (a1, .inl (k1, 384, .inl fw)), (a2, .inl (k2, 384, .inl fd)), (a3, .inl (k3, 384, .inl fb)), (a4, .inl (k4, 24, .inl (fun j => bI (dz j)))), (a5, .inl (k5, 24, .inl (fun j => bI (lq j))))] := hD
  refine lv_iconst (v := 0) hx hb dX0_clearWritten_0 (by decide) ?_
  refine lv_istore_n (lv' := [(1, .int 0), (0, .ref h0)]) hx hb dX0_clearWritten_1 rfl hl (by decide) rfl (fun ls hl => ?_)
  have loop : ∀ (n k : Nat), k + n = 24 → ∀ (ls : Array Slot) (H : Heap) (locs : List Loc), lv_has ls 2 [(1, .int (nI k)), (0, .ref h0)] → va_P D vwCl [(h0, .inr (0, [.ref a1, .ref a2, .ref a3, .ref a4, .ref a5, .int (bI pw), .int (bI mk), .int (nI lc), .int (nI cu), .int (nI cs)])), (a1, .inl (k1, 384, .inl fw)), (a2, .inl (k2, 384, .inl fd)), (a3, .inl (k3, 384, .inl fb)), (a4, .inl (k4, 24, .inl (fun j => bI (clr dz k j)))), (a5, .inl (k5, 24, .inl (fun j => bI (lq j))))] H → va_D A [(h0, .inr (0, [.ref a1, .ref a2, .ref a3, .ref a4, .ref a5, .int (bI pw), .int (bI mk), .int (nI lc), .int (nI cu), .int (nI cs)])), (a1, .inl (k1, 384, .inl fw)), (a2, .inl (k2, 384, .inl fd)), (a3, .inl (k3, 384, .inl fb)), (a4, .inl (k4, 24, .inl (fun j => bI (clr dz k j)))), (a5, .inl (k5, 24, .inl (fun j => bI (lq j))))] → va_S A s.heap H locs → W p l e ({ frames := 0, cells := 0, slots := 0, locals := 0 }) s m args below meth c H locs 0 0 Q (F0 m 2 ls []) := by
    intro n
    induction n with
    | zero =>
      intro k hk ls H locs hl hP hD hS
      obtain rfl : k = 24 := by omega
      refine lv_iload_n hx hb dX0_clearWritten_2 rfl (lv_at hl 0 rfl) ?_
      refine lv_bipush (v := 24) hx hb dX0_clearWritten_3 (by decide) ?_
      refine lv_icmp_ge (tgt := 21) hx hb dX0_clearWritten_5 (by decide) (fun c_1 => ?_) (fun c_1 => ?_)
      · -- T of pc 5
        exact hret _ _ _ _ hP hD hS dX0_clearWritten_21
      · -- F of pc 5
        exact absurd (by decide) c_1
    | succ n ih =>
      intro k hk ls H locs hl hP hD hS
      refine lv_iload_n hx hb dX0_clearWritten_2 rfl (lv_at hl 0 rfl) ?_
      refine lv_bipush (v := 24) hx hb dX0_clearWritten_3 (by decide) ?_
      refine lv_icmp_ge (tgt := 21) hx hb dX0_clearWritten_5 (by decide) (fun c_2 => ?_) (fun c_2 => ?_)
      · -- T of pc 5
        exact absurd c_2 (show ¬ nI 24 ≤ nI k from nI_ge (by omega) (by decide))
      · -- F of pc 5
        refine lv_aload_n hx hb dX0_clearWritten_8 rfl (lv_at hl 1 rfl) ?_
        refine va_get (ci := 0) (v := .ref a4) (C := RX0) (T := TX0) (N := 10) hx hb hts (by decide +kernel) hown hK hP 0 rfl rfl 3 (by decide) (hts (.fieldLink RX0 19 "CommitLog" "written" "[Z") (by decide +kernel)) (fun _ h9 => h9) rfl dX0_clearWritten_9 ?_
        refine lv_iload_n hx hb dX0_clearWritten_12 rfl (lv_at hl 0 rfl) ?_
        refine lv_iconst (v := 0) hx hb dX0_clearWritten_13 (by decide) ?_
        refine va_zast hx hb hK hP hD hS 4 3 rfl rfl (vp_in_nI (by omega) (by decide)) dX0_clearWritten_14 (fun H locs hP hD hS => ?_)
        rw [cl_nI (show k < 2 ^ 31 by omega), show vp_nar .boolean 0 = bI false from rfl, up_bI, clr_s] at hP hD
        have hP : va_P D vwCl [(h0, .inr (0, [.ref a1, .ref a2, .ref a3, .ref a4, .ref a5, .int (bI pw), .int (bI mk), .int (nI lc), .int (nI cu), .int (nI cs)])), (a1, .inl (k1, 384, .inl fw)), (a2, .inl (k2, 384, .inl fd)), (a3, .inl (k3, 384, .inl fb)), (a4, .inl (k4, 24, .inl (fun j => bI (clr dz (k + 1) j)))), (a5, .inl (k5, 24, .inl (fun j => bI (lq j))))] H := hP
        have hD : va_D _ [(h0, .inr (0, [.ref a1, .ref a2, .ref a3, .ref a4, .ref a5, .int (bI pw), .int (bI mk), .int (nI lc), .int (nI cu), .int (nI cs)])), (a1, .inl (k1, 384, .inl fw)), (a2, .inl (k2, 384, .inl fd)), (a3, .inl (k3, 384, .inl fb)), (a4, .inl (k4, 24, .inl (fun j => bI (clr dz (k + 1) j)))), (a5, .inl (k5, 24, .inl (fun j => bI (lq j))))] := hD
        refine lv_iinc (v := (nI (k + 1))) (lv' := [(1, .int (nI (k + 1))), (0, .ref h0)]) hx hb dX0_clearWritten_15 hl (k := 0) rfl (nI_1 _) (by decide) rfl (fun ls hl => ?_)
        refine lv_goto (tgt := 2) hx hb dX0_clearWritten_18 (by decide) ?_
        exact ih (k + 1) (by omega) ls H locs (lv_sub hl [0, 1] rfl) hP hD hS
  exact loop 24 0 rfl ls _ _ (lv_sub hl [0, 1] rfl) (by rw [clr_0]; exact hP) (by rw [clr_0]; exact hD) hS
set_option maxHeartbeats 4000000 in
set_option maxRecDepth 100000 in
theorem c0_takeShare (l : Launch) (D : va_G) (h0 a1 a2 a3 a4 a5 : Nat) (k1 k2 k3 k4 k5 : ClassId) (fw fd fb : Nat → Int32) (lq dz : Nat → Bool) (pw mk : Bool) (lc cu cs : Nat) (hcu : cu ≤ 1000) : ct_i l yX0_takeShareOfThisCommit wsX0_takeShareOfThisCommit ({ frames := 0, cells := 0, slots := 0, locals := 0 }) D vwCl (XT k1 k2 k3 k4 k5) [.ref h0] (XW h0 a1 a2 a3 a4 a5 k1 k2 k3 k4 k5 fw fd fb lq dz pw mk lc cu cs) (XW h0 a1 a2 a3 a4 a5 k1 k2 k3 k4 k5 fw fd fb lq dz pw mk lc (cu - 1) cs) (nI (tkS cu cs)) := by
  match cu with
  | 0 =>
    have e9 : tkS 0 cs = 1000 := rfl
    rw [e9]
    refine ct_i.of (cc := cX0_takeShareOfThisCommit) (maxL := 1) (ty := .int) (by decide) rfl (Nat.le_of_ble_eq_true rfl) rfl ?_
    intro p e s m args below meth c ls A Q hx hb hml hts hown hK hP hD hA hS hl hret
    have hown : s.vm.findClass RX0 = some m.cls := hown
    have hl : lv_has ls 1 [(0, .ref h0)] := hl
    have hP : va_P D vwCl [(h0, .inr (0, [.ref a1, .ref a2, .ref a3, .ref a4, .ref a5, .int (bI pw), .int (bI mk), .int (nI lc), .int (nI 0), .int (nI cs)])), (a1, .inl (k1, 384, .inl fw)), (a2, .inl (k2, 384, .inl fd)), (a3, .inl (k3, 384, .inl fb)), (a4, .inl (k4, 24, .inl (fun j => bI (dz j)))), (a5, .inl (k5, 24, .inl (fun j => bI (lq j))))] s.heap := hP
    have hD : va_D A [(h0, .inr (0, [.ref a1, .ref a2, .ref a3, .ref a4, .ref a5, .int (bI pw), .int (bI mk), .int (nI lc), .int (nI 0), .int (nI cs)])), (a1, .inl (k1, 384, .inl fw)), (a2, .inl (k2, 384, .inl fd)), (a3, .inl (k3, 384, .inl fb)), (a4, .inl (k4, 24, .inl (fun j => bI (dz j)))), (a5, .inl (k5, 24, .inl (fun j => bI (lq j))))] := hD
    refine lv_aload_n hx hb dX0_takeShareOfThisCommit_0 rfl (lv_at hl 0 rfl) ?_
    refine va_get (ci := 0) (v := .int (nI 0)) (C := RX0) (T := TX0) (N := 10) hx hb hts (by decide +kernel) hown hK hP 0 rfl rfl 8 (by decide) (hts (.fieldLink RX0 37 "CommitLog" "commitsUntilCut" "I") (by decide +kernel)) (fun _ h9 => h9) rfl dX0_takeShareOfThisCommit_1 ?_
    refine lv_if_ne (tgt := 11) hx hb dX0_takeShareOfThisCommit_4 (by decide) (fun c_1 => ?_) (fun c_1 => ?_)
    · -- T of pc 4
      exact absurd rfl c_1
    · -- F of pc 4
      refine lv_sipush (v := 1000) hx hb dX0_takeShareOfThisCommit_7 (by decide) ?_
      exact hret _ _ _ _ _ hP hD hS rfl dX0_takeShareOfThisCommit_10
  | 1 =>
    have e9 : tkS 1 cs = cs := by simp [tkS]
    rw [e9]
    refine ct_i.of (cc := cX0_takeShareOfThisCommit) (maxL := 1) (ty := .int) (by decide) rfl (Nat.le_of_ble_eq_true rfl) rfl ?_
    intro p e s m args below meth c ls A Q hx hb hml hts hown hK hP hD hA hS hl hret
    have hown : s.vm.findClass RX0 = some m.cls := hown
    have hl : lv_has ls 1 [(0, .ref h0)] := hl
    have hP : va_P D vwCl [(h0, .inr (0, [.ref a1, .ref a2, .ref a3, .ref a4, .ref a5, .int (bI pw), .int (bI mk), .int (nI lc), .int (nI 1), .int (nI cs)])), (a1, .inl (k1, 384, .inl fw)), (a2, .inl (k2, 384, .inl fd)), (a3, .inl (k3, 384, .inl fb)), (a4, .inl (k4, 24, .inl (fun j => bI (dz j)))), (a5, .inl (k5, 24, .inl (fun j => bI (lq j))))] s.heap := hP
    have hD : va_D A [(h0, .inr (0, [.ref a1, .ref a2, .ref a3, .ref a4, .ref a5, .int (bI pw), .int (bI mk), .int (nI lc), .int (nI 1), .int (nI cs)])), (a1, .inl (k1, 384, .inl fw)), (a2, .inl (k2, 384, .inl fd)), (a3, .inl (k3, 384, .inl fb)), (a4, .inl (k4, 24, .inl (fun j => bI (dz j)))), (a5, .inl (k5, 24, .inl (fun j => bI (lq j))))] := hD
    refine lv_aload_n hx hb dX0_takeShareOfThisCommit_0 rfl (lv_at hl 0 rfl) ?_
    refine va_get (ci := 0) (v := .int (nI 1)) (C := RX0) (T := TX0) (N := 10) hx hb hts (by decide +kernel) hown hK hP 0 rfl rfl 8 (by decide) (hts (.fieldLink RX0 37 "CommitLog" "commitsUntilCut" "I") (by decide +kernel)) (fun _ h9 => h9) rfl dX0_takeShareOfThisCommit_1 ?_
    refine lv_if_ne (tgt := 11) hx hb dX0_takeShareOfThisCommit_4 (by decide) (fun c_1 => ?_) (fun c_1 => ?_)
    · -- T of pc 4
      refine lv_aload_n hx hb dX0_takeShareOfThisCommit_11 rfl (lv_at hl 0 rfl) ?_
      refine lv_dup hx hb dX0_takeShareOfThisCommit_12 rfl ?_
      refine va_get (ci := 0) (v := .int (nI 1)) (C := RX0) (T := TX0) (N := 10) hx hb hts (by decide +kernel) hown hK hP 0 rfl rfl 8 (by decide) (hts (.fieldLink RX0 37 "CommitLog" "commitsUntilCut" "I") (by decide +kernel)) (fun _ h9 => h9) rfl dX0_takeShareOfThisCommit_13 ?_
      refine lv_iconst (v := 1) hx hb dX0_takeShareOfThisCommit_16 (by decide) ?_
      refine lv_isub hx hb dX0_takeShareOfThisCommit_17 ?_
      refine tp_as (z := nI 0) rfl ?_
      refine va_put (ci := 0) (v := .int (nI 0)) (ty := .int) (C := RX0) (T := TX0) (N := 10) hx hb hts (by decide +kernel) tyX0 tyX0_ok nmX0 hown hK hP hD hS 0 rfl rfl 8 (by decide) (hts (.fieldLink RX0 37 "CommitLog" "commitsUntilCut" "I") (by decide +kernel)) (fun _ h9 => h9) rfl (by decide +kernel) rfl rfl (Nat.le_of_ble_eq_true rfl) dX0_takeShareOfThisCommit_18 (fun H locs hP hD hS => ?_)
      have hP : va_P D vwCl [(h0, .inr (0, [.ref a1, .ref a2, .ref a3, .ref a4, .ref a5, .int (bI pw), .int (bI mk), .int (nI lc), .int (nI 0), .int (nI cs)])), (a1, .inl (k1, 384, .inl fw)), (a2, .inl (k2, 384, .inl fd)), (a3, .inl (k3, 384, .inl fb)), (a4, .inl (k4, 24, .inl (fun j => bI (dz j)))), (a5, .inl (k5, 24, .inl (fun j => bI (lq j))))] H := hP
      have hD : va_D _ [(h0, .inr (0, [.ref a1, .ref a2, .ref a3, .ref a4, .ref a5, .int (bI pw), .int (bI mk), .int (nI lc), .int (nI 0), .int (nI cs)])), (a1, .inl (k1, 384, .inl fw)), (a2, .inl (k2, 384, .inl fd)), (a3, .inl (k3, 384, .inl fb)), (a4, .inl (k4, 24, .inl (fun j => bI (dz j)))), (a5, .inl (k5, 24, .inl (fun j => bI (lq j))))] := hD
      refine lv_aload_n hx hb dX0_takeShareOfThisCommit_21 rfl (lv_at hl 0 rfl) ?_
      refine va_get (ci := 0) (v := .int (nI 0)) (C := RX0) (T := TX0) (N := 10) hx hb hts (by decide +kernel) hown hK hP 0 rfl rfl 8 (by decide) (hts (.fieldLink RX0 37 "CommitLog" "commitsUntilCut" "I") (by decide +kernel)) (fun _ h9 => h9) rfl dX0_takeShareOfThisCommit_22 ?_
      refine lv_if_ne (tgt := 35) hx hb dX0_takeShareOfThisCommit_25 (by decide) (fun c_2 => ?_) (fun c_2 => ?_)
      · -- T of pc 25
        exact absurd rfl c_2
      · -- F of pc 25
        refine lv_aload_n hx hb dX0_takeShareOfThisCommit_28 rfl (lv_at hl 0 rfl) ?_
        refine va_get (ci := 0) (v := .int (nI cs)) (C := RX0) (T := TX0) (N := 10) hx hb hts (by decide +kernel) hown hK hP 0 rfl rfl 9 (by decide) (hts (.fieldLink RX0 40 "CommitLog" "cutShare" "I") (by decide +kernel)) (fun _ h9 => h9) rfl dX0_takeShareOfThisCommit_29 ?_
        refine lv_goto (tgt := 38) hx hb dX0_takeShareOfThisCommit_32 (by decide) ?_
        exact hret _ _ _ _ _ hP hD hS rfl dX0_takeShareOfThisCommit_38
    · -- F of pc 4
      exact absurd c_1 (by decide)
  | k + 2 =>
    have e9 : tkS (k + 2) cs = 1000 := by simp [tkS]
    rw [e9]
    refine ct_i.of (cc := cX0_takeShareOfThisCommit) (maxL := 1) (ty := .int) (by decide) rfl (Nat.le_of_ble_eq_true rfl) rfl ?_
    intro p e s m args below meth c ls A Q hx hb hml hts hown hK hP hD hA hS hl hret
    have hown : s.vm.findClass RX0 = some m.cls := hown
    have hl : lv_has ls 1 [(0, .ref h0)] := hl
    have hP : va_P D vwCl [(h0, .inr (0, [.ref a1, .ref a2, .ref a3, .ref a4, .ref a5, .int (bI pw), .int (bI mk), .int (nI lc), .int (nI (k + 2)), .int (nI cs)])), (a1, .inl (k1, 384, .inl fw)), (a2, .inl (k2, 384, .inl fd)), (a3, .inl (k3, 384, .inl fb)), (a4, .inl (k4, 24, .inl (fun j => bI (dz j)))), (a5, .inl (k5, 24, .inl (fun j => bI (lq j))))] s.heap := hP
    have hD : va_D A [(h0, .inr (0, [.ref a1, .ref a2, .ref a3, .ref a4, .ref a5, .int (bI pw), .int (bI mk), .int (nI lc), .int (nI (k + 2)), .int (nI cs)])), (a1, .inl (k1, 384, .inl fw)), (a2, .inl (k2, 384, .inl fd)), (a3, .inl (k3, 384, .inl fb)), (a4, .inl (k4, 24, .inl (fun j => bI (dz j)))), (a5, .inl (k5, 24, .inl (fun j => bI (lq j))))] := hD
    refine lv_aload_n hx hb dX0_takeShareOfThisCommit_0 rfl (lv_at hl 0 rfl) ?_
    refine va_get (ci := 0) (v := .int (nI (k + 2))) (C := RX0) (T := TX0) (N := 10) hx hb hts (by decide +kernel) hown hK hP 0 rfl rfl 8 (by decide) (hts (.fieldLink RX0 37 "CommitLog" "commitsUntilCut" "I") (by decide +kernel)) (fun _ h9 => h9) rfl dX0_takeShareOfThisCommit_1 ?_
    refine lv_if_ne (tgt := 11) hx hb dX0_takeShareOfThisCommit_4 (by decide) (fun c_1 => ?_) (fun c_1 => ?_)
    · -- T of pc 4
      refine lv_aload_n hx hb dX0_takeShareOfThisCommit_11 rfl (lv_at hl 0 rfl) ?_
      refine lv_dup hx hb dX0_takeShareOfThisCommit_12 rfl ?_
      refine va_get (ci := 0) (v := .int (nI (k + 2))) (C := RX0) (T := TX0) (N := 10) hx hb hts (by decide +kernel) hown hK hP 0 rfl rfl 8 (by decide) (hts (.fieldLink RX0 37 "CommitLog" "commitsUntilCut" "I") (by decide +kernel)) (fun _ h9 => h9) rfl dX0_takeShareOfThisCommit_13 ?_
      refine lv_iconst (v := 1) hx hb dX0_takeShareOfThisCommit_16 (by decide) ?_
      refine lv_isub hx hb dX0_takeShareOfThisCommit_17 ?_
      refine tp_as (z := nI (k + 1)) (nI_pred _) ?_
      refine va_put (ci := 0) (v := .int (nI (k + 1))) (ty := .int) (C := RX0) (T := TX0) (N := 10) hx hb hts (by decide +kernel) tyX0 tyX0_ok nmX0 hown hK hP hD hS 0 rfl rfl 8 (by decide) (hts (.fieldLink RX0 37 "CommitLog" "commitsUntilCut" "I") (by decide +kernel)) (fun _ h9 => h9) rfl (by decide +kernel) rfl rfl (Nat.le_of_ble_eq_true rfl) dX0_takeShareOfThisCommit_18 (fun H locs hP hD hS => ?_)
      have hP : va_P D vwCl [(h0, .inr (0, [.ref a1, .ref a2, .ref a3, .ref a4, .ref a5, .int (bI pw), .int (bI mk), .int (nI lc), .int (nI (k + 1)), .int (nI cs)])), (a1, .inl (k1, 384, .inl fw)), (a2, .inl (k2, 384, .inl fd)), (a3, .inl (k3, 384, .inl fb)), (a4, .inl (k4, 24, .inl (fun j => bI (dz j)))), (a5, .inl (k5, 24, .inl (fun j => bI (lq j))))] H := hP
      have hD : va_D _ [(h0, .inr (0, [.ref a1, .ref a2, .ref a3, .ref a4, .ref a5, .int (bI pw), .int (bI mk), .int (nI lc), .int (nI (k + 1)), .int (nI cs)])), (a1, .inl (k1, 384, .inl fw)), (a2, .inl (k2, 384, .inl fd)), (a3, .inl (k3, 384, .inl fb)), (a4, .inl (k4, 24, .inl (fun j => bI (dz j)))), (a5, .inl (k5, 24, .inl (fun j => bI (lq j))))] := hD
      refine lv_aload_n hx hb dX0_takeShareOfThisCommit_21 rfl (lv_at hl 0 rfl) ?_
      refine va_get (ci := 0) (v := .int (nI (k + 1))) (C := RX0) (T := TX0) (N := 10) hx hb hts (by decide +kernel) hown hK hP 0 rfl rfl 8 (by decide) (hts (.fieldLink RX0 37 "CommitLog" "commitsUntilCut" "I") (by decide +kernel)) (fun _ h9 => h9) rfl dX0_takeShareOfThisCommit_22 ?_
      refine lv_if_ne (tgt := 35) hx hb dX0_takeShareOfThisCommit_25 (by decide) (fun c_2 => ?_) (fun c_2 => ?_)
      · -- T of pc 25
        refine lv_sipush (v := 1000) hx hb dX0_takeShareOfThisCommit_35 (by decide) ?_
        exact hret _ _ _ _ _ hP hD hS rfl dX0_takeShareOfThisCommit_38
      · -- F of pc 25
        exact absurd c_2 (nI_ne0 (by omega) (by omega))
    · -- F of pc 4
      exact absurd c_1 (nI_ne0 (by omega) (by omega))
