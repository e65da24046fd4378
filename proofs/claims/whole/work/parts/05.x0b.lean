/-! The class: its private methods that call. -/
set_option maxHeartbeats 4000000 in
set_option maxRecDepth 100000 in
theorem c0_copyBlock (l : Launch) (D : va_G) (x1 x2 : Nat) (q1 q2 : ClassId) (f g : Nat → Int32) (i : Nat) (hi : i < 24) : ct_v l yX0_copyBlock wsX0_copyBlock ({ frames := 1, cells := 0, slots := 0, locals := 18 }) D vwCl [(q1, .int), (q2, .int)] [.ref x1, .ref x2, .int (nI i)] [(x1, .inl (q1, 384, .inl f)), (x2, .inl (q2, 384, .inl g))] [(x1, .inl (q1, 384, .inl f)), (x2, .inl (q2, 384, .inl (va_cpy f g (i * 16) (i * 16) 16)))] := by
  refine ct_v.of (cc := cX0_copyBlock) (maxL := 3) (by decide) rfl (Nat.le_of_ble_eq_true rfl) ?_
  intro p e s m args below meth c ls A Q hx hb hml hts hown hK hP hD hA hS hl hret
  have hown : s.vm.findClass RX0 = some m.cls := hown
  have hl : lv_has ls 3 [(0, .ref x1), (1, .ref x2), (2, .int (nI i))] := hl
  have hP : va_P D vwCl [(x1, .inl (q1, 384, .inl f)), (x2, .inl (q2, 384, .inl g))] s.heap := hP
  have hD : va_D A [(x1, .inl (q1, 384, .inl f)), (x2, .inl (q2, 384, .inl g))] := hD
  refine lv_aload_n hx hb dX0_copyBlock_0 rfl (lv_at hl 0 rfl) ?_
  refine lv_iload_n hx hb dX0_copyBlock_1 rfl (lv_at hl 2 rfl) ?_
  refine lv_bipush (v := 16) hx hb dX0_copyBlock_2 (by decide) ?_
  refine lv_imul hx hb dX0_copyBlock_4 ?_
  refine tp_as (z := nI (i * 16)) (pk_mul i 16) ?_
  refine lv_aload_n hx hb dX0_copyBlock_5 rfl (lv_at hl 1 rfl) ?_
  refine lv_iload_n hx hb dX0_copyBlock_6 rfl (lv_at hl 2 rfl) ?_
  refine lv_bipush (v := 16) hx hb dX0_copyBlock_7 (by decide) ?_
  refine lv_imul hx hb dX0_copyBlock_9 ?_
  refine tp_as (z := nI (i * 16)) (pk_mul i 16) ?_
  refine lv_bipush (v := 16) hx hb dX0_copyBlock_10 (by decide) ?_
  refine va_copyi (ty := .int) hx hb (hml.trans hl.1.symm) hown (hts (.methodLink RX0 74 arraycopyName) (by decide +kernel)) (hts (.native arraycopyName) (by decide +kernel)) (hts (.static arraycopyName) (by decide +kernel)) (hts (.initialized "java/lang/System") (by decide +kernel)) hK hP hD hS 0 1 0 1 rfl rfl rfl rfl rfl (nI_pos (by omega)) (nI_pos (by omega)) (by decide) (by rw [cl_nI (by omega)]; show i * 16 + 16 ≤ 384; omega) (by rw [cl_nI (by omega)]; show i * 16 + 16 ≤ 384; omega) (fun _ _ => rfl) (Nat.le_of_ble_eq_true rfl) (Nat.le_of_ble_eq_true rfl) dX0_copyBlock_12 (fun H locs hP hD hS => ?_)
  rw [cl_nI (show i * 16 < 2 ^ 31 by omega)] at hP hD
  have hP : va_P D vwCl [(x1, .inl (q1, 384, .inl f)), (x2, .inl (q2, 384, .inl (va_cpy f g (i * 16) (i * 16) 16)))] H := hP
  have hD : va_D _ [(x1, .inl (q1, 384, .inl f)), (x2, .inl (q2, 384, .inl (va_cpy f g (i * 16) (i * 16) 16)))] := hD
  exact hret _ _ _ _ hP hD hS dX0_copyBlock_15
set_option maxHeartbeats 4000000 in
set_option maxRecDepth 100000 in
theorem c0_bringToLog (l : Launch) (D : va_G) (h0 a1 a2 a3 a4 a5 : Nat) (k1 k2 k3 k4 k5 : ClassId) (fw fd fb : Nat → Int32) (lq dz : Nat → Bool) (pw mk : Bool) (lc cu cs : Nat) (mo : Nat) (hmo : mo ≤ 24) : ct_v l yX0_bringToLog wsX0_bringToLog ({ frames := 2, cells := 0, slots := 0, locals := 41 }) D vwCl (XT k1 k2 k3 k4 k5) [.ref h0, .int (nI mo)] (XW h0 a1 a2 a3 a4 a5 k1 k2 k3 k4 k5 fw fd fb lq dz pw mk lc cu cs) (XW h0 a1 a2 a3 a4 a5 k1 k2 k3 k4 k5 fw fd (lx fw dz mo fb 24) (lqK dz mo lq 24) dz pw mk lc cu cs) := by
  refine ct_v.of (cc := cX0_bringToLog) (maxL := 4) (by decide) rfl (Nat.le_of_ble_eq_true rfl) ?_
  intro p e s m args below meth c ls A Q hx hb hml hts hown hK hP hD hA hS hl hret
  have hown : s.vm.findClass RX0 = some m.cls := hown
  have hl : lv_has ls 4 [(0, .ref h0), (1, .int (nI mo))] := hl
  have hP : va_P D vwCl [(h0, .inr (0, [.ref a1, .ref a2, .ref a3, .ref a4, .ref a5, .int (bI pw), .int (bI mk), .int (nI lc), .int (nI cu), .int (nI cs)])), (a1, .inl (k1, 384, .inl fw)), (a2, .inl (k2, 384, .inl fd)), (a3, .inl (k3, 384, .inl fb)), (a4, .inl (k4, 24, .inl (fun j => bI (dz j)))), (a5, .inl (k5, 24, .inl (fun j => bI (lq j))))] s.heap := hP
  have hD : va_D A [(h0, .inr (0, [.ref a1, .ref a2, .ref a3, .ref a4, .ref a5, .int (bI pw), .int (bI mk), .int (nI lc), .int (nI cu), .int (nI cs)])), (a1, .inl (k1, 384, .inl fw)), (a2, .inl (k2, 384, .inl fd)), (a3, .inl (k3, 384, .inl fb)), (a4, .inl (k4, 24, .inl (fun j => bI (dz j)))), (a5, .inl (k5, 24, .inl (fun j => bI (lq j))))] := hD
  refine lv_iconst (v := 0) hx hb dX0_bringToLog_0 (by decide) ?_
  refine lv_istore_n (lv' := [(2, .int 0), (0, .ref h0), (1, .int (nI mo))]) hx hb dX0_bringToLog_1 rfl hl (by decide) rfl (fun ls hl => ?_)
  refine lv_iconst (v := 0) hx hb dX0_bringToLog_2 (by decide) ?_
  refine lv_istore_n (lv' := [(3, .int 0), (2, .int 0), (0, .ref h0), (1, .int (nI mo))]) hx hb dX0_bringToLog_3 rfl hl (by decide) rfl (fun ls hl => ?_)
  have loop : ∀ (n k : Nat), k + n = 24 → ∀ (ls : Array Slot) (H : Heap) (locs : List Loc), lv_has ls 4 [(3, .int (nI k)), (2, .int (nI (cm dz mo k))), (1, .int (nI mo)), (0, .ref h0)] → va_P D vwCl [(h0, .inr (0, [.ref a1, .ref a2, .ref a3, .ref a4, .ref a5, .int (bI pw), .int (bI mk), .int (nI lc), .int (nI cu), .int (nI cs)])), (a1, .inl (k1, 384, .inl fw)), (a2, .inl (k2, 384, .inl fd)), (a3, .inl (k3, 384, .inl (lx fw dz mo fb k))), (a4, .inl (k4, 24, .inl (fun j => bI (dz j)))), (a5, .inl (k5, 24, .inl (fun j => bI (lqK dz mo lq k j))))] H → va_D A [(h0, .inr (0, [.ref a1, .ref a2, .ref a3, .ref a4, .ref a5, .int (bI pw), .int (bI mk), .int (nI lc), .int (nI cu), .int (nI cs)])), (a1, .inl (k1, 384, .inl fw)), (a2, .inl (k2, 384, .inl fd)), (a3, .inl (k3, 384, .inl (lx fw dz mo fb k))), (a4, .inl (k4, 24, .inl (fun j => bI (dz j)))), (a5, .inl (k5, 24, .inl (fun j => bI (lqK dz mo lq k j))))] → va_S A s.heap H locs → W p l e ({ frames := 2, cells := 0, slots := 0, locals := 41 }) s m args below meth c H locs 0 0 Q (F0 m 4 ls []) := by
    intro n
    induction n with
    | zero =>
      intro k hk ls H locs hl hP hD hS
      obtain rfl : k = 24 := by omega
      refine lv_iload_n hx hb dX0_bringToLog_4 rfl (lv_at hl 0 rfl) ?_
      refine lv_bipush (v := 24) hx hb dX0_bringToLog_5 (by decide) ?_
      refine lv_icmp_ge (tgt := 65) hx hb dX0_bringToLog_7 (by decide) (fun c_1 => ?_) (fun c_1 => ?_)
      · -- T of pc 7
        exact hret _ _ _ _ hP hD hS dX0_bringToLog_65
      · -- F of pc 7
        exact absurd (by decide) c_1
    | succ n ih =>
      intro k hk ls H locs hl hP hD hS
      have hcm := cm_le dz mo k
      cases hz : dz k with
      | false =>
        refine lv_iload_n hx hb dX0_bringToLog_4 rfl (lv_at hl 0 rfl) ?_
        refine lv_bipush (v := 24) hx hb dX0_bringToLog_5 (by decide) ?_
        refine lv_icmp_ge (tgt := 65) hx hb dX0_bringToLog_7 (by decide) (fun c_2 => ?_) (fun c_2 => ?_)
        · -- T of pc 7
          exact absurd c_2 (show ¬ nI 24 ≤ nI k from nI_ge (by omega) (by decide))
        · -- F of pc 7
          have hno : ¬ (dz k = true ∧ cnt dz k < mo) := fun q => absurd (hz.symm.trans q.1) (by decide)
          refine lv_aload_n hx hb dX0_bringToLog_10 rfl (lv_at hl 3 rfl) ?_
          refine va_get (ci := 0) (v := .ref a5) (C := RX0) (T := TX0) (N := 10) hx hb hts (by decide +kernel) hown hK hP 0 rfl rfl 4 (by decide) (hts (.fieldLink RX0 23 "CommitLog" "logged" "[Z") (by decide +kernel)) (fun _ h9 => h9) rfl dX0_bringToLog_11 ?_
          refine lv_iload_n hx hb dX0_bringToLog_14 rfl (lv_at hl 0 rfl) ?_
          refine lv_aload_n hx hb dX0_bringToLog_15 rfl (lv_at hl 3 rfl) ?_
          refine va_get (ci := 0) (v := .ref a4) (C := RX0) (T := TX0) (N := 10) hx hb hts (by decide +kernel) hown hK hP 0 rfl rfl 3 (by decide) (hts (.fieldLink RX0 19 "CommitLog" "written" "[Z") (by decide +kernel)) (fun _ h9 => h9) rfl dX0_bringToLog_16 ?_
          refine lv_iload_n hx hb dX0_bringToLog_19 rfl (lv_at hl 0 rfl) ?_
          refine va_zald hx hb hK hP 4 3 rfl rfl (vp_in_nI (by omega) (by decide)) dX0_bringToLog_20 ?_
          refine tp_as (z := 0) (by rw [cl_nI (by omega)]; exact (by rw [hz]; rfl)) ?_
          refine lv_if_eq (tgt := 33) hx hb dX0_bringToLog_21 (by decide) (fun c_3 => ?_) (fun c_3 => ?_)
          · -- T of pc 21
            refine lv_iconst (v := 0) hx hb dX0_bringToLog_33 (by decide) ?_
            refine va_zast hx hb hK hP hD hS 5 4 rfl rfl (vp_in_nI (by omega) (by decide)) dX0_bringToLog_34 (fun H locs hP hD hS => ?_)
            rw [cl_nI (show k < 2 ^ 31 by omega), show vp_nar .boolean 0 = bI false from rfl, up_bI, lqK_n hno] at hP hD
            have hP : va_P D vwCl [(h0, .inr (0, [.ref a1, .ref a2, .ref a3, .ref a4, .ref a5, .int (bI pw), .int (bI mk), .int (nI lc), .int (nI cu), .int (nI cs)])), (a1, .inl (k1, 384, .inl fw)), (a2, .inl (k2, 384, .inl fd)), (a3, .inl (k3, 384, .inl (lx fw dz mo fb k))), (a4, .inl (k4, 24, .inl (fun j => bI (dz j)))), (a5, .inl (k5, 24, .inl (fun j => bI (lqK dz mo lq (k + 1) j))))] H := hP
            have hD : va_D _ [(h0, .inr (0, [.ref a1, .ref a2, .ref a3, .ref a4, .ref a5, .int (bI pw), .int (bI mk), .int (nI lc), .int (nI cu), .int (nI cs)])), (a1, .inl (k1, 384, .inl fw)), (a2, .inl (k2, 384, .inl fd)), (a3, .inl (k3, 384, .inl (lx fw dz mo fb k))), (a4, .inl (k4, 24, .inl (fun j => bI (dz j)))), (a5, .inl (k5, 24, .inl (fun j => bI (lqK dz mo lq (k + 1) j))))] := hD
            refine lv_aload_n hx hb dX0_bringToLog_35 rfl (lv_at hl 3 rfl) ?_
            refine va_get (ci := 0) (v := .ref a5) (C := RX0) (T := TX0) (N := 10) hx hb hts (by decide +kernel) hown hK hP 0 rfl rfl 4 (by decide) (hts (.fieldLink RX0 23 "CommitLog" "logged" "[Z") (by decide +kernel)) (fun _ h9 => h9) rfl dX0_bringToLog_36 ?_
            refine lv_iload_n hx hb dX0_bringToLog_39 rfl (lv_at hl 0 rfl) ?_
            refine va_zald hx hb hK hP 5 4 rfl rfl (vp_in_nI (by omega) (by decide)) dX0_bringToLog_40 ?_
            refine tp_as (z := 0) (by rw [cl_nI (by omega)]; exact (by rw [lqK_an hno]; rfl)) ?_
            refine lv_if_eq (tgt := 59) hx hb dX0_bringToLog_41 (by decide) (fun c_4 => ?_) (fun c_4 => ?_)
            · -- T of pc 41
              have hP : va_P D vwCl [(h0, .inr (0, [.ref a1, .ref a2, .ref a3, .ref a4, .ref a5, .int (bI pw), .int (bI mk), .int (nI lc), .int (nI cu), .int (nI cs)])), (a1, .inl (k1, 384, .inl fw)), (a2, .inl (k2, 384, .inl fd)), (a3, .inl (k3, 384, .inl (lx fw dz mo fb (k + 1)))), (a4, .inl (k4, 24, .inl (fun j => bI (dz j)))), (a5, .inl (k5, 24, .inl (fun j => bI (lqK dz mo lq (k + 1) j))))] H := by rw [lx_n hno]; exact hP
              have hD : va_D A [(h0, .inr (0, [.ref a1, .ref a2, .ref a3, .ref a4, .ref a5, .int (bI pw), .int (bI mk), .int (nI lc), .int (nI cu), .int (nI cs)])), (a1, .inl (k1, 384, .inl fw)), (a2, .inl (k2, 384, .inl fd)), (a3, .inl (k3, 384, .inl (lx fw dz mo fb (k + 1)))), (a4, .inl (k4, 24, .inl (fun j => bI (dz j)))), (a5, .inl (k5, 24, .inl (fun j => bI (lqK dz mo lq (k + 1) j))))] := by rw [lx_n hno]; exact hD
              have hl : lv_has ls 4 [(3, .int (nI k)), (2, .int (nI (cm dz mo (k + 1)))), (1, .int (nI mo)), (0, .ref h0)] := by rw [cm_n hno]; exact hl
              refine lv_iinc (v := (nI (k + 1))) (lv' := [(3, .int (nI (k + 1))), (2, .int (nI (cm dz mo (k + 1)))), (1, .int (nI mo)), (0, .ref h0)]) hx hb dX0_bringToLog_59 hl (k := 0) rfl (nI_1 _) (by decide) rfl (fun ls hl => ?_)
              refine lv_goto (tgt := 4) hx hb dX0_bringToLog_62 (by decide) ?_
              exact ih (k + 1) (by omega) ls H locs (lv_sub hl [0, 1, 2, 3] rfl) hP hD hS
            · -- F of pc 41
              exact absurd (by decide) c_4
          · -- F of pc 21
            exact absurd (by decide) c_3
      | true =>
        refine lv_iload_n hx hb dX0_bringToLog_4 rfl (lv_at hl 0 rfl) ?_
        refine lv_bipush (v := 24) hx hb dX0_bringToLog_5 (by decide) ?_
        refine lv_icmp_ge (tgt := 65) hx hb dX0_bringToLog_7 (by decide) (fun c_5 => ?_) (fun c_5 => ?_)
        · -- T of pc 7
          exact absurd c_5 (show ¬ nI 24 ≤ nI k from nI_ge (by omega) (by decide))
        · -- F of pc 7
          refine lv_aload_n hx hb dX0_bringToLog_10 rfl (lv_at hl 3 rfl) ?_
          refine va_get (ci := 0) (v := .ref a5) (C := RX0) (T := TX0) (N := 10) hx hb hts (by decide +kernel) hown hK hP 0 rfl rfl 4 (by decide) (hts (.fieldLink RX0 23 "CommitLog" "logged" "[Z") (by decide +kernel)) (fun _ h9 => h9) rfl dX0_bringToLog_11 ?_
          refine lv_iload_n hx hb dX0_bringToLog_14 rfl (lv_at hl 0 rfl) ?_
          refine lv_aload_n hx hb dX0_bringToLog_15 rfl (lv_at hl 3 rfl) ?_
          refine va_get (ci := 0) (v := .ref a4) (C := RX0) (T := TX0) (N := 10) hx hb hts (by decide +kernel) hown hK hP 0 rfl rfl 3 (by decide) (hts (.fieldLink RX0 19 "CommitLog" "written" "[Z") (by decide +kernel)) (fun _ h9 => h9) rfl dX0_bringToLog_16 ?_
          refine lv_iload_n hx hb dX0_bringToLog_19 rfl (lv_at hl 0 rfl) ?_
          refine va_zald hx hb hK hP 4 3 rfl rfl (vp_in_nI (by omega) (by decide)) dX0_bringToLog_20 ?_
          refine tp_as (z := 1) (by rw [cl_nI (by omega)]; exact (by rw [hz]; rfl)) ?_
          refine lv_if_eq (tgt := 33) hx hb dX0_bringToLog_21 (by decide) (fun c_6 => ?_) (fun c_6 => ?_)
          · -- T of pc 21
            exact absurd c_6 (by decide)
          · -- F of pc 21
            refine lv_iload_n hx hb dX0_bringToLog_24 rfl (lv_at hl 1 rfl) ?_
            refine lv_iload_n hx hb dX0_bringToLog_25 rfl (lv_at hl 2 rfl) ?_
            refine lv_icmp_ge (tgt := 33) hx hb dX0_bringToLog_26 (by decide) (fun c_7 => ?_) (fun c_7 => ?_)
            · -- T of pc 26
              have hno : ¬ (dz k = true ∧ cnt dz k < mo) := fun q => absurd (cm_lt.mpr q.2) (Nat.not_lt.mpr ((nI_leI (by omega) (by omega)).mp c_7))
              refine lv_iconst (v := 0) hx hb dX0_bringToLog_33 (by decide) ?_
              refine va_zast hx hb hK hP hD hS 5 4 rfl rfl (vp_in_nI (by omega) (by decide)) dX0_bringToLog_34 (fun H locs hP hD hS => ?_)
              rw [cl_nI (show k < 2 ^ 31 by omega), show vp_nar .boolean 0 = bI false from rfl, up_bI, lqK_n hno] at hP hD
              have hP : va_P D vwCl [(h0, .inr (0, [.ref a1, .ref a2, .ref a3, .ref a4, .ref a5, .int (bI pw), .int (bI mk), .int (nI lc), .int (nI cu), .int (nI cs)])), (a1, .inl (k1, 384, .inl fw)), (a2, .inl (k2, 384, .inl fd)), (a3, .inl (k3, 384, .inl (lx fw dz mo fb k))), (a4, .inl (k4, 24, .inl (fun j => bI (dz j)))), (a5, .inl (k5, 24, .inl (fun j => bI (lqK dz mo lq (k + 1) j))))] H := hP
              have hD : va_D _ [(h0, .inr (0, [.ref a1, .ref a2, .ref a3, .ref a4, .ref a5, .int (bI pw), .int (bI mk), .int (nI lc), .int (nI cu), .int (nI cs)])), (a1, .inl (k1, 384, .inl fw)), (a2, .inl (k2, 384, .inl fd)), (a3, .inl (k3, 384, .inl (lx fw dz mo fb k))), (a4, .inl (k4, 24, .inl (fun j => bI (dz j)))), (a5, .inl (k5, 24, .inl (fun j => bI (lqK dz mo lq (k + 1) j))))] := hD
              refine lv_aload_n hx hb dX0_bringToLog_35 rfl (lv_at hl 3 rfl) ?_
              refine va_get (ci := 0) (v := .ref a5) (C := RX0) (T := TX0) (N := 10) hx hb hts (by decide +kernel) hown hK hP 0 rfl rfl 4 (by decide) (hts (.fieldLink RX0 23 "CommitLog" "logged" "[Z") (by decide +kernel)) (fun _ h9 => h9) rfl dX0_bringToLog_36 ?_
              refine lv_iload_n hx hb dX0_bringToLog_39 rfl (lv_at hl 0 rfl) ?_
              refine va_zald hx hb hK hP 5 4 rfl rfl (vp_in_nI (by omega) (by decide)) dX0_bringToLog_40 ?_
              refine tp_as (z := 0) (by rw [cl_nI (by omega)]; exact (by rw [lqK_an hno]; rfl)) ?_
              refine lv_if_eq (tgt := 59) hx hb dX0_bringToLog_41 (by decide) (fun c_8 => ?_) (fun c_8 => ?_)
              · -- T of pc 41
                have hP : va_P D vwCl [(h0, .inr (0, [.ref a1, .ref a2, .ref a3, .ref a4, .ref a5, .int (bI pw), .int (bI mk), .int (nI lc), .int (nI cu), .int (nI cs)])), (a1, .inl (k1, 384, .inl fw)), (a2, .inl (k2, 384, .inl fd)), (a3, .inl (k3, 384, .inl (lx fw dz mo fb (k + 1)))), (a4, .inl (k4, 24, .inl (fun j => bI (dz j)))), (a5, .inl (k5, 24, .inl (fun j => bI (lqK dz mo lq (k + 1) j))))] H := by rw [lx_n hno]; exact hP
                have hD : va_D A [(h0, .inr (0, [.ref a1, .ref a2, .ref a3, .ref a4, .ref a5, .int (bI pw), .int (bI mk), .int (nI lc), .int (nI cu), .int (nI cs)])), (a1, .inl (k1, 384, .inl fw)), (a2, .inl (k2, 384, .inl fd)), (a3, .inl (k3, 384, .inl (lx fw dz mo fb (k + 1)))), (a4, .inl (k4, 24, .inl (fun j => bI (dz j)))), (a5, .inl (k5, 24, .inl (fun j => bI (lqK dz mo lq (k + 1) j))))] := by rw [lx_n hno]; exact hD
                have hl : lv_has ls 4 [(3, .int (nI k)), (2, .int (nI (cm dz mo (k + 1)))), (1, .int (nI mo)), (0, .ref h0)] := by rw [cm_n hno]; exact hl
                refine lv_iinc (v := (nI (k + 1))) (lv' := [(3, .int (nI (k + 1))), (2, .int (nI (cm dz mo (k + 1)))), (1, .int (nI mo)), (0, .ref h0)]) hx hb dX0_bringToLog_59 hl (k := 0) rfl (nI_1 _) (by decide) rfl (fun ls hl => ?_)
                refine lv_goto (tgt := 4) hx hb dX0_bringToLog_62 (by decide) ?_
                exact ih (k + 1) (by omega) ls H locs (lv_sub hl [0, 1, 2, 3] rfl) hP hD hS
              · -- F of pc 41
                exact absurd (by decide) c_8
            · -- F of pc 26
              have hyes : (dz k = true ∧ cnt dz k < mo) := by
                refine ⟨hz, cm_lt.mp ?_⟩
                rcases Nat.lt_or_ge (cm dz mo k) mo with q | q
                · exact q
                · exact absurd (nI_le q (by omega)) c_7
              refine lv_iconst (v := 1) hx hb dX0_bringToLog_29 (by decide) ?_
              refine lv_goto (tgt := 34) hx hb dX0_bringToLog_30 (by decide) ?_
              refine va_zast hx hb hK hP hD hS 5 4 rfl rfl (vp_in_nI (by omega) (by decide)) dX0_bringToLog_34 (fun H locs hP hD hS => ?_)
              rw [cl_nI (show k < 2 ^ 31 by omega), show vp_nar .boolean 1 = bI true from rfl, up_bI, lqK_y hyes] at hP hD
              have hP : va_P D vwCl [(h0, .inr (0, [.ref a1, .ref a2, .ref a3, .ref a4, .ref a5, .int (bI pw), .int (bI mk), .int (nI lc), .int (nI cu), .int (nI cs)])), (a1, .inl (k1, 384, .inl fw)), (a2, .inl (k2, 384, .inl fd)), (a3, .inl (k3, 384, .inl (lx fw dz mo fb k))), (a4, .inl (k4, 24, .inl (fun j => bI (dz j)))), (a5, .inl (k5, 24, .inl (fun j => bI (lqK dz mo lq (k + 1) j))))] H := hP
              have hD : va_D _ [(h0, .inr (0, [.ref a1, .ref a2, .ref a3, .ref a4, .ref a5, .int (bI pw), .int (bI mk), .int (nI lc), .int (nI cu), .int (nI cs)])), (a1, .inl (k1, 384, .inl fw)), (a2, .inl (k2, 384, .inl fd)), (a3, .inl (k3, 384, .inl (lx fw dz mo fb k))), (a4, .inl (k4, 24, .inl (fun j => bI (dz j)))), (a5, .inl (k5, 24, .inl (fun j => bI (lqK dz mo lq (k + 1) j))))] := hD
              refine lv_aload_n hx hb dX0_bringToLog_35 rfl (lv_at hl 3 rfl) ?_
              refine va_get (ci := 0) (v := .ref a5) (C := RX0) (T := TX0) (N := 10) hx hb hts (by decide +kernel) hown hK hP 0 rfl rfl 4 (by decide) (hts (.fieldLink RX0 23 "CommitLog" "logged" "[Z") (by decide +kernel)) (fun _ h9 => h9) rfl dX0_bringToLog_36 ?_
              refine lv_iload_n hx hb dX0_bringToLog_39 rfl (lv_at hl 0 rfl) ?_
              refine va_zald hx hb hK hP 5 4 rfl rfl (vp_in_nI (by omega) (by decide)) dX0_bringToLog_40 ?_
              refine tp_as (z := 1) (by rw [cl_nI (by omega)]; exact (by rw [lqK_ay hyes]; rfl)) ?_
              refine lv_if_eq (tgt := 59) hx hb dX0_bringToLog_41 (by decide) (fun c_9 => ?_) (fun c_9 => ?_)
              · -- T of pc 41
                exact absurd c_9 (by decide)
              · -- F of pc 41
                refine lv_aload_n hx hb dX0_bringToLog_44 rfl (lv_at hl 3 rfl) ?_
                refine va_get (ci := 0) (v := .ref a1) (C := RX0) (T := TX0) (N := 10) hx hb hts (by decide +kernel) hown hK hP 0 rfl rfl 0 (by decide) (hts (.fieldLink RX0 9 "CommitLog" "work" "[I") (by decide +kernel)) (fun _ h9 => h9) rfl dX0_bringToLog_45 ?_
                refine lv_aload_n hx hb dX0_bringToLog_48 rfl (lv_at hl 3 rfl) ?_
                refine va_get (ci := 0) (v := .ref a3) (C := RX0) (T := TX0) (N := 10) hx hb hts (by decide +kernel) hown hK hP 0 rfl rfl 2 (by decide) (hts (.fieldLink RX0 16 "CommitLog" "logBytes" "[I") (by decide +kernel)) (fun _ h9 => h9) rfl dX0_bringToLog_49 ?_
                refine lv_iload_n hx hb dX0_bringToLog_52 rfl (lv_at hl 0 rfl) ?_
                refine ct_Sv (As := [.ref a1, .ref a3, .int (nI k)]) (rest := []) (wr := [(h0, .inr (0, [.ref a1, .ref a2, .ref a3, .ref a4, .ref a5, .int (bI pw), .int (bI mk), .int (nI lc), .int (nI cu), .int (nI cs)])), (a2, .inl (k2, 384, .inl fd)), (a4, .inl (k4, 24, .inl (fun j => bI (dz j)))), (a5, .inl (k5, 24, .inl (fun j => bI (lqK dz mo lq (k + 1) j))))]) (wn := [(h0, .inr (0, [.ref a1, .ref a2, .ref a3, .ref a4, .ref a5, .int (bI pw), .int (bI mk), .int (nI lc), .int (nI cu), .int (nI cs)])), (a1, .inl (k1, 384, .inl fw)), (a2, .inl (k2, 384, .inl fd)), (a3, .inl (k3, 384, .inl (va_cpy fw (lx fw dz mo fb k) (k * 16) (k * 16) 16))), (a4, .inl (k4, 24, .inl (fun j => bI (dz j)))), (a5, .inl (k5, 24, .inl (fun j => bI (lqK dz mo lq (k + 1) j))))]) ⟨hx, hb, hml, hown, hts⟩ (c0_copyBlock l D a1 a3 k1 k3 fw (lx fw dz mo fb k) k (by omega)) (va_cwS 3 hts gX0_bringToLog_X0_copyBlock rfl rfl rfl (by decide +kernel) ⟨Nat.le_of_ble_eq_true rfl, Nat.le_of_ble_eq_true rfl⟩) hK hP hD hS hA [1, 3] [0, 2, 4, 5] [0, 2] [0, 4, 1, 5, 2, 3] rfl rfl (by decide) rfl (by decide) (by decide) rfl (by decide) rfl hl.1 rfl (Nat.le_of_ble_eq_true rfl) dX0_bringToLog_53 ⟨Nat.zero_le _, Nat.zero_le _⟩ (fun H locs hP hD hS => ?_)
                have hP : va_P D vwCl [(h0, .inr (0, [.ref a1, .ref a2, .ref a3, .ref a4, .ref a5, .int (bI pw), .int (bI mk), .int (nI lc), .int (nI cu), .int (nI cs)])), (a1, .inl (k1, 384, .inl fw)), (a2, .inl (k2, 384, .inl fd)), (a3, .inl (k3, 384, .inl (lx fw dz mo fb (k + 1)))), (a4, .inl (k4, 24, .inl (fun j => bI (dz j)))), (a5, .inl (k5, 24, .inl (fun j => bI (lqK dz mo lq (k + 1) j))))] H := by rw [lx_y hyes]; exact hP
                have hD : va_D A [(h0, .inr (0, [.ref a1, .ref a2, .ref a3, .ref a4, .ref a5, .int (bI pw), .int (bI mk), .int (nI lc), .int (nI cu), .int (nI cs)])), (a1, .inl (k1, 384, .inl fw)), (a2, .inl (k2, 384, .inl fd)), (a3, .inl (k3, 384, .inl (lx fw dz mo fb (k + 1)))), (a4, .inl (k4, 24, .inl (fun j => bI (dz j)))), (a5, .inl (k5, 24, .inl (fun j => bI (lqK dz mo lq (k + 1) j))))] := by rw [lx_y hyes]; exact hD
                refine lv_iinc (v := (nI (cm dz mo (k + 1)))) (lv' := [(2, .int (nI (cm dz mo (k + 1)))), (3, .int (nI k)), (1, .int (nI mo)), (0, .ref h0)]) hx hb dX0_bringToLog_56 hl (k := 1) rfl (by rw [cm_y hyes]; exact nI_1 _) (by decide) rfl (fun ls hl => ?_)
                refine lv_iinc (v := (nI (k + 1))) (lv' := [(3, .int (nI (k + 1))), (2, .int (nI (cm dz mo (k + 1)))), (1, .int (nI mo)), (0, .ref h0)]) hx hb dX0_bringToLog_59 hl (k := 1) rfl (nI_1 _) (by decide) rfl (fun ls hl => ?_)
                refine lv_goto (tgt := 4) hx hb dX0_bringToLog_62 (by decide) ?_
                exact ih (k + 1) (by omega) ls H locs (lv_sub hl [0, 1, 2, 3] rfl) hP hD hS
  exact loop 24 0 rfl ls _ _ (lv_sub hl [0, 1, 3, 2] rfl) (by rw [lqK_0]; exact hP) (by rw [lqK_0]; exact hD) hS
set_option maxHeartbeats 4000000 in
set_option maxRecDepth 100000 in
theorem c0_bringLogToDisk (l : Launch) (D : va_G) (h0 a1 a2 a3 a4 a5 : Nat) (k1 k2 k3 k4 k5 : ClassId) (fw fd fb : Nat → Int32) (lq dz : Nat → Bool) (pw mk : Bool) (lc cu cs : Nat) (mo : Nat) (hmo : mo ≤ 24) : ct_v l yX0_bringLogToDisk wsX0_bringLogToDisk ({ frames := 2, cells := 0, slots := 0, locals := 41 }) D vwCl (XT k1 k2 k3 k4 k5) [.ref h0, .int (nI mo)] (XW h0 a1 a2 a3 a4 a5 k1 k2 k3 k4 k5 fw fd fb lq dz pw mk lc cu cs) (XW h0 a1 a2 a3 a4 a5 k1 k2 k3 k4 k5 fw (lx fb lq mo fd 24) fb lq dz pw mk lc cu cs) := by
  refine ct_v.of (cc := cX0_bringLogToDisk) (maxL := 4) (by decide) rfl (Nat.le_of_ble_eq_true rfl) ?_
  intro p e s m args below meth c ls A Q hx hb hml hts hown hK hP hD hA hS hl hret
  have hown : s.vm.findClass RX0 = some m.cls := hown
  have hl : lv_has ls 4 [(0, .ref h0), (1, .int (nI mo))] := hl
  have hP : va_P D vwCl [(h0, .inr (0, [.ref a1, .ref a2, .ref a3, .ref a4, .ref a5, .int (bI pw), .int (bI mk), .int (nI lc), .int (nI cu), .int (nI cs)])), (a1, .inl (k1, 384, .inl fw)), (a2, .inl (k2, 384, .inl fd)), (a3, .inl (k3, 384, .inl fb)), (a4, .inl (k4, 24, .inl (fun j => bI (dz j)))), (a5, .inl (k5, 24, .inl (fun j => bI (lq j))))] s.heap := hP
  have hD : va_D A [(h0, .inr (0, [.ref a1, .ref a2, .ref a3, .ref a4, .ref a5, .int (bI pw), .int (bI mk), .int (nI lc), .int (nI cu), .int (nI cs)])), (a1, .inl (k1, 384, .inl fw)), (a2, .inl (k2, 384, .inl fd)), (a3, .inl (k3, 384, .inl fb)), (a4, .inl (k4, 24, .inl (fun j => bI (dz j)))), (a5, .inl (k5, 24, .inl (fun j => bI (lq j))))] := hD
  refine lv_iconst (v := 0) hx hb dX0_bringLogToDisk_0 (by decide) ?_
  refine lv_istore_n (lv' := [(2, .int 0), (0, .ref h0), (1, .int (nI mo))]) hx hb dX0_bringLogToDisk_1 rfl hl (by decide) rfl (fun ls hl => ?_)
  refine lv_iconst (v := 0) hx hb dX0_bringLogToDisk_2 (by decide) ?_
  refine lv_istore_n (lv' := [(3, .int 0), (2, .int 0), (0, .ref h0), (1, .int (nI mo))]) hx hb dX0_bringLogToDisk_3 rfl hl (by decide) rfl (fun ls hl => ?_)
  have loop : ∀ (n k : Nat), k + n = 24 → ∀ (ls : Array Slot) (H : Heap) (locs : List Loc), lv_has ls 4 [(3, .int (nI k)), (2, .int (nI (cnt lq k))), (1, .int (nI mo)), (0, .ref h0)] → va_P D vwCl [(h0, .inr (0, [.ref a1, .ref a2, .ref a3, .ref a4, .ref a5, .int (bI pw), .int (bI mk), .int (nI lc), .int (nI cu), .int (nI cs)])), (a1, .inl (k1, 384, .inl fw)), (a2, .inl (k2, 384, .inl (lx fb lq mo fd k))), (a3, .inl (k3, 384, .inl fb)), (a4, .inl (k4, 24, .inl (fun j => bI (dz j)))), (a5, .inl (k5, 24, .inl (fun j => bI (lq j))))] H → va_D A [(h0, .inr (0, [.ref a1, .ref a2, .ref a3, .ref a4, .ref a5, .int (bI pw), .int (bI mk), .int (nI lc), .int (nI cu), .int (nI cs)])), (a1, .inl (k1, 384, .inl fw)), (a2, .inl (k2, 384, .inl (lx fb lq mo fd k))), (a3, .inl (k3, 384, .inl fb)), (a4, .inl (k4, 24, .inl (fun j => bI (dz j)))), (a5, .inl (k5, 24, .inl (fun j => bI (lq j))))] → va_S A s.heap H locs → W p l e ({ frames := 2, cells := 0, slots := 0, locals := 41 }) s m args below meth c H locs 0 0 Q (F0 m 4 ls []) := by
    intro n
    induction n with
    | zero =>
      intro k hk ls H locs hl hP hD hS
      obtain rfl : k = 24 := by omega
      refine lv_iload_n hx hb dX0_bringLogToDisk_4 rfl (lv_at hl 0 rfl) ?_
      refine lv_bipush (v := 24) hx hb dX0_bringLogToDisk_5 (by decide) ?_
      refine lv_icmp_ge (tgt := 45) hx hb dX0_bringLogToDisk_7 (by decide) (fun c_1 => ?_) (fun c_1 => ?_)
      · -- T of pc 7
        exact hret _ _ _ _ hP hD hS dX0_bringLogToDisk_45
      · -- F of pc 7
        exact absurd (by decide) c_1
    | succ n ih =>
      intro k hk ls H locs hl hP hD hS
      have hcn := cnt_le lq k
      cases hz : lq k with
      | false =>
        refine lv_iload_n hx hb dX0_bringLogToDisk_4 rfl (lv_at hl 0 rfl) ?_
        refine lv_bipush (v := 24) hx hb dX0_bringLogToDisk_5 (by decide) ?_
        refine lv_icmp_ge (tgt := 45) hx hb dX0_bringLogToDisk_7 (by decide) (fun c_2 => ?_) (fun c_2 => ?_)
        · -- T of pc 7
          exact absurd c_2 (show ¬ nI 24 ≤ nI k from nI_ge (by omega) (by decide))
        · -- F of pc 7
          refine lv_iload_n hx hb dX0_bringLogToDisk_10 rfl (lv_at hl 1 rfl) ?_
          refine lv_iload_n hx hb dX0_bringLogToDisk_11 rfl (lv_at hl 2 rfl) ?_
          refine lv_icmp_ge (tgt := 45) hx hb dX0_bringLogToDisk_12 (by decide) (fun c_3 => ?_) (fun c_3 => ?_)
          · -- T of pc 12
            have e1 : lx fb lq mo fd 24 = lx fb lq mo fd k := by
              have h9 : mo ≤ cnt lq k := (nI_leI (by omega) (by omega)).mp c_3
              have h8 := lx_stop (f := fb) (g := fd) h9 (n + 1)
              rwa [show k + (n + 1) = 24 by omega] at h8
            rw [← e1] at hP hD
            have hP : va_P D vwCl [(h0, .inr (0, [.ref a1, .ref a2, .ref a3, .ref a4, .ref a5, .int (bI pw), .int (bI mk), .int (nI lc), .int (nI cu), .int (nI cs)])), (a1, .inl (k1, 384, .inl fw)), (a2, .inl (k2, 384, .inl (lx fb lq mo fd 24))), (a3, .inl (k3, 384, .inl fb)), (a4, .inl (k4, 24, .inl (fun j => bI (dz j)))), (a5, .inl (k5, 24, .inl (fun j => bI (lq j))))] H := hP
            have hD : va_D _ [(h0, .inr (0, [.ref a1, .ref a2, .ref a3, .ref a4, .ref a5, .int (bI pw), .int (bI mk), .int (nI lc), .int (nI cu), .int (nI cs)])), (a1, .inl (k1, 384, .inl fw)), (a2, .inl (k2, 384, .inl (lx fb lq mo fd 24))), (a3, .inl (k3, 384, .inl fb)), (a4, .inl (k4, 24, .inl (fun j => bI (dz j)))), (a5, .inl (k5, 24, .inl (fun j => bI (lq j))))] := hD
            exact hret _ _ _ _ hP hD hS dX0_bringLogToDisk_45
          · -- F of pc 12
            have hlt : cnt lq k < mo := by
              rcases Nat.lt_or_ge (cnt lq k) mo with q | q
              · exact q
              · exact absurd (nI_le q (by omega)) c_3
            refine lv_aload_n hx hb dX0_bringLogToDisk_15 rfl (lv_at hl 3 rfl) ?_
            refine va_get (ci := 0) (v := .ref a5) (C := RX0) (T := TX0) (N := 10) hx hb hts (by decide +kernel) hown hK hP 0 rfl rfl 4 (by decide) (hts (.fieldLink RX0 23 "CommitLog" "logged" "[Z") (by decide +kernel)) (fun _ h9 => h9) rfl dX0_bringLogToDisk_16 ?_
            refine lv_iload_n hx hb dX0_bringLogToDisk_19 rfl (lv_at hl 0 rfl) ?_
            refine va_zald hx hb hK hP 5 4 rfl rfl (vp_in_nI (by omega) (by decide)) dX0_bringLogToDisk_20 ?_
            refine tp_as (z := 0) (by rw [cl_nI (by omega)]; exact (by rw [hz]; rfl)) ?_
            refine lv_if_eq (tgt := 39) hx hb dX0_bringLogToDisk_21 (by decide) (fun c_4 => ?_) (fun c_4 => ?_)
            · -- T of pc 21
              have hno : ¬ (lq k = true ∧ cnt lq k < mo) := fun q => absurd (hz.symm.trans q.1) (by decide)
              have hP : va_P D vwCl [(h0, .inr (0, [.ref a1, .ref a2, .ref a3, .ref a4, .ref a5, .int (bI pw), .int (bI mk), .int (nI lc), .int (nI cu), .int (nI cs)])), (a1, .inl (k1, 384, .inl fw)), (a2, .inl (k2, 384, .inl (lx fb lq mo fd (k + 1)))), (a3, .inl (k3, 384, .inl fb)), (a4, .inl (k4, 24, .inl (fun j => bI (dz j)))), (a5, .inl (k5, 24, .inl (fun j => bI (lq j))))] H := by rw [lx_n hno]; exact hP
              have hD : va_D A [(h0, .inr (0, [.ref a1, .ref a2, .ref a3, .ref a4, .ref a5, .int (bI pw), .int (bI mk), .int (nI lc), .int (nI cu), .int (nI cs)])), (a1, .inl (k1, 384, .inl fw)), (a2, .inl (k2, 384, .inl (lx fb lq mo fd (k + 1)))), (a3, .inl (k3, 384, .inl fb)), (a4, .inl (k4, 24, .inl (fun j => bI (dz j)))), (a5, .inl (k5, 24, .inl (fun j => bI (lq j))))] := by rw [lx_n hno]; exact hD
              have hl : lv_has ls 4 [(3, .int (nI k)), (2, .int (nI (cnt lq (k + 1)))), (1, .int (nI mo)), (0, .ref h0)] := by rw [cnt_f hz]; exact hl
              refine lv_iinc (v := (nI (k + 1))) (lv' := [(3, .int (nI (k + 1))), (2, .int (nI (cnt lq (k + 1)))), (1, .int (nI mo)), (0, .ref h0)]) hx hb dX0_bringLogToDisk_39 hl (k := 0) rfl (nI_1 _) (by decide) rfl (fun ls hl => ?_)
              refine lv_goto (tgt := 4) hx hb dX0_bringLogToDisk_42 (by decide) ?_
              exact ih (k + 1) (by omega) ls H locs (lv_sub hl [0, 1, 2, 3] rfl) hP hD hS
            · -- F of pc 21
              exact absurd (by decide) c_4
      | true =>
        refine lv_iload_n hx hb dX0_bringLogToDisk_4 rfl (lv_at hl 0 rfl) ?_
        refine lv_bipush (v := 24) hx hb dX0_bringLogToDisk_5 (by decide) ?_
        refine lv_icmp_ge (tgt := 45) hx hb dX0_bringLogToDisk_7 (by decide) (fun c_5 => ?_) (fun c_5 => ?_)
        · -- T of pc 7
          exact absurd c_5 (show ¬ nI 24 ≤ nI k from nI_ge (by omega) (by decide))
        · -- F of pc 7
          refine lv_iload_n hx hb dX0_bringLogToDisk_10 rfl (lv_at hl 1 rfl) ?_
          refine lv_iload_n hx hb dX0_bringLogToDisk_11 rfl (lv_at hl 2 rfl) ?_
          refine lv_icmp_ge (tgt := 45) hx hb dX0_bringLogToDisk_12 (by decide) (fun c_6 => ?_) (fun c_6 => ?_)
          · -- T of pc 12
            have e1 : lx fb lq mo fd 24 = lx fb lq mo fd k := by
              have h9 : mo ≤ cnt lq k := (nI_leI (by omega) (by omega)).mp c_6
              have h8 := lx_stop (f := fb) (g := fd) h9 (n + 1)
              rwa [show k + (n + 1) = 24 by omega] at h8
            rw [← e1] at hP hD
            have hP : va_P D vwCl [(h0, .inr (0, [.ref a1, .ref a2, .ref a3, .ref a4, .ref a5, .int (bI pw), .int (bI mk), .int (nI lc), .int (nI cu), .int (nI cs)])), (a1, .inl (k1, 384, .inl fw)), (a2, .inl (k2, 384, .inl (lx fb lq mo fd 24))), (a3, .inl (k3, 384, .inl fb)), (a4, .inl (k4, 24, .inl (fun j => bI (dz j)))), (a5, .inl (k5, 24, .inl (fun j => bI (lq j))))] H := hP
            have hD : va_D _ [(h0, .inr (0, [.ref a1, .ref a2, .ref a3, .ref a4, .ref a5, .int (bI pw), .int (bI mk), .int (nI lc), .int (nI cu), .int (nI cs)])), (a1, .inl (k1, 384, .inl fw)), (a2, .inl (k2, 384, .inl (lx fb lq mo fd 24))), (a3, .inl (k3, 384, .inl fb)), (a4, .inl (k4, 24, .inl (fun j => bI (dz j)))), (a5, .inl (k5, 24, .inl (fun j => bI (lq j))))] := hD
            exact hret _ _ _ _ hP hD hS dX0_bringLogToDisk_45
          · -- F of pc 12
            have hlt : cnt lq k < mo := by
              rcases Nat.lt_or_ge (cnt lq k) mo with q | q
              · exact q
              · exact absurd (nI_le q (by omega)) c_6
            refine lv_aload_n hx hb dX0_bringLogToDisk_15 rfl (lv_at hl 3 rfl) ?_
            refine va_get (ci := 0) (v := .ref a5) (C := RX0) (T := TX0) (N := 10) hx hb hts (by decide +kernel) hown hK hP 0 rfl rfl 4 (by decide) (hts (.fieldLink RX0 23 "CommitLog" "logged" "[Z") (by decide +kernel)) (fun _ h9 => h9) rfl dX0_bringLogToDisk_16 ?_
            refine lv_iload_n hx hb dX0_bringLogToDisk_19 rfl (lv_at hl 0 rfl) ?_
            refine va_zald hx hb hK hP 5 4 rfl rfl (vp_in_nI (by omega) (by decide)) dX0_bringLogToDisk_20 ?_
            refine tp_as (z := 1) (by rw [cl_nI (by omega)]; exact (by rw [hz]; rfl)) ?_
            refine lv_if_eq (tgt := 39) hx hb dX0_bringLogToDisk_21 (by decide) (fun c_7 => ?_) (fun c_7 => ?_)
            · -- T of pc 21
              exact absurd c_7 (by decide)
            · -- F of pc 21
              refine lv_aload_n hx hb dX0_bringLogToDisk_24 rfl (lv_at hl 3 rfl) ?_
              refine va_get (ci := 0) (v := .ref a3) (C := RX0) (T := TX0) (N := 10) hx hb hts (by decide +kernel) hown hK hP 0 rfl rfl 2 (by decide) (hts (.fieldLink RX0 16 "CommitLog" "logBytes" "[I") (by decide +kernel)) (fun _ h9 => h9) rfl dX0_bringLogToDisk_25 ?_
              refine lv_aload_n hx hb dX0_bringLogToDisk_28 rfl (lv_at hl 3 rfl) ?_
              refine va_get (ci := 0) (v := .ref a2) (C := RX0) (T := TX0) (N := 10) hx hb hts (by decide +kernel) hown hK hP 0 rfl rfl 1 (by decide) (hts (.fieldLink RX0 13 "CommitLog" "onDisk" "[I") (by decide +kernel)) (fun _ h9 => h9) rfl dX0_bringLogToDisk_29 ?_
              refine lv_iload_n hx hb dX0_bringLogToDisk_32 rfl (lv_at hl 0 rfl) ?_
              refine ct_Sv (As := [.ref a3, .ref a2, .int (nI k)]) (rest := []) (wr := [(h0, .inr (0, [.ref a1, .ref a2, .ref a3, .ref a4, .ref a5, .int (bI pw), .int (bI mk), .int (nI lc), .int (nI cu), .int (nI cs)])), (a1, .inl (k1, 384, .inl fw)), (a4, .inl (k4, 24, .inl (fun j => bI (dz j)))), (a5, .inl (k5, 24, .inl (fun j => bI (lq j))))]) (wn := [(h0, .inr (0, [.ref a1, .ref a2, .ref a3, .ref a4, .ref a5, .int (bI pw), .int (bI mk), .int (nI lc), .int (nI cu), .int (nI cs)])), (a1, .inl (k1, 384, .inl fw)), (a2, .inl (k2, 384, .inl (va_cpy fb (lx fb lq mo fd k) (k * 16) (k * 16) 16))), (a3, .inl (k3, 384, .inl fb)), (a4, .inl (k4, 24, .inl (fun j => bI (dz j)))), (a5, .inl (k5, 24, .inl (fun j => bI (lq j))))]) ⟨hx, hb, hml, hown, hts⟩ (c0_copyBlock l D a3 a2 k3 k2 fb (lx fb lq mo fd k) k (by omega)) (va_cwS 3 hts gX0_bringLogToDisk_X0_copyBlock rfl rfl rfl (by decide +kernel) ⟨Nat.le_of_ble_eq_true rfl, Nat.le_of_ble_eq_true rfl⟩) hK hP hD hS hA [3, 2] [0, 1, 4, 5] [2, 1] [0, 1, 5, 4, 2, 3] rfl rfl (by decide) rfl (by decide) (by decide) rfl (by decide) rfl hl.1 rfl (Nat.le_of_ble_eq_true rfl) dX0_bringLogToDisk_33 ⟨Nat.zero_le _, Nat.zero_le _⟩ (fun H locs hP hD hS => ?_)
              have hP : va_P D vwCl [(h0, .inr (0, [.ref a1, .ref a2, .ref a3, .ref a4, .ref a5, .int (bI pw), .int (bI mk), .int (nI lc), .int (nI cu), .int (nI cs)])), (a1, .inl (k1, 384, .inl fw)), (a2, .inl (k2, 384, .inl (lx fb lq mo fd (k + 1)))), (a3, .inl (k3, 384, .inl fb)), (a4, .inl (k4, 24, .inl (fun j => bI (dz j)))), (a5, .inl (k5, 24, .inl (fun j => bI (lq j))))] H := by rw [lx_y ⟨hz, hlt⟩]; exact hP
              have hD : va_D A [(h0, .inr (0, [.ref a1, .ref a2, .ref a3, .ref a4, .ref a5, .int (bI pw), .int (bI mk), .int (nI lc), .int (nI cu), .int (nI cs)])), (a1, .inl (k1, 384, .inl fw)), (a2, .inl (k2, 384, .inl (lx fb lq mo fd (k + 1)))), (a3, .inl (k3, 384, .inl fb)), (a4, .inl (k4, 24, .inl (fun j => bI (dz j)))), (a5, .inl (k5, 24, .inl (fun j => bI (lq j))))] := by rw [lx_y ⟨hz, hlt⟩]; exact hD
              refine lv_iinc (v := (nI (cnt lq (k + 1)))) (lv' := [(2, .int (nI (cnt lq (k + 1)))), (3, .int (nI k)), (1, .int (nI mo)), (0, .ref h0)]) hx hb dX0_bringLogToDisk_36 hl (k := 1) rfl (by rw [cnt_t hz]; exact nI_1 _) (by decide) rfl (fun ls hl => ?_)
              refine lv_iinc (v := (nI (k + 1))) (lv' := [(3, .int (nI (k + 1))), (2, .int (nI (cnt lq (k + 1)))), (1, .int (nI mo)), (0, .ref h0)]) hx hb dX0_bringLogToDisk_39 hl (k := 1) rfl (nI_1 _) (by decide) rfl (fun ls hl => ?_)
              refine lv_goto (tgt := 4) hx hb dX0_bringLogToDisk_42 (by decide) ?_
              exact ih (k + 1) (by omega) ls H locs (lv_sub hl [0, 1, 2, 3] rfl) hP hD hS
  exact loop 24 0 rfl ls _ _ (lv_sub hl [0, 1, 3, 2] rfl) hP hD hS
set_option maxHeartbeats 4000000 in
set_option maxRecDepth 100000 in
theorem c0_takeWork (l : Launch) (D : va_G) (h0 a1 a2 a3 a4 a5 : Nat) (k1 k2 k3 k4 k5 : ClassId) (fw fd fb : Nat → Int32) (lq dz : Nat → Bool) (pw mk : Bool) (lc cu cs : Nat) : ct_v l yX0_takeWorkFromDisk wsX0_takeWorkFromDisk ({ frames := 1, cells := 0, slots := 0, locals := 21 }) D vwCl (XT k1 k2 k3 k4 k5) [.ref h0] (XW h0 a1 a2 a3 a4 a5 k1 k2 k3 k4 k5 fw fd fb lq dz pw mk lc cu cs) (XW h0 a1 a2 a3 a4 a5 k1 k2 k3 k4 k5 (va_cpy fd fw 0 0 384) fd fb lq (clr dz 24) pw mk lc cu cs) := by
  refine ct_v.of (cc := cX0_takeWorkFromDisk) (maxL := 1) (by decide) rfl (Nat.le_of_ble_eq_true rfl) ?_
  intro p e s m args below meth c ls A Q hx hb hml hts hown hK hP hD hA hS hl hret
  have hown : s.vm.findClass RX0 = some m.cls := hown
  have hl : lv_has ls 1 [(0, .ref h0)] := hl
  have hP : va_P D vwCl [(h0, .inr (0, [.ref a1, .ref a2, .ref a3, .ref a4, .ref a5, .int (bI pw), .int (bI mk), .int (nI lc), .int (nI cu), .int (nI cs)])), (a1, .inl (k1, 384, .inl fw)), (a2, .inl (k2, 384, .inl fd)), (a3, .inl (k3, 384, .inl fb)), (a4, .inl (k4, 24, .inl (fun j => bI (dz j)))), (a5, .inl (k5, 24, .inl (fun j => bI (lq j))))] s.heap := hP
  have hD : va_D A [(h0, .inr (0, [.ref a1, .ref a2, .ref a3, .ref a4, .ref a5, .int (bI pw), .int (bI mk), .int (nI lc), .int (nI cu), .int (nI cs)])), (a1, .inl (k1, 384, .inl fw)), (a2, .inl (k2, 384, .inl fd)), (a3, .inl (k3, 384, .inl fb)), (a4, .inl (k4, 24, .inl (fun j => bI (dz j)))), (a5, .inl (k5, 24, .inl (fun j => bI (lq j))))] := hD
  refine lv_aload_n hx hb dX0_takeWorkFromDisk_0 rfl (lv_at hl 0 rfl) ?_
  refine va_get (ci := 0) (v := .ref a2) (C := RX0) (T := TX0) (N := 10) hx hb hts (by decide +kernel) hown hK hP 0 rfl rfl 1 (by decide) (hts (.fieldLink RX0 13 "CommitLog" "onDisk" "[I") (by decide +kernel)) (fun _ h9 => h9) rfl dX0_takeWorkFromDisk_1 ?_
  refine lv_iconst (v := 0) hx hb dX0_takeWorkFromDisk_4 (by decide) ?_
  refine lv_aload_n hx hb dX0_takeWorkFromDisk_5 rfl (lv_at hl 0 rfl) ?_
  refine va_get (ci := 0) (v := .ref a1) (C := RX0) (T := TX0) (N := 10) hx hb hts (by decide +kernel) hown hK hP 0 rfl rfl 0 (by decide) (hts (.fieldLink RX0 9 "CommitLog" "work" "[I") (by decide +kernel)) (fun _ h9 => h9) rfl dX0_takeWorkFromDisk_6 ?_
  refine lv_iconst (v := 0) hx hb dX0_takeWorkFromDisk_9 (by decide) ?_
  refine lv_sipush (v := 384) hx hb dX0_takeWorkFromDisk_10 (by decide) ?_
  refine va_copyi (ty := .int) hx hb (hml.trans hl.1.symm) hown (hts (.methodLink RX0 74 arraycopyName) (by decide +kernel)) (hts (.native arraycopyName) (by decide +kernel)) (hts (.static arraycopyName) (by decide +kernel)) (hts (.initialized "java/lang/System") (by decide +kernel)) hK hP hD hS 2 1 1 0 rfl rfl rfl rfl rfl (by decide) (by decide) (by decide) (by decide) (by decide) (fun _ _ => rfl) (Nat.le_of_ble_eq_true rfl) (Nat.le_of_ble_eq_true rfl) dX0_takeWorkFromDisk_13 (fun H locs hP hD hS => ?_)
  have hP : va_P D vwCl [(h0, .inr (0, [.ref a1, .ref a2, .ref a3, .ref a4, .ref a5, .int (bI pw), .int (bI mk), .int (nI lc), .int (nI cu), .int (nI cs)])), (a1, .inl (k1, 384, .inl (va_cpy fd fw 0 0 384))), (a2, .inl (k2, 384, .inl fd)), (a3, .inl (k3, 384, .inl fb)), (a4, .inl (k4, 24, .inl (fun j => bI (dz j)))), (a5, .inl (k5, 24, .inl (fun j => bI (lq j))))] H := hP
  have hD : va_D _ [(h0, .inr (0, [.ref a1, .ref a2, .ref a3, .ref a4, .ref a5, .int (bI pw), .int (bI mk), .int (nI lc), .int (nI cu), .int (nI cs)])), (a1, .inl (k1, 384, .inl (va_cpy fd fw 0 0 384))), (a2, .inl (k2, 384, .inl fd)), (a3, .inl (k3, 384, .inl fb)), (a4, .inl (k4, 24, .inl (fun j => bI (dz j)))), (a5, .inl (k5, 24, .inl (fun j => bI (lq j))))] := hD
  refine lv_aload_n hx hb dX0_takeWorkFromDisk_16 rfl (lv_at hl 0 rfl) ?_
  refine ct_Vv (As := []) (rest := []) (wr := []) (wn := [(h0, .inr (0, [.ref a1, .ref a2, .ref a3, .ref a4, .ref a5, .int (bI pw), .int (bI mk), .int (nI lc), .int (nI cu), .int (nI cs)])), (a1, .inl (k1, 384, .inl (va_cpy fd fw 0 0 384))), (a2, .inl (k2, 384, .inl fd)), (a3, .inl (k3, 384, .inl fb)), (a4, .inl (k4, 24, .inl (fun j => bI (clr dz 24 j)))), (a5, .inl (k5, 24, .inl (fun j => bI (lq j))))]) ⟨hx, hb, hml, hown, hts⟩ (c0_clearWritten l D h0 a1 a2 a3 a4 a5 k1 k2 k3 k4 k5 (va_cpy fd fw 0 0 384) fd fb lq dz pw mk lc cu cs) (cwV 0 hts gX0_takeWorkFromDisk_X0_clearWritten rfl rfl rfl (by decide +kernel) ⟨Nat.le_of_ble_eq_true rfl, Nat.le_of_ble_eq_true rfl⟩) hK hP hD hS hA [0, 1, 2, 3, 4, 5] [] [0, 1, 2, 3, 4] [0, 1, 2, 3, 4, 5] rfl rfl (by decide) rfl (by decide) (by decide) rfl (by decide) 0 rfl 0 rfl rfl hl.1 rfl (Nat.le_of_ble_eq_true rfl) dX0_takeWorkFromDisk_17 ⟨Nat.zero_le _, Nat.zero_le _⟩ (fun H locs hP hD hS => ?_)
  exact hret _ _ _ _ hP hD hS dX0_takeWorkFromDisk_20
