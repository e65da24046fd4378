/-! The class: its private methods that call. -/
set_option maxHeartbeats 4000000 in
set_option maxRecDepth 100000 in
theorem c0_copyBlock (l : Launch) (D : va_G) (x1 x2 : Nat) (q1 q2 : ClassId) (f g : Nat → Int32) (i j : Nat) (hi : i < 24) (hj : j < 24) : ct_v l yX0_copyBlock wsX0_copyBlock ({ frames := 1, cells := 0, slots := 0, locals := 18 }) D vwCl [(q1, .int), (q2, .int)] [.ref x1, .int (nI i), .ref x2, .int (nI j)] [(x1, .inl (q1, 384, .inl f)), (x2, .inl (q2, 384, .inl g))] [(x1, .inl (q1, 384, .inl f)), (x2, .inl (q2, 384, .inl (va_cpy f g (i * 16) (j * 16) 16)))] := by
  refine ct_v.of (cc := cX0_copyBlock) (maxL := 4) (by decide) rfl (Nat.le_of_ble_eq_true rfl) ?_
  intro p e s m args below meth c ls A Q hx hb hml hts hown hK hP hD hA hS hl hret
  have hown : s.vm.findClass RX0 = some m.cls := hown
  have hl : lv_has ls 4 [(0, .ref x1), (1, .int (nI i)), (2, .ref x2), (3, .int (nI j))] := hl
  have hP : va_P D vwCl [(x1, .inl (q1, 384, .inl f)), (x2, .inl (q2, 384, .inl g))] s.heap := hP
  have hD : va_D A [(x1, .inl (q1, 384, .inl f)), (x2, .inl (q2, 384, .inl g))] := hD
  refine lv_aload_n hx hb dX0_copyBlock_0 rfl (lv_at hl 0 rfl) ?_
  refine lv_iload_n hx hb dX0_copyBlock_1 rfl (lv_at hl 1 rfl) ?_
  refine lv_bipush (v := 16) hx hb dX0_copyBlock_2 (by decide) ?_
  refine lv_imul hx hb dX0_copyBlock_4 ?_
  refine tp_as (z := nI (i * 16)) (pk_mul i 16) ?_
  refine lv_aload_n hx hb dX0_copyBlock_5 rfl (lv_at hl 2 rfl) ?_
  refine lv_iload_n hx hb dX0_copyBlock_6 rfl (lv_at hl 3 rfl) ?_
  refine lv_bipush (v := 16) hx hb dX0_copyBlock_7 (by decide) ?_
  refine lv_imul hx hb dX0_copyBlock_9 ?_
  refine tp_as (z := nI (j * 16)) (pk_mul j 16) ?_
  refine lv_bipush (v := 16) hx hb dX0_copyBlock_10 (by decide) ?_
  refine va_copyi (ty := .int) hx hb (hml.trans hl.1.symm) hown (hts (.methodLink RX0 74 arraycopyName) (by decide +kernel)) (hts (.native arraycopyName) (by decide +kernel)) (hts (.static arraycopyName) (by decide +kernel)) (hts (.initialized "java/lang/System") (by decide +kernel)) hK hP hD hS 0 1 0 1 rfl rfl rfl rfl rfl (nI_pos (by omega)) (nI_pos (by omega)) (by decide) (by rw [cl_nI (by omega)]; show i * 16 + 16 ≤ 384; omega) (by rw [cl_nI (by omega)]; show j * 16 + 16 ≤ 384; omega) (fun _ _ => rfl) (Nat.le_of_ble_eq_true rfl) (Nat.le_of_ble_eq_true rfl) dX0_copyBlock_12 (fun H locs hP hD hS => ?_)
  rw [cl_nI (show i * 16 < 2 ^ 31 by omega), cl_nI (show j * 16 < 2 ^ 31 by omega)] at hP hD
  have hP : va_P D vwCl [(x1, .inl (q1, 384, .inl f)), (x2, .inl (q2, 384, .inl (va_cpy f g (i * 16) (j * 16) 16)))] H := hP
  have hD : va_D _ [(x1, .inl (q1, 384, .inl f)), (x2, .inl (q2, 384, .inl (va_cpy f g (i * 16) (j * 16) 16)))] := hD
  exact hret _ _ _ _ hP hD hS dX0_copyBlock_15
set_option maxHeartbeats 4000000 in
set_option maxRecDepth 100000 in
theorem c0_bringToLog (l : Launch) (D : va_G) (h0 a1 a2 a3 a4 a5 : Nat) (k1 k2 k3 k4 k5 : ClassId) (fw fd fb : Nat → Int32) (gn : Nat → Nat) (dz : Nat → Bool) (pw mk : Bool) (lc cu cs : Nat) (mo : Nat) (hmo : mo ≤ 24) : ct_v l yX0_bringToLog wsX0_bringToLog ({ frames := 2, cells := 0, slots := 0, locals := 41 }) D vwCl (XT k1 k2 k3 k4 k5) [.ref h0, .int (nI mo)] (XW h0 a1 a2 a3 a4 a5 k1 k2 k3 k4 k5 fw fd fb gn dz pw mk lc cu cs) (XW h0 a1 a2 a3 a4 a5 k1 k2 k3 k4 k5 fw fd ((bl fw dz mo gn fb 24).2.2) ((bl fw dz mo gn fb 24).2.1) dz pw mk lc cu cs) := by
  refine ct_v.of (cc := cX0_bringToLog) (maxL := 4) (by decide) rfl (Nat.le_of_ble_eq_true rfl) ?_
  intro p e s m args below meth c ls A Q hx hb hml hts hown hK hP hD hA hS hl hret
  have hown : s.vm.findClass RX0 = some m.cls := hown
  have hl : lv_has ls 4 [(0, .ref h0), (1, .int (nI mo))] := hl
  have hP : va_P D vwCl [(h0, .inr (0, [.ref a1, .ref a2, .ref a3, .ref a4, .ref a5, .int (bI pw), .int (bI mk), .int (nI lc), .int (nI cu), .int (nI cs)])), (a1, .inl (k1, 384, .inl fw)), (a2, .inl (k2, 384, .inl fd)), (a3, .inl (k3, 384, .inl fb)), (a4, .inl (k4, 24, .inl (fun j => nI (gn j)))), (a5, .inl (k5, 24, .inl (fun j => bI (dz j))))] s.heap := hP
  have hD : va_D A [(h0, .inr (0, [.ref a1, .ref a2, .ref a3, .ref a4, .ref a5, .int (bI pw), .int (bI mk), .int (nI lc), .int (nI cu), .int (nI cs)])), (a1, .inl (k1, 384, .inl fw)), (a2, .inl (k2, 384, .inl fd)), (a3, .inl (k3, 384, .inl fb)), (a4, .inl (k4, 24, .inl (fun j => nI (gn j)))), (a5, .inl (k5, 24, .inl (fun j => bI (dz j))))] := hD
  refine lv_iconst (v := 0) hx hb dX0_bringToLog_0 (by decide) ?_
  refine lv_istore_n (lv' := [(2, .int 0), (0, .ref h0), (1, .int (nI mo))]) hx hb dX0_bringToLog_1 rfl hl (by decide) rfl (fun ls hl => ?_)
  refine lv_iconst (v := 0) hx hb dX0_bringToLog_2 (by decide) ?_
  refine lv_istore_n (lv' := [(3, .int 0), (2, .int 0), (0, .ref h0), (1, .int (nI mo))]) hx hb dX0_bringToLog_3 rfl hl (by decide) rfl (fun ls hl => ?_)
  have loop : ∀ (n k : Nat), k + n = 24 → ∀ (ls : Array Slot) (H : Heap) (locs : List Loc), lv_has ls 4 [(3, .int (nI k)), (2, .int (nI (bl fw dz mo gn fb k).1)), (1, .int (nI mo)), (0, .ref h0)] → va_P D vwCl [(h0, .inr (0, [.ref a1, .ref a2, .ref a3, .ref a4, .ref a5, .int (bI pw), .int (bI mk), .int (nI lc), .int (nI cu), .int (nI cs)])), (a1, .inl (k1, 384, .inl fw)), (a2, .inl (k2, 384, .inl fd)), (a3, .inl (k3, 384, .inl ((bl fw dz mo gn fb k).2.2))), (a4, .inl (k4, 24, .inl (fun j => nI ((bl fw dz mo gn fb k).2.1 j)))), (a5, .inl (k5, 24, .inl (fun j => bI (dz j))))] H → va_D A [(h0, .inr (0, [.ref a1, .ref a2, .ref a3, .ref a4, .ref a5, .int (bI pw), .int (bI mk), .int (nI lc), .int (nI cu), .int (nI cs)])), (a1, .inl (k1, 384, .inl fw)), (a2, .inl (k2, 384, .inl fd)), (a3, .inl (k3, 384, .inl ((bl fw dz mo gn fb k).2.2))), (a4, .inl (k4, 24, .inl (fun j => nI ((bl fw dz mo gn fb k).2.1 j)))), (a5, .inl (k5, 24, .inl (fun j => bI (dz j))))] → va_S A s.heap H locs → W p l e ({ frames := 2, cells := 0, slots := 0, locals := 41 }) s m args below meth c H locs 0 0 Q (F0 m 4 ls []) := by
    intro n
    induction n with
    | zero =>
      intro k hk ls H locs hl hP hD hS
      obtain rfl : k = 24 := by omega
      refine lv_iload_n hx hb dX0_bringToLog_4 rfl (lv_at hl 0 rfl) ?_
      refine lv_bipush (v := 24) hx hb dX0_bringToLog_5 (by decide) ?_
      refine lv_icmp_ge (tgt := 53) hx hb dX0_bringToLog_7 (by decide) (fun c_1 => ?_) (fun c_1 => ?_)
      · -- T of pc 7
        exact hret _ _ _ _ hP hD hS dX0_bringToLog_53
      · -- F of pc 7
        exact absurd (by decide) c_1
    | succ n ih =>
      intro k hk ls H locs hl hP hD hS
      have hle := bl_le fw dz mo gn fb k
      refine lv_iload_n hx hb dX0_bringToLog_4 rfl (lv_at hl 0 rfl) ?_
      refine lv_bipush (v := 24) hx hb dX0_bringToLog_5 (by decide) ?_
      refine lv_icmp_ge (tgt := 53) hx hb dX0_bringToLog_7 (by decide) (fun c_2 => ?_) (fun c_2 => ?_)
      · -- T of pc 7
        exact absurd c_2 (show ¬ nI 24 ≤ nI k from nI_ge (by omega) (by decide))
      · -- F of pc 7
        refine lv_iload_n hx hb dX0_bringToLog_10 rfl (lv_at hl 1 rfl) ?_
        refine lv_iload_n hx hb dX0_bringToLog_11 rfl (lv_at hl 2 rfl) ?_
        refine lv_icmp_ge (tgt := 53) hx hb dX0_bringToLog_12 (by decide) (fun c_3 => ?_) (fun c_3 => ?_)
        · -- T of pc 12
          have e1 : bl fw dz mo gn fb 24 = bl fw dz mo gn fb k := by
            have h9 : mo ≤ (bl fw dz mo gn fb k).1 := (nI_leI (by omega) (by omega)).mp c_3
            have h8 := bl_stop h9 (n + 1)
            rwa [show k + (n + 1) = 24 by omega] at h8
          rw [← e1] at hP hD
          exact hret _ _ _ _ hP hD hS dX0_bringToLog_53
        · -- F of pc 12
          have hlt : (bl fw dz mo gn fb k).1 < mo := by
            rcases Nat.lt_or_ge (bl fw dz mo gn fb k).1 mo with q | q
            · exact q
            · exact absurd (nI_le q (by omega)) c_3
          refine lv_aload_n hx hb dX0_bringToLog_15 rfl (lv_at hl 3 rfl) ?_
          refine va_get (ci := 0) (v := .ref a5) (C := RX0) (T := TX0) (N := 10) hx hb hts (by decide +kernel) hown hK hP 0 rfl rfl 4 (by decide) (hts (.fieldLink RX0 22 "CommitLog" "written" "[Z") (by decide +kernel)) (fun _ h9 => h9) rfl dX0_bringToLog_16 ?_
          refine lv_iload_n hx hb dX0_bringToLog_19 rfl (lv_at hl 0 rfl) ?_
          refine va_zald hx hb hK hP 5 4 rfl rfl (vp_in_nI (by omega) (by decide)) dX0_bringToLog_20 ?_
          refine tp_as (z := bI (dz k)) (by show bI (dz (nI k).toNatClampNeg) = _; rw [cl_nI (by omega)]) ?_
          refine lv_if_eq (tgt := 47) hx hb dX0_bringToLog_21 (by decide) (fun c_4 => ?_) (fun c_4 => ?_)
          · -- T of pc 21
            have e1 : bl fw dz mo gn fb (k + 1) = bl fw dz mo gn fb k := bl_skip (dz_f c_4)
            rw [← e1] at hP hD hl
            have hl : lv_has ls 4 [(3, .int (nI k)), (2, .int (nI (bl fw dz mo gn fb (k + 1)).1)), (1, .int (nI mo)), (0, .ref h0)] := hl
            refine lv_iinc (v := (nI (k + 1))) (lv' := [(3, .int (nI (k + 1))), (2, .int (nI (bl fw dz mo gn fb (k + 1)).1)), (1, .int (nI mo)), (0, .ref h0)]) hx hb dX0_bringToLog_47 hl (k := 0) rfl (nI_1 _) (by decide) rfl (fun ls hl => ?_)
            refine lv_goto (tgt := 4) hx hb dX0_bringToLog_50 (by decide) ?_
            exact ih (k + 1) (by omega) ls H locs (lv_sub hl [0, 1, 2, 3] rfl) hP hD hS
          · -- F of pc 21
            have e1 := bl_take (fw := fw) (mo := mo) (gn := gn) (fb := fb) (dz_t c_4) hlt
            refine lv_aload_n hx hb dX0_bringToLog_24 rfl (lv_at hl 3 rfl) ?_
            refine va_get (ci := 0) (v := .ref a4) (C := RX0) (T := TX0) (N := 10) hx hb hts (by decide +kernel) hown hK hP 0 rfl rfl 3 (by decide) (hts (.fieldLink RX0 19 "CommitLog" "logNumbers" "[I") (by decide +kernel)) (fun _ h9 => h9) rfl dX0_bringToLog_25 ?_
            refine lv_iload_n hx hb dX0_bringToLog_28 rfl (lv_at hl 1 rfl) ?_
            refine lv_iload_n hx hb dX0_bringToLog_29 rfl (lv_at hl 0 rfl) ?_
            refine va_iast hx hb hK hP hD hS 4 3 rfl rfl (vp_in_nI (by omega) (by decide)) dX0_bringToLog_30 (fun H locs hP hD hS => ?_)
            rw [cl_nI (show (bl fw dz mo gn fb k).1 < 2 ^ 31 by omega), up_nI] at hP hD
            have hP : va_P D vwCl [(h0, .inr (0, [.ref a1, .ref a2, .ref a3, .ref a4, .ref a5, .int (bI pw), .int (bI mk), .int (nI lc), .int (nI cu), .int (nI cs)])), (a1, .inl (k1, 384, .inl fw)), (a2, .inl (k2, 384, .inl fd)), (a3, .inl (k3, 384, .inl ((bl fw dz mo gn fb k).2.2))), (a4, .inl (k4, 24, .inl (fun j => nI (va_up (bl fw dz mo gn fb k).2.1 (bl fw dz mo gn fb k).1 k j)))), (a5, .inl (k5, 24, .inl (fun j => bI (dz j))))] H := hP
            have hD : va_D _ [(h0, .inr (0, [.ref a1, .ref a2, .ref a3, .ref a4, .ref a5, .int (bI pw), .int (bI mk), .int (nI lc), .int (nI cu), .int (nI cs)])), (a1, .inl (k1, 384, .inl fw)), (a2, .inl (k2, 384, .inl fd)), (a3, .inl (k3, 384, .inl ((bl fw dz mo gn fb k).2.2))), (a4, .inl (k4, 24, .inl (fun j => nI (va_up (bl fw dz mo gn fb k).2.1 (bl fw dz mo gn fb k).1 k j)))), (a5, .inl (k5, 24, .inl (fun j => bI (dz j))))] := hD
            refine lv_aload_n hx hb dX0_bringToLog_31 rfl (lv_at hl 3 rfl) ?_
            refine va_get (ci := 0) (v := .ref a1) (C := RX0) (T := TX0) (N := 10) hx hb hts (by decide +kernel) hown hK hP 0 rfl rfl 0 (by decide) (hts (.fieldLink RX0 9 "CommitLog" "work" "[I") (by decide +kernel)) (fun _ h9 => h9) rfl dX0_bringToLog_32 ?_
            refine lv_iload_n hx hb dX0_bringToLog_35 rfl (lv_at hl 0 rfl) ?_
            refine lv_aload_n hx hb dX0_bringToLog_36 rfl (lv_at hl 3 rfl) ?_
            refine va_get (ci := 0) (v := .ref a3) (C := RX0) (T := TX0) (N := 10) hx hb hts (by decide +kernel) hown hK hP 0 rfl rfl 2 (by decide) (hts (.fieldLink RX0 16 "CommitLog" "logBytes" "[I") (by decide +kernel)) (fun _ h9 => h9) rfl dX0_bringToLog_37 ?_
            refine lv_iload_n hx hb dX0_bringToLog_40 rfl (lv_at hl 1 rfl) ?_
            refine ct_Sv (As := [.ref a1, .int (nI k), .ref a3, .int (nI (bl fw dz mo gn fb k).1)]) (rest := []) (wr := [(h0, .inr (0, [.ref a1, .ref a2, .ref a3, .ref a4, .ref a5, .int (bI pw), .int (bI mk), .int (nI lc), .int (nI cu), .int (nI cs)])), (a2, .inl (k2, 384, .inl fd)), (a4, .inl (k4, 24, .inl (fun j => nI (va_up (bl fw dz mo gn fb k).2.1 (bl fw dz mo gn fb k).1 k j)))), (a5, .inl (k5, 24, .inl (fun j => bI (dz j))))]) (wn := [(h0, .inr (0, [.ref a1, .ref a2, .ref a3, .ref a4, .ref a5, .int (bI pw), .int (bI mk), .int (nI lc), .int (nI cu), .int (nI cs)])), (a1, .inl (k1, 384, .inl fw)), (a2, .inl (k2, 384, .inl fd)), (a3, .inl (k3, 384, .inl (va_cpy fw (bl fw dz mo gn fb k).2.2 (k * 16) ((bl fw dz mo gn fb k).1 * 16) 16))), (a4, .inl (k4, 24, .inl (fun j => nI (va_up (bl fw dz mo gn fb k).2.1 (bl fw dz mo gn fb k).1 k j)))), (a5, .inl (k5, 24, .inl (fun j => bI (dz j))))]) ⟨hx, hb, hml, hown, hts⟩ (c0_copyBlock l D a1 a3 k1 k3 fw (bl fw dz mo gn fb k).2.2 k (bl fw dz mo gn fb k).1 (by omega) (by omega)) (va_cwS 4 hts gX0_bringToLog_X0_copyBlock rfl rfl rfl (by decide +kernel) ⟨Nat.le_of_ble_eq_true rfl, Nat.le_of_ble_eq_true rfl⟩) hK hP hD hS hA [1, 3] [0, 2, 4, 5] [0, 2] [0, 4, 1, 5, 2, 3] rfl rfl (by decide) rfl (by decide) (by decide) rfl (by decide) rfl hl.1 rfl (Nat.le_of_ble_eq_true rfl) dX0_bringToLog_41 ⟨Nat.zero_le _, Nat.zero_le _⟩ (fun H locs hP hD hS => ?_)
            have hP : va_P D vwCl [(h0, .inr (0, [.ref a1, .ref a2, .ref a3, .ref a4, .ref a5, .int (bI pw), .int (bI mk), .int (nI lc), .int (nI cu), .int (nI cs)])), (a1, .inl (k1, 384, .inl fw)), (a2, .inl (k2, 384, .inl fd)), (a3, .inl (k3, 384, .inl ((bl fw dz mo gn fb (k + 1)).2.2))), (a4, .inl (k4, 24, .inl (fun j => nI ((bl fw dz mo gn fb (k + 1)).2.1 j)))), (a5, .inl (k5, 24, .inl (fun j => bI (dz j))))] H := by rw [e1]; exact hP
            have hD : va_D A [(h0, .inr (0, [.ref a1, .ref a2, .ref a3, .ref a4, .ref a5, .int (bI pw), .int (bI mk), .int (nI lc), .int (nI cu), .int (nI cs)])), (a1, .inl (k1, 384, .inl fw)), (a2, .inl (k2, 384, .inl fd)), (a3, .inl (k3, 384, .inl ((bl fw dz mo gn fb (k + 1)).2.2))), (a4, .inl (k4, 24, .inl (fun j => nI ((bl fw dz mo gn fb (k + 1)).2.1 j)))), (a5, .inl (k5, 24, .inl (fun j => bI (dz j))))] := by rw [e1]; exact hD
            refine lv_iinc (v := (nI (bl fw dz mo gn fb (k + 1)).1)) (lv' := [(2, .int (nI (bl fw dz mo gn fb (k + 1)).1)), (3, .int (nI k)), (1, .int (nI mo)), (0, .ref h0)]) hx hb dX0_bringToLog_44 hl (k := 1) rfl (by rw [e1]; exact nI_1 _) (by decide) rfl (fun ls hl => ?_)
            refine lv_iinc (v := (nI (k + 1))) (lv' := [(3, .int (nI (k + 1))), (2, .int (nI (bl fw dz mo gn fb (k + 1)).1)), (1, .int (nI mo)), (0, .ref h0)]) hx hb dX0_bringToLog_47 hl (k := 1) rfl (nI_1 _) (by decide) rfl (fun ls hl => ?_)
            refine lv_goto (tgt := 4) hx hb dX0_bringToLog_50 (by decide) ?_
            exact ih (k + 1) (by omega) ls H locs (lv_sub hl [0, 1, 2, 3] rfl) hP hD hS
  exact loop 24 0 rfl ls _ _ (lv_sub hl [0, 1, 3, 2] rfl) hP hD hS
set_option maxHeartbeats 4000000 in
set_option maxRecDepth 100000 in
theorem c0_bringLogToDisk (l : Launch) (D : va_G) (h0 a1 a2 a3 a4 a5 : Nat) (k1 k2 k3 k4 k5 : ClassId) (fw fd fb : Nat → Int32) (gn : Nat → Nat) (dz : Nat → Bool) (pw mk : Bool) (lc cu cs : Nat) (mo : Nat) (hmo : mo ≤ 24) (hgn : ∀ j, gn j < 24) : ct_v l yX0_bringLogToDisk wsX0_bringLogToDisk ({ frames := 2, cells := 0, slots := 0, locals := 41 }) D vwCl (XT k1 k2 k3 k4 k5) [.ref h0, .int (nI mo)] (XW h0 a1 a2 a3 a4 a5 k1 k2 k3 k4 k5 fw fd fb gn dz pw mk lc cu cs) (XW h0 a1 a2 a3 a4 a5 k1 k2 k3 k4 k5 fw (dk fb gn fd mo) fb gn dz pw mk lc cu cs) := by
  refine ct_v.of (cc := cX0_bringLogToDisk) (maxL := 3) (by decide) rfl (Nat.le_of_ble_eq_true rfl) ?_
  intro p e s m args below meth c ls A Q hx hb hml hts hown hK hP hD hA hS hl hret
  have hown : s.vm.findClass RX0 = some m.cls := hown
  have hl : lv_has ls 3 [(0, .ref h0), (1, .int (nI mo))] := hl
  have hP : va_P D vwCl [(h0, .inr (0, [.ref a1, .ref a2, .ref a3, .ref a4, .ref a5, .int (bI pw), .int (bI mk), .int (nI lc), .int (nI cu), .int (nI cs)])), (a1, .inl (k1, 384, .inl fw)), (a2, .inl (k2, 384, .inl fd)), (a3, .inl (k3, 384, .inl fb)), (a4, .inl (k4, 24, .inl (fun j => nI (gn j)))), (a5, .inl (k5, 24, .inl (fun j => bI (dz j))))] s.heap := hP
  have hD : va_D A [(h0, .inr (0, [.ref a1, .ref a2, .ref a3, .ref a4, .ref a5, .int (bI pw), .int (bI mk), .int (nI lc), .int (nI cu), .int (nI cs)])), (a1, .inl (k1, 384, .inl fw)), (a2, .inl (k2, 384, .inl fd)), (a3, .inl (k3, 384, .inl fb)), (a4, .inl (k4, 24, .inl (fun j => nI (gn j)))), (a5, .inl (k5, 24, .inl (fun j => bI (dz j))))] := hD
  refine lv_iconst (v := 0) hx hb dX0_bringLogToDisk_0 (by decide) ?_
  refine lv_istore_n (lv' := [(2, .int 0), (0, .ref h0), (1, .int (nI mo))]) hx hb dX0_bringLogToDisk_1 rfl hl (by decide) rfl (fun ls hl => ?_)
  have loop : ∀ (n k : Nat), k + n = mo → ∀ (ls : Array Slot) (H : Heap) (locs : List Loc), lv_has ls 3 [(2, .int (nI k)), (1, .int (nI mo)), (0, .ref h0)] → va_P D vwCl [(h0, .inr (0, [.ref a1, .ref a2, .ref a3, .ref a4, .ref a5, .int (bI pw), .int (bI mk), .int (nI lc), .int (nI cu), .int (nI cs)])), (a1, .inl (k1, 384, .inl fw)), (a2, .inl (k2, 384, .inl (dk fb gn fd k))), (a3, .inl (k3, 384, .inl fb)), (a4, .inl (k4, 24, .inl (fun j => nI (gn j)))), (a5, .inl (k5, 24, .inl (fun j => bI (dz j))))] H → va_D A [(h0, .inr (0, [.ref a1, .ref a2, .ref a3, .ref a4, .ref a5, .int (bI pw), .int (bI mk), .int (nI lc), .int (nI cu), .int (nI cs)])), (a1, .inl (k1, 384, .inl fw)), (a2, .inl (k2, 384, .inl (dk fb gn fd k))), (a3, .inl (k3, 384, .inl fb)), (a4, .inl (k4, 24, .inl (fun j => nI (gn j)))), (a5, .inl (k5, 24, .inl (fun j => bI (dz j))))] → va_S A s.heap H locs → W p l e ({ frames := 2, cells := 0, slots := 0, locals := 41 }) s m args below meth c H locs 0 0 Q (F0 m 2 ls []) := by
    intro n
    induction n with
    | zero =>
      intro k hk ls H locs hl hP hD hS
      obtain rfl : k = mo := by omega
      refine lv_iload_n hx hb dX0_bringLogToDisk_2 rfl (lv_at hl 0 rfl) ?_
      refine lv_iload_n hx hb dX0_bringLogToDisk_3 rfl (lv_at hl 1 rfl) ?_
      refine lv_icmp_ge (tgt := 37) hx hb dX0_bringLogToDisk_4 (by decide) (fun c_1 => ?_) (fun c_1 => ?_)
      · -- T of pc 4
        exact hret _ _ _ _ hP hD hS dX0_bringLogToDisk_37
      · -- F of pc 4
        exact absurd (nI_le (Nat.le_refl _) (by omega)) c_1
    | succ n ih =>
      intro k hk ls H locs hl hP hD hS
      refine lv_iload_n hx hb dX0_bringLogToDisk_2 rfl (lv_at hl 0 rfl) ?_
      refine lv_iload_n hx hb dX0_bringLogToDisk_3 rfl (lv_at hl 1 rfl) ?_
      refine lv_icmp_ge (tgt := 37) hx hb dX0_bringLogToDisk_4 (by decide) (fun c_2 => ?_) (fun c_2 => ?_)
      · -- T of pc 4
        exact absurd c_2 (nI_ge (by omega) (by omega))
      · -- F of pc 4
        refine lv_iload_n hx hb dX0_bringLogToDisk_7 rfl (lv_at hl 0 rfl) ?_
        refine lv_bipush (v := 24) hx hb dX0_bringLogToDisk_8 (by decide) ?_
        refine lv_icmp_ge (tgt := 37) hx hb dX0_bringLogToDisk_10 (by decide) (fun c_3 => ?_) (fun c_3 => ?_)
        · -- T of pc 10
          exact absurd c_3 (show ¬ nI 24 ≤ nI k from nI_ge (by omega) (by decide))
        · -- F of pc 10
          refine lv_aload_n hx hb dX0_bringLogToDisk_13 rfl (lv_at hl 2 rfl) ?_
          refine va_get (ci := 0) (v := .ref a3) (C := RX0) (T := TX0) (N := 10) hx hb hts (by decide +kernel) hown hK hP 0 rfl rfl 2 (by decide) (hts (.fieldLink RX0 16 "CommitLog" "logBytes" "[I") (by decide +kernel)) (fun _ h9 => h9) rfl dX0_bringLogToDisk_14 ?_
          refine lv_iload_n hx hb dX0_bringLogToDisk_17 rfl (lv_at hl 0 rfl) ?_
          refine lv_aload_n hx hb dX0_bringLogToDisk_18 rfl (lv_at hl 2 rfl) ?_
          refine va_get (ci := 0) (v := .ref a2) (C := RX0) (T := TX0) (N := 10) hx hb hts (by decide +kernel) hown hK hP 0 rfl rfl 1 (by decide) (hts (.fieldLink RX0 13 "CommitLog" "onDisk" "[I") (by decide +kernel)) (fun _ h9 => h9) rfl dX0_bringLogToDisk_19 ?_
          refine lv_aload_n hx hb dX0_bringLogToDisk_22 rfl (lv_at hl 2 rfl) ?_
          refine va_get (ci := 0) (v := .ref a4) (C := RX0) (T := TX0) (N := 10) hx hb hts (by decide +kernel) hown hK hP 0 rfl rfl 3 (by decide) (hts (.fieldLink RX0 19 "CommitLog" "logNumbers" "[I") (by decide +kernel)) (fun _ h9 => h9) rfl dX0_bringLogToDisk_23 ?_
          refine lv_iload_n hx hb dX0_bringLogToDisk_26 rfl (lv_at hl 0 rfl) ?_
          refine va_iald hx hb hK hP 4 3 rfl rfl (vp_in_nI (by omega) (by decide)) dX0_bringLogToDisk_27 ?_
          refine tp_as (z := nI (gn k)) (by show nI (gn (nI k).toNatClampNeg) = _; rw [cl_nI (by omega)]) ?_
          refine ct_Sv (As := [.ref a3, .int (nI k), .ref a2, .int (nI (gn k))]) (rest := []) (wr := [(h0, .inr (0, [.ref a1, .ref a2, .ref a3, .ref a4, .ref a5, .int (bI pw), .int (bI mk), .int (nI lc), .int (nI cu), .int (nI cs)])), (a1, .inl (k1, 384, .inl fw)), (a4, .inl (k4, 24, .inl (fun j => nI (gn j)))), (a5, .inl (k5, 24, .inl (fun j => bI (dz j))))]) (wn := [(h0, .inr (0, [.ref a1, .ref a2, .ref a3, .ref a4, .ref a5, .int (bI pw), .int (bI mk), .int (nI lc), .int (nI cu), .int (nI cs)])), (a1, .inl (k1, 384, .inl fw)), (a2, .inl (k2, 384, .inl (va_cpy fb (dk fb gn fd k) (k * 16) (gn k * 16) 16))), (a3, .inl (k3, 384, .inl fb)), (a4, .inl (k4, 24, .inl (fun j => nI (gn j)))), (a5, .inl (k5, 24, .inl (fun j => bI (dz j))))]) ⟨hx, hb, hml, hown, hts⟩ (c0_copyBlock l D a3 a2 k3 k2 fb (dk fb gn fd k) k (gn k) (by omega) (hgn k)) (va_cwS 4 hts gX0_bringLogToDisk_X0_copyBlock rfl rfl rfl (by decide +kernel) ⟨Nat.le_of_ble_eq_true rfl, Nat.le_of_ble_eq_true rfl⟩) hK hP hD hS hA [3, 2] [0, 1, 4, 5] [2, 1] [0, 1, 5, 4, 2, 3] rfl rfl (by decide) rfl (by decide) (by decide) rfl (by decide) rfl hl.1 rfl (Nat.le_of_ble_eq_true rfl) dX0_bringLogToDisk_28 ⟨Nat.zero_le _, Nat.zero_le _⟩ (fun H locs hP hD hS => ?_)
          have hP : va_P D vwCl [(h0, .inr (0, [.ref a1, .ref a2, .ref a3, .ref a4, .ref a5, .int (bI pw), .int (bI mk), .int (nI lc), .int (nI cu), .int (nI cs)])), (a1, .inl (k1, 384, .inl fw)), (a2, .inl (k2, 384, .inl (dk fb gn fd (k + 1)))), (a3, .inl (k3, 384, .inl fb)), (a4, .inl (k4, 24, .inl (fun j => nI (gn j)))), (a5, .inl (k5, 24, .inl (fun j => bI (dz j))))] H := hP
          have hD : va_D _ [(h0, .inr (0, [.ref a1, .ref a2, .ref a3, .ref a4, .ref a5, .int (bI pw), .int (bI mk), .int (nI lc), .int (nI cu), .int (nI cs)])), (a1, .inl (k1, 384, .inl fw)), (a2, .inl (k2, 384, .inl (dk fb gn fd (k + 1)))), (a3, .inl (k3, 384, .inl fb)), (a4, .inl (k4, 24, .inl (fun j => nI (gn j)))), (a5, .inl (k5, 24, .inl (fun j => bI (dz j))))] := hD
          refine lv_iinc (v := (nI (k + 1))) (lv' := [(2, .int (nI (k + 1))), (1, .int (nI mo)), (0, .ref h0)]) hx hb dX0_bringLogToDisk_31 hl (k := 0) rfl (nI_1 _) (by decide) rfl (fun ls hl => ?_)
          refine lv_goto (tgt := 2) hx hb dX0_bringLogToDisk_34 (by decide) ?_
          exact ih (k + 1) (by omega) ls H locs (lv_sub hl [0, 1, 2] rfl) hP hD hS
  exact loop mo 0 (by omega) ls _ _ (lv_sub hl [0, 2, 1] rfl) hP hD hS
set_option maxHeartbeats 4000000 in
set_option maxRecDepth 100000 in
theorem c0_takeWork (l : Launch) (D : va_G) (h0 a1 a2 a3 a4 a5 : Nat) (k1 k2 k3 k4 k5 : ClassId) (fw fd fb : Nat → Int32) (gn : Nat → Nat) (dz : Nat → Bool) (pw mk : Bool) (lc cu cs : Nat) : ct_v l yX0_takeWorkFromDisk wsX0_takeWorkFromDisk ({ frames := 1, cells := 0, slots := 0, locals := 21 }) D vwCl (XT k1 k2 k3 k4 k5) [.ref h0] (XW h0 a1 a2 a3 a4 a5 k1 k2 k3 k4 k5 fw fd fb gn dz pw mk lc cu cs) (XW h0 a1 a2 a3 a4 a5 k1 k2 k3 k4 k5 (va_cpy fd fw 0 0 384) fd fb gn (clr dz 24) pw mk lc cu cs) := by
  refine ct_v.of (cc := cX0_takeWorkFromDisk) (maxL := 1) (by decide) rfl (Nat.le_of_ble_eq_true rfl) ?_
  intro p e s m args below meth c ls A Q hx hb hml hts hown hK hP hD hA hS hl hret
  have hown : s.vm.findClass RX0 = some m.cls := hown
  have hl : lv_has ls 1 [(0, .ref h0)] := hl
  have hP : va_P D vwCl [(h0, .inr (0, [.ref a1, .ref a2, .ref a3, .ref a4, .ref a5, .int (bI pw), .int (bI mk), .int (nI lc), .int (nI cu), .int (nI cs)])), (a1, .inl (k1, 384, .inl fw)), (a2, .inl (k2, 384, .inl fd)), (a3, .inl (k3, 384, .inl fb)), (a4, .inl (k4, 24, .inl (fun j => nI (gn j)))), (a5, .inl (k5, 24, .inl (fun j => bI (dz j))))] s.heap := hP
  have hD : va_D A [(h0, .inr (0, [.ref a1, .ref a2, .ref a3, .ref a4, .ref a5, .int (bI pw), .int (bI mk), .int (nI lc), .int (nI cu), .int (nI cs)])), (a1, .inl (k1, 384, .inl fw)), (a2, .inl (k2, 384, .inl fd)), (a3, .inl (k3, 384, .inl fb)), (a4, .inl (k4, 24, .inl (fun j => nI (gn j)))), (a5, .inl (k5, 24, .inl (fun j => bI (dz j))))] := hD
  refine lv_aload_n hx hb dX0_takeWorkFromDisk_0 rfl (lv_at hl 0 rfl) ?_
  refine va_get (ci := 0) (v := .ref a2) (C := RX0) (T := TX0) (N := 10) hx hb hts (by decide +kernel) hown hK hP 0 rfl rfl 1 (by decide) (hts (.fieldLink RX0 13 "CommitLog" "onDisk" "[I") (by decide +kernel)) (fun _ h9 => h9) rfl dX0_takeWorkFromDisk_1 ?_
  refine lv_iconst (v := 0) hx hb dX0_takeWorkFromDisk_4 (by decide) ?_
  refine lv_aload_n hx hb dX0_takeWorkFromDisk_5 rfl (lv_at hl 0 rfl) ?_
  refine va_get (ci := 0) (v := .ref a1) (C := RX0) (T := TX0) (N := 10) hx hb hts (by decide +kernel) hown hK hP 0 rfl rfl 0 (by decide) (hts (.fieldLink RX0 9 "CommitLog" "work" "[I") (by decide +kernel)) (fun _ h9 => h9) rfl dX0_takeWorkFromDisk_6 ?_
  refine lv_iconst (v := 0) hx hb dX0_takeWorkFromDisk_9 (by decide) ?_
  refine lv_sipush (v := 384) hx hb dX0_takeWorkFromDisk_10 (by decide) ?_
  refine va_copyi (ty := .int) hx hb (hml.trans hl.1.symm) hown (hts (.methodLink RX0 74 arraycopyName) (by decide +kernel)) (hts (.native arraycopyName) (by decide +kernel)) (hts (.static arraycopyName) (by decide +kernel)) (hts (.initialized "java/lang/System") (by decide +kernel)) hK hP hD hS 2 1 1 0 rfl rfl rfl rfl rfl (by decide) (by decide) (by decide) (by decide) (by decide) (fun _ _ => rfl) (Nat.le_of_ble_eq_true rfl) (Nat.le_of_ble_eq_true rfl) dX0_takeWorkFromDisk_13 (fun H locs hP hD hS => ?_)
  have hP : va_P D vwCl [(h0, .inr (0, [.ref a1, .ref a2, .ref a3, .ref a4, .ref a5, .int (bI pw), .int (bI mk), .int (nI lc), .int (nI cu), .int (nI cs)])), (a1, .inl (k1, 384, .inl (va_cpy fd fw 0 0 384))), (a2, .inl (k2, 384, .inl fd)), (a3, .inl (k3, 384, .inl fb)), (a4, .inl (k4, 24, .inl (fun j => nI (gn j)))), (a5, .inl (k5, 24, .inl (fun j => bI (dz j))))] H := hP
  have hD : va_D _ [(h0, .inr (0, [.ref a1, .ref a2, .ref a3, .ref a4, .ref a5, .int (bI pw), .int (bI mk), .int (nI lc), .int (nI cu), .int (nI cs)])), (a1, .inl (k1, 384, .inl (va_cpy fd fw 0 0 384))), (a2, .inl (k2, 384, .inl fd)), (a3, .inl (k3, 384, .inl fb)), (a4, .inl (k4, 24, .inl (fun j => nI (gn j)))), (a5, .inl (k5, 24, .inl (fun j => bI (dz j))))] := hD
  refine lv_aload_n hx hb dX0_takeWorkFromDisk_16 rfl (lv_at hl 0 rfl) ?_
  refine ct_Vv (As := []) (rest := []) (wr := []) (wn := [(h0, .inr (0, [.ref a1, .ref a2, .ref a3, .ref a4, .ref a5, .int (bI pw), .int (bI mk), .int (nI lc), .int (nI cu), .int (nI cs)])), (a1, .inl (k1, 384, .inl (va_cpy fd fw 0 0 384))), (a2, .inl (k2, 384, .inl fd)), (a3, .inl (k3, 384, .inl fb)), (a4, .inl (k4, 24, .inl (fun j => nI (gn j)))), (a5, .inl (k5, 24, .inl (fun j => bI (clr dz 24 j))))]) ⟨hx, hb, hml, hown, hts⟩ (c0_clearWritten l D h0 a1 a2 a3 a4 a5 k1 k2 k3 k4 k5 (va_cpy fd fw 0 0 384) fd fb gn dz pw mk lc cu cs) (cwV 0 hts gX0_takeWorkFromDisk_X0_clearWritten rfl rfl rfl (by decide +kernel) ⟨Nat.le_of_ble_eq_true rfl, Nat.le_of_ble_eq_true rfl⟩) hK hP hD hS hA [0, 1, 2, 3, 4, 5] [] [0, 1, 2, 3, 4] [0, 1, 2, 3, 4, 5] rfl rfl (by decide) rfl (by decide) (by decide) rfl (by decide) 0 rfl 0 rfl rfl hl.1 rfl (Nat.le_of_ble_eq_true rfl) dX0_takeWorkFromDisk_17 ⟨Nat.zero_le _, Nat.zero_le _⟩ (fun H locs hP hD hS => ?_)
  exact hret _ _ _ _ hP hD hS dX0_takeWorkFromDisk_20
