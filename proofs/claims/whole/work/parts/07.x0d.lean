/-! The class: commit and start. -/
theorem sh_mul {n s m : Nat} (hn : n ≤ 24) (hs : s ≤ m) : n * s ≤ 24 * m := Nat.mul_le_mul hn hs
theorem sh_div {n s m : Nat} (hn : n ≤ 24) (hs : s ≤ m) : n * s / m ≤ 24 := Nat.div_le_of_le_mul (by rw [Nat.mul_comm m 24]; exact Nat.mul_le_mul hn hs)
theorem tkS_le {cu cs : Nat} (h : cs < 1000) : tkS cu cs ≤ 1000 := by
  simp only [tkS]; split
  · omega
  · split <;> omega
set_option maxHeartbeats 4000000 in
set_option maxRecDepth 100000 in
theorem c0_commit_low (l : Launch) (D : va_G) (h0 a1 a2 a3 a4 a5 : Nat) (k1 k2 k3 k4 k5 : ClassId) (fw fd fb : Nat → Int32) (lq dz : Nat → Bool) (mk : Bool) (lc cu cs : Nat) (hcu : cu ≤ 1000) (hcs : cs < 1000) (h5 : tkS cu cs < 500) : ct_i l yX0_commit wsX0_commit ({ frames := 3, cells := 0, slots := 0, locals := 64 }) D vwCl (XT k1 k2 k3 k4 k5) [.ref h0] (XW h0 a1 a2 a3 a4 a5 k1 k2 k3 k4 k5 fw fd fb lq dz true mk lc cu cs) (XW h0 a1 a2 a3 a4 a5 k1 k2 k3 k4 k5 fw fd (lx fw dz (cnt dz 24 * tkS cu cs / 500) fb 24) (lqK dz (cnt dz 24 * tkS cu cs / 500) lq 24) (clr dz 24) false false (cnt dz 24) (cu - 1) cs) (bI false) := by
  have hs : (tkS cu cs) ≤ 1000 := tkS_le hcs
  have hc := cnt_le dz 24
  have hm1 := sh_mul hc hs
  have hm2 : (cnt dz 24) * ((tkS cu cs) - 500) ≤ 24 * 1000 := sh_mul hc (by omega)
  refine ct_i.of (cc := cX0_commit) (maxL := 2) (ty := .boolean) (by decide) rfl (Nat.le_of_ble_eq_true rfl) (nb_bI _) ?_
  intro p e s m args below meth c ls A Q hx hb hml hts hown hK hP hD hA hS hl hret
  have hown : s.vm.findClass RX0 = some m.cls := hown
  have hl : lv_has ls 2 [(0, .ref h0)] := hl
  have hP : va_P D vwCl [(h0, .inr (0, [.ref a1, .ref a2, .ref a3, .ref a4, .ref a5, .int 1, .int (bI mk), .int (nI lc), .int (nI cu), .int (nI cs)])), (a1, .inl (k1, 384, .inl fw)), (a2, .inl (k2, 384, .inl fd)), (a3, .inl (k3, 384, .inl fb)), (a4, .inl (k4, 24, .inl (fun j => bI (dz j)))), (a5, .inl (k5, 24, .inl (fun j => bI (lq j))))] s.heap := hP
  have hD : va_D A [(h0, .inr (0, [.ref a1, .ref a2, .ref a3, .ref a4, .ref a5, .int 1, .int (bI mk), .int (nI lc), .int (nI cu), .int (nI cs)])), (a1, .inl (k1, 384, .inl fw)), (a2, .inl (k2, 384, .inl fd)), (a3, .inl (k3, 384, .inl fb)), (a4, .inl (k4, 24, .inl (fun j => bI (dz j)))), (a5, .inl (k5, 24, .inl (fun j => bI (lq j))))] := hD
  refine lv_aload_n hx hb dX0_commit_0 rfl (lv_at hl 0 rfl) ?_
  refine va_get (ci := 0) (v := .int 1) (C := RX0) (T := TX0) (N := 10) hx hb hts (by decide +kernel) hown hK hP 0 rfl rfl 5 (by decide) (hts (.fieldLink RX0 26 "CommitLog" "powered" "Z") (by decide +kernel)) (fun _ h9 => h9) rfl dX0_commit_1 ?_
  refine lv_if_ne (tgt := 9) hx hb dX0_commit_4 (by decide) (fun c_1 => ?_) (fun c_1 => ?_)
  · -- T of pc 4
    refine lv_aload_n hx hb dX0_commit_9 rfl (lv_at hl 0 rfl) ?_
    refine ct_Vi (As := []) (rest := []) (wr := []) (wn := [(h0, .inr (0, [.ref a1, .ref a2, .ref a3, .ref a4, .ref a5, .int 1, .int (bI mk), .int (nI lc), .int (nI (cu - 1)), .int (nI cs)])), (a1, .inl (k1, 384, .inl fw)), (a2, .inl (k2, 384, .inl fd)), (a3, .inl (k3, 384, .inl fb)), (a4, .inl (k4, 24, .inl (fun j => bI (dz j)))), (a5, .inl (k5, 24, .inl (fun j => bI (lq j))))]) ⟨hx, hb, hml, hown, hts⟩ (c0_takeShare l D h0 a1 a2 a3 a4 a5 k1 k2 k3 k4 k5 fw fd fb lq dz true mk lc cu cs hcu) (cwV 0 hts gX0_commit_X0_takeShareOfThisCommit rfl rfl rfl (by decide +kernel) ⟨Nat.le_of_ble_eq_true rfl, Nat.le_of_ble_eq_true rfl⟩) hK hP hD hS hA [0, 1, 2, 3, 4, 5] [] [0, 1, 2, 3, 4] [0, 1, 2, 3, 4, 5] rfl rfl (by decide) rfl (by decide) (by decide) rfl (by decide) 0 rfl 0 rfl rfl hl.1 rfl (Nat.le_of_ble_eq_true rfl) dX0_commit_10 ⟨Nat.zero_le _, Nat.zero_le _⟩ (fun H locs hP hD hS => ?_)
    refine lv_istore_n (lv' := [(1, .int (nI (tkS cu cs))), (0, .ref h0)]) hx hb dX0_commit_13 rfl hl (by decide) rfl (fun ls hl => ?_)
    refine lv_aload_n hx hb dX0_commit_14 rfl (lv_at hl 1 rfl) ?_
    refine lv_aload_n hx hb dX0_commit_15 rfl (lv_at hl 1 rfl) ?_
    refine ct_Vi (As := []) (rest := [.ref h0]) (wr := []) (wn := [(h0, .inr (0, [.ref a1, .ref a2, .ref a3, .ref a4, .ref a5, .int 1, .int (bI mk), .int (nI lc), .int (nI (cu - 1)), .int (nI cs)])), (a1, .inl (k1, 384, .inl fw)), (a2, .inl (k2, 384, .inl fd)), (a3, .inl (k3, 384, .inl fb)), (a4, .inl (k4, 24, .inl (fun j => bI (dz j)))), (a5, .inl (k5, 24, .inl (fun j => bI (lq j))))]) ⟨hx, hb, hml, hown, hts⟩ (c0_countWritten l D h0 a1 a2 a3 a4 a5 k1 k2 k3 k4 k5 fw fd fb lq dz true mk lc (cu - 1) cs) (cwV 0 hts gX0_commit_X0_countWritten rfl rfl rfl (by decide +kernel) ⟨Nat.le_of_ble_eq_true rfl, Nat.le_of_ble_eq_true rfl⟩) hK hP hD hS hA [0, 1, 2, 3, 4, 5] [] [0, 1, 2, 3, 4] [0, 1, 2, 3, 4, 5] rfl rfl (by decide) rfl (by decide) (by decide) rfl (by decide) 0 rfl 0 rfl rfl hl.1 rfl (Nat.le_of_ble_eq_true rfl) dX0_commit_16 ⟨Nat.zero_le _, Nat.zero_le _⟩ (fun H locs hP hD hS => ?_)
    refine va_put (ci := 0) (v := .int (nI (cnt dz 24))) (ty := .int) (C := RX0) (T := TX0) (N := 10) hx hb hts (by decide +kernel) tyX0 tyX0_ok nmX0 hown hK hP hD hS 0 rfl rfl 7 (by decide) (hts (.fieldLink RX0 33 "CommitLog" "latestCount" "I") (by decide +kernel)) (fun _ h9 => h9) rfl (by decide +kernel) rfl rfl (Nat.le_of_ble_eq_true rfl) dX0_commit_19 (fun H locs hP hD hS => ?_)
    have hP : va_P D vwCl [(h0, .inr (0, [.ref a1, .ref a2, .ref a3, .ref a4, .ref a5, .int 1, .int (bI mk), .int (nI (cnt dz 24)), .int (nI (cu - 1)), .int (nI cs)])), (a1, .inl (k1, 384, .inl fw)), (a2, .inl (k2, 384, .inl fd)), (a3, .inl (k3, 384, .inl fb)), (a4, .inl (k4, 24, .inl (fun j => bI (dz j)))), (a5, .inl (k5, 24, .inl (fun j => bI (lq j))))] H := hP
    have hD : va_D _ [(h0, .inr (0, [.ref a1, .ref a2, .ref a3, .ref a4, .ref a5, .int 1, .int (bI mk), .int (nI (cnt dz 24)), .int (nI (cu - 1)), .int (nI cs)])), (a1, .inl (k1, 384, .inl fw)), (a2, .inl (k2, 384, .inl fd)), (a3, .inl (k3, 384, .inl fb)), (a4, .inl (k4, 24, .inl (fun j => bI (dz j)))), (a5, .inl (k5, 24, .inl (fun j => bI (lq j))))] := hD
    refine lv_aload_n hx hb dX0_commit_22 rfl (lv_at hl 1 rfl) ?_
    refine lv_iload_n hx hb dX0_commit_23 rfl (lv_at hl 0 rfl) ?_
    refine lv_sipush (v := 500) hx hb dX0_commit_24 (by decide) ?_
    refine lv_icmp_lt (tgt := 34) hx hb dX0_commit_27 (by decide) (fun c_2 => ?_) (fun c_2 => ?_)
    · -- T of pc 27
      refine lv_iconst (v := 0) hx hb dX0_commit_34 (by decide) ?_
      refine va_put (ci := 0) (v := .int 0) (ty := .boolean) (C := RX0) (T := TX0) (N := 10) hx hb hts (by decide +kernel) tyX0 tyX0_ok nmX0 hown hK hP hD hS 0 rfl rfl 6 (by decide) (hts (.fieldLink RX0 30 "CommitLog" "marked" "Z") (by decide +kernel)) (fun _ h9 => h9) rfl (by decide +kernel) rfl rfl (Nat.le_of_ble_eq_true rfl) dX0_commit_35 (fun H locs hP hD hS => ?_)
      have hP : va_P D vwCl [(h0, .inr (0, [.ref a1, .ref a2, .ref a3, .ref a4, .ref a5, .int 1, .int 0, .int (nI (cnt dz 24)), .int (nI (cu - 1)), .int (nI cs)])), (a1, .inl (k1, 384, .inl fw)), (a2, .inl (k2, 384, .inl fd)), (a3, .inl (k3, 384, .inl fb)), (a4, .inl (k4, 24, .inl (fun j => bI (dz j)))), (a5, .inl (k5, 24, .inl (fun j => bI (lq j))))] H := hP
      have hD : va_D _ [(h0, .inr (0, [.ref a1, .ref a2, .ref a3, .ref a4, .ref a5, .int 1, .int 0, .int (nI (cnt dz 24)), .int (nI (cu - 1)), .int (nI cs)])), (a1, .inl (k1, 384, .inl fw)), (a2, .inl (k2, 384, .inl fd)), (a3, .inl (k3, 384, .inl fb)), (a4, .inl (k4, 24, .inl (fun j => bI (dz j)))), (a5, .inl (k5, 24, .inl (fun j => bI (lq j))))] := hD
      refine lv_aload_n hx hb dX0_commit_38 rfl (lv_at hl 1 rfl) ?_
      refine lv_aload_n hx hb dX0_commit_39 rfl (lv_at hl 1 rfl) ?_
      refine va_get (ci := 0) (v := .int 0) (C := RX0) (T := TX0) (N := 10) hx hb hts (by decide +kernel) hown hK hP 0 rfl rfl 6 (by decide) (hts (.fieldLink RX0 30 "CommitLog" "marked" "Z") (by decide +kernel)) (fun _ h9 => h9) rfl dX0_commit_40 ?_
      refine lv_if_eq (tgt := 53) hx hb dX0_commit_43 (by decide) (fun c_3 => ?_) (fun c_3 => ?_)
      · -- T of pc 43
        refine lv_aload_n hx hb dX0_commit_53 rfl (lv_at hl 1 rfl) ?_
        refine va_get (ci := 0) (v := .int (nI (cnt dz 24))) (C := RX0) (T := TX0) (N := 10) hx hb hts (by decide +kernel) hown hK hP 0 rfl rfl 7 (by decide) (hts (.fieldLink RX0 33 "CommitLog" "latestCount" "I") (by decide +kernel)) (fun _ h9 => h9) rfl dX0_commit_54 ?_
        refine lv_iload_n hx hb dX0_commit_57 rfl (lv_at hl 0 rfl) ?_
        refine lv_imul hx hb dX0_commit_58 ?_
        refine tp_as (z := nI ((cnt dz 24) * (tkS cu cs))) (pk_mul _ _) ?_
        refine lv_sipush (v := 500) hx hb dX0_commit_59 (by decide) ?_
        refine lv_idiv hx hb dX0_commit_62 (by decide) ?_
        refine tp_as (z := nI ((cnt dz 24) * (tkS cu cs) / 500)) (pk_div (d := 500) (by omega) (by decide) (by decide)) ?_
        refine ct_Vv (As := [.int (nI ((cnt dz 24) * (tkS cu cs) / 500))]) (rest := []) (wr := []) (wn := [(h0, .inr (0, [.ref a1, .ref a2, .ref a3, .ref a4, .ref a5, .int 1, .int 0, .int (nI (cnt dz 24)), .int (nI (cu - 1)), .int (nI cs)])), (a1, .inl (k1, 384, .inl fw)), (a2, .inl (k2, 384, .inl fd)), (a3, .inl (k3, 384, .inl (lx fw dz (cnt dz 24 * tkS cu cs / 500) fb 24))), (a4, .inl (k4, 24, .inl (fun j => bI (dz j)))), (a5, .inl (k5, 24, .inl (fun j => bI ((lqK dz (cnt dz 24 * tkS cu cs / 500) lq 24) j))))]) ⟨hx, hb, hml, hown, hts⟩ (c0_bringToLog l D h0 a1 a2 a3 a4 a5 k1 k2 k3 k4 k5 fw fd fb lq dz true false (cnt dz 24) (cu - 1) cs (cnt dz 24 * tkS cu cs / 500) (sh_div hc (Nat.le_of_lt h5))) (cwV 1 hts gX0_commit_X0_bringToLog rfl rfl rfl (by decide +kernel) ⟨Nat.le_of_ble_eq_true rfl, Nat.le_of_ble_eq_true rfl⟩) hK hP hD hS hA [0, 1, 2, 3, 4, 5] [] [0, 1, 2, 3, 4] [0, 1, 2, 3, 4, 5] rfl rfl (by decide) rfl (by decide) (by decide) rfl (by decide) 0 rfl 0 rfl rfl hl.1 rfl (Nat.le_of_ble_eq_true rfl) dX0_commit_63 ⟨Nat.zero_le _, Nat.zero_le _⟩ (fun H locs hP hD hS => ?_)
        refine lv_aload_n hx hb dX0_commit_66 rfl (lv_at hl 1 rfl) ?_
        refine ct_Vv (As := []) (rest := []) (wr := []) (wn := [(h0, .inr (0, [.ref a1, .ref a2, .ref a3, .ref a4, .ref a5, .int 1, .int 0, .int (nI (cnt dz 24)), .int (nI (cu - 1)), .int (nI cs)])), (a1, .inl (k1, 384, .inl fw)), (a2, .inl (k2, 384, .inl fd)), (a3, .inl (k3, 384, .inl (lx fw dz (cnt dz 24 * tkS cu cs / 500) fb 24))), (a4, .inl (k4, 24, .inl (fun j => bI ((clr dz 24) j)))), (a5, .inl (k5, 24, .inl (fun j => bI ((lqK dz (cnt dz 24 * tkS cu cs / 500) lq 24) j))))]) ⟨hx, hb, hml, hown, hts⟩ (c0_clearWritten l D h0 a1 a2 a3 a4 a5 k1 k2 k3 k4 k5 fw fd (lx fw dz (cnt dz 24 * tkS cu cs / 500) fb 24) (lqK dz (cnt dz 24 * tkS cu cs / 500) lq 24) dz true false (cnt dz 24) (cu - 1) cs) (cwV 0 hts gX0_commit_X0_clearWritten rfl rfl rfl (by decide +kernel) ⟨Nat.le_of_ble_eq_true rfl, Nat.le_of_ble_eq_true rfl⟩) hK hP hD hS hA [0, 1, 2, 3, 4, 5] [] [0, 1, 2, 3, 4] [0, 1, 2, 3, 4, 5] rfl rfl (by decide) rfl (by decide) (by decide) rfl (by decide) 0 rfl 0 rfl rfl hl.1 rfl (Nat.le_of_ble_eq_true rfl) dX0_commit_67 ⟨Nat.zero_le _, Nat.zero_le _⟩ (fun H locs hP hD hS => ?_)
        refine lv_aload_n hx hb dX0_commit_70 rfl (lv_at hl 1 rfl) ?_
        refine va_get (ci := 0) (v := .int 0) (C := RX0) (T := TX0) (N := 10) hx hb hts (by decide +kernel) hown hK hP 0 rfl rfl 6 (by decide) (hts (.fieldLink RX0 30 "CommitLog" "marked" "Z") (by decide +kernel)) (fun _ h9 => h9) rfl dX0_commit_71 ?_
        refine lv_if_eq (tgt := 95) hx hb dX0_commit_74 (by decide) (fun c_4 => ?_) (fun c_4 => ?_)
        · -- T of pc 74
          refine lv_aload_n hx hb dX0_commit_95 rfl (lv_at hl 1 rfl) ?_
          refine lv_iload_n hx hb dX0_commit_96 rfl (lv_at hl 0 rfl) ?_
          refine lv_sipush (v := 1000) hx hb dX0_commit_97 (by decide) ?_
          refine lv_icmp_ne (tgt := 107) hx hb dX0_commit_100 (by decide) (fun c_5 => ?_) (fun c_5 => ?_)
          · -- T of pc 100
            refine lv_iconst (v := 0) hx hb dX0_commit_107 (by decide) ?_
            refine va_put (ci := 0) (v := .int 0) (ty := .boolean) (C := RX0) (T := TX0) (N := 10) hx hb hts (by decide +kernel) tyX0 tyX0_ok nmX0 hown hK hP hD hS 0 rfl rfl 5 (by decide) (hts (.fieldLink RX0 26 "CommitLog" "powered" "Z") (by decide +kernel)) (fun _ h9 => h9) rfl (by decide +kernel) rfl rfl (Nat.le_of_ble_eq_true rfl) dX0_commit_108 (fun H locs hP hD hS => ?_)
            have hP : va_P D vwCl [(h0, .inr (0, [.ref a1, .ref a2, .ref a3, .ref a4, .ref a5, .int 0, .int 0, .int (nI (cnt dz 24)), .int (nI (cu - 1)), .int (nI cs)])), (a1, .inl (k1, 384, .inl fw)), (a2, .inl (k2, 384, .inl fd)), (a3, .inl (k3, 384, .inl (lx fw dz (cnt dz 24 * tkS cu cs / 500) fb 24))), (a4, .inl (k4, 24, .inl (fun j => bI ((clr dz 24) j)))), (a5, .inl (k5, 24, .inl (fun j => bI ((lqK dz (cnt dz 24 * tkS cu cs / 500) lq 24) j))))] H := hP
            have hD : va_D _ [(h0, .inr (0, [.ref a1, .ref a2, .ref a3, .ref a4, .ref a5, .int 0, .int 0, .int (nI (cnt dz 24)), .int (nI (cu - 1)), .int (nI cs)])), (a1, .inl (k1, 384, .inl fw)), (a2, .inl (k2, 384, .inl fd)), (a3, .inl (k3, 384, .inl (lx fw dz (cnt dz 24 * tkS cu cs / 500) fb 24))), (a4, .inl (k4, 24, .inl (fun j => bI ((clr dz 24) j)))), (a5, .inl (k5, 24, .inl (fun j => bI ((lqK dz (cnt dz 24 * tkS cu cs / 500) lq 24) j))))] := hD
            refine lv_aload_n hx hb dX0_commit_111 rfl (lv_at hl 1 rfl) ?_
            refine va_get (ci := 0) (v := .int 0) (C := RX0) (T := TX0) (N := 10) hx hb hts (by decide +kernel) hown hK hP 0 rfl rfl 5 (by decide) (hts (.fieldLink RX0 26 "CommitLog" "powered" "Z") (by decide +kernel)) (fun _ h9 => h9) rfl dX0_commit_112 ?_
            refine lv_if_eq (tgt := 123) hx hb dX0_commit_115 (by decide) (fun c_6 => ?_) (fun c_6 => ?_)
            · -- T of pc 115
              refine lv_aload_n hx hb dX0_commit_123 rfl (lv_at hl 1 rfl) ?_
              refine va_get (ci := 0) (v := .int 0) (C := RX0) (T := TX0) (N := 10) hx hb hts (by decide +kernel) hown hK hP 0 rfl rfl 5 (by decide) (hts (.fieldLink RX0 26 "CommitLog" "powered" "Z") (by decide +kernel)) (fun _ h9 => h9) rfl dX0_commit_124 ?_
              exact hret _ _ _ _ _ hP hD hS rfl dX0_commit_127
            · -- F of pc 115
              exact absurd (by decide) c_6
          · -- F of pc 100
            exact absurd ((nI_eq (b := 1000) (by omega) (by decide)).mp c_5) (by omega)
        · -- F of pc 74
          exact absurd (by decide) c_4
      · -- F of pc 43
        exact absurd (by decide) c_3
    · -- F of pc 27
      exact absurd (show nI (tkS cu cs) < nI 500 from nI_lt h5 (by decide)) c_2
  · -- F of pc 4
    exact absurd c_1 (by decide)
set_option maxHeartbeats 4000000 in
set_option maxRecDepth 100000 in
theorem c0_commit_mid (l : Launch) (D : va_G) (h0 a1 a2 a3 a4 a5 : Nat) (k1 k2 k3 k4 k5 : ClassId) (fw fd fb : Nat → Int32) (lq dz : Nat → Bool) (mk : Bool) (lc cu cs : Nat) (hcu : cu ≤ 1000) (hcs : cs < 1000) (h5 : 500 ≤ tkS cu cs) (h6 : tkS cu cs < 1000) : ct_i l yX0_commit wsX0_commit ({ frames := 3, cells := 0, slots := 0, locals := 64 }) D vwCl (XT k1 k2 k3 k4 k5) [.ref h0] (XW h0 a1 a2 a3 a4 a5 k1 k2 k3 k4 k5 fw fd fb lq dz true mk lc cu cs) (XW h0 a1 a2 a3 a4 a5 k1 k2 k3 k4 k5 fw (lx (lx fw dz (cnt dz 24) fb 24) (lqK dz (cnt dz 24) lq 24) ((cnt dz 24) * ((tkS cu cs) - 500) / 500) fd 24) (lx fw dz (cnt dz 24) fb 24) (lqK dz (cnt dz 24) lq 24) (clr dz 24) false true (cnt dz 24) (cu - 1) cs) (bI false) := by
  have hs : (tkS cu cs) ≤ 1000 := tkS_le hcs
  have hc := cnt_le dz 24
  have hm1 := sh_mul hc hs
  have hm2 : (cnt dz 24) * ((tkS cu cs) - 500) ≤ 24 * 1000 := sh_mul hc (by omega)
  refine ct_i.of (cc := cX0_commit) (maxL := 2) (ty := .boolean) (by decide) rfl (Nat.le_of_ble_eq_true rfl) (nb_bI _) ?_
  intro p e s m args below meth c ls A Q hx hb hml hts hown hK hP hD hA hS hl hret
  have hown : s.vm.findClass RX0 = some m.cls := hown
  have hl : lv_has ls 2 [(0, .ref h0)] := hl
  have hP : va_P D vwCl [(h0, .inr (0, [.ref a1, .ref a2, .ref a3, .ref a4, .ref a5, .int 1, .int (bI mk), .int (nI lc), .int (nI cu), .int (nI cs)])), (a1, .inl (k1, 384, .inl fw)), (a2, .inl (k2, 384, .inl fd)), (a3, .inl (k3, 384, .inl fb)), (a4, .inl (k4, 24, .inl (fun j => bI (dz j)))), (a5, .inl (k5, 24, .inl (fun j => bI (lq j))))] s.heap := hP
  have hD : va_D A [(h0, .inr (0, [.ref a1, .ref a2, .ref a3, .ref a4, .ref a5, .int 1, .int (bI mk), .int (nI lc), .int (nI cu), .int (nI cs)])), (a1, .inl (k1, 384, .inl fw)), (a2, .inl (k2, 384, .inl fd)), (a3, .inl (k3, 384, .inl fb)), (a4, .inl (k4, 24, .inl (fun j => bI (dz j)))), (a5, .inl (k5, 24, .inl (fun j => bI (lq j))))] := hD
  refine lv_aload_n hx hb dX0_commit_0 rfl (lv_at hl 0 rfl) ?_
  refine va_get (ci := 0) (v := .int 1) (C := RX0) (T := TX0) (N := 10) hx hb hts (by decide +kernel) hown hK hP 0 rfl rfl 5 (by decide) (hts (.fieldLink RX0 26 "CommitLog" "powered" "Z") (by decide +kernel)) (fun _ h9 => h9) rfl dX0_commit_1 ?_
  refine lv_if_ne (tgt := 9) hx hb dX0_commit_4 (by decide) (fun c_1 => ?_) (fun c_1 => ?_)
  · -- T of pc 4
    refine lv_aload_n hx hb dX0_commit_9 rfl (lv_at hl 0 rfl) ?_
    refine ct_Vi (As := []) (rest := []) (wr := []) (wn := [(h0, .inr (0, [.ref a1, .ref a2, .ref a3, .ref a4, .ref a5, .int 1, .int (bI mk), .int (nI lc), .int (nI (cu - 1)), .int (nI cs)])), (a1, .inl (k1, 384, .inl fw)), (a2, .inl (k2, 384, .inl fd)), (a3, .inl (k3, 384, .inl fb)), (a4, .inl (k4, 24, .inl (fun j => bI (dz j)))), (a5, .inl (k5, 24, .inl (fun j => bI (lq j))))]) ⟨hx, hb, hml, hown, hts⟩ (c0_takeShare l D h0 a1 a2 a3 a4 a5 k1 k2 k3 k4 k5 fw fd fb lq dz true mk lc cu cs hcu) (cwV 0 hts gX0_commit_X0_takeShareOfThisCommit rfl rfl rfl (by decide +kernel) ⟨Nat.le_of_ble_eq_true rfl, Nat.le_of_ble_eq_true rfl⟩) hK hP hD hS hA [0, 1, 2, 3, 4, 5] [] [0, 1, 2, 3, 4] [0, 1, 2, 3, 4, 5] rfl rfl (by decide) rfl (by decide) (by decide) rfl (by decide) 0 rfl 0 rfl rfl hl.1 rfl (Nat.le_of_ble_eq_true rfl) dX0_commit_10 ⟨Nat.zero_le _, Nat.zero_le _⟩ (fun H locs hP hD hS => ?_)
    refine lv_istore_n (lv' := [(1, .int (nI (tkS cu cs))), (0, .ref h0)]) hx hb dX0_commit_13 rfl hl (by decide) rfl (fun ls hl => ?_)
    refine lv_aload_n hx hb dX0_commit_14 rfl (lv_at hl 1 rfl) ?_
    refine lv_aload_n hx hb dX0_commit_15 rfl (lv_at hl 1 rfl) ?_
    refine ct_Vi (As := []) (rest := [.ref h0]) (wr := []) (wn := [(h0, .inr (0, [.ref a1, .ref a2, .ref a3, .ref a4, .ref a5, .int 1, .int (bI mk), .int (nI lc), .int (nI (cu - 1)), .int (nI cs)])), (a1, .inl (k1, 384, .inl fw)), (a2, .inl (k2, 384, .inl fd)), (a3, .inl (k3, 384, .inl fb)), (a4, .inl (k4, 24, .inl (fun j => bI (dz j)))), (a5, .inl (k5, 24, .inl (fun j => bI (lq j))))]) ⟨hx, hb, hml, hown, hts⟩ (c0_countWritten l D h0 a1 a2 a3 a4 a5 k1 k2 k3 k4 k5 fw fd fb lq dz true mk lc (cu - 1) cs) (cwV 0 hts gX0_commit_X0_countWritten rfl rfl rfl (by decide +kernel) ⟨Nat.le_of_ble_eq_true rfl, Nat.le_of_ble_eq_true rfl⟩) hK hP hD hS hA [0, 1, 2, 3, 4, 5] [] [0, 1, 2, 3, 4] [0, 1, 2, 3, 4, 5] rfl rfl (by decide) rfl (by decide) (by decide) rfl (by decide) 0 rfl 0 rfl rfl hl.1 rfl (Nat.le_of_ble_eq_true rfl) dX0_commit_16 ⟨Nat.zero_le _, Nat.zero_le _⟩ (fun H locs hP hD hS => ?_)
    refine va_put (ci := 0) (v := .int (nI (cnt dz 24))) (ty := .int) (C := RX0) (T := TX0) (N := 10) hx hb hts (by decide +kernel) tyX0 tyX0_ok nmX0 hown hK hP hD hS 0 rfl rfl 7 (by decide) (hts (.fieldLink RX0 33 "CommitLog" "latestCount" "I") (by decide +kernel)) (fun _ h9 => h9) rfl (by decide +kernel) rfl rfl (Nat.le_of_ble_eq_true rfl) dX0_commit_19 (fun H locs hP hD hS => ?_)
    have hP : va_P D vwCl [(h0, .inr (0, [.ref a1, .ref a2, .ref a3, .ref a4, .ref a5, .int 1, .int (bI mk), .int (nI (cnt dz 24)), .int (nI (cu - 1)), .int (nI cs)])), (a1, .inl (k1, 384, .inl fw)), (a2, .inl (k2, 384, .inl fd)), (a3, .inl (k3, 384, .inl fb)), (a4, .inl (k4, 24, .inl (fun j => bI (dz j)))), (a5, .inl (k5, 24, .inl (fun j => bI (lq j))))] H := hP
    have hD : va_D _ [(h0, .inr (0, [.ref a1, .ref a2, .ref a3, .ref a4, .ref a5, .int 1, .int (bI mk), .int (nI (cnt dz 24)), .int (nI (cu - 1)), .int (nI cs)])), (a1, .inl (k1, 384, .inl fw)), (a2, .inl (k2, 384, .inl fd)), (a3, .inl (k3, 384, .inl fb)), (a4, .inl (k4, 24, .inl (fun j => bI (dz j)))), (a5, .inl (k5, 24, .inl (fun j => bI (lq j))))] := hD
    refine lv_aload_n hx hb dX0_commit_22 rfl (lv_at hl 1 rfl) ?_
    refine lv_iload_n hx hb dX0_commit_23 rfl (lv_at hl 0 rfl) ?_
    refine lv_sipush (v := 500) hx hb dX0_commit_24 (by decide) ?_
    refine lv_icmp_lt (tgt := 34) hx hb dX0_commit_27 (by decide) (fun c_2 => ?_) (fun c_2 => ?_)
    · -- T of pc 27
      exact absurd c_2 (show ¬ nI (tkS cu cs) < nI 500 from nI_nlt h5 (by omega))
    · -- F of pc 27
      refine lv_iconst (v := 1) hx hb dX0_commit_30 (by decide) ?_
      refine lv_goto (tgt := 35) hx hb dX0_commit_31 (by decide) ?_
      refine va_put (ci := 0) (v := .int 1) (ty := .boolean) (C := RX0) (T := TX0) (N := 10) hx hb hts (by decide +kernel) tyX0 tyX0_ok nmX0 hown hK hP hD hS 0 rfl rfl 6 (by decide) (hts (.fieldLink RX0 30 "CommitLog" "marked" "Z") (by decide +kernel)) (fun _ h9 => h9) rfl (by decide +kernel) rfl rfl (Nat.le_of_ble_eq_true rfl) dX0_commit_35 (fun H locs hP hD hS => ?_)
      have hP : va_P D vwCl [(h0, .inr (0, [.ref a1, .ref a2, .ref a3, .ref a4, .ref a5, .int 1, .int 1, .int (nI (cnt dz 24)), .int (nI (cu - 1)), .int (nI cs)])), (a1, .inl (k1, 384, .inl fw)), (a2, .inl (k2, 384, .inl fd)), (a3, .inl (k3, 384, .inl fb)), (a4, .inl (k4, 24, .inl (fun j => bI (dz j)))), (a5, .inl (k5, 24, .inl (fun j => bI (lq j))))] H := hP
      have hD : va_D _ [(h0, .inr (0, [.ref a1, .ref a2, .ref a3, .ref a4, .ref a5, .int 1, .int 1, .int (nI (cnt dz 24)), .int (nI (cu - 1)), .int (nI cs)])), (a1, .inl (k1, 384, .inl fw)), (a2, .inl (k2, 384, .inl fd)), (a3, .inl (k3, 384, .inl fb)), (a4, .inl (k4, 24, .inl (fun j => bI (dz j)))), (a5, .inl (k5, 24, .inl (fun j => bI (lq j))))] := hD
      refine lv_aload_n hx hb dX0_commit_38 rfl (lv_at hl 1 rfl) ?_
      refine lv_aload_n hx hb dX0_commit_39 rfl (lv_at hl 1 rfl) ?_
      refine va_get (ci := 0) (v := .int 1) (C := RX0) (T := TX0) (N := 10) hx hb hts (by decide +kernel) hown hK hP 0 rfl rfl 6 (by decide) (hts (.fieldLink RX0 30 "CommitLog" "marked" "Z") (by decide +kernel)) (fun _ h9 => h9) rfl dX0_commit_40 ?_
      refine lv_if_eq (tgt := 53) hx hb dX0_commit_43 (by decide) (fun c_3 => ?_) (fun c_3 => ?_)
      · -- T of pc 43
        exact absurd c_3 (by decide)
      · -- F of pc 43
        refine lv_aload_n hx hb dX0_commit_46 rfl (lv_at hl 1 rfl) ?_
        refine va_get (ci := 0) (v := .int (nI (cnt dz 24))) (C := RX0) (T := TX0) (N := 10) hx hb hts (by decide +kernel) hown hK hP 0 rfl rfl 7 (by decide) (hts (.fieldLink RX0 33 "CommitLog" "latestCount" "I") (by decide +kernel)) (fun _ h9 => h9) rfl dX0_commit_47 ?_
        refine lv_goto (tgt := 63) hx hb dX0_commit_50 (by decide) ?_
        refine ct_Vv (As := [.int (nI (cnt dz 24))]) (rest := []) (wr := []) (wn := [(h0, .inr (0, [.ref a1, .ref a2, .ref a3, .ref a4, .ref a5, .int 1, .int 1, .int (nI (cnt dz 24)), .int (nI (cu - 1)), .int (nI cs)])), (a1, .inl (k1, 384, .inl fw)), (a2, .inl (k2, 384, .inl fd)), (a3, .inl (k3, 384, .inl (lx fw dz (cnt dz 24) fb 24))), (a4, .inl (k4, 24, .inl (fun j => bI (dz j)))), (a5, .inl (k5, 24, .inl (fun j => bI ((lqK dz (cnt dz 24) lq 24) j))))]) ⟨hx, hb, hml, hown, hts⟩ (c0_bringToLog l D h0 a1 a2 a3 a4 a5 k1 k2 k3 k4 k5 fw fd fb lq dz true true (cnt dz 24) (cu - 1) cs (cnt dz 24) hc) (cwV 1 hts gX0_commit_X0_bringToLog rfl rfl rfl (by decide +kernel) ⟨Nat.le_of_ble_eq_true rfl, Nat.le_of_ble_eq_true rfl⟩) hK hP hD hS hA [0, 1, 2, 3, 4, 5] [] [0, 1, 2, 3, 4] [0, 1, 2, 3, 4, 5] rfl rfl (by decide) rfl (by decide) (by decide) rfl (by decide) 0 rfl 0 rfl rfl hl.1 rfl (Nat.le_of_ble_eq_true rfl) dX0_commit_63 ⟨Nat.zero_le _, Nat.zero_le _⟩ (fun H locs hP hD hS => ?_)
        refine lv_aload_n hx hb dX0_commit_66 rfl (lv_at hl 1 rfl) ?_
        refine ct_Vv (As := []) (rest := []) (wr := []) (wn := [(h0, .inr (0, [.ref a1, .ref a2, .ref a3, .ref a4, .ref a5, .int 1, .int 1, .int (nI (cnt dz 24)), .int (nI (cu - 1)), .int (nI cs)])), (a1, .inl (k1, 384, .inl fw)), (a2, .inl (k2, 384, .inl fd)), (a3, .inl (k3, 384, .inl (lx fw dz (cnt dz 24) fb 24))), (a4, .inl (k4, 24, .inl (fun j => bI ((clr dz 24) j)))), (a5, .inl (k5, 24, .inl (fun j => bI ((lqK dz (cnt dz 24) lq 24) j))))]) ⟨hx, hb, hml, hown, hts⟩ (c0_clearWritten l D h0 a1 a2 a3 a4 a5 k1 k2 k3 k4 k5 fw fd (lx fw dz (cnt dz 24) fb 24) (lqK dz (cnt dz 24) lq 24) dz true true (cnt dz 24) (cu - 1) cs) (cwV 0 hts gX0_commit_X0_clearWritten rfl rfl rfl (by decide +kernel) ⟨Nat.le_of_ble_eq_true rfl, Nat.le_of_ble_eq_true rfl⟩) hK hP hD hS hA [0, 1, 2, 3, 4, 5] [] [0, 1, 2, 3, 4] [0, 1, 2, 3, 4, 5] rfl rfl (by decide) rfl (by decide) (by decide) rfl (by decide) 0 rfl 0 rfl rfl hl.1 rfl (Nat.le_of_ble_eq_true rfl) dX0_commit_67 ⟨Nat.zero_le _, Nat.zero_le _⟩ (fun H locs hP hD hS => ?_)
        refine lv_aload_n hx hb dX0_commit_70 rfl (lv_at hl 1 rfl) ?_
        refine va_get (ci := 0) (v := .int 1) (C := RX0) (T := TX0) (N := 10) hx hb hts (by decide +kernel) hown hK hP 0 rfl rfl 6 (by decide) (hts (.fieldLink RX0 30 "CommitLog" "marked" "Z") (by decide +kernel)) (fun _ h9 => h9) rfl dX0_commit_71 ?_
        refine lv_if_eq (tgt := 95) hx hb dX0_commit_74 (by decide) (fun c_4 => ?_) (fun c_4 => ?_)
        · -- T of pc 74
          exact absurd c_4 (by decide)
        · -- F of pc 74
          refine lv_aload_n hx hb dX0_commit_77 rfl (lv_at hl 1 rfl) ?_
          refine lv_aload_n hx hb dX0_commit_78 rfl (lv_at hl 1 rfl) ?_
          refine va_get (ci := 0) (v := .int (nI (cnt dz 24))) (C := RX0) (T := TX0) (N := 10) hx hb hts (by decide +kernel) hown hK hP 0 rfl rfl 7 (by decide) (hts (.fieldLink RX0 33 "CommitLog" "latestCount" "I") (by decide +kernel)) (fun _ h9 => h9) rfl dX0_commit_79 ?_
          refine lv_iload_n hx hb dX0_commit_82 rfl (lv_at hl 0 rfl) ?_
          refine lv_sipush (v := 500) hx hb dX0_commit_83 (by decide) ?_
          refine lv_isub hx hb dX0_commit_86 ?_
          refine tp_as (z := nI ((tkS cu cs) - 500)) (pk_sub (b := 500) h5) ?_
          refine lv_imul hx hb dX0_commit_87 ?_
          refine tp_as (z := nI ((cnt dz 24) * ((tkS cu cs) - 500))) (pk_mul _ _) ?_
          refine lv_sipush (v := 500) hx hb dX0_commit_88 (by decide) ?_
          refine lv_idiv hx hb dX0_commit_91 (by decide) ?_
          refine tp_as (z := nI ((cnt dz 24) * ((tkS cu cs) - 500) / 500)) (pk_div (d := 500) (by omega) (by decide) (by decide)) ?_
          refine ct_Vv (As := [.int (nI ((cnt dz 24) * ((tkS cu cs) - 500) / 500))]) (rest := []) (wr := []) (wn := [(h0, .inr (0, [.ref a1, .ref a2, .ref a3, .ref a4, .ref a5, .int 1, .int 1, .int (nI (cnt dz 24)), .int (nI (cu - 1)), .int (nI cs)])), (a1, .inl (k1, 384, .inl fw)), (a2, .inl (k2, 384, .inl (lx (lx fw dz (cnt dz 24) fb 24) (lqK dz (cnt dz 24) lq 24) ((cnt dz 24) * ((tkS cu cs) - 500) / 500) fd 24))), (a3, .inl (k3, 384, .inl (lx fw dz (cnt dz 24) fb 24))), (a4, .inl (k4, 24, .inl (fun j => bI ((clr dz 24) j)))), (a5, .inl (k5, 24, .inl (fun j => bI ((lqK dz (cnt dz 24) lq 24) j))))]) ⟨hx, hb, hml, hown, hts⟩ (c0_bringLogToDisk l D h0 a1 a2 a3 a4 a5 k1 k2 k3 k4 k5 fw fd (lx fw dz (cnt dz 24) fb 24) (lqK dz (cnt dz 24) lq 24) (clr dz 24) true true (cnt dz 24) (cu - 1) cs ((cnt dz 24) * ((tkS cu cs) - 500) / 500) (sh_div hc (by omega))) (cwV 1 hts gX0_commit_X0_bringLogToDisk rfl rfl rfl (by decide +kernel) ⟨Nat.le_of_ble_eq_true rfl, Nat.le_of_ble_eq_true rfl⟩) hK hP hD hS hA [0, 1, 2, 3, 4, 5] [] [0, 1, 2, 3, 4] [0, 1, 2, 3, 4, 5] rfl rfl (by decide) rfl (by decide) (by decide) rfl (by decide) 0 rfl 0 rfl rfl hl.1 rfl (Nat.le_of_ble_eq_true rfl) dX0_commit_92 ⟨Nat.zero_le _, Nat.zero_le _⟩ (fun H locs hP hD hS => ?_)
          refine lv_aload_n hx hb dX0_commit_95 rfl (lv_at hl 1 rfl) ?_
          refine lv_iload_n hx hb dX0_commit_96 rfl (lv_at hl 0 rfl) ?_
          refine lv_sipush (v := 1000) hx hb dX0_commit_97 (by decide) ?_
          refine lv_icmp_ne (tgt := 107) hx hb dX0_commit_100 (by decide) (fun c_5 => ?_) (fun c_5 => ?_)
          · -- T of pc 100
            refine lv_iconst (v := 0) hx hb dX0_commit_107 (by decide) ?_
            refine va_put (ci := 0) (v := .int 0) (ty := .boolean) (C := RX0) (T := TX0) (N := 10) hx hb hts (by decide +kernel) tyX0 tyX0_ok nmX0 hown hK hP hD hS 0 rfl rfl 5 (by decide) (hts (.fieldLink RX0 26 "CommitLog" "powered" "Z") (by decide +kernel)) (fun _ h9 => h9) rfl (by decide +kernel) rfl rfl (Nat.le_of_ble_eq_true rfl) dX0_commit_108 (fun H locs hP hD hS => ?_)
            have hP : va_P D vwCl [(h0, .inr (0, [.ref a1, .ref a2, .ref a3, .ref a4, .ref a5, .int 0, .int 1, .int (nI (cnt dz 24)), .int (nI (cu - 1)), .int (nI cs)])), (a1, .inl (k1, 384, .inl fw)), (a2, .inl (k2, 384, .inl (lx (lx fw dz (cnt dz 24) fb 24) (lqK dz (cnt dz 24) lq 24) ((cnt dz 24) * ((tkS cu cs) - 500) / 500) fd 24))), (a3, .inl (k3, 384, .inl (lx fw dz (cnt dz 24) fb 24))), (a4, .inl (k4, 24, .inl (fun j => bI ((clr dz 24) j)))), (a5, .inl (k5, 24, .inl (fun j => bI ((lqK dz (cnt dz 24) lq 24) j))))] H := hP
            have hD : va_D _ [(h0, .inr (0, [.ref a1, .ref a2, .ref a3, .ref a4, .ref a5, .int 0, .int 1, .int (nI (cnt dz 24)), .int (nI (cu - 1)), .int (nI cs)])), (a1, .inl (k1, 384, .inl fw)), (a2, .inl (k2, 384, .inl (lx (lx fw dz (cnt dz 24) fb 24) (lqK dz (cnt dz 24) lq 24) ((cnt dz 24) * ((tkS cu cs) - 500) / 500) fd 24))), (a3, .inl (k3, 384, .inl (lx fw dz (cnt dz 24) fb 24))), (a4, .inl (k4, 24, .inl (fun j => bI ((clr dz 24) j)))), (a5, .inl (k5, 24, .inl (fun j => bI ((lqK dz (cnt dz 24) lq 24) j))))] := hD
            refine lv_aload_n hx hb dX0_commit_111 rfl (lv_at hl 1 rfl) ?_
            refine va_get (ci := 0) (v := .int 0) (C := RX0) (T := TX0) (N := 10) hx hb hts (by decide +kernel) hown hK hP 0 rfl rfl 5 (by decide) (hts (.fieldLink RX0 26 "CommitLog" "powered" "Z") (by decide +kernel)) (fun _ h9 => h9) rfl dX0_commit_112 ?_
            refine lv_if_eq (tgt := 123) hx hb dX0_commit_115 (by decide) (fun c_6 => ?_) (fun c_6 => ?_)
            · -- T of pc 115
              refine lv_aload_n hx hb dX0_commit_123 rfl (lv_at hl 1 rfl) ?_
              refine va_get (ci := 0) (v := .int 0) (C := RX0) (T := TX0) (N := 10) hx hb hts (by decide +kernel) hown hK hP 0 rfl rfl 5 (by decide) (hts (.fieldLink RX0 26 "CommitLog" "powered" "Z") (by decide +kernel)) (fun _ h9 => h9) rfl dX0_commit_124 ?_
              exact hret _ _ _ _ _ hP hD hS rfl dX0_commit_127
            · -- F of pc 115
              exact absurd (by decide) c_6
          · -- F of pc 100
            exact absurd ((nI_eq (b := 1000) (by omega) (by decide)).mp c_5) (by omega)
  · -- F of pc 4
    exact absurd c_1 (by decide)
set_option maxHeartbeats 4000000 in
set_option maxRecDepth 100000 in
theorem c0_commit_full (l : Launch) (D : va_G) (h0 a1 a2 a3 a4 a5 : Nat) (k1 k2 k3 k4 k5 : ClassId) (fw fd fb : Nat → Int32) (lq dz : Nat → Bool) (mk : Bool) (lc cu cs : Nat) (hcu : cu ≤ 1000) (hcs : cs < 1000) (h5 : 500 ≤ tkS cu cs) (h6 : tkS cu cs = 1000) : ct_i l yX0_commit wsX0_commit ({ frames := 3, cells := 0, slots := 0, locals := 64 }) D vwCl (XT k1 k2 k3 k4 k5) [.ref h0] (XW h0 a1 a2 a3 a4 a5 k1 k2 k3 k4 k5 fw fd fb lq dz true mk lc cu cs) (XW h0 a1 a2 a3 a4 a5 k1 k2 k3 k4 k5 fw (lx (lx fw dz (cnt dz 24) fb 24) (lqK dz (cnt dz 24) lq 24) ((cnt dz 24) * ((tkS cu cs) - 500) / 500) fd 24) (lx fw dz (cnt dz 24) fb 24) (lqK dz (cnt dz 24) lq 24) (clr dz 24) true false (cnt dz 24) (cu - 1) cs) (bI true) := by
  have hs : (tkS cu cs) ≤ 1000 := tkS_le hcs
  have hc := cnt_le dz 24
  have hm1 := sh_mul hc hs
  have hm2 : (cnt dz 24) * ((tkS cu cs) - 500) ≤ 24 * 1000 := sh_mul hc (by omega)
  refine ct_i.of (cc := cX0_commit) (maxL := 2) (ty := .boolean) (by decide) rfl (Nat.le_of_ble_eq_true rfl) (nb_bI _) ?_
  intro p e s m args below meth c ls A Q hx hb hml hts hown hK hP hD hA hS hl hret
  have hown : s.vm.findClass RX0 = some m.cls := hown
  have hl : lv_has ls 2 [(0, .ref h0)] := hl
  have hP : va_P D vwCl [(h0, .inr (0, [.ref a1, .ref a2, .ref a3, .ref a4, .ref a5, .int 1, .int (bI mk), .int (nI lc), .int (nI cu), .int (nI cs)])), (a1, .inl (k1, 384, .inl fw)), (a2, .inl (k2, 384, .inl fd)), (a3, .inl (k3, 384, .inl fb)), (a4, .inl (k4, 24, .inl (fun j => bI (dz j)))), (a5, .inl (k5, 24, .inl (fun j => bI (lq j))))] s.heap := hP
  have hD : va_D A [(h0, .inr (0, [.ref a1, .ref a2, .ref a3, .ref a4, .ref a5, .int 1, .int (bI mk), .int (nI lc), .int (nI cu), .int (nI cs)])), (a1, .inl (k1, 384, .inl fw)), (a2, .inl (k2, 384, .inl fd)), (a3, .inl (k3, 384, .inl fb)), (a4, .inl (k4, 24, .inl (fun j => bI (dz j)))), (a5, .inl (k5, 24, .inl (fun j => bI (lq j))))] := hD
  refine lv_aload_n hx hb dX0_commit_0 rfl (lv_at hl 0 rfl) ?_
  refine va_get (ci := 0) (v := .int 1) (C := RX0) (T := TX0) (N := 10) hx hb hts (by decide +kernel) hown hK hP 0 rfl rfl 5 (by decide) (hts (.fieldLink RX0 26 "CommitLog" "powered" "Z") (by decide +kernel)) (fun _ h9 => h9) rfl dX0_commit_1 ?_
  refine lv_if_ne (tgt := 9) hx hb dX0_commit_4 (by decide) (fun c_1 => ?_) (fun c_1 => ?_)
  · -- T of pc 4
    refine lv_aload_n hx hb dX0_commit_9 rfl (lv_at hl 0 rfl) ?_
    refine ct_Vi (As := []) (rest := []) (wr := []) (wn := [(h0, .inr (0, [.ref a1, .ref a2, .ref a3, .ref a4, .ref a5, .int 1, .int (bI mk), .int (nI lc), .int (nI (cu - 1)), .int (nI cs)])), (a1, .inl (k1, 384, .inl fw)), (a2, .inl (k2, 384, .inl fd)), (a3, .inl (k3, 384, .inl fb)), (a4, .inl (k4, 24, .inl (fun j => bI (dz j)))), (a5, .inl (k5, 24, .inl (fun j => bI (lq j))))]) ⟨hx, hb, hml, hown, hts⟩ (c0_takeShare l D h0 a1 a2 a3 a4 a5 k1 k2 k3 k4 k5 fw fd fb lq dz true mk lc cu cs hcu) (cwV 0 hts gX0_commit_X0_takeShareOfThisCommit rfl rfl rfl (by decide +kernel) ⟨Nat.le_of_ble_eq_true rfl, Nat.le_of_ble_eq_true rfl⟩) hK hP hD hS hA [0, 1, 2, 3, 4, 5] [] [0, 1, 2, 3, 4] [0, 1, 2, 3, 4, 5] rfl rfl (by decide) rfl (by decide) (by decide) rfl (by decide) 0 rfl 0 rfl rfl hl.1 rfl (Nat.le_of_ble_eq_true rfl) dX0_commit_10 ⟨Nat.zero_le _, Nat.zero_le _⟩ (fun H locs hP hD hS => ?_)
    refine lv_istore_n (lv' := [(1, .int (nI (tkS cu cs))), (0, .ref h0)]) hx hb dX0_commit_13 rfl hl (by decide) rfl (fun ls hl => ?_)
    refine lv_aload_n hx hb dX0_commit_14 rfl (lv_at hl 1 rfl) ?_
    refine lv_aload_n hx hb dX0_commit_15 rfl (lv_at hl 1 rfl) ?_
    refine ct_Vi (As := []) (rest := [.ref h0]) (wr := []) (wn := [(h0, .inr (0, [.ref a1, .ref a2, .ref a3, .ref a4, .ref a5, .int 1, .int (bI mk), .int (nI lc), .int (nI (cu - 1)), .int (nI cs)])), (a1, .inl (k1, 384, .inl fw)), (a2, .inl (k2, 384, .inl fd)), (a3, .inl (k3, 384, .inl fb)), (a4, .inl (k4, 24, .inl (fun j => bI (dz j)))), (a5, .inl (k5, 24, .inl (fun j => bI (lq j))))]) ⟨hx, hb, hml, hown, hts⟩ (c0_countWritten l D h0 a1 a2 a3 a4 a5 k1 k2 k3 k4 k5 fw fd fb lq dz true mk lc (cu - 1) cs) (cwV 0 hts gX0_commit_X0_countWritten rfl rfl rfl (by decide +kernel) ⟨Nat.le_of_ble_eq_true rfl, Nat.le_of_ble_eq_true rfl⟩) hK hP hD hS hA [0, 1, 2, 3, 4, 5] [] [0, 1, 2, 3, 4] [0, 1, 2, 3, 4, 5] rfl rfl (by decide) rfl (by decide) (by decide) rfl (by decide) 0 rfl 0 rfl rfl hl.1 rfl (Nat.le_of_ble_eq_true rfl) dX0_commit_16 ⟨Nat.zero_le _, Nat.zero_le _⟩ (fun H locs hP hD hS => ?_)
    refine va_put (ci := 0) (v := .int (nI (cnt dz 24))) (ty := .int) (C := RX0) (T := TX0) (N := 10) hx hb hts (by decide +kernel) tyX0 tyX0_ok nmX0 hown hK hP hD hS 0 rfl rfl 7 (by decide) (hts (.fieldLink RX0 33 "CommitLog" "latestCount" "I") (by decide +kernel)) (fun _ h9 => h9) rfl (by decide +kernel) rfl rfl (Nat.le_of_ble_eq_true rfl) dX0_commit_19 (fun H locs hP hD hS => ?_)
    have hP : va_P D vwCl [(h0, .inr (0, [.ref a1, .ref a2, .ref a3, .ref a4, .ref a5, .int 1, .int (bI mk), .int (nI (cnt dz 24)), .int (nI (cu - 1)), .int (nI cs)])), (a1, .inl (k1, 384, .inl fw)), (a2, .inl (k2, 384, .inl fd)), (a3, .inl (k3, 384, .inl fb)), (a4, .inl (k4, 24, .inl (fun j => bI (dz j)))), (a5, .inl (k5, 24, .inl (fun j => bI (lq j))))] H := hP
    have hD : va_D _ [(h0, .inr (0, [.ref a1, .ref a2, .ref a3, .ref a4, .ref a5, .int 1, .int (bI mk), .int (nI (cnt dz 24)), .int (nI (cu - 1)), .int (nI cs)])), (a1, .inl (k1, 384, .inl fw)), (a2, .inl (k2, 384, .inl fd)), (a3, .inl (k3, 384, .inl fb)), (a4, .inl (k4, 24, .inl (fun j => bI (dz j)))), (a5, .inl (k5, 24, .inl (fun j => bI (lq j))))] := hD
    refine lv_aload_n hx hb dX0_commit_22 rfl (lv_at hl 1 rfl) ?_
    refine lv_iload_n hx hb dX0_commit_23 rfl (lv_at hl 0 rfl) ?_
    refine lv_sipush (v := 500) hx hb dX0_commit_24 (by decide) ?_
    refine lv_icmp_lt (tgt := 34) hx hb dX0_commit_27 (by decide) (fun c_2 => ?_) (fun c_2 => ?_)
    · -- T of pc 27
      exact absurd c_2 (show ¬ nI (tkS cu cs) < nI 500 from nI_nlt h5 (by omega))
    · -- F of pc 27
      refine lv_iconst (v := 1) hx hb dX0_commit_30 (by decide) ?_
      refine lv_goto (tgt := 35) hx hb dX0_commit_31 (by decide) ?_
      refine va_put (ci := 0) (v := .int 1) (ty := .boolean) (C := RX0) (T := TX0) (N := 10) hx hb hts (by decide +kernel) tyX0 tyX0_ok nmX0 hown hK hP hD hS 0 rfl rfl 6 (by decide) (hts (.fieldLink RX0 30 "CommitLog" "marked" "Z") (by decide +kernel)) (fun _ h9 => h9) rfl (by decide +kernel) rfl rfl (Nat.le_of_ble_eq_true rfl) dX0_commit_35 (fun H locs hP hD hS => ?_)
      have hP : va_P D vwCl [(h0, .inr (0, [.ref a1, .ref a2, .ref a3, .ref a4, .ref a5, .int 1, .int 1, .int (nI (cnt dz 24)), .int (nI (cu - 1)), .int (nI cs)])), (a1, .inl (k1, 384, .inl fw)), (a2, .inl (k2, 384, .inl fd)), (a3, .inl (k3, 384, .inl fb)), (a4, .inl (k4, 24, .inl (fun j => bI (dz j)))), (a5, .inl (k5, 24, .inl (fun j => bI (lq j))))] H := hP
      have hD : va_D _ [(h0, .inr (0, [.ref a1, .ref a2, .ref a3, .ref a4, .ref a5, .int 1, .int 1, .int (nI (cnt dz 24)), .int (nI (cu - 1)), .int (nI cs)])), (a1, .inl (k1, 384, .inl fw)), (a2, .inl (k2, 384, .inl fd)), (a3, .inl (k3, 384, .inl fb)), (a4, .inl (k4, 24, .inl (fun j => bI (dz j)))), (a5, .inl (k5, 24, .inl (fun j => bI (lq j))))] := hD
      refine lv_aload_n hx hb dX0_commit_38 rfl (lv_at hl 1 rfl) ?_
      refine lv_aload_n hx hb dX0_commit_39 rfl (lv_at hl 1 rfl) ?_
      refine va_get (ci := 0) (v := .int 1) (C := RX0) (T := TX0) (N := 10) hx hb hts (by decide +kernel) hown hK hP 0 rfl rfl 6 (by decide) (hts (.fieldLink RX0 30 "CommitLog" "marked" "Z") (by decide +kernel)) (fun _ h9 => h9) rfl dX0_commit_40 ?_
      refine lv_if_eq (tgt := 53) hx hb dX0_commit_43 (by decide) (fun c_3 => ?_) (fun c_3 => ?_)
      · -- T of pc 43
        exact absurd c_3 (by decide)
      · -- F of pc 43
        refine lv_aload_n hx hb dX0_commit_46 rfl (lv_at hl 1 rfl) ?_
        refine va_get (ci := 0) (v := .int (nI (cnt dz 24))) (C := RX0) (T := TX0) (N := 10) hx hb hts (by decide +kernel) hown hK hP 0 rfl rfl 7 (by decide) (hts (.fieldLink RX0 33 "CommitLog" "latestCount" "I") (by decide +kernel)) (fun _ h9 => h9) rfl dX0_commit_47 ?_
        refine lv_goto (tgt := 63) hx hb dX0_commit_50 (by decide) ?_
        refine ct_Vv (As := [.int (nI (cnt dz 24))]) (rest := []) (wr := []) (wn := [(h0, .inr (0, [.ref a1, .ref a2, .ref a3, .ref a4, .ref a5, .int 1, .int 1, .int (nI (cnt dz 24)), .int (nI (cu - 1)), .int (nI cs)])), (a1, .inl (k1, 384, .inl fw)), (a2, .inl (k2, 384, .inl fd)), (a3, .inl (k3, 384, .inl (lx fw dz (cnt dz 24) fb 24))), (a4, .inl (k4, 24, .inl (fun j => bI (dz j)))), (a5, .inl (k5, 24, .inl (fun j => bI ((lqK dz (cnt dz 24) lq 24) j))))]) ⟨hx, hb, hml, hown, hts⟩ (c0_bringToLog l D h0 a1 a2 a3 a4 a5 k1 k2 k3 k4 k5 fw fd fb lq dz true true (cnt dz 24) (cu - 1) cs (cnt dz 24) hc) (cwV 1 hts gX0_commit_X0_bringToLog rfl rfl rfl (by decide +kernel) ⟨Nat.le_of_ble_eq_true rfl, Nat.le_of_ble_eq_true rfl⟩) hK hP hD hS hA [0, 1, 2, 3, 4, 5] [] [0, 1, 2, 3, 4] [0, 1, 2, 3, 4, 5] rfl rfl (by decide) rfl (by decide) (by decide) rfl (by decide) 0 rfl 0 rfl rfl hl.1 rfl (Nat.le_of_ble_eq_true rfl) dX0_commit_63 ⟨Nat.zero_le _, Nat.zero_le _⟩ (fun H locs hP hD hS => ?_)
        refine lv_aload_n hx hb dX0_commit_66 rfl (lv_at hl 1 rfl) ?_
        refine ct_Vv (As := []) (rest := []) (wr := []) (wn := [(h0, .inr (0, [.ref a1, .ref a2, .ref a3, .ref a4, .ref a5, .int 1, .int 1, .int (nI (cnt dz 24)), .int (nI (cu - 1)), .int (nI cs)])), (a1, .inl (k1, 384, .inl fw)), (a2, .inl (k2, 384, .inl fd)), (a3, .inl (k3, 384, .inl (lx fw dz (cnt dz 24) fb 24))), (a4, .inl (k4, 24, .inl (fun j => bI ((clr dz 24) j)))), (a5, .inl (k5, 24, .inl (fun j => bI ((lqK dz (cnt dz 24) lq 24) j))))]) ⟨hx, hb, hml, hown, hts⟩ (c0_clearWritten l D h0 a1 a2 a3 a4 a5 k1 k2 k3 k4 k5 fw fd (lx fw dz (cnt dz 24) fb 24) (lqK dz (cnt dz 24) lq 24) dz true true (cnt dz 24) (cu - 1) cs) (cwV 0 hts gX0_commit_X0_clearWritten rfl rfl rfl (by decide +kernel) ⟨Nat.le_of_ble_eq_true rfl, Nat.le_of_ble_eq_true rfl⟩) hK hP hD hS hA [0, 1, 2, 3, 4, 5] [] [0, 1, 2, 3, 4] [0, 1, 2, 3, 4, 5] rfl rfl (by decide) rfl (by decide) (by decide) rfl (by decide) 0 rfl 0 rfl rfl hl.1 rfl (Nat.le_of_ble_eq_true rfl) dX0_commit_67 ⟨Nat.zero_le _, Nat.zero_le _⟩ (fun H locs hP hD hS => ?_)
        refine lv_aload_n hx hb dX0_commit_70 rfl (lv_at hl 1 rfl) ?_
        refine va_get (ci := 0) (v := .int 1) (C := RX0) (T := TX0) (N := 10) hx hb hts (by decide +kernel) hown hK hP 0 rfl rfl 6 (by decide) (hts (.fieldLink RX0 30 "CommitLog" "marked" "Z") (by decide +kernel)) (fun _ h9 => h9) rfl dX0_commit_71 ?_
        refine lv_if_eq (tgt := 95) hx hb dX0_commit_74 (by decide) (fun c_4 => ?_) (fun c_4 => ?_)
        · -- T of pc 74
          exact absurd c_4 (by decide)
        · -- F of pc 74
          refine lv_aload_n hx hb dX0_commit_77 rfl (lv_at hl 1 rfl) ?_
          refine lv_aload_n hx hb dX0_commit_78 rfl (lv_at hl 1 rfl) ?_
          refine va_get (ci := 0) (v := .int (nI (cnt dz 24))) (C := RX0) (T := TX0) (N := 10) hx hb hts (by decide +kernel) hown hK hP 0 rfl rfl 7 (by decide) (hts (.fieldLink RX0 33 "CommitLog" "latestCount" "I") (by decide +kernel)) (fun _ h9 => h9) rfl dX0_commit_79 ?_
          refine lv_iload_n hx hb dX0_commit_82 rfl (lv_at hl 0 rfl) ?_
          refine lv_sipush (v := 500) hx hb dX0_commit_83 (by decide) ?_
          refine lv_isub hx hb dX0_commit_86 ?_
          refine tp_as (z := nI ((tkS cu cs) - 500)) (pk_sub (b := 500) h5) ?_
          refine lv_imul hx hb dX0_commit_87 ?_
          refine tp_as (z := nI ((cnt dz 24) * ((tkS cu cs) - 500))) (pk_mul _ _) ?_
          refine lv_sipush (v := 500) hx hb dX0_commit_88 (by decide) ?_
          refine lv_idiv hx hb dX0_commit_91 (by decide) ?_
          refine tp_as (z := nI ((cnt dz 24) * ((tkS cu cs) - 500) / 500)) (pk_div (d := 500) (by omega) (by decide) (by decide)) ?_
          refine ct_Vv (As := [.int (nI ((cnt dz 24) * ((tkS cu cs) - 500) / 500))]) (rest := []) (wr := []) (wn := [(h0, .inr (0, [.ref a1, .ref a2, .ref a3, .ref a4, .ref a5, .int 1, .int 1, .int (nI (cnt dz 24)), .int (nI (cu - 1)), .int (nI cs)])), (a1, .inl (k1, 384, .inl fw)), (a2, .inl (k2, 384, .inl (lx (lx fw dz (cnt dz 24) fb 24) (lqK dz (cnt dz 24) lq 24) ((cnt dz 24) * ((tkS cu cs) - 500) / 500) fd 24))), (a3, .inl (k3, 384, .inl (lx fw dz (cnt dz 24) fb 24))), (a4, .inl (k4, 24, .inl (fun j => bI ((clr dz 24) j)))), (a5, .inl (k5, 24, .inl (fun j => bI ((lqK dz (cnt dz 24) lq 24) j))))]) ⟨hx, hb, hml, hown, hts⟩ (c0_bringLogToDisk l D h0 a1 a2 a3 a4 a5 k1 k2 k3 k4 k5 fw fd (lx fw dz (cnt dz 24) fb 24) (lqK dz (cnt dz 24) lq 24) (clr dz 24) true true (cnt dz 24) (cu - 1) cs ((cnt dz 24) * ((tkS cu cs) - 500) / 500) (sh_div hc (by omega))) (cwV 1 hts gX0_commit_X0_bringLogToDisk rfl rfl rfl (by decide +kernel) ⟨Nat.le_of_ble_eq_true rfl, Nat.le_of_ble_eq_true rfl⟩) hK hP hD hS hA [0, 1, 2, 3, 4, 5] [] [0, 1, 2, 3, 4] [0, 1, 2, 3, 4, 5] rfl rfl (by decide) rfl (by decide) (by decide) rfl (by decide) 0 rfl 0 rfl rfl hl.1 rfl (Nat.le_of_ble_eq_true rfl) dX0_commit_92 ⟨Nat.zero_le _, Nat.zero_le _⟩ (fun H locs hP hD hS => ?_)
          refine lv_aload_n hx hb dX0_commit_95 rfl (lv_at hl 1 rfl) ?_
          refine lv_iload_n hx hb dX0_commit_96 rfl (lv_at hl 0 rfl) ?_
          refine lv_sipush (v := 1000) hx hb dX0_commit_97 (by decide) ?_
          refine lv_icmp_ne (tgt := 107) hx hb dX0_commit_100 (by decide) (fun c_5 => ?_) (fun c_5 => ?_)
          · -- T of pc 100
            exact absurd (show nI (tkS cu cs) = nI 1000 by rw [h6]) c_5
          · -- F of pc 100
            refine lv_iconst (v := 1) hx hb dX0_commit_103 (by decide) ?_
            refine lv_goto (tgt := 108) hx hb dX0_commit_104 (by decide) ?_
            refine va_put (ci := 0) (v := .int 1) (ty := .boolean) (C := RX0) (T := TX0) (N := 10) hx hb hts (by decide +kernel) tyX0 tyX0_ok nmX0 hown hK hP hD hS 0 rfl rfl 5 (by decide) (hts (.fieldLink RX0 26 "CommitLog" "powered" "Z") (by decide +kernel)) (fun _ h9 => h9) rfl (by decide +kernel) rfl rfl (Nat.le_of_ble_eq_true rfl) dX0_commit_108 (fun H locs hP hD hS => ?_)
            have hP : va_P D vwCl [(h0, .inr (0, [.ref a1, .ref a2, .ref a3, .ref a4, .ref a5, .int 1, .int 1, .int (nI (cnt dz 24)), .int (nI (cu - 1)), .int (nI cs)])), (a1, .inl (k1, 384, .inl fw)), (a2, .inl (k2, 384, .inl (lx (lx fw dz (cnt dz 24) fb 24) (lqK dz (cnt dz 24) lq 24) ((cnt dz 24) * ((tkS cu cs) - 500) / 500) fd 24))), (a3, .inl (k3, 384, .inl (lx fw dz (cnt dz 24) fb 24))), (a4, .inl (k4, 24, .inl (fun j => bI ((clr dz 24) j)))), (a5, .inl (k5, 24, .inl (fun j => bI ((lqK dz (cnt dz 24) lq 24) j))))] H := hP
            have hD : va_D _ [(h0, .inr (0, [.ref a1, .ref a2, .ref a3, .ref a4, .ref a5, .int 1, .int 1, .int (nI (cnt dz 24)), .int (nI (cu - 1)), .int (nI cs)])), (a1, .inl (k1, 384, .inl fw)), (a2, .inl (k2, 384, .inl (lx (lx fw dz (cnt dz 24) fb 24) (lqK dz (cnt dz 24) lq 24) ((cnt dz 24) * ((tkS cu cs) - 500) / 500) fd 24))), (a3, .inl (k3, 384, .inl (lx fw dz (cnt dz 24) fb 24))), (a4, .inl (k4, 24, .inl (fun j => bI ((clr dz 24) j)))), (a5, .inl (k5, 24, .inl (fun j => bI ((lqK dz (cnt dz 24) lq 24) j))))] := hD
            refine lv_aload_n hx hb dX0_commit_111 rfl (lv_at hl 1 rfl) ?_
            refine va_get (ci := 0) (v := .int 1) (C := RX0) (T := TX0) (N := 10) hx hb hts (by decide +kernel) hown hK hP 0 rfl rfl 5 (by decide) (hts (.fieldLink RX0 26 "CommitLog" "powered" "Z") (by decide +kernel)) (fun _ h9 => h9) rfl dX0_commit_112 ?_
            refine lv_if_eq (tgt := 123) hx hb dX0_commit_115 (by decide) (fun c_6 => ?_) (fun c_6 => ?_)
            · -- T of pc 115
              exact absurd c_6 (by decide)
            · -- F of pc 115
              refine lv_aload_n hx hb dX0_commit_118 rfl (lv_at hl 1 rfl) ?_
              refine lv_iconst (v := 0) hx hb dX0_commit_119 (by decide) ?_
              refine va_put (ci := 0) (v := .int 0) (ty := .boolean) (C := RX0) (T := TX0) (N := 10) hx hb hts (by decide +kernel) tyX0 tyX0_ok nmX0 hown hK hP hD hS 0 rfl rfl 6 (by decide) (hts (.fieldLink RX0 30 "CommitLog" "marked" "Z") (by decide +kernel)) (fun _ h9 => h9) rfl (by decide +kernel) rfl rfl (Nat.le_of_ble_eq_true rfl) dX0_commit_120 (fun H locs hP hD hS => ?_)
              have hP : va_P D vwCl [(h0, .inr (0, [.ref a1, .ref a2, .ref a3, .ref a4, .ref a5, .int 1, .int 0, .int (nI (cnt dz 24)), .int (nI (cu - 1)), .int (nI cs)])), (a1, .inl (k1, 384, .inl fw)), (a2, .inl (k2, 384, .inl (lx (lx fw dz (cnt dz 24) fb 24) (lqK dz (cnt dz 24) lq 24) ((cnt dz 24) * ((tkS cu cs) - 500) / 500) fd 24))), (a3, .inl (k3, 384, .inl (lx fw dz (cnt dz 24) fb 24))), (a4, .inl (k4, 24, .inl (fun j => bI ((clr dz 24) j)))), (a5, .inl (k5, 24, .inl (fun j => bI ((lqK dz (cnt dz 24) lq 24) j))))] H := hP
              have hD : va_D _ [(h0, .inr (0, [.ref a1, .ref a2, .ref a3, .ref a4, .ref a5, .int 1, .int 0, .int (nI (cnt dz 24)), .int (nI (cu - 1)), .int (nI cs)])), (a1, .inl (k1, 384, .inl fw)), (a2, .inl (k2, 384, .inl (lx (lx fw dz (cnt dz 24) fb 24) (lqK dz (cnt dz 24) lq 24) ((cnt dz 24) * ((tkS cu cs) - 500) / 500) fd 24))), (a3, .inl (k3, 384, .inl (lx fw dz (cnt dz 24) fb 24))), (a4, .inl (k4, 24, .inl (fun j => bI ((clr dz 24) j)))), (a5, .inl (k5, 24, .inl (fun j => bI ((lqK dz (cnt dz 24) lq 24) j))))] := hD
              refine lv_aload_n hx hb dX0_commit_123 rfl (lv_at hl 1 rfl) ?_
              refine va_get (ci := 0) (v := .int 1) (C := RX0) (T := TX0) (N := 10) hx hb hts (by decide +kernel) hown hK hP 0 rfl rfl 5 (by decide) (hts (.fieldLink RX0 26 "CommitLog" "powered" "Z") (by decide +kernel)) (fun _ h9 => h9) rfl dX0_commit_124 ?_
              exact hret _ _ _ _ _ hP hD hS rfl dX0_commit_127
  · -- F of pc 4
    exact absurd c_1 (by decide)
set_option maxHeartbeats 4000000 in
set_option maxRecDepth 100000 in
theorem c0_commit_off (l : Launch) (D : va_G) (h0 a1 a2 a3 a4 a5 : Nat) (k1 k2 k3 k4 k5 : ClassId) (fw fd fb : Nat → Int32) (lq dz : Nat → Bool) (mk : Bool) (lc cu cs : Nat) : ct_i l yX0_commit wsX0_commit ({ frames := 3, cells := 0, slots := 0, locals := 64 }) D vwCl (XT k1 k2 k3 k4 k5) [.ref h0] (XW h0 a1 a2 a3 a4 a5 k1 k2 k3 k4 k5 fw fd fb lq dz false mk lc cu cs) (XW h0 a1 a2 a3 a4 a5 k1 k2 k3 k4 k5 fw fd fb lq dz false mk lc cu cs) (bI false) := by
  refine ct_i.of (cc := cX0_commit) (maxL := 2) (ty := .boolean) (by decide) rfl (Nat.le_of_ble_eq_true rfl) (nb_bI _) ?_
  intro p e s m args below meth c ls A Q hx hb hml hts hown hK hP hD hA hS hl hret
  have hown : s.vm.findClass RX0 = some m.cls := hown
  have hl : lv_has ls 2 [(0, .ref h0)] := hl
  have hP : va_P D vwCl [(h0, .inr (0, [.ref a1, .ref a2, .ref a3, .ref a4, .ref a5, .int 0, .int (bI mk), .int (nI lc), .int (nI cu), .int (nI cs)])), (a1, .inl (k1, 384, .inl fw)), (a2, .inl (k2, 384, .inl fd)), (a3, .inl (k3, 384, .inl fb)), (a4, .inl (k4, 24, .inl (fun j => bI (dz j)))), (a5, .inl (k5, 24, .inl (fun j => bI (lq j))))] s.heap := hP
  have hD : va_D A [(h0, .inr (0, [.ref a1, .ref a2, .ref a3, .ref a4, .ref a5, .int 0, .int (bI mk), .int (nI lc), .int (nI cu), .int (nI cs)])), (a1, .inl (k1, 384, .inl fw)), (a2, .inl (k2, 384, .inl fd)), (a3, .inl (k3, 384, .inl fb)), (a4, .inl (k4, 24, .inl (fun j => bI (dz j)))), (a5, .inl (k5, 24, .inl (fun j => bI (lq j))))] := hD
  refine lv_aload_n hx hb dX0_commit_0 rfl (lv_at hl 0 rfl) ?_
  refine va_get (ci := 0) (v := .int 0) (C := RX0) (T := TX0) (N := 10) hx hb hts (by decide +kernel) hown hK hP 0 rfl rfl 5 (by decide) (hts (.fieldLink RX0 26 "CommitLog" "powered" "Z") (by decide +kernel)) (fun _ h9 => h9) rfl dX0_commit_1 ?_
  refine lv_if_ne (tgt := 9) hx hb dX0_commit_4 (by decide) (fun c_1 => ?_) (fun c_1 => ?_)
  · -- T of pc 4
    exact absurd (by decide) c_1
  · -- F of pc 4
    refine lv_iconst (v := 0) hx hb dX0_commit_7 (by decide) ?_
    exact hret _ _ _ _ _ hP hD hS rfl dX0_commit_8
def xsd (mk : Bool) (fb : Nat → Int32) (lq : Nat → Bool) (fd : Nat → Int32) (lc t : Nat) : Nat → Int32 := bif mk then lx fb lq (lc * t / 1000) fd 24 else fd
theorem st_bad {t : Int32} (h1 : ¬ t < 0) (h2 : t ≤ 1000) : ¬ (t < 0 ∨ nI 1001 ≤ t) := by
  have e2 : (1000 : Int32).toInt = 1000 := rfl
  have e3 : (nI 1001).toInt = 1001 := rfl
  rw [Int32.le_iff_toInt_le] at h2
  rintro (h | h)
  · exact h1 h
  · rw [Int32.le_iff_toInt_le] at h; omega
set_option maxHeartbeats 4000000 in
set_option maxRecDepth 100000 in
theorem c0_start_no (l : Launch) (D : va_G) (h0 a1 a2 a3 a4 a5 : Nat) (k1 k2 k3 k4 k5 : ClassId) (fw fd fb : Nat → Int32) (lq dz : Nat → Bool) (pw mk : Bool) (lc cu cs : Nat) (x : Int32) (h : pw = true ∨ (x < 0 ∨ nI 1001 ≤ x)) : ct_i l yX0_start wsX0_start ({ frames := 3, cells := 0, slots := 0, locals := 64 }) D vwCl (XT k1 k2 k3 k4 k5) [.ref h0, .int x] (XW h0 a1 a2 a3 a4 a5 k1 k2 k3 k4 k5 fw fd fb lq dz pw mk lc cu cs) (XW h0 a1 a2 a3 a4 a5 k1 k2 k3 k4 k5 fw fd fb lq dz pw mk lc cu cs) (bI false) := by
  cases pw with
  | true =>
    refine ct_i.of (cc := cX0_start) (maxL := 2) (ty := .boolean) (by decide) rfl (Nat.le_of_ble_eq_true rfl) (nb_bI _) ?_
    intro p e s m args below meth c ls A Q hx hb hml hts hown hK hP hD hA hS hl hret
    have hown : s.vm.findClass RX0 = some m.cls := hown
    have hl : lv_has ls 2 [(0, .ref h0), (1, .int x)] := hl
    have hP : va_P D vwCl [(h0, .inr (0, [.ref a1, .ref a2, .ref a3, .ref a4, .ref a5, .int 1, .int (bI mk), .int (nI lc), .int (nI cu), .int (nI cs)])), (a1, .inl (k1, 384, .inl fw)), (a2, .inl (k2, 384, .inl fd)), (a3, .inl (k3, 384, .inl fb)), (a4, .inl (k4, 24, .inl (fun j => bI (dz j)))), (a5, .inl (k5, 24, .inl (fun j => bI (lq j))))] s.heap := hP
    have hD : va_D A [(h0, .inr (0, [.ref a1, .ref a2, .ref a3, .ref a4, .ref a5, .int 1, .int (bI mk), .int (nI lc), .int (nI cu), .int (nI cs)])), (a1, .inl (k1, 384, .inl fw)), (a2, .inl (k2, 384, .inl fd)), (a3, .inl (k3, 384, .inl fb)), (a4, .inl (k4, 24, .inl (fun j => bI (dz j)))), (a5, .inl (k5, 24, .inl (fun j => bI (lq j))))] := hD
    refine lv_aload_n hx hb dX0_start_0 rfl (lv_at hl 0 rfl) ?_
    refine va_get (ci := 0) (v := .int 1) (C := RX0) (T := TX0) (N := 10) hx hb hts (by decide +kernel) hown hK hP 0 rfl rfl 5 (by decide) (hts (.fieldLink RX0 26 "CommitLog" "powered" "Z") (by decide +kernel)) (fun _ h9 => h9) rfl dX0_start_1 ?_
    refine lv_if_ne (tgt := 18) hx hb dX0_start_4 (by decide) (fun c_1 => ?_) (fun c_1 => ?_)
    · -- T of pc 4
      refine lv_iconst (v := 0) hx hb dX0_start_18 (by decide) ?_
      exact hret _ _ _ _ _ hP hD hS rfl dX0_start_19
    · -- F of pc 4
      exact absurd c_1 (by decide)
  | false =>
    have h1 := h.resolve_left (by decide)
    refine ct_i.of (cc := cX0_start) (maxL := 2) (ty := .boolean) (by decide) rfl (Nat.le_of_ble_eq_true rfl) (nb_bI _) ?_
    intro p e s m args below meth c ls A Q hx hb hml hts hown hK hP hD hA hS hl hret
    have hown : s.vm.findClass RX0 = some m.cls := hown
    have hl : lv_has ls 2 [(0, .ref h0), (1, .int x)] := hl
    have hP : va_P D vwCl [(h0, .inr (0, [.ref a1, .ref a2, .ref a3, .ref a4, .ref a5, .int 0, .int (bI mk), .int (nI lc), .int (nI cu), .int (nI cs)])), (a1, .inl (k1, 384, .inl fw)), (a2, .inl (k2, 384, .inl fd)), (a3, .inl (k3, 384, .inl fb)), (a4, .inl (k4, 24, .inl (fun j => bI (dz j)))), (a5, .inl (k5, 24, .inl (fun j => bI (lq j))))] s.heap := hP
    have hD : va_D A [(h0, .inr (0, [.ref a1, .ref a2, .ref a3, .ref a4, .ref a5, .int 0, .int (bI mk), .int (nI lc), .int (nI cu), .int (nI cs)])), (a1, .inl (k1, 384, .inl fw)), (a2, .inl (k2, 384, .inl fd)), (a3, .inl (k3, 384, .inl fb)), (a4, .inl (k4, 24, .inl (fun j => bI (dz j)))), (a5, .inl (k5, 24, .inl (fun j => bI (lq j))))] := hD
    refine lv_aload_n hx hb dX0_start_0 rfl (lv_at hl 0 rfl) ?_
    refine va_get (ci := 0) (v := .int 0) (C := RX0) (T := TX0) (N := 10) hx hb hts (by decide +kernel) hown hK hP 0 rfl rfl 5 (by decide) (hts (.fieldLink RX0 26 "CommitLog" "powered" "Z") (by decide +kernel)) (fun _ h9 => h9) rfl dX0_start_1 ?_
    refine lv_if_ne (tgt := 18) hx hb dX0_start_4 (by decide) (fun c_1 => ?_) (fun c_1 => ?_)
    · -- T of pc 4
      exact absurd (by decide) c_1
    · -- F of pc 4
      refine lv_iload_n hx hb dX0_start_7 rfl (lv_at hl 1 rfl) ?_
      refine lv_if_lt (tgt := 18) hx hb dX0_start_8 (by decide) (fun c_2 => ?_) (fun c_2 => ?_)
      · -- T of pc 8
        refine lv_iconst (v := 0) hx hb dX0_start_18 (by decide) ?_
        exact hret _ _ _ _ _ hP hD hS rfl dX0_start_19
      · -- F of pc 8
        refine lv_iload_n hx hb dX0_start_11 rfl (lv_at hl 1 rfl) ?_
        refine lv_sipush (v := 1000) hx hb dX0_start_12 (by decide) ?_
        refine lv_icmp_le (tgt := 20) hx hb dX0_start_15 (by decide) (fun c_3 => ?_) (fun c_3 => ?_)
        · -- T of pc 15
          exact absurd h1 (st_bad c_2 c_3)
        · -- F of pc 15
          refine lv_iconst (v := 0) hx hb dX0_start_18 (by decide) ?_
          exact hret _ _ _ _ _ hP hD hS rfl dX0_start_19
set_option maxHeartbeats 4000000 in
set_option maxRecDepth 100000 in
theorem c0_start_cut (l : Launch) (D : va_G) (h0 a1 a2 a3 a4 a5 : Nat) (k1 k2 k3 k4 k5 : ClassId) (fw fd fb : Nat → Int32) (lq dz : Nat → Bool) (mk : Bool) (lc cu cs : Nat) (t : Nat) (ht : t < 1000) (hlc : lc ≤ 24) : ct_i l yX0_start wsX0_start ({ frames := 3, cells := 0, slots := 0, locals := 64 }) D vwCl (XT k1 k2 k3 k4 k5) [.ref h0, .int (nI t)] (XW h0 a1 a2 a3 a4 a5 k1 k2 k3 k4 k5 fw fd fb lq dz false mk lc cu cs) (XW h0 a1 a2 a3 a4 a5 k1 k2 k3 k4 k5 fw (xsd mk fb lq fd lc t) fb lq dz false mk lc cu cs) (bI false) := by
  have hm := sh_mul (s := t) (m := 1000) hlc (by omega)
  cases mk with
  | false =>
    refine ct_i.of (cc := cX0_start) (maxL := 2) (ty := .boolean) (by decide) rfl (Nat.le_of_ble_eq_true rfl) (nb_bI _) ?_
    intro p e s m args below meth c ls A Q hx hb hml hts hown hK hP hD hA hS hl hret
    have hown : s.vm.findClass RX0 = some m.cls := hown
    have hl : lv_has ls 2 [(0, .ref h0), (1, .int (nI t))] := hl
    have hP : va_P D vwCl [(h0, .inr (0, [.ref a1, .ref a2, .ref a3, .ref a4, .ref a5, .int 0, .int 0, .int (nI lc), .int (nI cu), .int (nI cs)])), (a1, .inl (k1, 384, .inl fw)), (a2, .inl (k2, 384, .inl fd)), (a3, .inl (k3, 384, .inl fb)), (a4, .inl (k4, 24, .inl (fun j => bI (dz j)))), (a5, .inl (k5, 24, .inl (fun j => bI (lq j))))] s.heap := hP
    have hD : va_D A [(h0, .inr (0, [.ref a1, .ref a2, .ref a3, .ref a4, .ref a5, .int 0, .int 0, .int (nI lc), .int (nI cu), .int (nI cs)])), (a1, .inl (k1, 384, .inl fw)), (a2, .inl (k2, 384, .inl fd)), (a3, .inl (k3, 384, .inl fb)), (a4, .inl (k4, 24, .inl (fun j => bI (dz j)))), (a5, .inl (k5, 24, .inl (fun j => bI (lq j))))] := hD
    refine lv_aload_n hx hb dX0_start_0 rfl (lv_at hl 0 rfl) ?_
    refine va_get (ci := 0) (v := .int 0) (C := RX0) (T := TX0) (N := 10) hx hb hts (by decide +kernel) hown hK hP 0 rfl rfl 5 (by decide) (hts (.fieldLink RX0 26 "CommitLog" "powered" "Z") (by decide +kernel)) (fun _ h9 => h9) rfl dX0_start_1 ?_
    refine lv_if_ne (tgt := 18) hx hb dX0_start_4 (by decide) (fun c_1 => ?_) (fun c_1 => ?_)
    · -- T of pc 4
      exact absurd (by decide) c_1
    · -- F of pc 4
      refine lv_iload_n hx hb dX0_start_7 rfl (lv_at hl 1 rfl) ?_
      refine lv_if_lt (tgt := 18) hx hb dX0_start_8 (by decide) (fun c_2 => ?_) (fun c_2 => ?_)
      · -- T of pc 8
        exact absurd c_2 (nI_pos (by omega))
      · -- F of pc 8
        refine lv_iload_n hx hb dX0_start_11 rfl (lv_at hl 1 rfl) ?_
        refine lv_sipush (v := 1000) hx hb dX0_start_12 (by decide) ?_
        refine lv_icmp_le (tgt := 20) hx hb dX0_start_15 (by decide) (fun c_3 => ?_) (fun c_3 => ?_)
        · -- T of pc 15
          refine lv_aload_n hx hb dX0_start_20 rfl (lv_at hl 0 rfl) ?_
          refine va_get (ci := 0) (v := .int 0) (C := RX0) (T := TX0) (N := 10) hx hb hts (by decide +kernel) hown hK hP 0 rfl rfl 6 (by decide) (hts (.fieldLink RX0 30 "CommitLog" "marked" "Z") (by decide +kernel)) (fun _ h9 => h9) rfl dX0_start_21 ?_
          refine lv_if_eq (tgt := 41) hx hb dX0_start_24 (by decide) (fun c_4 => ?_) (fun c_4 => ?_)
          · -- T of pc 24
            refine lv_iload_n hx hb dX0_start_41 rfl (lv_at hl 1 rfl) ?_
            refine lv_sipush (v := 1000) hx hb dX0_start_42 (by decide) ?_
            refine lv_icmp_ge (tgt := 50) hx hb dX0_start_45 (by decide) (fun c_5 => ?_) (fun c_5 => ?_)
            · -- T of pc 45
              exact absurd c_5 (show ¬ nI 1000 ≤ nI t from nI_ge (by omega) (by decide))
            · -- F of pc 45
              refine lv_iconst (v := 0) hx hb dX0_start_48 (by decide) ?_
              exact hret _ _ _ _ _ hP hD hS rfl dX0_start_49
          · -- F of pc 24
            exact absurd (by decide) c_4
        · -- F of pc 15
          exact absurd (show nI t ≤ nI 1000 from nI_le (by omega) (by decide)) c_3
  | true =>
    refine ct_i.of (cc := cX0_start) (maxL := 2) (ty := .boolean) (by decide) rfl (Nat.le_of_ble_eq_true rfl) (nb_bI _) ?_
    intro p e s m args below meth c ls A Q hx hb hml hts hown hK hP hD hA hS hl hret
    have hown : s.vm.findClass RX0 = some m.cls := hown
    have hl : lv_has ls 2 [(0, .ref h0), (1, .int (nI t))] := hl
    have hP : va_P D vwCl [(h0, .inr (0, [.ref a1, .ref a2, .ref a3, .ref a4, .ref a5, .int 0, .int 1, .int (nI lc), .int (nI cu), .int (nI cs)])), (a1, .inl (k1, 384, .inl fw)), (a2, .inl (k2, 384, .inl fd)), (a3, .inl (k3, 384, .inl fb)), (a4, .inl (k4, 24, .inl (fun j => bI (dz j)))), (a5, .inl (k5, 24, .inl (fun j => bI (lq j))))] s.heap := hP
    have hD : va_D A [(h0, .inr (0, [.ref a1, .ref a2, .ref a3, .ref a4, .ref a5, .int 0, .int 1, .int (nI lc), .int (nI cu), .int (nI cs)])), (a1, .inl (k1, 384, .inl fw)), (a2, .inl (k2, 384, .inl fd)), (a3, .inl (k3, 384, .inl fb)), (a4, .inl (k4, 24, .inl (fun j => bI (dz j)))), (a5, .inl (k5, 24, .inl (fun j => bI (lq j))))] := hD
    refine lv_aload_n hx hb dX0_start_0 rfl (lv_at hl 0 rfl) ?_
    refine va_get (ci := 0) (v := .int 0) (C := RX0) (T := TX0) (N := 10) hx hb hts (by decide +kernel) hown hK hP 0 rfl rfl 5 (by decide) (hts (.fieldLink RX0 26 "CommitLog" "powered" "Z") (by decide +kernel)) (fun _ h9 => h9) rfl dX0_start_1 ?_
    refine lv_if_ne (tgt := 18) hx hb dX0_start_4 (by decide) (fun c_1 => ?_) (fun c_1 => ?_)
    · -- T of pc 4
      exact absurd (by decide) c_1
    · -- F of pc 4
      refine lv_iload_n hx hb dX0_start_7 rfl (lv_at hl 1 rfl) ?_
      refine lv_if_lt (tgt := 18) hx hb dX0_start_8 (by decide) (fun c_2 => ?_) (fun c_2 => ?_)
      · -- T of pc 8
        exact absurd c_2 (nI_pos (by omega))
      · -- F of pc 8
        refine lv_iload_n hx hb dX0_start_11 rfl (lv_at hl 1 rfl) ?_
        refine lv_sipush (v := 1000) hx hb dX0_start_12 (by decide) ?_
        refine lv_icmp_le (tgt := 20) hx hb dX0_start_15 (by decide) (fun c_3 => ?_) (fun c_3 => ?_)
        · -- T of pc 15
          refine lv_aload_n hx hb dX0_start_20 rfl (lv_at hl 0 rfl) ?_
          refine va_get (ci := 0) (v := .int 1) (C := RX0) (T := TX0) (N := 10) hx hb hts (by decide +kernel) hown hK hP 0 rfl rfl 6 (by decide) (hts (.fieldLink RX0 30 "CommitLog" "marked" "Z") (by decide +kernel)) (fun _ h9 => h9) rfl dX0_start_21 ?_
          refine lv_if_eq (tgt := 41) hx hb dX0_start_24 (by decide) (fun c_4 => ?_) (fun c_4 => ?_)
          · -- T of pc 24
            exact absurd c_4 (by decide)
          · -- F of pc 24
            refine lv_aload_n hx hb dX0_start_27 rfl (lv_at hl 0 rfl) ?_
            refine lv_aload_n hx hb dX0_start_28 rfl (lv_at hl 0 rfl) ?_
            refine va_get (ci := 0) (v := .int (nI lc)) (C := RX0) (T := TX0) (N := 10) hx hb hts (by decide +kernel) hown hK hP 0 rfl rfl 7 (by decide) (hts (.fieldLink RX0 33 "CommitLog" "latestCount" "I") (by decide +kernel)) (fun _ h9 => h9) rfl dX0_start_29 ?_
            refine lv_iload_n hx hb dX0_start_32 rfl (lv_at hl 1 rfl) ?_
            refine lv_imul hx hb dX0_start_33 ?_
            refine tp_as (z := nI (lc * t)) (pk_mul _ _) ?_
            refine lv_sipush (v := 1000) hx hb dX0_start_34 (by decide) ?_
            refine lv_idiv hx hb dX0_start_37 (by decide) ?_
            refine tp_as (z := nI (lc * t / 1000)) (pk_div (d := 1000) (by omega) (by decide) (by decide)) ?_
            refine ct_Vv (As := [.int (nI (lc * t / 1000))]) (rest := []) (wr := []) (wn := [(h0, .inr (0, [.ref a1, .ref a2, .ref a3, .ref a4, .ref a5, .int 0, .int 1, .int (nI lc), .int (nI cu), .int (nI cs)])), (a1, .inl (k1, 384, .inl fw)), (a2, .inl (k2, 384, .inl (lx fb lq (lc * t / 1000) fd 24))), (a3, .inl (k3, 384, .inl fb)), (a4, .inl (k4, 24, .inl (fun j => bI (dz j)))), (a5, .inl (k5, 24, .inl (fun j => bI (lq j))))]) ⟨hx, hb, hml, hown, hts⟩ (c0_bringLogToDisk l D h0 a1 a2 a3 a4 a5 k1 k2 k3 k4 k5 fw fd fb lq dz false true lc cu cs (lc * t / 1000) (sh_div hlc (by omega))) (cwV 1 hts gX0_start_X0_bringLogToDisk rfl rfl rfl (by decide +kernel) ⟨Nat.le_of_ble_eq_true rfl, Nat.le_of_ble_eq_true rfl⟩) hK hP hD hS hA [0, 1, 2, 3, 4, 5] [] [0, 1, 2, 3, 4] [0, 1, 2, 3, 4, 5] rfl rfl (by decide) rfl (by decide) (by decide) rfl (by decide) 0 rfl 0 rfl rfl hl.1 rfl (Nat.le_of_ble_eq_true rfl) dX0_start_38 ⟨Nat.zero_le _, Nat.zero_le _⟩ (fun H locs hP hD hS => ?_)
            refine lv_iload_n hx hb dX0_start_41 rfl (lv_at hl 1 rfl) ?_
            refine lv_sipush (v := 1000) hx hb dX0_start_42 (by decide) ?_
            refine lv_icmp_ge (tgt := 50) hx hb dX0_start_45 (by decide) (fun c_5 => ?_) (fun c_5 => ?_)
            · -- T of pc 45
              exact absurd c_5 (show ¬ nI 1000 ≤ nI t from nI_ge (by omega) (by decide))
            · -- F of pc 45
              refine lv_iconst (v := 0) hx hb dX0_start_48 (by decide) ?_
              exact hret _ _ _ _ _ hP hD hS rfl dX0_start_49
        · -- F of pc 15
          exact absurd (show nI t ≤ nI 1000 from nI_le (by omega) (by decide)) c_3
set_option maxHeartbeats 4000000 in
set_option maxRecDepth 100000 in
theorem c0_start_on (l : Launch) (D : va_G) (h0 a1 a2 a3 a4 a5 : Nat) (k1 k2 k3 k4 k5 : ClassId) (fw fd fb : Nat → Int32) (lq dz : Nat → Bool) (mk : Bool) (lc cu cs : Nat) (hlc : lc ≤ 24) : ct_i l yX0_start wsX0_start ({ frames := 3, cells := 0, slots := 0, locals := 64 }) D vwCl (XT k1 k2 k3 k4 k5) [.ref h0, .int (nI 1000)] (XW h0 a1 a2 a3 a4 a5 k1 k2 k3 k4 k5 fw fd fb lq dz false mk lc cu cs) (XW h0 a1 a2 a3 a4 a5 k1 k2 k3 k4 k5 (va_cpy (xsd mk fb lq fd lc 1000) fw 0 0 384) (xsd mk fb lq fd lc 1000) fb lq (clr dz 24) true false lc cu cs) (bI true) := by
  have hm := sh_mul (s := 1000) (m := 1000) hlc (by omega)
  cases mk with
  | false =>
    refine ct_i.of (cc := cX0_start) (maxL := 2) (ty := .boolean) (by decide) rfl (Nat.le_of_ble_eq_true rfl) (nb_bI _) ?_
    intro p e s m args below meth c ls A Q hx hb hml hts hown hK hP hD hA hS hl hret
    have hown : s.vm.findClass RX0 = some m.cls := hown
    have hl : lv_has ls 2 [(0, .ref h0), (1, .int (nI 1000))] := hl
    have hP : va_P D vwCl [(h0, .inr (0, [.ref a1, .ref a2, .ref a3, .ref a4, .ref a5, .int 0, .int 0, .int (nI lc), .int (nI cu), .int (nI cs)])), (a1, .inl (k1, 384, .inl fw)), (a2, .inl (k2, 384, .inl fd)), (a3, .inl (k3, 384, .inl fb)), (a4, .inl (k4, 24, .inl (fun j => bI (dz j)))), (a5, .inl (k5, 24, .inl (fun j => bI (lq j))))] s.heap := hP
    have hD : va_D A [(h0, .inr (0, [.ref a1, .ref a2, .ref a3, .ref a4, .ref a5, .int 0, .int 0, .int (nI lc), .int (nI cu), .int (nI cs)])), (a1, .inl (k1, 384, .inl fw)), (a2, .inl (k2, 384, .inl fd)), (a3, .inl (k3, 384, .inl fb)), (a4, .inl (k4, 24, .inl (fun j => bI (dz j)))), (a5, .inl (k5, 24, .inl (fun j => bI (lq j))))] := hD
    refine lv_aload_n hx hb dX0_start_0 rfl (lv_at hl 0 rfl) ?_
    refine va_get (ci := 0) (v := .int 0) (C := RX0) (T := TX0) (N := 10) hx hb hts (by decide +kernel) hown hK hP 0 rfl rfl 5 (by decide) (hts (.fieldLink RX0 26 "CommitLog" "powered" "Z") (by decide +kernel)) (fun _ h9 => h9) rfl dX0_start_1 ?_
    refine lv_if_ne (tgt := 18) hx hb dX0_start_4 (by decide) (fun c_1 => ?_) (fun c_1 => ?_)
    · -- T of pc 4
      exact absurd (by decide) c_1
    · -- F of pc 4
      refine lv_iload_n hx hb dX0_start_7 rfl (lv_at hl 1 rfl) ?_
      refine lv_if_lt (tgt := 18) hx hb dX0_start_8 (by decide) (fun c_2 => ?_) (fun c_2 => ?_)
      · -- T of pc 8
        exact absurd c_2 (nI_pos (by omega))
      · -- F of pc 8
        refine lv_iload_n hx hb dX0_start_11 rfl (lv_at hl 1 rfl) ?_
        refine lv_sipush (v := 1000) hx hb dX0_start_12 (by decide) ?_
        refine lv_icmp_le (tgt := 20) hx hb dX0_start_15 (by decide) (fun c_3 => ?_) (fun c_3 => ?_)
        · -- T of pc 15
          refine lv_aload_n hx hb dX0_start_20 rfl (lv_at hl 0 rfl) ?_
          refine va_get (ci := 0) (v := .int 0) (C := RX0) (T := TX0) (N := 10) hx hb hts (by decide +kernel) hown hK hP 0 rfl rfl 6 (by decide) (hts (.fieldLink RX0 30 "CommitLog" "marked" "Z") (by decide +kernel)) (fun _ h9 => h9) rfl dX0_start_21 ?_
          refine lv_if_eq (tgt := 41) hx hb dX0_start_24 (by decide) (fun c_4 => ?_) (fun c_4 => ?_)
          · -- T of pc 24
            refine lv_iload_n hx hb dX0_start_41 rfl (lv_at hl 1 rfl) ?_
            refine lv_sipush (v := 1000) hx hb dX0_start_42 (by decide) ?_
            refine lv_icmp_ge (tgt := 50) hx hb dX0_start_45 (by decide) (fun c_5 => ?_) (fun c_5 => ?_)
            · -- T of pc 45
              refine lv_aload_n hx hb dX0_start_50 rfl (lv_at hl 0 rfl) ?_
              refine lv_iconst (v := 0) hx hb dX0_start_51 (by decide) ?_
              refine va_put (ci := 0) (v := .int 0) (ty := .boolean) (C := RX0) (T := TX0) (N := 10) hx hb hts (by decide +kernel) tyX0 tyX0_ok nmX0 hown hK hP hD hS 0 rfl rfl 6 (by decide) (hts (.fieldLink RX0 30 "CommitLog" "marked" "Z") (by decide +kernel)) (fun _ h9 => h9) rfl (by decide +kernel) rfl rfl (Nat.le_of_ble_eq_true rfl) dX0_start_52 (fun H locs hP hD hS => ?_)
              have hP : va_P D vwCl [(h0, .inr (0, [.ref a1, .ref a2, .ref a3, .ref a4, .ref a5, .int 0, .int 0, .int (nI lc), .int (nI cu), .int (nI cs)])), (a1, .inl (k1, 384, .inl fw)), (a2, .inl (k2, 384, .inl fd)), (a3, .inl (k3, 384, .inl fb)), (a4, .inl (k4, 24, .inl (fun j => bI (dz j)))), (a5, .inl (k5, 24, .inl (fun j => bI (lq j))))] H := hP
              have hD : va_D _ [(h0, .inr (0, [.ref a1, .ref a2, .ref a3, .ref a4, .ref a5, .int 0, .int 0, .int (nI lc), .int (nI cu), .int (nI cs)])), (a1, .inl (k1, 384, .inl fw)), (a2, .inl (k2, 384, .inl fd)), (a3, .inl (k3, 384, .inl fb)), (a4, .inl (k4, 24, .inl (fun j => bI (dz j)))), (a5, .inl (k5, 24, .inl (fun j => bI (lq j))))] := hD
              refine lv_aload_n hx hb dX0_start_55 rfl (lv_at hl 0 rfl) ?_
              refine lv_iconst (v := 1) hx hb dX0_start_56 (by decide) ?_
              refine va_put (ci := 0) (v := .int 1) (ty := .boolean) (C := RX0) (T := TX0) (N := 10) hx hb hts (by decide +kernel) tyX0 tyX0_ok nmX0 hown hK hP hD hS 0 rfl rfl 5 (by decide) (hts (.fieldLink RX0 26 "CommitLog" "powered" "Z") (by decide +kernel)) (fun _ h9 => h9) rfl (by decide +kernel) rfl rfl (Nat.le_of_ble_eq_true rfl) dX0_start_57 (fun H locs hP hD hS => ?_)
              have hP : va_P D vwCl [(h0, .inr (0, [.ref a1, .ref a2, .ref a3, .ref a4, .ref a5, .int 1, .int 0, .int (nI lc), .int (nI cu), .int (nI cs)])), (a1, .inl (k1, 384, .inl fw)), (a2, .inl (k2, 384, .inl fd)), (a3, .inl (k3, 384, .inl fb)), (a4, .inl (k4, 24, .inl (fun j => bI (dz j)))), (a5, .inl (k5, 24, .inl (fun j => bI (lq j))))] H := hP
              have hD : va_D _ [(h0, .inr (0, [.ref a1, .ref a2, .ref a3, .ref a4, .ref a5, .int 1, .int 0, .int (nI lc), .int (nI cu), .int (nI cs)])), (a1, .inl (k1, 384, .inl fw)), (a2, .inl (k2, 384, .inl fd)), (a3, .inl (k3, 384, .inl fb)), (a4, .inl (k4, 24, .inl (fun j => bI (dz j)))), (a5, .inl (k5, 24, .inl (fun j => bI (lq j))))] := hD
              refine lv_aload_n hx hb dX0_start_60 rfl (lv_at hl 0 rfl) ?_
              refine ct_Vv (As := []) (rest := []) (wr := []) (wn := [(h0, .inr (0, [.ref a1, .ref a2, .ref a3, .ref a4, .ref a5, .int 1, .int 0, .int (nI lc), .int (nI cu), .int (nI cs)])), (a1, .inl (k1, 384, .inl (va_cpy fd fw 0 0 384))), (a2, .inl (k2, 384, .inl fd)), (a3, .inl (k3, 384, .inl fb)), (a4, .inl (k4, 24, .inl (fun j => bI ((clr dz 24) j)))), (a5, .inl (k5, 24, .inl (fun j => bI (lq j))))]) ⟨hx, hb, hml, hown, hts⟩ (c0_takeWork l D h0 a1 a2 a3 a4 a5 k1 k2 k3 k4 k5 fw fd fb lq dz true false lc cu cs) (cwV 0 hts gX0_start_X0_takeWorkFromDisk rfl rfl rfl (by decide +kernel) ⟨Nat.le_of_ble_eq_true rfl, Nat.le_of_ble_eq_true rfl⟩) hK hP hD hS hA [0, 1, 2, 3, 4, 5] [] [0, 1, 2, 3, 4] [0, 1, 2, 3, 4, 5] rfl rfl (by decide) rfl (by decide) (by decide) rfl (by decide) 0 rfl 0 rfl rfl hl.1 rfl (Nat.le_of_ble_eq_true rfl) dX0_start_61 ⟨Nat.zero_le _, Nat.zero_le _⟩ (fun H locs hP hD hS => ?_)
              refine lv_iconst (v := 1) hx hb dX0_start_64 (by decide) ?_
              exact hret _ _ _ _ _ hP hD hS rfl dX0_start_65
            · -- F of pc 45
              exact absurd (by decide) c_5
          · -- F of pc 24
            exact absurd (by decide) c_4
        · -- F of pc 15
          exact absurd (show nI 1000 ≤ nI 1000 from nI_le (by omega) (by decide)) c_3
  | true =>
    refine ct_i.of (cc := cX0_start) (maxL := 2) (ty := .boolean) (by decide) rfl (Nat.le_of_ble_eq_true rfl) (nb_bI _) ?_
    intro p e s m args below meth c ls A Q hx hb hml hts hown hK hP hD hA hS hl hret
    have hown : s.vm.findClass RX0 = some m.cls := hown
    have hl : lv_has ls 2 [(0, .ref h0), (1, .int (nI 1000))] := hl
    have hP : va_P D vwCl [(h0, .inr (0, [.ref a1, .ref a2, .ref a3, .ref a4, .ref a5, .int 0, .int 1, .int (nI lc), .int (nI cu), .int (nI cs)])), (a1, .inl (k1, 384, .inl fw)), (a2, .inl (k2, 384, .inl fd)), (a3, .inl (k3, 384, .inl fb)), (a4, .inl (k4, 24, .inl (fun j => bI (dz j)))), (a5, .inl (k5, 24, .inl (fun j => bI (lq j))))] s.heap := hP
    have hD : va_D A [(h0, .inr (0, [.ref a1, .ref a2, .ref a3, .ref a4, .ref a5, .int 0, .int 1, .int (nI lc), .int (nI cu), .int (nI cs)])), (a1, .inl (k1, 384, .inl fw)), (a2, .inl (k2, 384, .inl fd)), (a3, .inl (k3, 384, .inl fb)), (a4, .inl (k4, 24, .inl (fun j => bI (dz j)))), (a5, .inl (k5, 24, .inl (fun j => bI (lq j))))] := hD
    refine lv_aload_n hx hb dX0_start_0 rfl (lv_at hl 0 rfl) ?_
    refine va_get (ci := 0) (v := .int 0) (C := RX0) (T := TX0) (N := 10) hx hb hts (by decide +kernel) hown hK hP 0 rfl rfl 5 (by decide) (hts (.fieldLink RX0 26 "CommitLog" "powered" "Z") (by decide +kernel)) (fun _ h9 => h9) rfl dX0_start_1 ?_
    refine lv_if_ne (tgt := 18) hx hb dX0_start_4 (by decide) (fun c_1 => ?_) (fun c_1 => ?_)
    · -- T of pc 4
      exact absurd (by decide) c_1
    · -- F of pc 4
      refine lv_iload_n hx hb dX0_start_7 rfl (lv_at hl 1 rfl) ?_
      refine lv_if_lt (tgt := 18) hx hb dX0_start_8 (by decide) (fun c_2 => ?_) (fun c_2 => ?_)
      · -- T of pc 8
        exact absurd c_2 (nI_pos (by omega))
      · -- F of pc 8
        refine lv_iload_n hx hb dX0_start_11 rfl (lv_at hl 1 rfl) ?_
        refine lv_sipush (v := 1000) hx hb dX0_start_12 (by decide) ?_
        refine lv_icmp_le (tgt := 20) hx hb dX0_start_15 (by decide) (fun c_3 => ?_) (fun c_3 => ?_)
        · -- T of pc 15
          refine lv_aload_n hx hb dX0_start_20 rfl (lv_at hl 0 rfl) ?_
          refine va_get (ci := 0) (v := .int 1) (C := RX0) (T := TX0) (N := 10) hx hb hts (by decide +kernel) hown hK hP 0 rfl rfl 6 (by decide) (hts (.fieldLink RX0 30 "CommitLog" "marked" "Z") (by decide +kernel)) (fun _ h9 => h9) rfl dX0_start_21 ?_
          refine lv_if_eq (tgt := 41) hx hb dX0_start_24 (by decide) (fun c_4 => ?_) (fun c_4 => ?_)
          · -- T of pc 24
            exact absurd c_4 (by decide)
          · -- F of pc 24
            refine lv_aload_n hx hb dX0_start_27 rfl (lv_at hl 0 rfl) ?_
            refine lv_aload_n hx hb dX0_start_28 rfl (lv_at hl 0 rfl) ?_
            refine va_get (ci := 0) (v := .int (nI lc)) (C := RX0) (T := TX0) (N := 10) hx hb hts (by decide +kernel) hown hK hP 0 rfl rfl 7 (by decide) (hts (.fieldLink RX0 33 "CommitLog" "latestCount" "I") (by decide +kernel)) (fun _ h9 => h9) rfl dX0_start_29 ?_
            refine lv_iload_n hx hb dX0_start_32 rfl (lv_at hl 1 rfl) ?_
            refine lv_imul hx hb dX0_start_33 ?_
            refine tp_as (z := nI (lc * 1000)) (pk_mul _ _) ?_
            refine lv_sipush (v := 1000) hx hb dX0_start_34 (by decide) ?_
            refine lv_idiv hx hb dX0_start_37 (by decide) ?_
            refine tp_as (z := nI (lc * 1000 / 1000)) (pk_div (d := 1000) (by omega) (by decide) (by decide)) ?_
            refine ct_Vv (As := [.int (nI (lc * 1000 / 1000))]) (rest := []) (wr := []) (wn := [(h0, .inr (0, [.ref a1, .ref a2, .ref a3, .ref a4, .ref a5, .int 0, .int 1, .int (nI lc), .int (nI cu), .int (nI cs)])), (a1, .inl (k1, 384, .inl fw)), (a2, .inl (k2, 384, .inl (lx fb lq (lc * 1000 / 1000) fd 24))), (a3, .inl (k3, 384, .inl fb)), (a4, .inl (k4, 24, .inl (fun j => bI (dz j)))), (a5, .inl (k5, 24, .inl (fun j => bI (lq j))))]) ⟨hx, hb, hml, hown, hts⟩ (c0_bringLogToDisk l D h0 a1 a2 a3 a4 a5 k1 k2 k3 k4 k5 fw fd fb lq dz false true lc cu cs (lc * 1000 / 1000) (sh_div hlc (by omega))) (cwV 1 hts gX0_start_X0_bringLogToDisk rfl rfl rfl (by decide +kernel) ⟨Nat.le_of_ble_eq_true rfl, Nat.le_of_ble_eq_true rfl⟩) hK hP hD hS hA [0, 1, 2, 3, 4, 5] [] [0, 1, 2, 3, 4] [0, 1, 2, 3, 4, 5] rfl rfl (by decide) rfl (by decide) (by decide) rfl (by decide) 0 rfl 0 rfl rfl hl.1 rfl (Nat.le_of_ble_eq_true rfl) dX0_start_38 ⟨Nat.zero_le _, Nat.zero_le _⟩ (fun H locs hP hD hS => ?_)
            refine lv_iload_n hx hb dX0_start_41 rfl (lv_at hl 1 rfl) ?_
            refine lv_sipush (v := 1000) hx hb dX0_start_42 (by decide) ?_
            refine lv_icmp_ge (tgt := 50) hx hb dX0_start_45 (by decide) (fun c_5 => ?_) (fun c_5 => ?_)
            · -- T of pc 45
              refine lv_aload_n hx hb dX0_start_50 rfl (lv_at hl 0 rfl) ?_
              refine lv_iconst (v := 0) hx hb dX0_start_51 (by decide) ?_
              refine va_put (ci := 0) (v := .int 0) (ty := .boolean) (C := RX0) (T := TX0) (N := 10) hx hb hts (by decide +kernel) tyX0 tyX0_ok nmX0 hown hK hP hD hS 0 rfl rfl 6 (by decide) (hts (.fieldLink RX0 30 "CommitLog" "marked" "Z") (by decide +kernel)) (fun _ h9 => h9) rfl (by decide +kernel) rfl rfl (Nat.le_of_ble_eq_true rfl) dX0_start_52 (fun H locs hP hD hS => ?_)
              have hP : va_P D vwCl [(h0, .inr (0, [.ref a1, .ref a2, .ref a3, .ref a4, .ref a5, .int 0, .int 0, .int (nI lc), .int (nI cu), .int (nI cs)])), (a1, .inl (k1, 384, .inl fw)), (a2, .inl (k2, 384, .inl (lx fb lq (lc * 1000 / 1000) fd 24))), (a3, .inl (k3, 384, .inl fb)), (a4, .inl (k4, 24, .inl (fun j => bI (dz j)))), (a5, .inl (k5, 24, .inl (fun j => bI (lq j))))] H := hP
              have hD : va_D _ [(h0, .inr (0, [.ref a1, .ref a2, .ref a3, .ref a4, .ref a5, .int 0, .int 0, .int (nI lc), .int (nI cu), .int (nI cs)])), (a1, .inl (k1, 384, .inl fw)), (a2, .inl (k2, 384, .inl (lx fb lq (lc * 1000 / 1000) fd 24))), (a3, .inl (k3, 384, .inl fb)), (a4, .inl (k4, 24, .inl (fun j => bI (dz j)))), (a5, .inl (k5, 24, .inl (fun j => bI (lq j))))] := hD
              refine lv_aload_n hx hb dX0_start_55 rfl (lv_at hl 0 rfl) ?_
              refine lv_iconst (v := 1) hx hb dX0_start_56 (by decide) ?_
              refine va_put (ci := 0) (v := .int 1) (ty := .boolean) (C := RX0) (T := TX0) (N := 10) hx hb hts (by decide +kernel) tyX0 tyX0_ok nmX0 hown hK hP hD hS 0 rfl rfl 5 (by decide) (hts (.fieldLink RX0 26 "CommitLog" "powered" "Z") (by decide +kernel)) (fun _ h9 => h9) rfl (by decide +kernel) rfl rfl (Nat.le_of_ble_eq_true rfl) dX0_start_57 (fun H locs hP hD hS => ?_)
              have hP : va_P D vwCl [(h0, .inr (0, [.ref a1, .ref a2, .ref a3, .ref a4, .ref a5, .int 1, .int 0, .int (nI lc), .int (nI cu), .int (nI cs)])), (a1, .inl (k1, 384, .inl fw)), (a2, .inl (k2, 384, .inl (lx fb lq (lc * 1000 / 1000) fd 24))), (a3, .inl (k3, 384, .inl fb)), (a4, .inl (k4, 24, .inl (fun j => bI (dz j)))), (a5, .inl (k5, 24, .inl (fun j => bI (lq j))))] H := hP
              have hD : va_D _ [(h0, .inr (0, [.ref a1, .ref a2, .ref a3, .ref a4, .ref a5, .int 1, .int 0, .int (nI lc), .int (nI cu), .int (nI cs)])), (a1, .inl (k1, 384, .inl fw)), (a2, .inl (k2, 384, .inl (lx fb lq (lc * 1000 / 1000) fd 24))), (a3, .inl (k3, 384, .inl fb)), (a4, .inl (k4, 24, .inl (fun j => bI (dz j)))), (a5, .inl (k5, 24, .inl (fun j => bI (lq j))))] := hD
              refine lv_aload_n hx hb dX0_start_60 rfl (lv_at hl 0 rfl) ?_
              refine ct_Vv (As := []) (rest := []) (wr := []) (wn := [(h0, .inr (0, [.ref a1, .ref a2, .ref a3, .ref a4, .ref a5, .int 1, .int 0, .int (nI lc), .int (nI cu), .int (nI cs)])), (a1, .inl (k1, 384, .inl (va_cpy (lx fb lq (lc * 1000 / 1000) fd 24) fw 0 0 384))), (a2, .inl (k2, 384, .inl (lx fb lq (lc * 1000 / 1000) fd 24))), (a3, .inl (k3, 384, .inl fb)), (a4, .inl (k4, 24, .inl (fun j => bI ((clr dz 24) j)))), (a5, .inl (k5, 24, .inl (fun j => bI (lq j))))]) ⟨hx, hb, hml, hown, hts⟩ (c0_takeWork l D h0 a1 a2 a3 a4 a5 k1 k2 k3 k4 k5 fw (lx fb lq (lc * 1000 / 1000) fd 24) fb lq dz true false lc cu cs) (cwV 0 hts gX0_start_X0_takeWorkFromDisk rfl rfl rfl (by decide +kernel) ⟨Nat.le_of_ble_eq_true rfl, Nat.le_of_ble_eq_true rfl⟩) hK hP hD hS hA [0, 1, 2, 3, 4, 5] [] [0, 1, 2, 3, 4] [0, 1, 2, 3, 4, 5] rfl rfl (by decide) rfl (by decide) (by decide) rfl (by decide) 0 rfl 0 rfl rfl hl.1 rfl (Nat.le_of_ble_eq_true rfl) dX0_start_61 ⟨Nat.zero_le _, Nat.zero_le _⟩ (fun H locs hP hD hS => ?_)
              refine lv_iconst (v := 1) hx hb dX0_start_64 (by decide) ?_
              exact hret _ _ _ _ _ hP hD hS rfl dX0_start_65
            · -- F of pc 45
              exact absurd (by decide) c_5
        · -- F of pc 15
          exact absurd (show nI 1000 ≤ nI 1000 from nI_le (by omega) (by decide)) c_3
