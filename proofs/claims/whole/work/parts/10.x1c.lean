/-! The reference: commit and start. -/
set_option maxHeartbeats 4000000 in
set_option maxRecDepth 100000 in
theorem c1_commit_off (l : Launch) (D : va_G) (h0 a1 a2 a3 a4 a5 : Nat) (k1 k2 k3 k4 k5 : ClassId) (gw gd gl : Nat → Int32) (dz lg : Nat → Bool) (mk : Bool) (la : Nat) (lf : Option Nat) (sh : Nat) : ct_i l yX1_commit wsX1_commit ({ frames := 2, cells := 0, slots := 0, locals := 46 }) D vwCl (MT k1 k2 k3 k4 k5) [.ref h0] (MW h0 a1 a2 a3 a4 a5 k1 k2 k3 k4 k5 gw gd gl dz lg true mk la lf sh) (MW h0 a1 a2 a3 a4 a5 k1 k2 k3 k4 k5 gw gd gl dz lg true mk la lf sh) (bI false) := by
  refine ct_i.of (cc := cX1_commit) (maxL := 3) (ty := .boolean) (by decide) rfl (Nat.le_of_ble_eq_true rfl) (nb_bI _) ?_
  intro p e s m args below meth c ls A Q hx hb hml hts hown hK hP hD hA hS hl hret
  have hown : s.vm.findClass RX1 = some m.cls := hown
  have hl : lv_has ls 3 [(0, .ref h0)] := hl
  have hP : va_P D vwCl [(h0, .inr (1, [.ref a1, .ref a2, .ref a3, .ref a4, .ref a5, .int 1, .int (bI mk), .int (nI la), .int (lfI lf), .int (nI sh)])), (a1, .inl (k1, 384, .inl gw)), (a2, .inl (k2, 384, .inl gd)), (a3, .inl (k3, 384, .inl gl)), (a4, .inl (k4, 24, .inl (fun j => bI (dz j)))), (a5, .inl (k5, 24, .inl (fun j => bI (lg j))))] s.heap := hP
  have hD : va_D A [(h0, .inr (1, [.ref a1, .ref a2, .ref a3, .ref a4, .ref a5, .int 1, .int (bI mk), .int (nI la), .int (lfI lf), .int (nI sh)])), (a1, .inl (k1, 384, .inl gw)), (a2, .inl (k2, 384, .inl gd)), (a3, .inl (k3, 384, .inl gl)), (a4, .inl (k4, 24, .inl (fun j => bI (dz j)))), (a5, .inl (k5, 24, .inl (fun j => bI (lg j))))] := hD
  refine lv_aload_n hx hb dX1_commit_0 rfl (lv_at hl 0 rfl) ?_
  refine va_get (ci := 1) (v := .int 1) (C := RX1) (T := TX1) (N := 10) hx hb hts (by decide +kernel) hown hK hP 0 rfl rfl 5 (by decide) (hts (.fieldLink RX1 30 "CommitLogModel" "off" "Z") (by decide +kernel)) (fun _ h9 => h9) rfl dX1_commit_1 ?_
  refine lv_if_eq (tgt := 9) hx hb dX1_commit_4 (by decide) (fun c_1 => ?_) (fun c_1 => ?_)
  · -- T of pc 4
    exact absurd c_1 (by decide)
  · -- F of pc 4
    refine lv_iconst (v := 0) hx hb dX1_commit_7 (by decide) ?_
    exact hret _ _ _ _ _ hP hD hS rfl dX1_commit_8
set_option maxHeartbeats 4000000 in
set_option maxRecDepth 100000 in
theorem c1_commit_go (l : Launch) (D : va_G) (h0 a1 a2 a3 a4 a5 : Nat) (k1 k2 k3 k4 k5 : ClassId) (gw gd gl : Nat → Int32) (dz lg : Nat → Bool) (mk : Bool) (la : Nat) (lf : Option Nat) (sh : Nat) (hlf : lf ≠ some 1) (hl1 : ∀ j, lf = some j → j ≤ 1000) (hsh : sh < 1000) : ct_i l yX1_commit wsX1_commit ({ frames := 2, cells := 0, slots := 0, locals := 46 }) D vwCl (MT k1 k2 k3 k4 k5) [.ref h0] (MW h0 a1 a2 a3 a4 a5 k1 k2 k3 k4 k5 gw gd gl dz lg false mk la lf sh) (MW h0 a1 a2 a3 a4 a5 k1 k2 k3 k4 k5 gw (lyK (ntK gw dz gl 24) (lgK dz lg 24) (cnt dz 24) gd 24) (ntK gw dz gl 24) (clr dz 24) (lgK dz lg 24) false false (cnt dz 24) (lfD lf) sh) (bI true) := by
  have hc := cnt_le dz 24
  have hm2 : (cnt dz 24) * (sh - 500) ≤ 24 * 1000 := sh_mul hc (by omega)
  match lf, hlf with
  | none, _ =>
    simp only [lfD]
    refine ct_i.of (cc := cX1_commit) (maxL := 3) (ty := .boolean) (by decide) rfl (Nat.le_of_ble_eq_true rfl) (nb_bI _) ?_
    intro p e s m args below meth c ls A Q hx hb hml hts hown hK hP hD hA hS hl hret
    have hown : s.vm.findClass RX1 = some m.cls := hown
    have hl : lv_has ls 3 [(0, .ref h0)] := hl
    have hP : va_P D vwCl [(h0, .inr (1, [.ref a1, .ref a2, .ref a3, .ref a4, .ref a5, .int 0, .int (bI mk), .int (nI la), .int (lfI none), .int (nI sh)])), (a1, .inl (k1, 384, .inl gw)), (a2, .inl (k2, 384, .inl gd)), (a3, .inl (k3, 384, .inl gl)), (a4, .inl (k4, 24, .inl (fun j => bI (dz j)))), (a5, .inl (k5, 24, .inl (fun j => bI (lg j))))] s.heap := hP
    have hD : va_D A [(h0, .inr (1, [.ref a1, .ref a2, .ref a3, .ref a4, .ref a5, .int 0, .int (bI mk), .int (nI la), .int (lfI none), .int (nI sh)])), (a1, .inl (k1, 384, .inl gw)), (a2, .inl (k2, 384, .inl gd)), (a3, .inl (k3, 384, .inl gl)), (a4, .inl (k4, 24, .inl (fun j => bI (dz j)))), (a5, .inl (k5, 24, .inl (fun j => bI (lg j))))] := hD
    refine lv_aload_n hx hb dX1_commit_0 rfl (lv_at hl 0 rfl) ?_
    refine va_get (ci := 1) (v := .int 0) (C := RX1) (T := TX1) (N := 10) hx hb hts (by decide +kernel) hown hK hP 0 rfl rfl 5 (by decide) (hts (.fieldLink RX1 30 "CommitLogModel" "off" "Z") (by decide +kernel)) (fun _ h9 => h9) rfl dX1_commit_1 ?_
    refine lv_if_eq (tgt := 9) hx hb dX1_commit_4 (by decide) (fun c_1 => ?_) (fun c_1 => ?_)
    · -- T of pc 4
      refine lv_aload_n hx hb dX1_commit_9 rfl (lv_at hl 0 rfl) ?_
      refine ct_Vi (As := []) (rest := []) (wr := []) (wn := [(h0, .inr (1, [.ref a1, .ref a2, .ref a3, .ref a4, .ref a5, .int 0, .int (bI mk), .int (nI la), .int (lfI none), .int (nI sh)])), (a1, .inl (k1, 384, .inl gw)), (a2, .inl (k2, 384, .inl gd)), (a3, .inl (k3, 384, .inl gl)), (a4, .inl (k4, 24, .inl (fun j => bI (dz j)))), (a5, .inl (k5, 24, .inl (fun j => bI (lg j))))]) ⟨hx, hb, hml, hown, hts⟩ (c1_many l D h0 a1 a2 a3 a4 a5 k1 k2 k3 k4 k5 gw gd gl dz lg false mk la none sh) (cwV 0 hts gX1_commit_X1_many rfl rfl rfl (by decide +kernel) ⟨Nat.le_of_ble_eq_true rfl, Nat.le_of_ble_eq_true rfl⟩) hK hP hD hS hA [0, 1, 2, 3, 4, 5] [] [0, 1, 2, 3, 4] [0, 1, 2, 3, 4, 5] rfl rfl (by decide) rfl (by decide) (by decide) rfl (by decide) 1 rfl 0 rfl rfl hl.1 rfl (Nat.le_of_ble_eq_true rfl) dX1_commit_10 ⟨Nat.zero_le _, Nat.zero_le _⟩ (fun H locs hP hD hS => ?_)
      refine lv_istore_n (lv' := [(1, .int (nI (cnt dz 24))), (0, .ref h0)]) hx hb dX1_commit_13 rfl hl (by decide) rfl (fun ls hl => ?_)
      refine lv_aload_n hx hb dX1_commit_14 rfl (lv_at hl 1 rfl) ?_
      refine lv_iload_n hx hb dX1_commit_15 rfl (lv_at hl 0 rfl) ?_
      refine va_put (ci := 1) (v := .int (nI (cnt dz 24))) (ty := .int) (C := RX1) (T := TX1) (N := 10) hx hb hts (by decide +kernel) tyX1 tyX1_ok nmX1 hown hK hP hD hS 0 rfl rfl 7 (by decide) (hts (.fieldLink RX1 49 "CommitLogModel" "latest" "I") (by decide +kernel)) (fun _ h9 => h9) rfl (by decide +kernel) rfl rfl (Nat.le_of_ble_eq_true rfl) dX1_commit_16 (fun H locs hP hD hS => ?_)
      have hP : va_P D vwCl [(h0, .inr (1, [.ref a1, .ref a2, .ref a3, .ref a4, .ref a5, .int 0, .int (bI mk), .int (nI (cnt dz 24)), .int (lfI none), .int (nI sh)])), (a1, .inl (k1, 384, .inl gw)), (a2, .inl (k2, 384, .inl gd)), (a3, .inl (k3, 384, .inl gl)), (a4, .inl (k4, 24, .inl (fun j => bI (dz j)))), (a5, .inl (k5, 24, .inl (fun j => bI (lg j))))] H := hP
      have hD : va_D _ [(h0, .inr (1, [.ref a1, .ref a2, .ref a3, .ref a4, .ref a5, .int 0, .int (bI mk), .int (nI (cnt dz 24)), .int (lfI none), .int (nI sh)])), (a1, .inl (k1, 384, .inl gw)), (a2, .inl (k2, 384, .inl gd)), (a3, .inl (k3, 384, .inl gl)), (a4, .inl (k4, 24, .inl (fun j => bI (dz j)))), (a5, .inl (k5, 24, .inl (fun j => bI (lg j))))] := hD
      refine lv_aload_n hx hb dX1_commit_19 rfl (lv_at hl 1 rfl) ?_
      refine lv_aload_n hx hb dX1_commit_20 rfl (lv_at hl 1 rfl) ?_
      refine va_get (ci := 1) (v := .int (lfI none)) (C := RX1) (T := TX1) (N := 10) hx hb hts (by decide +kernel) hown hK hP 0 rfl rfl 8 (by decide) (hts (.fieldLink RX1 53 "CommitLogModel" "left" "I") (by decide +kernel)) (fun _ h9 => h9) rfl dX1_commit_21 ?_
      refine lv_if_le (tgt := 36) hx hb dX1_commit_24 (by decide) (fun c_2 => ?_) (fun c_2 => ?_)
      · -- T of pc 24
        refine lv_iconst (v := (-1)) hx hb dX1_commit_36 (by decide) ?_
        refine tp_as (z := lfI none) rfl ?_
        refine va_put (ci := 1) (v := .int (lfI none)) (ty := .int) (C := RX1) (T := TX1) (N := 10) hx hb hts (by decide +kernel) tyX1 tyX1_ok nmX1 hown hK hP hD hS 0 rfl rfl 8 (by decide) (hts (.fieldLink RX1 53 "CommitLogModel" "left" "I") (by decide +kernel)) (fun _ h9 => h9) rfl (by decide +kernel) rfl rfl (Nat.le_of_ble_eq_true rfl) dX1_commit_37 (fun H locs hP hD hS => ?_)
        have hP : va_P D vwCl [(h0, .inr (1, [.ref a1, .ref a2, .ref a3, .ref a4, .ref a5, .int 0, .int (bI mk), .int (nI (cnt dz 24)), .int (lfI none), .int (nI sh)])), (a1, .inl (k1, 384, .inl gw)), (a2, .inl (k2, 384, .inl gd)), (a3, .inl (k3, 384, .inl gl)), (a4, .inl (k4, 24, .inl (fun j => bI (dz j)))), (a5, .inl (k5, 24, .inl (fun j => bI (lg j))))] H := hP
        have hD : va_D _ [(h0, .inr (1, [.ref a1, .ref a2, .ref a3, .ref a4, .ref a5, .int 0, .int (bI mk), .int (nI (cnt dz 24)), .int (lfI none), .int (nI sh)])), (a1, .inl (k1, 384, .inl gw)), (a2, .inl (k2, 384, .inl gd)), (a3, .inl (k3, 384, .inl gl)), (a4, .inl (k4, 24, .inl (fun j => bI (dz j)))), (a5, .inl (k5, 24, .inl (fun j => bI (lg j))))] := hD
        refine lv_aload_n hx hb dX1_commit_40 rfl (lv_at hl 1 rfl) ?_
        refine lv_aload_n hx hb dX1_commit_41 rfl (lv_at hl 1 rfl) ?_
        refine va_get (ci := 1) (v := .int (lfI none)) (C := RX1) (T := TX1) (N := 10) hx hb hts (by decide +kernel) hown hK hP 0 rfl rfl 8 (by decide) (hts (.fieldLink RX1 53 "CommitLogModel" "left" "I") (by decide +kernel)) (fun _ h9 => h9) rfl dX1_commit_42 ?_
        refine lv_if_ne (tgt := 52) hx hb dX1_commit_45 (by decide) (fun c_3 => ?_) (fun c_3 => ?_)
        · -- T of pc 45
          refine lv_iconst (v := 0) hx hb dX1_commit_52 (by decide) ?_
          refine va_put (ci := 1) (v := .int 0) (ty := .boolean) (C := RX1) (T := TX1) (N := 10) hx hb hts (by decide +kernel) tyX1 tyX1_ok nmX1 hown hK hP hD hS 0 rfl rfl 5 (by decide) (hts (.fieldLink RX1 30 "CommitLogModel" "off" "Z") (by decide +kernel)) (fun _ h9 => h9) rfl (by decide +kernel) rfl rfl (Nat.le_of_ble_eq_true rfl) dX1_commit_53 (fun H locs hP hD hS => ?_)
          have hP : va_P D vwCl [(h0, .inr (1, [.ref a1, .ref a2, .ref a3, .ref a4, .ref a5, .int 0, .int (bI mk), .int (nI (cnt dz 24)), .int (lfI none), .int (nI sh)])), (a1, .inl (k1, 384, .inl gw)), (a2, .inl (k2, 384, .inl gd)), (a3, .inl (k3, 384, .inl gl)), (a4, .inl (k4, 24, .inl (fun j => bI (dz j)))), (a5, .inl (k5, 24, .inl (fun j => bI (lg j))))] H := hP
          have hD : va_D _ [(h0, .inr (1, [.ref a1, .ref a2, .ref a3, .ref a4, .ref a5, .int 0, .int (bI mk), .int (nI (cnt dz 24)), .int (lfI none), .int (nI sh)])), (a1, .inl (k1, 384, .inl gw)), (a2, .inl (k2, 384, .inl gd)), (a3, .inl (k3, 384, .inl gl)), (a4, .inl (k4, 24, .inl (fun j => bI (dz j)))), (a5, .inl (k5, 24, .inl (fun j => bI (lg j))))] := hD
          refine lv_aload_n hx hb dX1_commit_56 rfl (lv_at hl 1 rfl) ?_
          refine va_get (ci := 1) (v := .int 0) (C := RX1) (T := TX1) (N := 10) hx hb hts (by decide +kernel) hown hK hP 0 rfl rfl 5 (by decide) (hts (.fieldLink RX1 30 "CommitLogModel" "off" "Z") (by decide +kernel)) (fun _ h9 => h9) rfl dX1_commit_57 ?_
          refine lv_if_eq (tgt := 75) hx hb dX1_commit_60 (by decide) (fun c_4 => ?_) (fun c_4 => ?_)
          · -- T of pc 60
            refine lv_aload_n hx hb dX1_commit_75 rfl (lv_at hl 1 rfl) ?_
            refine ct_Vv (As := []) (rest := []) (wr := []) (wn := [(h0, .inr (1, [.ref a1, .ref a2, .ref a3, .ref a4, .ref a5, .int 0, .int 1, .int (nI (cnt dz 24)), .int (lfI none), .int (nI sh)])), (a1, .inl (k1, 384, .inl gw)), (a2, .inl (k2, 384, .inl gd)), (a3, .inl (k3, 384, .inl (ntK gw dz gl 24))), (a4, .inl (k4, 24, .inl (fun j => bI (dz j)))), (a5, .inl (k5, 24, .inl (fun j => bI ((lgK dz lg 24) j))))]) ⟨hx, hb, hml, hown, hts⟩ (c1_note l D h0 a1 a2 a3 a4 a5 k1 k2 k3 k4 k5 gw gd gl dz lg false mk (cnt dz 24) none sh) (cwV 0 hts gX1_commit_X1_note rfl rfl rfl (by decide +kernel) ⟨Nat.le_of_ble_eq_true rfl, Nat.le_of_ble_eq_true rfl⟩) hK hP hD hS hA [0, 1, 2, 3, 4, 5] [] [0, 1, 2, 3, 4] [0, 1, 2, 3, 4, 5] rfl rfl (by decide) rfl (by decide) (by decide) rfl (by decide) 1 rfl 0 rfl rfl hl.1 rfl (Nat.le_of_ble_eq_true rfl) dX1_commit_76 ⟨Nat.zero_le _, Nat.zero_le _⟩ (fun H locs hP hD hS => ?_)
            refine lv_aload_n hx hb dX1_commit_79 rfl (lv_at hl 1 rfl) ?_
            refine lv_aload_n hx hb dX1_commit_80 rfl (lv_at hl 1 rfl) ?_
            refine va_get (ci := 1) (v := .int 0) (C := RX1) (T := TX1) (N := 10) hx hb hts (by decide +kernel) hown hK hP 0 rfl rfl 5 (by decide) (hts (.fieldLink RX1 30 "CommitLogModel" "off" "Z") (by decide +kernel)) (fun _ h9 => h9) rfl dX1_commit_81 ?_
            refine lv_if_eq (tgt := 104) hx hb dX1_commit_84 (by decide) (fun c_5 => ?_) (fun c_5 => ?_)
            · -- T of pc 84
              refine lv_iload_n hx hb dX1_commit_104 rfl (lv_at hl 0 rfl) ?_
              refine ct_Vv (As := [.int (nI (cnt dz 24))]) (rest := []) (wr := []) (wn := [(h0, .inr (1, [.ref a1, .ref a2, .ref a3, .ref a4, .ref a5, .int 0, .int 1, .int (nI (cnt dz 24)), .int (lfI none), .int (nI sh)])), (a1, .inl (k1, 384, .inl gw)), (a2, .inl (k2, 384, .inl (lyK (ntK gw dz gl 24) (lgK dz lg 24) (cnt dz 24) gd 24))), (a3, .inl (k3, 384, .inl (ntK gw dz gl 24))), (a4, .inl (k4, 24, .inl (fun j => bI (dz j)))), (a5, .inl (k5, 24, .inl (fun j => bI ((lgK dz lg 24) j))))]) ⟨hx, hb, hml, hown, hts⟩ (c1_lay l D h0 a1 a2 a3 a4 a5 k1 k2 k3 k4 k5 gw gd (ntK gw dz gl 24) dz (lgK dz lg 24) false true (cnt dz 24) none sh (cnt dz 24) hc) (cwV 1 hts gX1_commit_X1_lay rfl rfl rfl (by decide +kernel) ⟨Nat.le_of_ble_eq_true rfl, Nat.le_of_ble_eq_true rfl⟩) hK hP hD hS hA [0, 1, 2, 3, 4, 5] [] [0, 1, 2, 3, 4] [0, 1, 2, 3, 4, 5] rfl rfl (by decide) rfl (by decide) (by decide) rfl (by decide) 1 rfl 0 rfl rfl hl.1 rfl (Nat.le_of_ble_eq_true rfl) dX1_commit_105 ⟨Nat.zero_le _, Nat.zero_le _⟩ (fun H locs hP hD hS => ?_)
              refine lv_aload_n hx hb dX1_commit_108 rfl (lv_at hl 1 rfl) ?_
              refine lv_aload_n hx hb dX1_commit_109 rfl (lv_at hl 1 rfl) ?_
              refine va_get (ci := 1) (v := .int 0) (C := RX1) (T := TX1) (N := 10) hx hb hts (by decide +kernel) hown hK hP 0 rfl rfl 5 (by decide) (hts (.fieldLink RX1 30 "CommitLogModel" "off" "Z") (by decide +kernel)) (fun _ h9 => h9) rfl dX1_commit_110 ?_
              refine va_put (ci := 1) (v := .int 0) (ty := .boolean) (C := RX1) (T := TX1) (N := 10) hx hb hts (by decide +kernel) tyX1 tyX1_ok nmX1 hown hK hP hD hS 0 rfl rfl 6 (by decide) (hts (.fieldLink RX1 42 "CommitLogModel" "mark" "Z") (by decide +kernel)) (fun _ h9 => h9) rfl (by decide +kernel) rfl rfl (Nat.le_of_ble_eq_true rfl) dX1_commit_113 (fun H locs hP hD hS => ?_)
              have hP : va_P D vwCl [(h0, .inr (1, [.ref a1, .ref a2, .ref a3, .ref a4, .ref a5, .int 0, .int 0, .int (nI (cnt dz 24)), .int (lfI none), .int (nI sh)])), (a1, .inl (k1, 384, .inl gw)), (a2, .inl (k2, 384, .inl (lyK (ntK gw dz gl 24) (lgK dz lg 24) (cnt dz 24) gd 24))), (a3, .inl (k3, 384, .inl (ntK gw dz gl 24))), (a4, .inl (k4, 24, .inl (fun j => bI (dz j)))), (a5, .inl (k5, 24, .inl (fun j => bI ((lgK dz lg 24) j))))] H := hP
              have hD : va_D _ [(h0, .inr (1, [.ref a1, .ref a2, .ref a3, .ref a4, .ref a5, .int 0, .int 0, .int (nI (cnt dz 24)), .int (lfI none), .int (nI sh)])), (a1, .inl (k1, 384, .inl gw)), (a2, .inl (k2, 384, .inl (lyK (ntK gw dz gl 24) (lgK dz lg 24) (cnt dz 24) gd 24))), (a3, .inl (k3, 384, .inl (ntK gw dz gl 24))), (a4, .inl (k4, 24, .inl (fun j => bI (dz j)))), (a5, .inl (k5, 24, .inl (fun j => bI ((lgK dz lg 24) j))))] := hD
              refine lv_iconst (v := 0) hx hb dX1_commit_116 (by decide) ?_
              refine lv_istore_n (lv' := [(2, .int 0), (1, .int (nI (cnt dz 24))), (0, .ref h0)]) hx hb dX1_commit_117 rfl hl (by decide) rfl (fun ls hl => ?_)
              have loop : ∀ (n k : Nat), k + n = 24 → ∀ (ls : Array Slot) (H : Heap) (locs : List Loc), lv_has ls 3 [(2, .int (nI k)), (1, .int (nI (cnt dz 24))), (0, .ref h0)] → va_P D vwCl [(h0, .inr (1, [.ref a1, .ref a2, .ref a3, .ref a4, .ref a5, .int 0, .int 0, .int (nI (cnt dz 24)), .int (lfI none), .int (nI sh)])), (a1, .inl (k1, 384, .inl gw)), (a2, .inl (k2, 384, .inl (lyK (ntK gw dz gl 24) (lgK dz lg 24) (cnt dz 24) gd 24))), (a3, .inl (k3, 384, .inl (ntK gw dz gl 24))), (a4, .inl (k4, 24, .inl (fun j => bI (clr dz k j)))), (a5, .inl (k5, 24, .inl (fun j => bI ((lgK dz lg 24) j))))] H → va_D A [(h0, .inr (1, [.ref a1, .ref a2, .ref a3, .ref a4, .ref a5, .int 0, .int 0, .int (nI (cnt dz 24)), .int (lfI none), .int (nI sh)])), (a1, .inl (k1, 384, .inl gw)), (a2, .inl (k2, 384, .inl (lyK (ntK gw dz gl 24) (lgK dz lg 24) (cnt dz 24) gd 24))), (a3, .inl (k3, 384, .inl (ntK gw dz gl 24))), (a4, .inl (k4, 24, .inl (fun j => bI (clr dz k j)))), (a5, .inl (k5, 24, .inl (fun j => bI ((lgK dz lg 24) j))))] → va_S A s.heap H locs → W p l e ({ frames := 2, cells := 0, slots := 0, locals := 46 }) s m args below meth c H locs 0 0 Q (F0 m 118 ls []) := by
                intro n
                induction n with
                | zero =>
                  intro k hk ls H locs hl hP hD hS
                  obtain rfl : k = 24 := by omega
                  refine lv_iload_n hx hb dX1_commit_118 rfl (lv_at hl 0 rfl) ?_
                  refine lv_bipush (v := 24) hx hb dX1_commit_119 (by decide) ?_
                  refine lv_icmp_ge (tgt := 137) hx hb dX1_commit_121 (by decide) (fun c_6 => ?_) (fun c_6 => ?_)
                  · -- T of pc 121
                    refine lv_aload_n hx hb dX1_commit_137 rfl (lv_at hl 2 rfl) ?_
                    refine va_get (ci := 1) (v := .int 0) (C := RX1) (T := TX1) (N := 10) hx hb hts (by decide +kernel) hown hK hP 0 rfl rfl 5 (by decide) (hts (.fieldLink RX1 30 "CommitLogModel" "off" "Z") (by decide +kernel)) (fun _ h9 => h9) rfl dX1_commit_138 ?_
                    refine lv_if_ne (tgt := 148) hx hb dX1_commit_141 (by decide) (fun c_7 => ?_) (fun c_7 => ?_)
                    · -- T of pc 141
                      exact absurd (by decide) c_7
                    · -- F of pc 141
                      refine lv_iconst (v := 1) hx hb dX1_commit_144 (by decide) ?_
                      refine lv_goto (tgt := 149) hx hb dX1_commit_145 (by decide) ?_
                      exact hret _ _ _ _ _ hP hD hS rfl dX1_commit_149
                  · -- F of pc 121
                    exact absurd (by decide) c_6
                | succ n ih =>
                  intro k hk ls H locs hl hP hD hS
                  refine lv_iload_n hx hb dX1_commit_118 rfl (lv_at hl 0 rfl) ?_
                  refine lv_bipush (v := 24) hx hb dX1_commit_119 (by decide) ?_
                  refine lv_icmp_ge (tgt := 137) hx hb dX1_commit_121 (by decide) (fun c_8 => ?_) (fun c_8 => ?_)
                  · -- T of pc 121
                    exact absurd c_8 (show ¬ nI 24 ≤ nI k from nI_ge (by omega) (by decide))
                  · -- F of pc 121
                    refine lv_aload_n hx hb dX1_commit_124 rfl (lv_at hl 2 rfl) ?_
                    refine va_get (ci := 1) (v := .ref a4) (C := RX1) (T := TX1) (N := 10) hx hb hts (by decide +kernel) hown hK hP 0 rfl rfl 3 (by decide) (hts (.fieldLink RX1 19 "CommitLogModel" "dirty" "[Z") (by decide +kernel)) (fun _ h9 => h9) rfl dX1_commit_125 ?_
                    refine lv_iload_n hx hb dX1_commit_128 rfl (lv_at hl 0 rfl) ?_
                    refine lv_iconst (v := 0) hx hb dX1_commit_129 (by decide) ?_
                    refine va_zast hx hb hK hP hD hS 4 3 rfl rfl (vp_in_nI (by omega) (by decide)) dX1_commit_130 (fun H locs hP hD hS => ?_)
                    rw [cl_nI (show k < 2 ^ 31 by omega), show vp_nar .boolean 0 = bI false from rfl, up_bI, clr_s] at hP hD
                    have hP : va_P D vwCl [(h0, .inr (1, [.ref a1, .ref a2, .ref a3, .ref a4, .ref a5, .int 0, .int 0, .int (nI (cnt dz 24)), .int (lfI none), .int (nI sh)])), (a1, .inl (k1, 384, .inl gw)), (a2, .inl (k2, 384, .inl (lyK (ntK gw dz gl 24) (lgK dz lg 24) (cnt dz 24) gd 24))), (a3, .inl (k3, 384, .inl (ntK gw dz gl 24))), (a4, .inl (k4, 24, .inl (fun j => bI (clr dz (k + 1) j)))), (a5, .inl (k5, 24, .inl (fun j => bI ((lgK dz lg 24) j))))] H := hP
                    have hD : va_D _ [(h0, .inr (1, [.ref a1, .ref a2, .ref a3, .ref a4, .ref a5, .int 0, .int 0, .int (nI (cnt dz 24)), .int (lfI none), .int (nI sh)])), (a1, .inl (k1, 384, .inl gw)), (a2, .inl (k2, 384, .inl (lyK (ntK gw dz gl 24) (lgK dz lg 24) (cnt dz 24) gd 24))), (a3, .inl (k3, 384, .inl (ntK gw dz gl 24))), (a4, .inl (k4, 24, .inl (fun j => bI (clr dz (k + 1) j)))), (a5, .inl (k5, 24, .inl (fun j => bI ((lgK dz lg 24) j))))] := hD
                    refine lv_iinc (v := (nI (k + 1))) (lv' := [(2, .int (nI (k + 1))), (1, .int (nI (cnt dz 24))), (0, .ref h0)]) hx hb dX1_commit_131 hl (k := 0) rfl (nI_1 _) (by decide) rfl (fun ls hl => ?_)
                    refine lv_goto (tgt := 118) hx hb dX1_commit_134 (by decide) ?_
                    exact ih (k + 1) (by omega) ls H locs (lv_sub hl [0, 1, 2] rfl) hP hD hS
              exact loop 24 0 rfl ls _ _ (lv_sub hl [0, 1, 2] rfl) (by rw [clr_0]; exact hP) (by rw [clr_0]; exact hD) hS
            · -- F of pc 84
              exact absurd (by decide) c_5
          · -- F of pc 60
            exact absurd (by decide) c_4
        · -- F of pc 45
          exact absurd c_3 (by decide)
      · -- F of pc 24
        exact absurd (by decide) c_2
    · -- F of pc 4
      exact absurd (by decide) c_1
  | some 0, _ =>
    simp only [lfD]
    refine ct_i.of (cc := cX1_commit) (maxL := 3) (ty := .boolean) (by decide) rfl (Nat.le_of_ble_eq_true rfl) (nb_bI _) ?_
    intro p e s m args below meth c ls A Q hx hb hml hts hown hK hP hD hA hS hl hret
    have hown : s.vm.findClass RX1 = some m.cls := hown
    have hl : lv_has ls 3 [(0, .ref h0)] := hl
    have hP : va_P D vwCl [(h0, .inr (1, [.ref a1, .ref a2, .ref a3, .ref a4, .ref a5, .int 0, .int (bI mk), .int (nI la), .int (lfI (some 0)), .int (nI sh)])), (a1, .inl (k1, 384, .inl gw)), (a2, .inl (k2, 384, .inl gd)), (a3, .inl (k3, 384, .inl gl)), (a4, .inl (k4, 24, .inl (fun j => bI (dz j)))), (a5, .inl (k5, 24, .inl (fun j => bI (lg j))))] s.heap := hP
    have hD : va_D A [(h0, .inr (1, [.ref a1, .ref a2, .ref a3, .ref a4, .ref a5, .int 0, .int (bI mk), .int (nI la), .int (lfI (some 0)), .int (nI sh)])), (a1, .inl (k1, 384, .inl gw)), (a2, .inl (k2, 384, .inl gd)), (a3, .inl (k3, 384, .inl gl)), (a4, .inl (k4, 24, .inl (fun j => bI (dz j)))), (a5, .inl (k5, 24, .inl (fun j => bI (lg j))))] := hD
    refine lv_aload_n hx hb dX1_commit_0 rfl (lv_at hl 0 rfl) ?_
    refine va_get (ci := 1) (v := .int 0) (C := RX1) (T := TX1) (N := 10) hx hb hts (by decide +kernel) hown hK hP 0 rfl rfl 5 (by decide) (hts (.fieldLink RX1 30 "CommitLogModel" "off" "Z") (by decide +kernel)) (fun _ h9 => h9) rfl dX1_commit_1 ?_
    refine lv_if_eq (tgt := 9) hx hb dX1_commit_4 (by decide) (fun c_1 => ?_) (fun c_1 => ?_)
    · -- T of pc 4
      refine lv_aload_n hx hb dX1_commit_9 rfl (lv_at hl 0 rfl) ?_
      refine ct_Vi (As := []) (rest := []) (wr := []) (wn := [(h0, .inr (1, [.ref a1, .ref a2, .ref a3, .ref a4, .ref a5, .int 0, .int (bI mk), .int (nI la), .int (lfI (some 0)), .int (nI sh)])), (a1, .inl (k1, 384, .inl gw)), (a2, .inl (k2, 384, .inl gd)), (a3, .inl (k3, 384, .inl gl)), (a4, .inl (k4, 24, .inl (fun j => bI (dz j)))), (a5, .inl (k5, 24, .inl (fun j => bI (lg j))))]) ⟨hx, hb, hml, hown, hts⟩ (c1_many l D h0 a1 a2 a3 a4 a5 k1 k2 k3 k4 k5 gw gd gl dz lg false mk la (some 0) sh) (cwV 0 hts gX1_commit_X1_many rfl rfl rfl (by decide +kernel) ⟨Nat.le_of_ble_eq_true rfl, Nat.le_of_ble_eq_true rfl⟩) hK hP hD hS hA [0, 1, 2, 3, 4, 5] [] [0, 1, 2, 3, 4] [0, 1, 2, 3, 4, 5] rfl rfl (by decide) rfl (by decide) (by decide) rfl (by decide) 1 rfl 0 rfl rfl hl.1 rfl (Nat.le_of_ble_eq_true rfl) dX1_commit_10 ⟨Nat.zero_le _, Nat.zero_le _⟩ (fun H locs hP hD hS => ?_)
      refine lv_istore_n (lv' := [(1, .int (nI (cnt dz 24))), (0, .ref h0)]) hx hb dX1_commit_13 rfl hl (by decide) rfl (fun ls hl => ?_)
      refine lv_aload_n hx hb dX1_commit_14 rfl (lv_at hl 1 rfl) ?_
      refine lv_iload_n hx hb dX1_commit_15 rfl (lv_at hl 0 rfl) ?_
      refine va_put (ci := 1) (v := .int (nI (cnt dz 24))) (ty := .int) (C := RX1) (T := TX1) (N := 10) hx hb hts (by decide +kernel) tyX1 tyX1_ok nmX1 hown hK hP hD hS 0 rfl rfl 7 (by decide) (hts (.fieldLink RX1 49 "CommitLogModel" "latest" "I") (by decide +kernel)) (fun _ h9 => h9) rfl (by decide +kernel) rfl rfl (Nat.le_of_ble_eq_true rfl) dX1_commit_16 (fun H locs hP hD hS => ?_)
      have hP : va_P D vwCl [(h0, .inr (1, [.ref a1, .ref a2, .ref a3, .ref a4, .ref a5, .int 0, .int (bI mk), .int (nI (cnt dz 24)), .int (lfI (some 0)), .int (nI sh)])), (a1, .inl (k1, 384, .inl gw)), (a2, .inl (k2, 384, .inl gd)), (a3, .inl (k3, 384, .inl gl)), (a4, .inl (k4, 24, .inl (fun j => bI (dz j)))), (a5, .inl (k5, 24, .inl (fun j => bI (lg j))))] H := hP
      have hD : va_D _ [(h0, .inr (1, [.ref a1, .ref a2, .ref a3, .ref a4, .ref a5, .int 0, .int (bI mk), .int (nI (cnt dz 24)), .int (lfI (some 0)), .int (nI sh)])), (a1, .inl (k1, 384, .inl gw)), (a2, .inl (k2, 384, .inl gd)), (a3, .inl (k3, 384, .inl gl)), (a4, .inl (k4, 24, .inl (fun j => bI (dz j)))), (a5, .inl (k5, 24, .inl (fun j => bI (lg j))))] := hD
      refine lv_aload_n hx hb dX1_commit_19 rfl (lv_at hl 1 rfl) ?_
      refine lv_aload_n hx hb dX1_commit_20 rfl (lv_at hl 1 rfl) ?_
      refine va_get (ci := 1) (v := .int (lfI (some 0))) (C := RX1) (T := TX1) (N := 10) hx hb hts (by decide +kernel) hown hK hP 0 rfl rfl 8 (by decide) (hts (.fieldLink RX1 53 "CommitLogModel" "left" "I") (by decide +kernel)) (fun _ h9 => h9) rfl dX1_commit_21 ?_
      refine lv_if_le (tgt := 36) hx hb dX1_commit_24 (by decide) (fun c_2 => ?_) (fun c_2 => ?_)
      · -- T of pc 24
        refine lv_iconst (v := (-1)) hx hb dX1_commit_36 (by decide) ?_
        refine tp_as (z := lfI none) rfl ?_
        refine va_put (ci := 1) (v := .int (lfI none)) (ty := .int) (C := RX1) (T := TX1) (N := 10) hx hb hts (by decide +kernel) tyX1 tyX1_ok nmX1 hown hK hP hD hS 0 rfl rfl 8 (by decide) (hts (.fieldLink RX1 53 "CommitLogModel" "left" "I") (by decide +kernel)) (fun _ h9 => h9) rfl (by decide +kernel) rfl rfl (Nat.le_of_ble_eq_true rfl) dX1_commit_37 (fun H locs hP hD hS => ?_)
        have hP : va_P D vwCl [(h0, .inr (1, [.ref a1, .ref a2, .ref a3, .ref a4, .ref a5, .int 0, .int (bI mk), .int (nI (cnt dz 24)), .int (lfI none), .int (nI sh)])), (a1, .inl (k1, 384, .inl gw)), (a2, .inl (k2, 384, .inl gd)), (a3, .inl (k3, 384, .inl gl)), (a4, .inl (k4, 24, .inl (fun j => bI (dz j)))), (a5, .inl (k5, 24, .inl (fun j => bI (lg j))))] H := hP
        have hD : va_D _ [(h0, .inr (1, [.ref a1, .ref a2, .ref a3, .ref a4, .ref a5, .int 0, .int (bI mk), .int (nI (cnt dz 24)), .int (lfI none), .int (nI sh)])), (a1, .inl (k1, 384, .inl gw)), (a2, .inl (k2, 384, .inl gd)), (a3, .inl (k3, 384, .inl gl)), (a4, .inl (k4, 24, .inl (fun j => bI (dz j)))), (a5, .inl (k5, 24, .inl (fun j => bI (lg j))))] := hD
        refine lv_aload_n hx hb dX1_commit_40 rfl (lv_at hl 1 rfl) ?_
        refine lv_aload_n hx hb dX1_commit_41 rfl (lv_at hl 1 rfl) ?_
        refine va_get (ci := 1) (v := .int (lfI none)) (C := RX1) (T := TX1) (N := 10) hx hb hts (by decide +kernel) hown hK hP 0 rfl rfl 8 (by decide) (hts (.fieldLink RX1 53 "CommitLogModel" "left" "I") (by decide +kernel)) (fun _ h9 => h9) rfl dX1_commit_42 ?_
        refine lv_if_ne (tgt := 52) hx hb dX1_commit_45 (by decide) (fun c_3 => ?_) (fun c_3 => ?_)
        · -- T of pc 45
          refine lv_iconst (v := 0) hx hb dX1_commit_52 (by decide) ?_
          refine va_put (ci := 1) (v := .int 0) (ty := .boolean) (C := RX1) (T := TX1) (N := 10) hx hb hts (by decide +kernel) tyX1 tyX1_ok nmX1 hown hK hP hD hS 0 rfl rfl 5 (by decide) (hts (.fieldLink RX1 30 "CommitLogModel" "off" "Z") (by decide +kernel)) (fun _ h9 => h9) rfl (by decide +kernel) rfl rfl (Nat.le_of_ble_eq_true rfl) dX1_commit_53 (fun H locs hP hD hS => ?_)
          have hP : va_P D vwCl [(h0, .inr (1, [.ref a1, .ref a2, .ref a3, .ref a4, .ref a5, .int 0, .int (bI mk), .int (nI (cnt dz 24)), .int (lfI none), .int (nI sh)])), (a1, .inl (k1, 384, .inl gw)), (a2, .inl (k2, 384, .inl gd)), (a3, .inl (k3, 384, .inl gl)), (a4, .inl (k4, 24, .inl (fun j => bI (dz j)))), (a5, .inl (k5, 24, .inl (fun j => bI (lg j))))] H := hP
          have hD : va_D _ [(h0, .inr (1, [.ref a1, .ref a2, .ref a3, .ref a4, .ref a5, .int 0, .int (bI mk), .int (nI (cnt dz 24)), .int (lfI none), .int (nI sh)])), (a1, .inl (k1, 384, .inl gw)), (a2, .inl (k2, 384, .inl gd)), (a3, .inl (k3, 384, .inl gl)), (a4, .inl (k4, 24, .inl (fun j => bI (dz j)))), (a5, .inl (k5, 24, .inl (fun j => bI (lg j))))] := hD
          refine lv_aload_n hx hb dX1_commit_56 rfl (lv_at hl 1 rfl) ?_
          refine va_get (ci := 1) (v := .int 0) (C := RX1) (T := TX1) (N := 10) hx hb hts (by decide +kernel) hown hK hP 0 rfl rfl 5 (by decide) (hts (.fieldLink RX1 30 "CommitLogModel" "off" "Z") (by decide +kernel)) (fun _ h9 => h9) rfl dX1_commit_57 ?_
          refine lv_if_eq (tgt := 75) hx hb dX1_commit_60 (by decide) (fun c_4 => ?_) (fun c_4 => ?_)
          · -- T of pc 60
            refine lv_aload_n hx hb dX1_commit_75 rfl (lv_at hl 1 rfl) ?_
            refine ct_Vv (As := []) (rest := []) (wr := []) (wn := [(h0, .inr (1, [.ref a1, .ref a2, .ref a3, .ref a4, .ref a5, .int 0, .int 1, .int (nI (cnt dz 24)), .int (lfI none), .int (nI sh)])), (a1, .inl (k1, 384, .inl gw)), (a2, .inl (k2, 384, .inl gd)), (a3, .inl (k3, 384, .inl (ntK gw dz gl 24))), (a4, .inl (k4, 24, .inl (fun j => bI (dz j)))), (a5, .inl (k5, 24, .inl (fun j => bI ((lgK dz lg 24) j))))]) ⟨hx, hb, hml, hown, hts⟩ (c1_note l D h0 a1 a2 a3 a4 a5 k1 k2 k3 k4 k5 gw gd gl dz lg false mk (cnt dz 24) none sh) (cwV 0 hts gX1_commit_X1_note rfl rfl rfl (by decide +kernel) ⟨Nat.le_of_ble_eq_true rfl, Nat.le_of_ble_eq_true rfl⟩) hK hP hD hS hA [0, 1, 2, 3, 4, 5] [] [0, 1, 2, 3, 4] [0, 1, 2, 3, 4, 5] rfl rfl (by decide) rfl (by decide) (by decide) rfl (by decide) 1 rfl 0 rfl rfl hl.1 rfl (Nat.le_of_ble_eq_true rfl) dX1_commit_76 ⟨Nat.zero_le _, Nat.zero_le _⟩ (fun H locs hP hD hS => ?_)
            refine lv_aload_n hx hb dX1_commit_79 rfl (lv_at hl 1 rfl) ?_
            refine lv_aload_n hx hb dX1_commit_80 rfl (lv_at hl 1 rfl) ?_
            refine va_get (ci := 1) (v := .int 0) (C := RX1) (T := TX1) (N := 10) hx hb hts (by decide +kernel) hown hK hP 0 rfl rfl 5 (by decide) (hts (.fieldLink RX1 30 "CommitLogModel" "off" "Z") (by decide +kernel)) (fun _ h9 => h9) rfl dX1_commit_81 ?_
            refine lv_if_eq (tgt := 104) hx hb dX1_commit_84 (by decide) (fun c_5 => ?_) (fun c_5 => ?_)
            · -- T of pc 84
              refine lv_iload_n hx hb dX1_commit_104 rfl (lv_at hl 0 rfl) ?_
              refine ct_Vv (As := [.int (nI (cnt dz 24))]) (rest := []) (wr := []) (wn := [(h0, .inr (1, [.ref a1, .ref a2, .ref a3, .ref a4, .ref a5, .int 0, .int 1, .int (nI (cnt dz 24)), .int (lfI none), .int (nI sh)])), (a1, .inl (k1, 384, .inl gw)), (a2, .inl (k2, 384, .inl (lyK (ntK gw dz gl 24) (lgK dz lg 24) (cnt dz 24) gd 24))), (a3, .inl (k3, 384, .inl (ntK gw dz gl 24))), (a4, .inl (k4, 24, .inl (fun j => bI (dz j)))), (a5, .inl (k5, 24, .inl (fun j => bI ((lgK dz lg 24) j))))]) ⟨hx, hb, hml, hown, hts⟩ (c1_lay l D h0 a1 a2 a3 a4 a5 k1 k2 k3 k4 k5 gw gd (ntK gw dz gl 24) dz (lgK dz lg 24) false true (cnt dz 24) none sh (cnt dz 24) hc) (cwV 1 hts gX1_commit_X1_lay rfl rfl rfl (by decide +kernel) ⟨Nat.le_of_ble_eq_true rfl, Nat.le_of_ble_eq_true rfl⟩) hK hP hD hS hA [0, 1, 2, 3, 4, 5] [] [0, 1, 2, 3, 4] [0, 1, 2, 3, 4, 5] rfl rfl (by decide) rfl (by decide) (by decide) rfl (by decide) 1 rfl 0 rfl rfl hl.1 rfl (Nat.le_of_ble_eq_true rfl) dX1_commit_105 ⟨Nat.zero_le _, Nat.zero_le _⟩ (fun H locs hP hD hS => ?_)
              refine lv_aload_n hx hb dX1_commit_108 rfl (lv_at hl 1 rfl) ?_
              refine lv_aload_n hx hb dX1_commit_109 rfl (lv_at hl 1 rfl) ?_
              refine va_get (ci := 1) (v := .int 0) (C := RX1) (T := TX1) (N := 10) hx hb hts (by decide +kernel) hown hK hP 0 rfl rfl 5 (by decide) (hts (.fieldLink RX1 30 "CommitLogModel" "off" "Z") (by decide +kernel)) (fun _ h9 => h9) rfl dX1_commit_110 ?_
              refine va_put (ci := 1) (v := .int 0) (ty := .boolean) (C := RX1) (T := TX1) (N := 10) hx hb hts (by decide +kernel) tyX1 tyX1_ok nmX1 hown hK hP hD hS 0 rfl rfl 6 (by decide) (hts (.fieldLink RX1 42 "CommitLogModel" "mark" "Z") (by decide +kernel)) (fun _ h9 => h9) rfl (by decide +kernel) rfl rfl (Nat.le_of_ble_eq_true rfl) dX1_commit_113 (fun H locs hP hD hS => ?_)
              have hP : va_P D vwCl [(h0, .inr (1, [.ref a1, .ref a2, .ref a3, .ref a4, .ref a5, .int 0, .int 0, .int (nI (cnt dz 24)), .int (lfI none), .int (nI sh)])), (a1, .inl (k1, 384, .inl gw)), (a2, .inl (k2, 384, .inl (lyK (ntK gw dz gl 24) (lgK dz lg 24) (cnt dz 24) gd 24))), (a3, .inl (k3, 384, .inl (ntK gw dz gl 24))), (a4, .inl (k4, 24, .inl (fun j => bI (dz j)))), (a5, .inl (k5, 24, .inl (fun j => bI ((lgK dz lg 24) j))))] H := hP
              have hD : va_D _ [(h0, .inr (1, [.ref a1, .ref a2, .ref a3, .ref a4, .ref a5, .int 0, .int 0, .int (nI (cnt dz 24)), .int (lfI none), .int (nI sh)])), (a1, .inl (k1, 384, .inl gw)), (a2, .inl (k2, 384, .inl (lyK (ntK gw dz gl 24) (lgK dz lg 24) (cnt dz 24) gd 24))), (a3, .inl (k3, 384, .inl (ntK gw dz gl 24))), (a4, .inl (k4, 24, .inl (fun j => bI (dz j)))), (a5, .inl (k5, 24, .inl (fun j => bI ((lgK dz lg 24) j))))] := hD
              refine lv_iconst (v := 0) hx hb dX1_commit_116 (by decide) ?_
              refine lv_istore_n (lv' := [(2, .int 0), (1, .int (nI (cnt dz 24))), (0, .ref h0)]) hx hb dX1_commit_117 rfl hl (by decide) rfl (fun ls hl => ?_)
              have loop : ∀ (n k : Nat), k + n = 24 → ∀ (ls : Array Slot) (H : Heap) (locs : List Loc), lv_has ls 3 [(2, .int (nI k)), (1, .int (nI (cnt dz 24))), (0, .ref h0)] → va_P D vwCl [(h0, .inr (1, [.ref a1, .ref a2, .ref a3, .ref a4, .ref a5, .int 0, .int 0, .int (nI (cnt dz 24)), .int (lfI none), .int (nI sh)])), (a1, .inl (k1, 384, .inl gw)), (a2, .inl (k2, 384, .inl (lyK (ntK gw dz gl 24) (lgK dz lg 24) (cnt dz 24) gd 24))), (a3, .inl (k3, 384, .inl (ntK gw dz gl 24))), (a4, .inl (k4, 24, .inl (fun j => bI (clr dz k j)))), (a5, .inl (k5, 24, .inl (fun j => bI ((lgK dz lg 24) j))))] H → va_D A [(h0, .inr (1, [.ref a1, .ref a2, .ref a3, .ref a4, .ref a5, .int 0, .int 0, .int (nI (cnt dz 24)), .int (lfI none), .int (nI sh)])), (a1, .inl (k1, 384, .inl gw)), (a2, .inl (k2, 384, .inl (lyK (ntK gw dz gl 24) (lgK dz lg 24) (cnt dz 24) gd 24))), (a3, .inl (k3, 384, .inl (ntK gw dz gl 24))), (a4, .inl (k4, 24, .inl (fun j => bI (clr dz k j)))), (a5, .inl (k5, 24, .inl (fun j => bI ((lgK dz lg 24) j))))] → va_S A s.heap H locs → W p l e ({ frames := 2, cells := 0, slots := 0, locals := 46 }) s m args below meth c H locs 0 0 Q (F0 m 118 ls []) := by
                intro n
                induction n with
                | zero =>
                  intro k hk ls H locs hl hP hD hS
                  obtain rfl : k = 24 := by omega
                  refine lv_iload_n hx hb dX1_commit_118 rfl (lv_at hl 0 rfl) ?_
                  refine lv_bipush (v := 24) hx hb dX1_commit_119 (by decide) ?_
                  refine lv_icmp_ge (tgt := 137) hx hb dX1_commit_121 (by decide) (fun c_6 => ?_) (fun c_6 => ?_)
                  · -- T of pc 121
                    refine lv_aload_n hx hb dX1_commit_137 rfl (lv_at hl 2 rfl) ?_
                    refine va_get (ci := 1) (v := .int 0) (C := RX1) (T := TX1) (N := 10) hx hb hts (by decide +kernel) hown hK hP 0 rfl rfl 5 (by decide) (hts (.fieldLink RX1 30 "CommitLogModel" "off" "Z") (by decide +kernel)) (fun _ h9 => h9) rfl dX1_commit_138 ?_
                    refine lv_if_ne (tgt := 148) hx hb dX1_commit_141 (by decide) (fun c_7 => ?_) (fun c_7 => ?_)
                    · -- T of pc 141
                      exact absurd (by decide) c_7
                    · -- F of pc 141
                      refine lv_iconst (v := 1) hx hb dX1_commit_144 (by decide) ?_
                      refine lv_goto (tgt := 149) hx hb dX1_commit_145 (by decide) ?_
                      exact hret _ _ _ _ _ hP hD hS rfl dX1_commit_149
                  · -- F of pc 121
                    exact absurd (by decide) c_6
                | succ n ih =>
                  intro k hk ls H locs hl hP hD hS
                  refine lv_iload_n hx hb dX1_commit_118 rfl (lv_at hl 0 rfl) ?_
                  refine lv_bipush (v := 24) hx hb dX1_commit_119 (by decide) ?_
                  refine lv_icmp_ge (tgt := 137) hx hb dX1_commit_121 (by decide) (fun c_8 => ?_) (fun c_8 => ?_)
                  · -- T of pc 121
                    exact absurd c_8 (show ¬ nI 24 ≤ nI k from nI_ge (by omega) (by decide))
                  · -- F of pc 121
                    refine lv_aload_n hx hb dX1_commit_124 rfl (lv_at hl 2 rfl) ?_
                    refine va_get (ci := 1) (v := .ref a4) (C := RX1) (T := TX1) (N := 10) hx hb hts (by decide +kernel) hown hK hP 0 rfl rfl 3 (by decide) (hts (.fieldLink RX1 19 "CommitLogModel" "dirty" "[Z") (by decide +kernel)) (fun _ h9 => h9) rfl dX1_commit_125 ?_
                    refine lv_iload_n hx hb dX1_commit_128 rfl (lv_at hl 0 rfl) ?_
                    refine lv_iconst (v := 0) hx hb dX1_commit_129 (by decide) ?_
                    refine va_zast hx hb hK hP hD hS 4 3 rfl rfl (vp_in_nI (by omega) (by decide)) dX1_commit_130 (fun H locs hP hD hS => ?_)
                    rw [cl_nI (show k < 2 ^ 31 by omega), show vp_nar .boolean 0 = bI false from rfl, up_bI, clr_s] at hP hD
                    have hP : va_P D vwCl [(h0, .inr (1, [.ref a1, .ref a2, .ref a3, .ref a4, .ref a5, .int 0, .int 0, .int (nI (cnt dz 24)), .int (lfI none), .int (nI sh)])), (a1, .inl (k1, 384, .inl gw)), (a2, .inl (k2, 384, .inl (lyK (ntK gw dz gl 24) (lgK dz lg 24) (cnt dz 24) gd 24))), (a3, .inl (k3, 384, .inl (ntK gw dz gl 24))), (a4, .inl (k4, 24, .inl (fun j => bI (clr dz (k + 1) j)))), (a5, .inl (k5, 24, .inl (fun j => bI ((lgK dz lg 24) j))))] H := hP
                    have hD : va_D _ [(h0, .inr (1, [.ref a1, .ref a2, .ref a3, .ref a4, .ref a5, .int 0, .int 0, .int (nI (cnt dz 24)), .int (lfI none), .int (nI sh)])), (a1, .inl (k1, 384, .inl gw)), (a2, .inl (k2, 384, .inl (lyK (ntK gw dz gl 24) (lgK dz lg 24) (cnt dz 24) gd 24))), (a3, .inl (k3, 384, .inl (ntK gw dz gl 24))), (a4, .inl (k4, 24, .inl (fun j => bI (clr dz (k + 1) j)))), (a5, .inl (k5, 24, .inl (fun j => bI ((lgK dz lg 24) j))))] := hD
                    refine lv_iinc (v := (nI (k + 1))) (lv' := [(2, .int (nI (k + 1))), (1, .int (nI (cnt dz 24))), (0, .ref h0)]) hx hb dX1_commit_131 hl (k := 0) rfl (nI_1 _) (by decide) rfl (fun ls hl => ?_)
                    refine lv_goto (tgt := 118) hx hb dX1_commit_134 (by decide) ?_
                    exact ih (k + 1) (by omega) ls H locs (lv_sub hl [0, 1, 2] rfl) hP hD hS
              exact loop 24 0 rfl ls _ _ (lv_sub hl [0, 1, 2] rfl) (by rw [clr_0]; exact hP) (by rw [clr_0]; exact hD) hS
            · -- F of pc 84
              exact absurd (by decide) c_5
          · -- F of pc 60
            exact absurd (by decide) c_4
        · -- F of pc 45
          exact absurd c_3 (by decide)
      · -- F of pc 24
        exact absurd (by decide) c_2
    · -- F of pc 4
      exact absurd (by decide) c_1
  | some 1, h => exact absurd rfl h
  | some (z9 + 2), _ =>
    simp only [lfD]
    have hk2 : z9 + 2 ≤ 1000 := hl1 _ rfl
    refine ct_i.of (cc := cX1_commit) (maxL := 3) (ty := .boolean) (by decide) rfl (Nat.le_of_ble_eq_true rfl) (nb_bI _) ?_
    intro p e s m args below meth c ls A Q hx hb hml hts hown hK hP hD hA hS hl hret
    have hown : s.vm.findClass RX1 = some m.cls := hown
    have hl : lv_has ls 3 [(0, .ref h0)] := hl
    have hP : va_P D vwCl [(h0, .inr (1, [.ref a1, .ref a2, .ref a3, .ref a4, .ref a5, .int 0, .int (bI mk), .int (nI la), .int (lfI (some (z9 + 2))), .int (nI sh)])), (a1, .inl (k1, 384, .inl gw)), (a2, .inl (k2, 384, .inl gd)), (a3, .inl (k3, 384, .inl gl)), (a4, .inl (k4, 24, .inl (fun j => bI (dz j)))), (a5, .inl (k5, 24, .inl (fun j => bI (lg j))))] s.heap := hP
    have hD : va_D A [(h0, .inr (1, [.ref a1, .ref a2, .ref a3, .ref a4, .ref a5, .int 0, .int (bI mk), .int (nI la), .int (lfI (some (z9 + 2))), .int (nI sh)])), (a1, .inl (k1, 384, .inl gw)), (a2, .inl (k2, 384, .inl gd)), (a3, .inl (k3, 384, .inl gl)), (a4, .inl (k4, 24, .inl (fun j => bI (dz j)))), (a5, .inl (k5, 24, .inl (fun j => bI (lg j))))] := hD
    refine lv_aload_n hx hb dX1_commit_0 rfl (lv_at hl 0 rfl) ?_
    refine va_get (ci := 1) (v := .int 0) (C := RX1) (T := TX1) (N := 10) hx hb hts (by decide +kernel) hown hK hP 0 rfl rfl 5 (by decide) (hts (.fieldLink RX1 30 "CommitLogModel" "off" "Z") (by decide +kernel)) (fun _ h9 => h9) rfl dX1_commit_1 ?_
    refine lv_if_eq (tgt := 9) hx hb dX1_commit_4 (by decide) (fun c_1 => ?_) (fun c_1 => ?_)
    · -- T of pc 4
      refine lv_aload_n hx hb dX1_commit_9 rfl (lv_at hl 0 rfl) ?_
      refine ct_Vi (As := []) (rest := []) (wr := []) (wn := [(h0, .inr (1, [.ref a1, .ref a2, .ref a3, .ref a4, .ref a5, .int 0, .int (bI mk), .int (nI la), .int (lfI (some (z9 + 2))), .int (nI sh)])), (a1, .inl (k1, 384, .inl gw)), (a2, .inl (k2, 384, .inl gd)), (a3, .inl (k3, 384, .inl gl)), (a4, .inl (k4, 24, .inl (fun j => bI (dz j)))), (a5, .inl (k5, 24, .inl (fun j => bI (lg j))))]) ⟨hx, hb, hml, hown, hts⟩ (c1_many l D h0 a1 a2 a3 a4 a5 k1 k2 k3 k4 k5 gw gd gl dz lg false mk la (some (z9 + 2)) sh) (cwV 0 hts gX1_commit_X1_many rfl rfl rfl (by decide +kernel) ⟨Nat.le_of_ble_eq_true rfl, Nat.le_of_ble_eq_true rfl⟩) hK hP hD hS hA [0, 1, 2, 3, 4, 5] [] [0, 1, 2, 3, 4] [0, 1, 2, 3, 4, 5] rfl rfl (by decide) rfl (by decide) (by decide) rfl (by decide) 1 rfl 0 rfl rfl hl.1 rfl (Nat.le_of_ble_eq_true rfl) dX1_commit_10 ⟨Nat.zero_le _, Nat.zero_le _⟩ (fun H locs hP hD hS => ?_)
      refine lv_istore_n (lv' := [(1, .int (nI (cnt dz 24))), (0, .ref h0)]) hx hb dX1_commit_13 rfl hl (by decide) rfl (fun ls hl => ?_)
      refine lv_aload_n hx hb dX1_commit_14 rfl (lv_at hl 1 rfl) ?_
      refine lv_iload_n hx hb dX1_commit_15 rfl (lv_at hl 0 rfl) ?_
      refine va_put (ci := 1) (v := .int (nI (cnt dz 24))) (ty := .int) (C := RX1) (T := TX1) (N := 10) hx hb hts (by decide +kernel) tyX1 tyX1_ok nmX1 hown hK hP hD hS 0 rfl rfl 7 (by decide) (hts (.fieldLink RX1 49 "CommitLogModel" "latest" "I") (by decide +kernel)) (fun _ h9 => h9) rfl (by decide +kernel) rfl rfl (Nat.le_of_ble_eq_true rfl) dX1_commit_16 (fun H locs hP hD hS => ?_)
      have hP : va_P D vwCl [(h0, .inr (1, [.ref a1, .ref a2, .ref a3, .ref a4, .ref a5, .int 0, .int (bI mk), .int (nI (cnt dz 24)), .int (lfI (some (z9 + 2))), .int (nI sh)])), (a1, .inl (k1, 384, .inl gw)), (a2, .inl (k2, 384, .inl gd)), (a3, .inl (k3, 384, .inl gl)), (a4, .inl (k4, 24, .inl (fun j => bI (dz j)))), (a5, .inl (k5, 24, .inl (fun j => bI (lg j))))] H := hP
      have hD : va_D _ [(h0, .inr (1, [.ref a1, .ref a2, .ref a3, .ref a4, .ref a5, .int 0, .int (bI mk), .int (nI (cnt dz 24)), .int (lfI (some (z9 + 2))), .int (nI sh)])), (a1, .inl (k1, 384, .inl gw)), (a2, .inl (k2, 384, .inl gd)), (a3, .inl (k3, 384, .inl gl)), (a4, .inl (k4, 24, .inl (fun j => bI (dz j)))), (a5, .inl (k5, 24, .inl (fun j => bI (lg j))))] := hD
      refine lv_aload_n hx hb dX1_commit_19 rfl (lv_at hl 1 rfl) ?_
      refine lv_aload_n hx hb dX1_commit_20 rfl (lv_at hl 1 rfl) ?_
      refine va_get (ci := 1) (v := .int (lfI (some (z9 + 2)))) (C := RX1) (T := TX1) (N := 10) hx hb hts (by decide +kernel) hown hK hP 0 rfl rfl 8 (by decide) (hts (.fieldLink RX1 53 "CommitLogModel" "left" "I") (by decide +kernel)) (fun _ h9 => h9) rfl dX1_commit_21 ?_
      refine lv_if_le (tgt := 36) hx hb dX1_commit_24 (by decide) (fun c_2 => ?_) (fun c_2 => ?_)
      · -- T of pc 24
        exact absurd c_2 (show ¬ nI (z9 + 2) ≤ 0 from nI_nle (by omega) (by omega))
      · -- F of pc 24
        refine lv_aload_n hx hb dX1_commit_27 rfl (lv_at hl 1 rfl) ?_
        refine va_get (ci := 1) (v := .int (lfI (some (z9 + 2)))) (C := RX1) (T := TX1) (N := 10) hx hb hts (by decide +kernel) hown hK hP 0 rfl rfl 8 (by decide) (hts (.fieldLink RX1 53 "CommitLogModel" "left" "I") (by decide +kernel)) (fun _ h9 => h9) rfl dX1_commit_28 ?_
        refine lv_iconst (v := 1) hx hb dX1_commit_31 (by decide) ?_
        refine lv_isub hx hb dX1_commit_32 ?_
        refine tp_as (z := lfI (some (z9 + 1))) (nI_pred _) ?_
        refine lv_goto (tgt := 37) hx hb dX1_commit_33 (by decide) ?_
        refine va_put (ci := 1) (v := .int (lfI (some (z9 + 1)))) (ty := .int) (C := RX1) (T := TX1) (N := 10) hx hb hts (by decide +kernel) tyX1 tyX1_ok nmX1 hown hK hP hD hS 0 rfl rfl 8 (by decide) (hts (.fieldLink RX1 53 "CommitLogModel" "left" "I") (by decide +kernel)) (fun _ h9 => h9) rfl (by decide +kernel) rfl rfl (Nat.le_of_ble_eq_true rfl) dX1_commit_37 (fun H locs hP hD hS => ?_)
        have hP : va_P D vwCl [(h0, .inr (1, [.ref a1, .ref a2, .ref a3, .ref a4, .ref a5, .int 0, .int (bI mk), .int (nI (cnt dz 24)), .int (lfI (some (z9 + 1))), .int (nI sh)])), (a1, .inl (k1, 384, .inl gw)), (a2, .inl (k2, 384, .inl gd)), (a3, .inl (k3, 384, .inl gl)), (a4, .inl (k4, 24, .inl (fun j => bI (dz j)))), (a5, .inl (k5, 24, .inl (fun j => bI (lg j))))] H := hP
        have hD : va_D _ [(h0, .inr (1, [.ref a1, .ref a2, .ref a3, .ref a4, .ref a5, .int 0, .int (bI mk), .int (nI (cnt dz 24)), .int (lfI (some (z9 + 1))), .int (nI sh)])), (a1, .inl (k1, 384, .inl gw)), (a2, .inl (k2, 384, .inl gd)), (a3, .inl (k3, 384, .inl gl)), (a4, .inl (k4, 24, .inl (fun j => bI (dz j)))), (a5, .inl (k5, 24, .inl (fun j => bI (lg j))))] := hD
        refine lv_aload_n hx hb dX1_commit_40 rfl (lv_at hl 1 rfl) ?_
        refine lv_aload_n hx hb dX1_commit_41 rfl (lv_at hl 1 rfl) ?_
        refine va_get (ci := 1) (v := .int (lfI (some (z9 + 1)))) (C := RX1) (T := TX1) (N := 10) hx hb hts (by decide +kernel) hown hK hP 0 rfl rfl 8 (by decide) (hts (.fieldLink RX1 53 "CommitLogModel" "left" "I") (by decide +kernel)) (fun _ h9 => h9) rfl dX1_commit_42 ?_
        refine lv_if_ne (tgt := 52) hx hb dX1_commit_45 (by decide) (fun c_3 => ?_) (fun c_3 => ?_)
        · -- T of pc 45
          refine lv_iconst (v := 0) hx hb dX1_commit_52 (by decide) ?_
          refine va_put (ci := 1) (v := .int 0) (ty := .boolean) (C := RX1) (T := TX1) (N := 10) hx hb hts (by decide +kernel) tyX1 tyX1_ok nmX1 hown hK hP hD hS 0 rfl rfl 5 (by decide) (hts (.fieldLink RX1 30 "CommitLogModel" "off" "Z") (by decide +kernel)) (fun _ h9 => h9) rfl (by decide +kernel) rfl rfl (Nat.le_of_ble_eq_true rfl) dX1_commit_53 (fun H locs hP hD hS => ?_)
          have hP : va_P D vwCl [(h0, .inr (1, [.ref a1, .ref a2, .ref a3, .ref a4, .ref a5, .int 0, .int (bI mk), .int (nI (cnt dz 24)), .int (lfI (some (z9 + 1))), .int (nI sh)])), (a1, .inl (k1, 384, .inl gw)), (a2, .inl (k2, 384, .inl gd)), (a3, .inl (k3, 384, .inl gl)), (a4, .inl (k4, 24, .inl (fun j => bI (dz j)))), (a5, .inl (k5, 24, .inl (fun j => bI (lg j))))] H := hP
          have hD : va_D _ [(h0, .inr (1, [.ref a1, .ref a2, .ref a3, .ref a4, .ref a5, .int 0, .int (bI mk), .int (nI (cnt dz 24)), .int (lfI (some (z9 + 1))), .int (nI sh)])), (a1, .inl (k1, 384, .inl gw)), (a2, .inl (k2, 384, .inl gd)), (a3, .inl (k3, 384, .inl gl)), (a4, .inl (k4, 24, .inl (fun j => bI (dz j)))), (a5, .inl (k5, 24, .inl (fun j => bI (lg j))))] := hD
          refine lv_aload_n hx hb dX1_commit_56 rfl (lv_at hl 1 rfl) ?_
          refine va_get (ci := 1) (v := .int 0) (C := RX1) (T := TX1) (N := 10) hx hb hts (by decide +kernel) hown hK hP 0 rfl rfl 5 (by decide) (hts (.fieldLink RX1 30 "CommitLogModel" "off" "Z") (by decide +kernel)) (fun _ h9 => h9) rfl dX1_commit_57 ?_
          refine lv_if_eq (tgt := 75) hx hb dX1_commit_60 (by decide) (fun c_4 => ?_) (fun c_4 => ?_)
          · -- T of pc 60
            refine lv_aload_n hx hb dX1_commit_75 rfl (lv_at hl 1 rfl) ?_
            refine ct_Vv (As := []) (rest := []) (wr := []) (wn := [(h0, .inr (1, [.ref a1, .ref a2, .ref a3, .ref a4, .ref a5, .int 0, .int 1, .int (nI (cnt dz 24)), .int (lfI (some (z9 + 1))), .int (nI sh)])), (a1, .inl (k1, 384, .inl gw)), (a2, .inl (k2, 384, .inl gd)), (a3, .inl (k3, 384, .inl (ntK gw dz gl 24))), (a4, .inl (k4, 24, .inl (fun j => bI (dz j)))), (a5, .inl (k5, 24, .inl (fun j => bI ((lgK dz lg 24) j))))]) ⟨hx, hb, hml, hown, hts⟩ (c1_note l D h0 a1 a2 a3 a4 a5 k1 k2 k3 k4 k5 gw gd gl dz lg false mk (cnt dz 24) (some (z9 + 1)) sh) (cwV 0 hts gX1_commit_X1_note rfl rfl rfl (by decide +kernel) ⟨Nat.le_of_ble_eq_true rfl, Nat.le_of_ble_eq_true rfl⟩) hK hP hD hS hA [0, 1, 2, 3, 4, 5] [] [0, 1, 2, 3, 4] [0, 1, 2, 3, 4, 5] rfl rfl (by decide) rfl (by decide) (by decide) rfl (by decide) 1 rfl 0 rfl rfl hl.1 rfl (Nat.le_of_ble_eq_true rfl) dX1_commit_76 ⟨Nat.zero_le _, Nat.zero_le _⟩ (fun H locs hP hD hS => ?_)
            refine lv_aload_n hx hb dX1_commit_79 rfl (lv_at hl 1 rfl) ?_
            refine lv_aload_n hx hb dX1_commit_80 rfl (lv_at hl 1 rfl) ?_
            refine va_get (ci := 1) (v := .int 0) (C := RX1) (T := TX1) (N := 10) hx hb hts (by decide +kernel) hown hK hP 0 rfl rfl 5 (by decide) (hts (.fieldLink RX1 30 "CommitLogModel" "off" "Z") (by decide +kernel)) (fun _ h9 => h9) rfl dX1_commit_81 ?_
            refine lv_if_eq (tgt := 104) hx hb dX1_commit_84 (by decide) (fun c_5 => ?_) (fun c_5 => ?_)
            · -- T of pc 84
              refine lv_iload_n hx hb dX1_commit_104 rfl (lv_at hl 0 rfl) ?_
              refine ct_Vv (As := [.int (nI (cnt dz 24))]) (rest := []) (wr := []) (wn := [(h0, .inr (1, [.ref a1, .ref a2, .ref a3, .ref a4, .ref a5, .int 0, .int 1, .int (nI (cnt dz 24)), .int (lfI (some (z9 + 1))), .int (nI sh)])), (a1, .inl (k1, 384, .inl gw)), (a2, .inl (k2, 384, .inl (lyK (ntK gw dz gl 24) (lgK dz lg 24) (cnt dz 24) gd 24))), (a3, .inl (k3, 384, .inl (ntK gw dz gl 24))), (a4, .inl (k4, 24, .inl (fun j => bI (dz j)))), (a5, .inl (k5, 24, .inl (fun j => bI ((lgK dz lg 24) j))))]) ⟨hx, hb, hml, hown, hts⟩ (c1_lay l D h0 a1 a2 a3 a4 a5 k1 k2 k3 k4 k5 gw gd (ntK gw dz gl 24) dz (lgK dz lg 24) false true (cnt dz 24) (some (z9 + 1)) sh (cnt dz 24) hc) (cwV 1 hts gX1_commit_X1_lay rfl rfl rfl (by decide +kernel) ⟨Nat.le_of_ble_eq_true rfl, Nat.le_of_ble_eq_true rfl⟩) hK hP hD hS hA [0, 1, 2, 3, 4, 5] [] [0, 1, 2, 3, 4] [0, 1, 2, 3, 4, 5] rfl rfl (by decide) rfl (by decide) (by decide) rfl (by decide) 1 rfl 0 rfl rfl hl.1 rfl (Nat.le_of_ble_eq_true rfl) dX1_commit_105 ⟨Nat.zero_le _, Nat.zero_le _⟩ (fun H locs hP hD hS => ?_)
              refine lv_aload_n hx hb dX1_commit_108 rfl (lv_at hl 1 rfl) ?_
              refine lv_aload_n hx hb dX1_commit_109 rfl (lv_at hl 1 rfl) ?_
              refine va_get (ci := 1) (v := .int 0) (C := RX1) (T := TX1) (N := 10) hx hb hts (by decide +kernel) hown hK hP 0 rfl rfl 5 (by decide) (hts (.fieldLink RX1 30 "CommitLogModel" "off" "Z") (by decide +kernel)) (fun _ h9 => h9) rfl dX1_commit_110 ?_
              refine va_put (ci := 1) (v := .int 0) (ty := .boolean) (C := RX1) (T := TX1) (N := 10) hx hb hts (by decide +kernel) tyX1 tyX1_ok nmX1 hown hK hP hD hS 0 rfl rfl 6 (by decide) (hts (.fieldLink RX1 42 "CommitLogModel" "mark" "Z") (by decide +kernel)) (fun _ h9 => h9) rfl (by decide +kernel) rfl rfl (Nat.le_of_ble_eq_true rfl) dX1_commit_113 (fun H locs hP hD hS => ?_)
              have hP : va_P D vwCl [(h0, .inr (1, [.ref a1, .ref a2, .ref a3, .ref a4, .ref a5, .int 0, .int 0, .int (nI (cnt dz 24)), .int (lfI (some (z9 + 1))), .int (nI sh)])), (a1, .inl (k1, 384, .inl gw)), (a2, .inl (k2, 384, .inl (lyK (ntK gw dz gl 24) (lgK dz lg 24) (cnt dz 24) gd 24))), (a3, .inl (k3, 384, .inl (ntK gw dz gl 24))), (a4, .inl (k4, 24, .inl (fun j => bI (dz j)))), (a5, .inl (k5, 24, .inl (fun j => bI ((lgK dz lg 24) j))))] H := hP
              have hD : va_D _ [(h0, .inr (1, [.ref a1, .ref a2, .ref a3, .ref a4, .ref a5, .int 0, .int 0, .int (nI (cnt dz 24)), .int (lfI (some (z9 + 1))), .int (nI sh)])), (a1, .inl (k1, 384, .inl gw)), (a2, .inl (k2, 384, .inl (lyK (ntK gw dz gl 24) (lgK dz lg 24) (cnt dz 24) gd 24))), (a3, .inl (k3, 384, .inl (ntK gw dz gl 24))), (a4, .inl (k4, 24, .inl (fun j => bI (dz j)))), (a5, .inl (k5, 24, .inl (fun j => bI ((lgK dz lg 24) j))))] := hD
              refine lv_iconst (v := 0) hx hb dX1_commit_116 (by decide) ?_
              refine lv_istore_n (lv' := [(2, .int 0), (1, .int (nI (cnt dz 24))), (0, .ref h0)]) hx hb dX1_commit_117 rfl hl (by decide) rfl (fun ls hl => ?_)
              have loop : ∀ (n k : Nat), k + n = 24 → ∀ (ls : Array Slot) (H : Heap) (locs : List Loc), lv_has ls 3 [(2, .int (nI k)), (1, .int (nI (cnt dz 24))), (0, .ref h0)] → va_P D vwCl [(h0, .inr (1, [.ref a1, .ref a2, .ref a3, .ref a4, .ref a5, .int 0, .int 0, .int (nI (cnt dz 24)), .int (lfI (some (z9 + 1))), .int (nI sh)])), (a1, .inl (k1, 384, .inl gw)), (a2, .inl (k2, 384, .inl (lyK (ntK gw dz gl 24) (lgK dz lg 24) (cnt dz 24) gd 24))), (a3, .inl (k3, 384, .inl (ntK gw dz gl 24))), (a4, .inl (k4, 24, .inl (fun j => bI (clr dz k j)))), (a5, .inl (k5, 24, .inl (fun j => bI ((lgK dz lg 24) j))))] H → va_D A [(h0, .inr (1, [.ref a1, .ref a2, .ref a3, .ref a4, .ref a5, .int 0, .int 0, .int (nI (cnt dz 24)), .int (lfI (some (z9 + 1))), .int (nI sh)])), (a1, .inl (k1, 384, .inl gw)), (a2, .inl (k2, 384, .inl (lyK (ntK gw dz gl 24) (lgK dz lg 24) (cnt dz 24) gd 24))), (a3, .inl (k3, 384, .inl (ntK gw dz gl 24))), (a4, .inl (k4, 24, .inl (fun j => bI (clr dz k j)))), (a5, .inl (k5, 24, .inl (fun j => bI ((lgK dz lg 24) j))))] → va_S A s.heap H locs → W p l e ({ frames := 2, cells := 0, slots := 0, locals := 46 }) s m args below meth c H locs 0 0 Q (F0 m 118 ls []) := by
                intro n
                induction n with
                | zero =>
                  intro k hk ls H locs hl hP hD hS
                  obtain rfl : k = 24 := by omega
                  refine lv_iload_n hx hb dX1_commit_118 rfl (lv_at hl 0 rfl) ?_
                  refine lv_bipush (v := 24) hx hb dX1_commit_119 (by decide) ?_
                  refine lv_icmp_ge (tgt := 137) hx hb dX1_commit_121 (by decide) (fun c_6 => ?_) (fun c_6 => ?_)
                  · -- T of pc 121
                    refine lv_aload_n hx hb dX1_commit_137 rfl (lv_at hl 2 rfl) ?_
                    refine va_get (ci := 1) (v := .int 0) (C := RX1) (T := TX1) (N := 10) hx hb hts (by decide +kernel) hown hK hP 0 rfl rfl 5 (by decide) (hts (.fieldLink RX1 30 "CommitLogModel" "off" "Z") (by decide +kernel)) (fun _ h9 => h9) rfl dX1_commit_138 ?_
                    refine lv_if_ne (tgt := 148) hx hb dX1_commit_141 (by decide) (fun c_7 => ?_) (fun c_7 => ?_)
                    · -- T of pc 141
                      exact absurd (by decide) c_7
                    · -- F of pc 141
                      refine lv_iconst (v := 1) hx hb dX1_commit_144 (by decide) ?_
                      refine lv_goto (tgt := 149) hx hb dX1_commit_145 (by decide) ?_
                      exact hret _ _ _ _ _ hP hD hS rfl dX1_commit_149
                  · -- F of pc 121
                    exact absurd (by decide) c_6
                | succ n ih =>
                  intro k hk ls H locs hl hP hD hS
                  refine lv_iload_n hx hb dX1_commit_118 rfl (lv_at hl 0 rfl) ?_
                  refine lv_bipush (v := 24) hx hb dX1_commit_119 (by decide) ?_
                  refine lv_icmp_ge (tgt := 137) hx hb dX1_commit_121 (by decide) (fun c_8 => ?_) (fun c_8 => ?_)
                  · -- T of pc 121
                    exact absurd c_8 (show ¬ nI 24 ≤ nI k from nI_ge (by omega) (by decide))
                  · -- F of pc 121
                    refine lv_aload_n hx hb dX1_commit_124 rfl (lv_at hl 2 rfl) ?_
                    refine va_get (ci := 1) (v := .ref a4) (C := RX1) (T := TX1) (N := 10) hx hb hts (by decide +kernel) hown hK hP 0 rfl rfl 3 (by decide) (hts (.fieldLink RX1 19 "CommitLogModel" "dirty" "[Z") (by decide +kernel)) (fun _ h9 => h9) rfl dX1_commit_125 ?_
                    refine lv_iload_n hx hb dX1_commit_128 rfl (lv_at hl 0 rfl) ?_
                    refine lv_iconst (v := 0) hx hb dX1_commit_129 (by decide) ?_
                    refine va_zast hx hb hK hP hD hS 4 3 rfl rfl (vp_in_nI (by omega) (by decide)) dX1_commit_130 (fun H locs hP hD hS => ?_)
                    rw [cl_nI (show k < 2 ^ 31 by omega), show vp_nar .boolean 0 = bI false from rfl, up_bI, clr_s] at hP hD
                    have hP : va_P D vwCl [(h0, .inr (1, [.ref a1, .ref a2, .ref a3, .ref a4, .ref a5, .int 0, .int 0, .int (nI (cnt dz 24)), .int (lfI (some (z9 + 1))), .int (nI sh)])), (a1, .inl (k1, 384, .inl gw)), (a2, .inl (k2, 384, .inl (lyK (ntK gw dz gl 24) (lgK dz lg 24) (cnt dz 24) gd 24))), (a3, .inl (k3, 384, .inl (ntK gw dz gl 24))), (a4, .inl (k4, 24, .inl (fun j => bI (clr dz (k + 1) j)))), (a5, .inl (k5, 24, .inl (fun j => bI ((lgK dz lg 24) j))))] H := hP
                    have hD : va_D _ [(h0, .inr (1, [.ref a1, .ref a2, .ref a3, .ref a4, .ref a5, .int 0, .int 0, .int (nI (cnt dz 24)), .int (lfI (some (z9 + 1))), .int (nI sh)])), (a1, .inl (k1, 384, .inl gw)), (a2, .inl (k2, 384, .inl (lyK (ntK gw dz gl 24) (lgK dz lg 24) (cnt dz 24) gd 24))), (a3, .inl (k3, 384, .inl (ntK gw dz gl 24))), (a4, .inl (k4, 24, .inl (fun j => bI (clr dz (k + 1) j)))), (a5, .inl (k5, 24, .inl (fun j => bI ((lgK dz lg 24) j))))] := hD
                    refine lv_iinc (v := (nI (k + 1))) (lv' := [(2, .int (nI (k + 1))), (1, .int (nI (cnt dz 24))), (0, .ref h0)]) hx hb dX1_commit_131 hl (k := 0) rfl (nI_1 _) (by decide) rfl (fun ls hl => ?_)
                    refine lv_goto (tgt := 118) hx hb dX1_commit_134 (by decide) ?_
                    exact ih (k + 1) (by omega) ls H locs (lv_sub hl [0, 1, 2] rfl) hP hD hS
              exact loop 24 0 rfl ls _ _ (lv_sub hl [0, 1, 2] rfl) (by rw [clr_0]; exact hP) (by rw [clr_0]; exact hD) hS
            · -- F of pc 84
              exact absurd (by decide) c_5
          · -- F of pc 60
            exact absurd (by decide) c_4
        · -- F of pc 45
          exact absurd c_3 (show ¬ nI (z9 + 1) = 0 from nI_ne0 (by omega) (by omega))
    · -- F of pc 4
      exact absurd (by decide) c_1
set_option maxHeartbeats 4000000 in
set_option maxRecDepth 100000 in
theorem c1_commit_low (l : Launch) (D : va_G) (h0 a1 a2 a3 a4 a5 : Nat) (k1 k2 k3 k4 k5 : ClassId) (gw gd gl : Nat → Int32) (dz lg : Nat → Bool) (mk : Bool) (la : Nat) (sh : Nat) (hsh : sh < 1000) (h5 : sh < 500) : ct_i l yX1_commit wsX1_commit ({ frames := 2, cells := 0, slots := 0, locals := 46 }) D vwCl (MT k1 k2 k3 k4 k5) [.ref h0] (MW h0 a1 a2 a3 a4 a5 k1 k2 k3 k4 k5 gw gd gl dz lg false mk la (some 1) sh) (MW h0 a1 a2 a3 a4 a5 k1 k2 k3 k4 k5 gw gd gl dz lg true mk (cnt dz 24) (some 0) sh) (bI false) := by
  have hc := cnt_le dz 24
  have hm2 : (cnt dz 24) * (sh - 500) ≤ 24 * 1000 := sh_mul hc (by omega)
  refine ct_i.of (cc := cX1_commit) (maxL := 3) (ty := .boolean) (by decide) rfl (Nat.le_of_ble_eq_true rfl) (nb_bI _) ?_
  intro p e s m args below meth c ls A Q hx hb hml hts hown hK hP hD hA hS hl hret
  have hown : s.vm.findClass RX1 = some m.cls := hown
  have hl : lv_has ls 3 [(0, .ref h0)] := hl
  have hP : va_P D vwCl [(h0, .inr (1, [.ref a1, .ref a2, .ref a3, .ref a4, .ref a5, .int 0, .int (bI mk), .int (nI la), .int (lfI (some 1)), .int (nI sh)])), (a1, .inl (k1, 384, .inl gw)), (a2, .inl (k2, 384, .inl gd)), (a3, .inl (k3, 384, .inl gl)), (a4, .inl (k4, 24, .inl (fun j => bI (dz j)))), (a5, .inl (k5, 24, .inl (fun j => bI (lg j))))] s.heap := hP
  have hD : va_D A [(h0, .inr (1, [.ref a1, .ref a2, .ref a3, .ref a4, .ref a5, .int 0, .int (bI mk), .int (nI la), .int (lfI (some 1)), .int (nI sh)])), (a1, .inl (k1, 384, .inl gw)), (a2, .inl (k2, 384, .inl gd)), (a3, .inl (k3, 384, .inl gl)), (a4, .inl (k4, 24, .inl (fun j => bI (dz j)))), (a5, .inl (k5, 24, .inl (fun j => bI (lg j))))] := hD
  refine lv_aload_n hx hb dX1_commit_0 rfl (lv_at hl 0 rfl) ?_
  refine va_get (ci := 1) (v := .int 0) (C := RX1) (T := TX1) (N := 10) hx hb hts (by decide +kernel) hown hK hP 0 rfl rfl 5 (by decide) (hts (.fieldLink RX1 30 "CommitLogModel" "off" "Z") (by decide +kernel)) (fun _ h9 => h9) rfl dX1_commit_1 ?_
  refine lv_if_eq (tgt := 9) hx hb dX1_commit_4 (by decide) (fun c_1 => ?_) (fun c_1 => ?_)
  · -- T of pc 4
    refine lv_aload_n hx hb dX1_commit_9 rfl (lv_at hl 0 rfl) ?_
    refine ct_Vi (As := []) (rest := []) (wr := []) (wn := [(h0, .inr (1, [.ref a1, .ref a2, .ref a3, .ref a4, .ref a5, .int 0, .int (bI mk), .int (nI la), .int (lfI (some 1)), .int (nI sh)])), (a1, .inl (k1, 384, .inl gw)), (a2, .inl (k2, 384, .inl gd)), (a3, .inl (k3, 384, .inl gl)), (a4, .inl (k4, 24, .inl (fun j => bI (dz j)))), (a5, .inl (k5, 24, .inl (fun j => bI (lg j))))]) ⟨hx, hb, hml, hown, hts⟩ (c1_many l D h0 a1 a2 a3 a4 a5 k1 k2 k3 k4 k5 gw gd gl dz lg false mk la (some 1) sh) (cwV 0 hts gX1_commit_X1_many rfl rfl rfl (by decide +kernel) ⟨Nat.le_of_ble_eq_true rfl, Nat.le_of_ble_eq_true rfl⟩) hK hP hD hS hA [0, 1, 2, 3, 4, 5] [] [0, 1, 2, 3, 4] [0, 1, 2, 3, 4, 5] rfl rfl (by decide) rfl (by decide) (by decide) rfl (by decide) 1 rfl 0 rfl rfl hl.1 rfl (Nat.le_of_ble_eq_true rfl) dX1_commit_10 ⟨Nat.zero_le _, Nat.zero_le _⟩ (fun H locs hP hD hS => ?_)
    refine lv_istore_n (lv' := [(1, .int (nI (cnt dz 24))), (0, .ref h0)]) hx hb dX1_commit_13 rfl hl (by decide) rfl (fun ls hl => ?_)
    refine lv_aload_n hx hb dX1_commit_14 rfl (lv_at hl 1 rfl) ?_
    refine lv_iload_n hx hb dX1_commit_15 rfl (lv_at hl 0 rfl) ?_
    refine va_put (ci := 1) (v := .int (nI (cnt dz 24))) (ty := .int) (C := RX1) (T := TX1) (N := 10) hx hb hts (by decide +kernel) tyX1 tyX1_ok nmX1 hown hK hP hD hS 0 rfl rfl 7 (by decide) (hts (.fieldLink RX1 49 "CommitLogModel" "latest" "I") (by decide +kernel)) (fun _ h9 => h9) rfl (by decide +kernel) rfl rfl (Nat.le_of_ble_eq_true rfl) dX1_commit_16 (fun H locs hP hD hS => ?_)
    have hP : va_P D vwCl [(h0, .inr (1, [.ref a1, .ref a2, .ref a3, .ref a4, .ref a5, .int 0, .int (bI mk), .int (nI (cnt dz 24)), .int (lfI (some 1)), .int (nI sh)])), (a1, .inl (k1, 384, .inl gw)), (a2, .inl (k2, 384, .inl gd)), (a3, .inl (k3, 384, .inl gl)), (a4, .inl (k4, 24, .inl (fun j => bI (dz j)))), (a5, .inl (k5, 24, .inl (fun j => bI (lg j))))] H := hP
    have hD : va_D _ [(h0, .inr (1, [.ref a1, .ref a2, .ref a3, .ref a4, .ref a5, .int 0, .int (bI mk), .int (nI (cnt dz 24)), .int (lfI (some 1)), .int (nI sh)])), (a1, .inl (k1, 384, .inl gw)), (a2, .inl (k2, 384, .inl gd)), (a3, .inl (k3, 384, .inl gl)), (a4, .inl (k4, 24, .inl (fun j => bI (dz j)))), (a5, .inl (k5, 24, .inl (fun j => bI (lg j))))] := hD
    refine lv_aload_n hx hb dX1_commit_19 rfl (lv_at hl 1 rfl) ?_
    refine lv_aload_n hx hb dX1_commit_20 rfl (lv_at hl 1 rfl) ?_
    refine va_get (ci := 1) (v := .int (lfI (some 1))) (C := RX1) (T := TX1) (N := 10) hx hb hts (by decide +kernel) hown hK hP 0 rfl rfl 8 (by decide) (hts (.fieldLink RX1 53 "CommitLogModel" "left" "I") (by decide +kernel)) (fun _ h9 => h9) rfl dX1_commit_21 ?_
    refine lv_if_le (tgt := 36) hx hb dX1_commit_24 (by decide) (fun c_2 => ?_) (fun c_2 => ?_)
    · -- T of pc 24
      exact absurd c_2 (by decide)
    · -- F of pc 24
      refine lv_aload_n hx hb dX1_commit_27 rfl (lv_at hl 1 rfl) ?_
      refine va_get (ci := 1) (v := .int (lfI (some 1))) (C := RX1) (T := TX1) (N := 10) hx hb hts (by decide +kernel) hown hK hP 0 rfl rfl 8 (by decide) (hts (.fieldLink RX1 53 "CommitLogModel" "left" "I") (by decide +kernel)) (fun _ h9 => h9) rfl dX1_commit_28 ?_
      refine lv_iconst (v := 1) hx hb dX1_commit_31 (by decide) ?_
      refine lv_isub hx hb dX1_commit_32 ?_
      refine tp_as (z := lfI (some 0)) rfl ?_
      refine lv_goto (tgt := 37) hx hb dX1_commit_33 (by decide) ?_
      refine va_put (ci := 1) (v := .int (lfI (some 0))) (ty := .int) (C := RX1) (T := TX1) (N := 10) hx hb hts (by decide +kernel) tyX1 tyX1_ok nmX1 hown hK hP hD hS 0 rfl rfl 8 (by decide) (hts (.fieldLink RX1 53 "CommitLogModel" "left" "I") (by decide +kernel)) (fun _ h9 => h9) rfl (by decide +kernel) rfl rfl (Nat.le_of_ble_eq_true rfl) dX1_commit_37 (fun H locs hP hD hS => ?_)
      have hP : va_P D vwCl [(h0, .inr (1, [.ref a1, .ref a2, .ref a3, .ref a4, .ref a5, .int 0, .int (bI mk), .int (nI (cnt dz 24)), .int (lfI (some 0)), .int (nI sh)])), (a1, .inl (k1, 384, .inl gw)), (a2, .inl (k2, 384, .inl gd)), (a3, .inl (k3, 384, .inl gl)), (a4, .inl (k4, 24, .inl (fun j => bI (dz j)))), (a5, .inl (k5, 24, .inl (fun j => bI (lg j))))] H := hP
      have hD : va_D _ [(h0, .inr (1, [.ref a1, .ref a2, .ref a3, .ref a4, .ref a5, .int 0, .int (bI mk), .int (nI (cnt dz 24)), .int (lfI (some 0)), .int (nI sh)])), (a1, .inl (k1, 384, .inl gw)), (a2, .inl (k2, 384, .inl gd)), (a3, .inl (k3, 384, .inl gl)), (a4, .inl (k4, 24, .inl (fun j => bI (dz j)))), (a5, .inl (k5, 24, .inl (fun j => bI (lg j))))] := hD
      refine lv_aload_n hx hb dX1_commit_40 rfl (lv_at hl 1 rfl) ?_
      refine lv_aload_n hx hb dX1_commit_41 rfl (lv_at hl 1 rfl) ?_
      refine va_get (ci := 1) (v := .int (lfI (some 0))) (C := RX1) (T := TX1) (N := 10) hx hb hts (by decide +kernel) hown hK hP 0 rfl rfl 8 (by decide) (hts (.fieldLink RX1 53 "CommitLogModel" "left" "I") (by decide +kernel)) (fun _ h9 => h9) rfl dX1_commit_42 ?_
      refine lv_if_ne (tgt := 52) hx hb dX1_commit_45 (by decide) (fun c_3 => ?_) (fun c_3 => ?_)
      · -- T of pc 45
        exact absurd rfl c_3
      · -- F of pc 45
        refine lv_iconst (v := 1) hx hb dX1_commit_48 (by decide) ?_
        refine lv_goto (tgt := 53) hx hb dX1_commit_49 (by decide) ?_
        refine va_put (ci := 1) (v := .int 1) (ty := .boolean) (C := RX1) (T := TX1) (N := 10) hx hb hts (by decide +kernel) tyX1 tyX1_ok nmX1 hown hK hP hD hS 0 rfl rfl 5 (by decide) (hts (.fieldLink RX1 30 "CommitLogModel" "off" "Z") (by decide +kernel)) (fun _ h9 => h9) rfl (by decide +kernel) rfl rfl (Nat.le_of_ble_eq_true rfl) dX1_commit_53 (fun H locs hP hD hS => ?_)
        have hP : va_P D vwCl [(h0, .inr (1, [.ref a1, .ref a2, .ref a3, .ref a4, .ref a5, .int 1, .int (bI mk), .int (nI (cnt dz 24)), .int (lfI (some 0)), .int (nI sh)])), (a1, .inl (k1, 384, .inl gw)), (a2, .inl (k2, 384, .inl gd)), (a3, .inl (k3, 384, .inl gl)), (a4, .inl (k4, 24, .inl (fun j => bI (dz j)))), (a5, .inl (k5, 24, .inl (fun j => bI (lg j))))] H := hP
        have hD : va_D _ [(h0, .inr (1, [.ref a1, .ref a2, .ref a3, .ref a4, .ref a5, .int 1, .int (bI mk), .int (nI (cnt dz 24)), .int (lfI (some 0)), .int (nI sh)])), (a1, .inl (k1, 384, .inl gw)), (a2, .inl (k2, 384, .inl gd)), (a3, .inl (k3, 384, .inl gl)), (a4, .inl (k4, 24, .inl (fun j => bI (dz j)))), (a5, .inl (k5, 24, .inl (fun j => bI (lg j))))] := hD
        refine lv_aload_n hx hb dX1_commit_56 rfl (lv_at hl 1 rfl) ?_
        refine va_get (ci := 1) (v := .int 1) (C := RX1) (T := TX1) (N := 10) hx hb hts (by decide +kernel) hown hK hP 0 rfl rfl 5 (by decide) (hts (.fieldLink RX1 30 "CommitLogModel" "off" "Z") (by decide +kernel)) (fun _ h9 => h9) rfl dX1_commit_57 ?_
        refine lv_if_eq (tgt := 75) hx hb dX1_commit_60 (by decide) (fun c_4 => ?_) (fun c_4 => ?_)
        · -- T of pc 60
          exact absurd c_4 (by decide)
        · -- F of pc 60
          refine lv_aload_n hx hb dX1_commit_63 rfl (lv_at hl 1 rfl) ?_
          refine va_get (ci := 1) (v := .int (nI sh)) (C := RX1) (T := TX1) (N := 10) hx hb hts (by decide +kernel) hown hK hP 0 rfl rfl 9 (by decide) (hts (.fieldLink RX1 56 "CommitLogModel" "share" "I") (by decide +kernel)) (fun _ h9 => h9) rfl dX1_commit_64 ?_
          refine lv_sipush (v := 500) hx hb dX1_commit_67 (by decide) ?_
          refine lv_icmp_ge (tgt := 75) hx hb dX1_commit_70 (by decide) (fun c_5 => ?_) (fun c_5 => ?_)
          · -- T of pc 70
            exact absurd c_5 (show ¬ nI 500 ≤ nI sh from nI_ge h5 (by decide))
          · -- F of pc 70
            refine lv_iconst (v := 0) hx hb dX1_commit_73 (by decide) ?_
            exact hret _ _ _ _ _ hP hD hS rfl dX1_commit_74
  · -- F of pc 4
    exact absurd (by decide) c_1
set_option maxHeartbeats 4000000 in
set_option maxRecDepth 100000 in
theorem c1_commit_mid (l : Launch) (D : va_G) (h0 a1 a2 a3 a4 a5 : Nat) (k1 k2 k3 k4 k5 : ClassId) (gw gd gl : Nat → Int32) (dz lg : Nat → Bool) (mk : Bool) (la : Nat) (sh : Nat) (hsh : sh < 1000) (h5 : 500 ≤ sh) : ct_i l yX1_commit wsX1_commit ({ frames := 2, cells := 0, slots := 0, locals := 46 }) D vwCl (MT k1 k2 k3 k4 k5) [.ref h0] (MW h0 a1 a2 a3 a4 a5 k1 k2 k3 k4 k5 gw gd gl dz lg false mk la (some 1) sh) (MW h0 a1 a2 a3 a4 a5 k1 k2 k3 k4 k5 gw (lyK (ntK gw dz gl 24) (lgK dz lg 24) ((cnt dz 24) * (sh - 500) / 500) gd 24) (ntK gw dz gl 24) (clr dz 24) (lgK dz lg 24) true true (cnt dz 24) (some 0) sh) (bI false) := by
  have hc := cnt_le dz 24
  have hm2 : (cnt dz 24) * (sh - 500) ≤ 24 * 1000 := sh_mul hc (by omega)
  refine ct_i.of (cc := cX1_commit) (maxL := 3) (ty := .boolean) (by decide) rfl (Nat.le_of_ble_eq_true rfl) (nb_bI _) ?_
  intro p e s m args below meth c ls A Q hx hb hml hts hown hK hP hD hA hS hl hret
  have hown : s.vm.findClass RX1 = some m.cls := hown
  have hl : lv_has ls 3 [(0, .ref h0)] := hl
  have hP : va_P D vwCl [(h0, .inr (1, [.ref a1, .ref a2, .ref a3, .ref a4, .ref a5, .int 0, .int (bI mk), .int (nI la), .int (lfI (some 1)), .int (nI sh)])), (a1, .inl (k1, 384, .inl gw)), (a2, .inl (k2, 384, .inl gd)), (a3, .inl (k3, 384, .inl gl)), (a4, .inl (k4, 24, .inl (fun j => bI (dz j)))), (a5, .inl (k5, 24, .inl (fun j => bI (lg j))))] s.heap := hP
  have hD : va_D A [(h0, .inr (1, [.ref a1, .ref a2, .ref a3, .ref a4, .ref a5, .int 0, .int (bI mk), .int (nI la), .int (lfI (some 1)), .int (nI sh)])), (a1, .inl (k1, 384, .inl gw)), (a2, .inl (k2, 384, .inl gd)), (a3, .inl (k3, 384, .inl gl)), (a4, .inl (k4, 24, .inl (fun j => bI (dz j)))), (a5, .inl (k5, 24, .inl (fun j => bI (lg j))))] := hD
  refine lv_aload_n hx hb dX1_commit_0 rfl (lv_at hl 0 rfl) ?_
  refine va_get (ci := 1) (v := .int 0) (C := RX1) (T := TX1) (N := 10) hx hb hts (by decide +kernel) hown hK hP 0 rfl rfl 5 (by decide) (hts (.fieldLink RX1 30 "CommitLogModel" "off" "Z") (by decide +kernel)) (fun _ h9 => h9) rfl dX1_commit_1 ?_
  refine lv_if_eq (tgt := 9) hx hb dX1_commit_4 (by decide) (fun c_1 => ?_) (fun c_1 => ?_)
  · -- T of pc 4
    refine lv_aload_n hx hb dX1_commit_9 rfl (lv_at hl 0 rfl) ?_
    refine ct_Vi (As := []) (rest := []) (wr := []) (wn := [(h0, .inr (1, [.ref a1, .ref a2, .ref a3, .ref a4, .ref a5, .int 0, .int (bI mk), .int (nI la), .int (lfI (some 1)), .int (nI sh)])), (a1, .inl (k1, 384, .inl gw)), (a2, .inl (k2, 384, .inl gd)), (a3, .inl (k3, 384, .inl gl)), (a4, .inl (k4, 24, .inl (fun j => bI (dz j)))), (a5, .inl (k5, 24, .inl (fun j => bI (lg j))))]) ⟨hx, hb, hml, hown, hts⟩ (c1_many l D h0 a1 a2 a3 a4 a5 k1 k2 k3 k4 k5 gw gd gl dz lg false mk la (some 1) sh) (cwV 0 hts gX1_commit_X1_many rfl rfl rfl (by decide +kernel) ⟨Nat.le_of_ble_eq_true rfl, Nat.le_of_ble_eq_true rfl⟩) hK hP hD hS hA [0, 1, 2, 3, 4, 5] [] [0, 1, 2, 3, 4] [0, 1, 2, 3, 4, 5] rfl rfl (by decide) rfl (by decide) (by decide) rfl (by decide) 1 rfl 0 rfl rfl hl.1 rfl (Nat.le_of_ble_eq_true rfl) dX1_commit_10 ⟨Nat.zero_le _, Nat.zero_le _⟩ (fun H locs hP hD hS => ?_)
    refine lv_istore_n (lv' := [(1, .int (nI (cnt dz 24))), (0, .ref h0)]) hx hb dX1_commit_13 rfl hl (by decide) rfl (fun ls hl => ?_)
    refine lv_aload_n hx hb dX1_commit_14 rfl (lv_at hl 1 rfl) ?_
    refine lv_iload_n hx hb dX1_commit_15 rfl (lv_at hl 0 rfl) ?_
    refine va_put (ci := 1) (v := .int (nI (cnt dz 24))) (ty := .int) (C := RX1) (T := TX1) (N := 10) hx hb hts (by decide +kernel) tyX1 tyX1_ok nmX1 hown hK hP hD hS 0 rfl rfl 7 (by decide) (hts (.fieldLink RX1 49 "CommitLogModel" "latest" "I") (by decide +kernel)) (fun _ h9 => h9) rfl (by decide +kernel) rfl rfl (Nat.le_of_ble_eq_true rfl) dX1_commit_16 (fun H locs hP hD hS => ?_)
    have hP : va_P D vwCl [(h0, .inr (1, [.ref a1, .ref a2, .ref a3, .ref a4, .ref a5, .int 0, .int (bI mk), .int (nI (cnt dz 24)), .int (lfI (some 1)), .int (nI sh)])), (a1, .inl (k1, 384, .inl gw)), (a2, .inl (k2, 384, .inl gd)), (a3, .inl (k3, 384, .inl gl)), (a4, .inl (k4, 24, .inl (fun j => bI (dz j)))), (a5, .inl (k5, 24, .inl (fun j => bI (lg j))))] H := hP
    have hD : va_D _ [(h0, .inr (1, [.ref a1, .ref a2, .ref a3, .ref a4, .ref a5, .int 0, .int (bI mk), .int (nI (cnt dz 24)), .int (lfI (some 1)), .int (nI sh)])), (a1, .inl (k1, 384, .inl gw)), (a2, .inl (k2, 384, .inl gd)), (a3, .inl (k3, 384, .inl gl)), (a4, .inl (k4, 24, .inl (fun j => bI (dz j)))), (a5, .inl (k5, 24, .inl (fun j => bI (lg j))))] := hD
    refine lv_aload_n hx hb dX1_commit_19 rfl (lv_at hl 1 rfl) ?_
    refine lv_aload_n hx hb dX1_commit_20 rfl (lv_at hl 1 rfl) ?_
    refine va_get (ci := 1) (v := .int (lfI (some 1))) (C := RX1) (T := TX1) (N := 10) hx hb hts (by decide +kernel) hown hK hP 0 rfl rfl 8 (by decide) (hts (.fieldLink RX1 53 "CommitLogModel" "left" "I") (by decide +kernel)) (fun _ h9 => h9) rfl dX1_commit_21 ?_
    refine lv_if_le (tgt := 36) hx hb dX1_commit_24 (by decide) (fun c_2 => ?_) (fun c_2 => ?_)
    · -- T of pc 24
      exact absurd c_2 (by decide)
    · -- F of pc 24
      refine lv_aload_n hx hb dX1_commit_27 rfl (lv_at hl 1 rfl) ?_
      refine va_get (ci := 1) (v := .int (lfI (some 1))) (C := RX1) (T := TX1) (N := 10) hx hb hts (by decide +kernel) hown hK hP 0 rfl rfl 8 (by decide) (hts (.fieldLink RX1 53 "CommitLogModel" "left" "I") (by decide +kernel)) (fun _ h9 => h9) rfl dX1_commit_28 ?_
      refine lv_iconst (v := 1) hx hb dX1_commit_31 (by decide) ?_
      refine lv_isub hx hb dX1_commit_32 ?_
      refine tp_as (z := lfI (some 0)) rfl ?_
      refine lv_goto (tgt := 37) hx hb dX1_commit_33 (by decide) ?_
      refine va_put (ci := 1) (v := .int (lfI (some 0))) (ty := .int) (C := RX1) (T := TX1) (N := 10) hx hb hts (by decide +kernel) tyX1 tyX1_ok nmX1 hown hK hP hD hS 0 rfl rfl 8 (by decide) (hts (.fieldLink RX1 53 "CommitLogModel" "left" "I") (by decide +kernel)) (fun _ h9 => h9) rfl (by decide +kernel) rfl rfl (Nat.le_of_ble_eq_true rfl) dX1_commit_37 (fun H locs hP hD hS => ?_)
      have hP : va_P D vwCl [(h0, .inr (1, [.ref a1, .ref a2, .ref a3, .ref a4, .ref a5, .int 0, .int (bI mk), .int (nI (cnt dz 24)), .int (lfI (some 0)), .int (nI sh)])), (a1, .inl (k1, 384, .inl gw)), (a2, .inl (k2, 384, .inl gd)), (a3, .inl (k3, 384, .inl gl)), (a4, .inl (k4, 24, .inl (fun j => bI (dz j)))), (a5, .inl (k5, 24, .inl (fun j => bI (lg j))))] H := hP
      have hD : va_D _ [(h0, .inr (1, [.ref a1, .ref a2, .ref a3, .ref a4, .ref a5, .int 0, .int (bI mk), .int (nI (cnt dz 24)), .int (lfI (some 0)), .int (nI sh)])), (a1, .inl (k1, 384, .inl gw)), (a2, .inl (k2, 384, .inl gd)), (a3, .inl (k3, 384, .inl gl)), (a4, .inl (k4, 24, .inl (fun j => bI (dz j)))), (a5, .inl (k5, 24, .inl (fun j => bI (lg j))))] := hD
      refine lv_aload_n hx hb dX1_commit_40 rfl (lv_at hl 1 rfl) ?_
      refine lv_aload_n hx hb dX1_commit_41 rfl (lv_at hl 1 rfl) ?_
      refine va_get (ci := 1) (v := .int (lfI (some 0))) (C := RX1) (T := TX1) (N := 10) hx hb hts (by decide +kernel) hown hK hP 0 rfl rfl 8 (by decide) (hts (.fieldLink RX1 53 "CommitLogModel" "left" "I") (by decide +kernel)) (fun _ h9 => h9) rfl dX1_commit_42 ?_
      refine lv_if_ne (tgt := 52) hx hb dX1_commit_45 (by decide) (fun c_3 => ?_) (fun c_3 => ?_)
      · -- T of pc 45
        exact absurd rfl c_3
      · -- F of pc 45
        refine lv_iconst (v := 1) hx hb dX1_commit_48 (by decide) ?_
        refine lv_goto (tgt := 53) hx hb dX1_commit_49 (by decide) ?_
        refine va_put (ci := 1) (v := .int 1) (ty := .boolean) (C := RX1) (T := TX1) (N := 10) hx hb hts (by decide +kernel) tyX1 tyX1_ok nmX1 hown hK hP hD hS 0 rfl rfl 5 (by decide) (hts (.fieldLink RX1 30 "CommitLogModel" "off" "Z") (by decide +kernel)) (fun _ h9 => h9) rfl (by decide +kernel) rfl rfl (Nat.le_of_ble_eq_true rfl) dX1_commit_53 (fun H locs hP hD hS => ?_)
        have hP : va_P D vwCl [(h0, .inr (1, [.ref a1, .ref a2, .ref a3, .ref a4, .ref a5, .int 1, .int (bI mk), .int (nI (cnt dz 24)), .int (lfI (some 0)), .int (nI sh)])), (a1, .inl (k1, 384, .inl gw)), (a2, .inl (k2, 384, .inl gd)), (a3, .inl (k3, 384, .inl gl)), (a4, .inl (k4, 24, .inl (fun j => bI (dz j)))), (a5, .inl (k5, 24, .inl (fun j => bI (lg j))))] H := hP
        have hD : va_D _ [(h0, .inr (1, [.ref a1, .ref a2, .ref a3, .ref a4, .ref a5, .int 1, .int (bI mk), .int (nI (cnt dz 24)), .int (lfI (some 0)), .int (nI sh)])), (a1, .inl (k1, 384, .inl gw)), (a2, .inl (k2, 384, .inl gd)), (a3, .inl (k3, 384, .inl gl)), (a4, .inl (k4, 24, .inl (fun j => bI (dz j)))), (a5, .inl (k5, 24, .inl (fun j => bI (lg j))))] := hD
        refine lv_aload_n hx hb dX1_commit_56 rfl (lv_at hl 1 rfl) ?_
        refine va_get (ci := 1) (v := .int 1) (C := RX1) (T := TX1) (N := 10) hx hb hts (by decide +kernel) hown hK hP 0 rfl rfl 5 (by decide) (hts (.fieldLink RX1 30 "CommitLogModel" "off" "Z") (by decide +kernel)) (fun _ h9 => h9) rfl dX1_commit_57 ?_
        refine lv_if_eq (tgt := 75) hx hb dX1_commit_60 (by decide) (fun c_4 => ?_) (fun c_4 => ?_)
        · -- T of pc 60
          exact absurd c_4 (by decide)
        · -- F of pc 60
          refine lv_aload_n hx hb dX1_commit_63 rfl (lv_at hl 1 rfl) ?_
          refine va_get (ci := 1) (v := .int (nI sh)) (C := RX1) (T := TX1) (N := 10) hx hb hts (by decide +kernel) hown hK hP 0 rfl rfl 9 (by decide) (hts (.fieldLink RX1 56 "CommitLogModel" "share" "I") (by decide +kernel)) (fun _ h9 => h9) rfl dX1_commit_64 ?_
          refine lv_sipush (v := 500) hx hb dX1_commit_67 (by decide) ?_
          refine lv_icmp_ge (tgt := 75) hx hb dX1_commit_70 (by decide) (fun c_5 => ?_) (fun c_5 => ?_)
          · -- T of pc 70
            refine lv_aload_n hx hb dX1_commit_75 rfl (lv_at hl 1 rfl) ?_
            refine ct_Vv (As := []) (rest := []) (wr := []) (wn := [(h0, .inr (1, [.ref a1, .ref a2, .ref a3, .ref a4, .ref a5, .int 1, .int 1, .int (nI (cnt dz 24)), .int (lfI (some 0)), .int (nI sh)])), (a1, .inl (k1, 384, .inl gw)), (a2, .inl (k2, 384, .inl gd)), (a3, .inl (k3, 384, .inl (ntK gw dz gl 24))), (a4, .inl (k4, 24, .inl (fun j => bI (dz j)))), (a5, .inl (k5, 24, .inl (fun j => bI ((lgK dz lg 24) j))))]) ⟨hx, hb, hml, hown, hts⟩ (c1_note l D h0 a1 a2 a3 a4 a5 k1 k2 k3 k4 k5 gw gd gl dz lg true mk (cnt dz 24) (some 0) sh) (cwV 0 hts gX1_commit_X1_note rfl rfl rfl (by decide +kernel) ⟨Nat.le_of_ble_eq_true rfl, Nat.le_of_ble_eq_true rfl⟩) hK hP hD hS hA [0, 1, 2, 3, 4, 5] [] [0, 1, 2, 3, 4] [0, 1, 2, 3, 4, 5] rfl rfl (by decide) rfl (by decide) (by decide) rfl (by decide) 1 rfl 0 rfl rfl hl.1 rfl (Nat.le_of_ble_eq_true rfl) dX1_commit_76 ⟨Nat.zero_le _, Nat.zero_le _⟩ (fun H locs hP hD hS => ?_)
            refine lv_aload_n hx hb dX1_commit_79 rfl (lv_at hl 1 rfl) ?_
            refine lv_aload_n hx hb dX1_commit_80 rfl (lv_at hl 1 rfl) ?_
            refine va_get (ci := 1) (v := .int 1) (C := RX1) (T := TX1) (N := 10) hx hb hts (by decide +kernel) hown hK hP 0 rfl rfl 5 (by decide) (hts (.fieldLink RX1 30 "CommitLogModel" "off" "Z") (by decide +kernel)) (fun _ h9 => h9) rfl dX1_commit_81 ?_
            refine lv_if_eq (tgt := 104) hx hb dX1_commit_84 (by decide) (fun c_6 => ?_) (fun c_6 => ?_)
            · -- T of pc 84
              exact absurd c_6 (by decide)
            · -- F of pc 84
              refine lv_iload_n hx hb dX1_commit_87 rfl (lv_at hl 0 rfl) ?_
              refine lv_aload_n hx hb dX1_commit_88 rfl (lv_at hl 1 rfl) ?_
              refine va_get (ci := 1) (v := .int (nI sh)) (C := RX1) (T := TX1) (N := 10) hx hb hts (by decide +kernel) hown hK hP 0 rfl rfl 9 (by decide) (hts (.fieldLink RX1 56 "CommitLogModel" "share" "I") (by decide +kernel)) (fun _ h9 => h9) rfl dX1_commit_89 ?_
              refine lv_sipush (v := 500) hx hb dX1_commit_92 (by decide) ?_
              refine lv_isub hx hb dX1_commit_95 ?_
              refine tp_as (z := nI (sh - 500)) (pk_sub (b := 500) h5) ?_
              refine lv_imul hx hb dX1_commit_96 ?_
              refine tp_as (z := nI ((cnt dz 24) * (sh - 500))) (pk_mul _ _) ?_
              refine lv_sipush (v := 500) hx hb dX1_commit_97 (by decide) ?_
              refine lv_idiv hx hb dX1_commit_100 (by decide) ?_
              refine tp_as (z := nI ((cnt dz 24) * (sh - 500) / 500)) (pk_div (d := 500) (by omega) (by decide) (by decide)) ?_
              refine lv_goto (tgt := 105) hx hb dX1_commit_101 (by decide) ?_
              refine ct_Vv (As := [.int (nI ((cnt dz 24) * (sh - 500) / 500))]) (rest := []) (wr := []) (wn := [(h0, .inr (1, [.ref a1, .ref a2, .ref a3, .ref a4, .ref a5, .int 1, .int 1, .int (nI (cnt dz 24)), .int (lfI (some 0)), .int (nI sh)])), (a1, .inl (k1, 384, .inl gw)), (a2, .inl (k2, 384, .inl (lyK (ntK gw dz gl 24) (lgK dz lg 24) ((cnt dz 24) * (sh - 500) / 500) gd 24))), (a3, .inl (k3, 384, .inl (ntK gw dz gl 24))), (a4, .inl (k4, 24, .inl (fun j => bI (dz j)))), (a5, .inl (k5, 24, .inl (fun j => bI ((lgK dz lg 24) j))))]) ⟨hx, hb, hml, hown, hts⟩ (c1_lay l D h0 a1 a2 a3 a4 a5 k1 k2 k3 k4 k5 gw gd (ntK gw dz gl 24) dz (lgK dz lg 24) true true (cnt dz 24) (some 0) sh ((cnt dz 24) * (sh - 500) / 500) (sh_div hc (by omega))) (cwV 1 hts gX1_commit_X1_lay rfl rfl rfl (by decide +kernel) ⟨Nat.le_of_ble_eq_true rfl, Nat.le_of_ble_eq_true rfl⟩) hK hP hD hS hA [0, 1, 2, 3, 4, 5] [] [0, 1, 2, 3, 4] [0, 1, 2, 3, 4, 5] rfl rfl (by decide) rfl (by decide) (by decide) rfl (by decide) 1 rfl 0 rfl rfl hl.1 rfl (Nat.le_of_ble_eq_true rfl) dX1_commit_105 ⟨Nat.zero_le _, Nat.zero_le _⟩ (fun H locs hP hD hS => ?_)
              refine lv_aload_n hx hb dX1_commit_108 rfl (lv_at hl 1 rfl) ?_
              refine lv_aload_n hx hb dX1_commit_109 rfl (lv_at hl 1 rfl) ?_
              refine va_get (ci := 1) (v := .int 1) (C := RX1) (T := TX1) (N := 10) hx hb hts (by decide +kernel) hown hK hP 0 rfl rfl 5 (by decide) (hts (.fieldLink RX1 30 "CommitLogModel" "off" "Z") (by decide +kernel)) (fun _ h9 => h9) rfl dX1_commit_110 ?_
              refine va_put (ci := 1) (v := .int 1) (ty := .boolean) (C := RX1) (T := TX1) (N := 10) hx hb hts (by decide +kernel) tyX1 tyX1_ok nmX1 hown hK hP hD hS 0 rfl rfl 6 (by decide) (hts (.fieldLink RX1 42 "CommitLogModel" "mark" "Z") (by decide +kernel)) (fun _ h9 => h9) rfl (by decide +kernel) rfl rfl (Nat.le_of_ble_eq_true rfl) dX1_commit_113 (fun H locs hP hD hS => ?_)
              have hP : va_P D vwCl [(h0, .inr (1, [.ref a1, .ref a2, .ref a3, .ref a4, .ref a5, .int 1, .int 1, .int (nI (cnt dz 24)), .int (lfI (some 0)), .int (nI sh)])), (a1, .inl (k1, 384, .inl gw)), (a2, .inl (k2, 384, .inl (lyK (ntK gw dz gl 24) (lgK dz lg 24) ((cnt dz 24) * (sh - 500) / 500) gd 24))), (a3, .inl (k3, 384, .inl (ntK gw dz gl 24))), (a4, .inl (k4, 24, .inl (fun j => bI (dz j)))), (a5, .inl (k5, 24, .inl (fun j => bI ((lgK dz lg 24) j))))] H := hP
              have hD : va_D _ [(h0, .inr (1, [.ref a1, .ref a2, .ref a3, .ref a4, .ref a5, .int 1, .int 1, .int (nI (cnt dz 24)), .int (lfI (some 0)), .int (nI sh)])), (a1, .inl (k1, 384, .inl gw)), (a2, .inl (k2, 384, .inl (lyK (ntK gw dz gl 24) (lgK dz lg 24) ((cnt dz 24) * (sh - 500) / 500) gd 24))), (a3, .inl (k3, 384, .inl (ntK gw dz gl 24))), (a4, .inl (k4, 24, .inl (fun j => bI (dz j)))), (a5, .inl (k5, 24, .inl (fun j => bI ((lgK dz lg 24) j))))] := hD
              refine lv_iconst (v := 0) hx hb dX1_commit_116 (by decide) ?_
              refine lv_istore_n (lv' := [(2, .int 0), (1, .int (nI (cnt dz 24))), (0, .ref h0)]) hx hb dX1_commit_117 rfl hl (by decide) rfl (fun ls hl => ?_)
              have loop : ∀ (n k : Nat), k + n = 24 → ∀ (ls : Array Slot) (H : Heap) (locs : List Loc), lv_has ls 3 [(2, .int (nI k)), (1, .int (nI (cnt dz 24))), (0, .ref h0)] → va_P D vwCl [(h0, .inr (1, [.ref a1, .ref a2, .ref a3, .ref a4, .ref a5, .int 1, .int 1, .int (nI (cnt dz 24)), .int (lfI (some 0)), .int (nI sh)])), (a1, .inl (k1, 384, .inl gw)), (a2, .inl (k2, 384, .inl (lyK (ntK gw dz gl 24) (lgK dz lg 24) ((cnt dz 24) * (sh - 500) / 500) gd 24))), (a3, .inl (k3, 384, .inl (ntK gw dz gl 24))), (a4, .inl (k4, 24, .inl (fun j => bI (clr dz k j)))), (a5, .inl (k5, 24, .inl (fun j => bI ((lgK dz lg 24) j))))] H → va_D A [(h0, .inr (1, [.ref a1, .ref a2, .ref a3, .ref a4, .ref a5, .int 1, .int 1, .int (nI (cnt dz 24)), .int (lfI (some 0)), .int (nI sh)])), (a1, .inl (k1, 384, .inl gw)), (a2, .inl (k2, 384, .inl (lyK (ntK gw dz gl 24) (lgK dz lg 24) ((cnt dz 24) * (sh - 500) / 500) gd 24))), (a3, .inl (k3, 384, .inl (ntK gw dz gl 24))), (a4, .inl (k4, 24, .inl (fun j => bI (clr dz k j)))), (a5, .inl (k5, 24, .inl (fun j => bI ((lgK dz lg 24) j))))] → va_S A s.heap H locs → W p l e ({ frames := 2, cells := 0, slots := 0, locals := 46 }) s m args below meth c H locs 0 0 Q (F0 m 118 ls []) := by
                intro n
                induction n with
                | zero =>
                  intro k hk ls H locs hl hP hD hS
                  obtain rfl : k = 24 := by omega
                  refine lv_iload_n hx hb dX1_commit_118 rfl (lv_at hl 0 rfl) ?_
                  refine lv_bipush (v := 24) hx hb dX1_commit_119 (by decide) ?_
                  refine lv_icmp_ge (tgt := 137) hx hb dX1_commit_121 (by decide) (fun c_7 => ?_) (fun c_7 => ?_)
                  · -- T of pc 121
                    refine lv_aload_n hx hb dX1_commit_137 rfl (lv_at hl 2 rfl) ?_
                    refine va_get (ci := 1) (v := .int 1) (C := RX1) (T := TX1) (N := 10) hx hb hts (by decide +kernel) hown hK hP 0 rfl rfl 5 (by decide) (hts (.fieldLink RX1 30 "CommitLogModel" "off" "Z") (by decide +kernel)) (fun _ h9 => h9) rfl dX1_commit_138 ?_
                    refine lv_if_ne (tgt := 148) hx hb dX1_commit_141 (by decide) (fun c_8 => ?_) (fun c_8 => ?_)
                    · -- T of pc 141
                      refine lv_iconst (v := 0) hx hb dX1_commit_148 (by decide) ?_
                      exact hret _ _ _ _ _ hP hD hS rfl dX1_commit_149
                    · -- F of pc 141
                      exact absurd c_8 (by decide)
                  · -- F of pc 121
                    exact absurd (by decide) c_7
                | succ n ih =>
                  intro k hk ls H locs hl hP hD hS
                  refine lv_iload_n hx hb dX1_commit_118 rfl (lv_at hl 0 rfl) ?_
                  refine lv_bipush (v := 24) hx hb dX1_commit_119 (by decide) ?_
                  refine lv_icmp_ge (tgt := 137) hx hb dX1_commit_121 (by decide) (fun c_9 => ?_) (fun c_9 => ?_)
                  · -- T of pc 121
                    exact absurd c_9 (show ¬ nI 24 ≤ nI k from nI_ge (by omega) (by decide))
                  · -- F of pc 121
                    refine lv_aload_n hx hb dX1_commit_124 rfl (lv_at hl 2 rfl) ?_
                    refine va_get (ci := 1) (v := .ref a4) (C := RX1) (T := TX1) (N := 10) hx hb hts (by decide +kernel) hown hK hP 0 rfl rfl 3 (by decide) (hts (.fieldLink RX1 19 "CommitLogModel" "dirty" "[Z") (by decide +kernel)) (fun _ h9 => h9) rfl dX1_commit_125 ?_
                    refine lv_iload_n hx hb dX1_commit_128 rfl (lv_at hl 0 rfl) ?_
                    refine lv_iconst (v := 0) hx hb dX1_commit_129 (by decide) ?_
                    refine va_zast hx hb hK hP hD hS 4 3 rfl rfl (vp_in_nI (by omega) (by decide)) dX1_commit_130 (fun H locs hP hD hS => ?_)
                    rw [cl_nI (show k < 2 ^ 31 by omega), show vp_nar .boolean 0 = bI false from rfl, up_bI, clr_s] at hP hD
                    have hP : va_P D vwCl [(h0, .inr (1, [.ref a1, .ref a2, .ref a3, .ref a4, .ref a5, .int 1, .int 1, .int (nI (cnt dz 24)), .int (lfI (some 0)), .int (nI sh)])), (a1, .inl (k1, 384, .inl gw)), (a2, .inl (k2, 384, .inl (lyK (ntK gw dz gl 24) (lgK dz lg 24) ((cnt dz 24) * (sh - 500) / 500) gd 24))), (a3, .inl (k3, 384, .inl (ntK gw dz gl 24))), (a4, .inl (k4, 24, .inl (fun j => bI (clr dz (k + 1) j)))), (a5, .inl (k5, 24, .inl (fun j => bI ((lgK dz lg 24) j))))] H := hP
                    have hD : va_D _ [(h0, .inr (1, [.ref a1, .ref a2, .ref a3, .ref a4, .ref a5, .int 1, .int 1, .int (nI (cnt dz 24)), .int (lfI (some 0)), .int (nI sh)])), (a1, .inl (k1, 384, .inl gw)), (a2, .inl (k2, 384, .inl (lyK (ntK gw dz gl 24) (lgK dz lg 24) ((cnt dz 24) * (sh - 500) / 500) gd 24))), (a3, .inl (k3, 384, .inl (ntK gw dz gl 24))), (a4, .inl (k4, 24, .inl (fun j => bI (clr dz (k + 1) j)))), (a5, .inl (k5, 24, .inl (fun j => bI ((lgK dz lg 24) j))))] := hD
                    refine lv_iinc (v := (nI (k + 1))) (lv' := [(2, .int (nI (k + 1))), (1, .int (nI (cnt dz 24))), (0, .ref h0)]) hx hb dX1_commit_131 hl (k := 0) rfl (nI_1 _) (by decide) rfl (fun ls hl => ?_)
                    refine lv_goto (tgt := 118) hx hb dX1_commit_134 (by decide) ?_
                    exact ih (k + 1) (by omega) ls H locs (lv_sub hl [0, 1, 2] rfl) hP hD hS
              exact loop 24 0 rfl ls _ _ (lv_sub hl [0, 1, 2] rfl) (by rw [clr_0]; exact hP) (by rw [clr_0]; exact hD) hS
          · -- F of pc 70
            exact absurd (show nI 500 ≤ nI sh from nI_le h5 (by omega)) c_5
  · -- F of pc 4
    exact absurd (by decide) c_1
def msd (mk : Bool) (gl : Nat → Int32) (lg : Nat → Bool) (gd : Nat → Int32) (t : Nat) : Nat → Int32 := bif mk then lyK gl lg (cnt lg 24 * t / 1000) gd 24 else gd
set_option maxHeartbeats 4000000 in
set_option maxRecDepth 100000 in
theorem c1_start_no (l : Launch) (D : va_G) (h0 a1 a2 a3 a4 a5 : Nat) (k1 k2 k3 k4 k5 : ClassId) (gw gd gl : Nat → Int32) (dz lg : Nat → Bool) (of mk : Bool) (la : Nat) (lf : Option Nat) (sh : Nat) (x : Int32) (h : of = false ∨ (x < 0 ∨ nI 1001 ≤ x)) : ct_i l yX1_start wsX1_start ({ frames := 2, cells := 0, slots := 0, locals := 46 }) D vwCl (MT k1 k2 k3 k4 k5) [.ref h0, .int x] (MW h0 a1 a2 a3 a4 a5 k1 k2 k3 k4 k5 gw gd gl dz lg of mk la lf sh) (MW h0 a1 a2 a3 a4 a5 k1 k2 k3 k4 k5 gw gd gl dz lg of mk la lf sh) (bI false) := by
  cases of with
  | false =>
    refine ct_i.of (cc := cX1_start) (maxL := 2) (ty := .boolean) (by decide) rfl (Nat.le_of_ble_eq_true rfl) (nb_bI _) ?_
    intro p e s m args below meth c ls A Q hx hb hml hts hown hK hP hD hA hS hl hret
    have hown : s.vm.findClass RX1 = some m.cls := hown
    have hl : lv_has ls 2 [(0, .ref h0), (1, .int x)] := hl
    have hP : va_P D vwCl [(h0, .inr (1, [.ref a1, .ref a2, .ref a3, .ref a4, .ref a5, .int 0, .int (bI mk), .int (nI la), .int (lfI lf), .int (nI sh)])), (a1, .inl (k1, 384, .inl gw)), (a2, .inl (k2, 384, .inl gd)), (a3, .inl (k3, 384, .inl gl)), (a4, .inl (k4, 24, .inl (fun j => bI (dz j)))), (a5, .inl (k5, 24, .inl (fun j => bI (lg j))))] s.heap := hP
    have hD : va_D A [(h0, .inr (1, [.ref a1, .ref a2, .ref a3, .ref a4, .ref a5, .int 0, .int (bI mk), .int (nI la), .int (lfI lf), .int (nI sh)])), (a1, .inl (k1, 384, .inl gw)), (a2, .inl (k2, 384, .inl gd)), (a3, .inl (k3, 384, .inl gl)), (a4, .inl (k4, 24, .inl (fun j => bI (dz j)))), (a5, .inl (k5, 24, .inl (fun j => bI (lg j))))] := hD
    refine lv_aload_n hx hb dX1_start_0 rfl (lv_at hl 0 rfl) ?_
    refine va_get (ci := 1) (v := .int 0) (C := RX1) (T := TX1) (N := 10) hx hb hts (by decide +kernel) hown hK hP 0 rfl rfl 5 (by decide) (hts (.fieldLink RX1 30 "CommitLogModel" "off" "Z") (by decide +kernel)) (fun _ h9 => h9) rfl dX1_start_1 ?_
    refine lv_if_eq (tgt := 18) hx hb dX1_start_4 (by decide) (fun c_1 => ?_) (fun c_1 => ?_)
    · -- T of pc 4
      refine lv_iconst (v := 0) hx hb dX1_start_18 (by decide) ?_
      exact hret _ _ _ _ _ hP hD hS rfl dX1_start_19
    · -- F of pc 4
      exact absurd (by decide) c_1
  | true =>
    have h1 := h.resolve_left (by decide)
    have e1 : ix 1001 x = none := by
      rcases ix_cases 1001 (by decide) x with ⟨e, -⟩ | ⟨j, hj, rfl, -⟩
      · exact e
      · rcases h1 with h1 | h1
        · exact absurd h1 (nI_pos (by omega))
        · exact absurd h1 (nI_ge hj (by decide))
    refine ct_i.of (cc := cX1_start) (maxL := 2) (ty := .boolean) (by decide) rfl (Nat.le_of_ble_eq_true rfl) (nb_bI _) ?_
    intro p e s m args below meth c ls A Q hx hb hml hts hown hK hP hD hA hS hl hret
    have hown : s.vm.findClass RX1 = some m.cls := hown
    have hl : lv_has ls 2 [(0, .ref h0), (1, .int x)] := hl
    have hP : va_P D vwCl [(h0, .inr (1, [.ref a1, .ref a2, .ref a3, .ref a4, .ref a5, .int 1, .int (bI mk), .int (nI la), .int (lfI lf), .int (nI sh)])), (a1, .inl (k1, 384, .inl gw)), (a2, .inl (k2, 384, .inl gd)), (a3, .inl (k3, 384, .inl gl)), (a4, .inl (k4, 24, .inl (fun j => bI (dz j)))), (a5, .inl (k5, 24, .inl (fun j => bI (lg j))))] s.heap := hP
    have hD : va_D A [(h0, .inr (1, [.ref a1, .ref a2, .ref a3, .ref a4, .ref a5, .int 1, .int (bI mk), .int (nI la), .int (lfI lf), .int (nI sh)])), (a1, .inl (k1, 384, .inl gw)), (a2, .inl (k2, 384, .inl gd)), (a3, .inl (k3, 384, .inl gl)), (a4, .inl (k4, 24, .inl (fun j => bI (dz j)))), (a5, .inl (k5, 24, .inl (fun j => bI (lg j))))] := hD
    refine lv_aload_n hx hb dX1_start_0 rfl (lv_at hl 0 rfl) ?_
    refine va_get (ci := 1) (v := .int 1) (C := RX1) (T := TX1) (N := 10) hx hb hts (by decide +kernel) hown hK hP 0 rfl rfl 5 (by decide) (hts (.fieldLink RX1 30 "CommitLogModel" "off" "Z") (by decide +kernel)) (fun _ h9 => h9) rfl dX1_start_1 ?_
    refine lv_if_eq (tgt := 18) hx hb dX1_start_4 (by decide) (fun c_1 => ?_) (fun c_1 => ?_)
    · -- T of pc 4
      exact absurd c_1 (by decide)
    · -- F of pc 4
      refine lv_iload_n hx hb dX1_start_7 rfl (lv_at hl 1 rfl) ?_
      refine lv_iconst (v := 0) hx hb dX1_start_8 (by decide) ?_
      refine lv_sipush (v := 1000) hx hb dX1_start_9 (by decide) ?_
      refine ct_Si (As := [.int x, .int 0, .int 1000]) (rest := []) (wr := [(h0, .inr (1, [.ref a1, .ref a2, .ref a3, .ref a4, .ref a5, .int 1, .int (bI mk), .int (nI la), .int (lfI lf), .int (nI sh)])), (a1, .inl (k1, 384, .inl gw)), (a2, .inl (k2, 384, .inl gd)), (a3, .inl (k3, 384, .inl gl)), (a4, .inl (k4, 24, .inl (fun j => bI (dz j)))), (a5, .inl (k5, 24, .inl (fun j => bI (lg j))))]) (wn := [(h0, .inr (1, [.ref a1, .ref a2, .ref a3, .ref a4, .ref a5, .int 1, .int (bI mk), .int (nI la), .int (lfI lf), .int (nI sh)])), (a1, .inl (k1, 384, .inl gw)), (a2, .inl (k2, 384, .inl gd)), (a3, .inl (k3, 384, .inl gl)), (a4, .inl (k4, 24, .inl (fun j => bI (dz j)))), (a5, .inl (k5, 24, .inl (fun j => bI (lg j))))]) ⟨hx, hb, hml, hown, hts⟩ (c1_in l D x 0 1000) (va_cwS 3 hts gX1_start_X1_in rfl rfl rfl (by decide +kernel) ⟨Nat.le_of_ble_eq_true rfl, Nat.le_of_ble_eq_true rfl⟩) hK hP hD hS hA [] [0, 1, 2, 3, 4, 5] [] [0, 1, 2, 3, 4, 5] rfl rfl (by decide) rfl (by decide) (by decide) rfl (by decide) rfl hl.1 rfl (Nat.le_of_ble_eq_true rfl) dX1_start_12 ⟨Nat.zero_le _, Nat.zero_le _⟩ (fun H locs hP hD hS => ?_)
      refine tp_as (z := 0) (by rw [inR_ix 1001 (by decide) 1000 rfl _, e1]; rfl) ?_
      refine lv_if_ne (tgt := 20) hx hb dX1_start_15 (by decide) (fun c_2 => ?_) (fun c_2 => ?_)
      · -- T of pc 15
        exact absurd (by decide) c_2
      · -- F of pc 15
        refine lv_iconst (v := 0) hx hb dX1_start_18 (by decide) ?_
        exact hret _ _ _ _ _ hP hD hS rfl dX1_start_19
set_option maxHeartbeats 4000000 in
set_option maxRecDepth 100000 in
theorem c1_start_cut (l : Launch) (D : va_G) (h0 a1 a2 a3 a4 a5 : Nat) (k1 k2 k3 k4 k5 : ClassId) (gw gd gl : Nat → Int32) (dz lg : Nat → Bool) (mk : Bool) (la : Nat) (lf : Option Nat) (sh : Nat) (t : Nat) (ht : t < 1000) : ct_i l yX1_start wsX1_start ({ frames := 2, cells := 0, slots := 0, locals := 46 }) D vwCl (MT k1 k2 k3 k4 k5) [.ref h0, .int (nI t)] (MW h0 a1 a2 a3 a4 a5 k1 k2 k3 k4 k5 gw gd gl dz lg true mk la lf sh) (MW h0 a1 a2 a3 a4 a5 k1 k2 k3 k4 k5 gw (msd mk gl lg gd t) gl dz lg true mk la lf sh) (bI false) := by
  have hc := cnt_le lg 24
  have hm := sh_mul (s := t) (m := 1000) hc (by omega)
  have e1 : ix 1001 (nI t) = some t := ix_nI (by omega) (by decide)
  cases mk with
  | false =>
    refine ct_i.of (cc := cX1_start) (maxL := 2) (ty := .boolean) (by decide) rfl (Nat.le_of_ble_eq_true rfl) (nb_bI _) ?_
    intro p e s m args below meth c ls A Q hx hb hml hts hown hK hP hD hA hS hl hret
    have hown : s.vm.findClass RX1 = some m.cls := hown
    have hl : lv_has ls 2 [(0, .ref h0), (1, .int (nI t))] := hl
    have hP : va_P D vwCl [(h0, .inr (1, [.ref a1, .ref a2, .ref a3, .ref a4, .ref a5, .int 1, .int 0, .int (nI la), .int (lfI lf), .int (nI sh)])), (a1, .inl (k1, 384, .inl gw)), (a2, .inl (k2, 384, .inl gd)), (a3, .inl (k3, 384, .inl gl)), (a4, .inl (k4, 24, .inl (fun j => bI (dz j)))), (a5, .inl (k5, 24, .inl (fun j => bI (lg j))))] s.heap := hP
    have hD : va_D A [(h0, .inr (1, [.ref a1, .ref a2, .ref a3, .ref a4, .ref a5, .int 1, .int 0, .int (nI la), .int (lfI lf), .int (nI sh)])), (a1, .inl (k1, 384, .inl gw)), (a2, .inl (k2, 384, .inl gd)), (a3, .inl (k3, 384, .inl gl)), (a4, .inl (k4, 24, .inl (fun j => bI (dz j)))), (a5, .inl (k5, 24, .inl (fun j => bI (lg j))))] := hD
    refine lv_aload_n hx hb dX1_start_0 rfl (lv_at hl 0 rfl) ?_
    refine va_get (ci := 1) (v := .int 1) (C := RX1) (T := TX1) (N := 10) hx hb hts (by decide +kernel) hown hK hP 0 rfl rfl 5 (by decide) (hts (.fieldLink RX1 30 "CommitLogModel" "off" "Z") (by decide +kernel)) (fun _ h9 => h9) rfl dX1_start_1 ?_
    refine lv_if_eq (tgt := 18) hx hb dX1_start_4 (by decide) (fun c_1 => ?_) (fun c_1 => ?_)
    · -- T of pc 4
      exact absurd c_1 (by decide)
    · -- F of pc 4
      refine lv_iload_n hx hb dX1_start_7 rfl (lv_at hl 1 rfl) ?_
      refine lv_iconst (v := 0) hx hb dX1_start_8 (by decide) ?_
      refine lv_sipush (v := 1000) hx hb dX1_start_9 (by decide) ?_
      refine ct_Si (As := [.int (nI t), .int 0, .int 1000]) (rest := []) (wr := [(h0, .inr (1, [.ref a1, .ref a2, .ref a3, .ref a4, .ref a5, .int 1, .int 0, .int (nI la), .int (lfI lf), .int (nI sh)])), (a1, .inl (k1, 384, .inl gw)), (a2, .inl (k2, 384, .inl gd)), (a3, .inl (k3, 384, .inl gl)), (a4, .inl (k4, 24, .inl (fun j => bI (dz j)))), (a5, .inl (k5, 24, .inl (fun j => bI (lg j))))]) (wn := [(h0, .inr (1, [.ref a1, .ref a2, .ref a3, .ref a4, .ref a5, .int 1, .int 0, .int (nI la), .int (lfI lf), .int (nI sh)])), (a1, .inl (k1, 384, .inl gw)), (a2, .inl (k2, 384, .inl gd)), (a3, .inl (k3, 384, .inl gl)), (a4, .inl (k4, 24, .inl (fun j => bI (dz j)))), (a5, .inl (k5, 24, .inl (fun j => bI (lg j))))]) ⟨hx, hb, hml, hown, hts⟩ (c1_in l D (nI t) 0 1000) (va_cwS 3 hts gX1_start_X1_in rfl rfl rfl (by decide +kernel) ⟨Nat.le_of_ble_eq_true rfl, Nat.le_of_ble_eq_true rfl⟩) hK hP hD hS hA [] [0, 1, 2, 3, 4, 5] [] [0, 1, 2, 3, 4, 5] rfl rfl (by decide) rfl (by decide) (by decide) rfl (by decide) rfl hl.1 rfl (Nat.le_of_ble_eq_true rfl) dX1_start_12 ⟨Nat.zero_le _, Nat.zero_le _⟩ (fun H locs hP hD hS => ?_)
      refine tp_as (z := 1) (by rw [inR_ix 1001 (by decide) 1000 rfl _, e1]; rfl) ?_
      refine lv_if_ne (tgt := 20) hx hb dX1_start_15 (by decide) (fun c_2 => ?_) (fun c_2 => ?_)
      · -- T of pc 15
        refine lv_aload_n hx hb dX1_start_20 rfl (lv_at hl 0 rfl) ?_
        refine va_get (ci := 1) (v := .int 0) (C := RX1) (T := TX1) (N := 10) hx hb hts (by decide +kernel) hown hK hP 0 rfl rfl 6 (by decide) (hts (.fieldLink RX1 42 "CommitLogModel" "mark" "Z") (by decide +kernel)) (fun _ h9 => h9) rfl dX1_start_21 ?_
        refine lv_if_eq (tgt := 41) hx hb dX1_start_24 (by decide) (fun c_3 => ?_) (fun c_3 => ?_)
        · -- T of pc 24
          refine lv_iload_n hx hb dX1_start_41 rfl (lv_at hl 1 rfl) ?_
          refine lv_sipush (v := 1000) hx hb dX1_start_42 (by decide) ?_
          refine lv_icmp_ge (tgt := 50) hx hb dX1_start_45 (by decide) (fun c_4 => ?_) (fun c_4 => ?_)
          · -- T of pc 45
            exact absurd c_4 (show ¬ nI 1000 ≤ nI t from nI_ge (by omega) (by decide))
          · -- F of pc 45
            refine lv_iconst (v := 0) hx hb dX1_start_48 (by decide) ?_
            exact hret _ _ _ _ _ hP hD hS rfl dX1_start_49
        · -- F of pc 24
          exact absurd (by decide) c_3
      · -- F of pc 15
        exact absurd c_2 (by decide)
  | true =>
    refine ct_i.of (cc := cX1_start) (maxL := 2) (ty := .boolean) (by decide) rfl (Nat.le_of_ble_eq_true rfl) (nb_bI _) ?_
    intro p e s m args below meth c ls A Q hx hb hml hts hown hK hP hD hA hS hl hret
    have hown : s.vm.findClass RX1 = some m.cls := hown
    have hl : lv_has ls 2 [(0, .ref h0), (1, .int (nI t))] := hl
    have hP : va_P D vwCl [(h0, .inr (1, [.ref a1, .ref a2, .ref a3, .ref a4, .ref a5, .int 1, .int 1, .int (nI la), .int (lfI lf), .int (nI sh)])), (a1, .inl (k1, 384, .inl gw)), (a2, .inl (k2, 384, .inl gd)), (a3, .inl (k3, 384, .inl gl)), (a4, .inl (k4, 24, .inl (fun j => bI (dz j)))), (a5, .inl (k5, 24, .inl (fun j => bI (lg j))))] s.heap := hP
    have hD : va_D A [(h0, .inr (1, [.ref a1, .ref a2, .ref a3, .ref a4, .ref a5, .int 1, .int 1, .int (nI la), .int (lfI lf), .int (nI sh)])), (a1, .inl (k1, 384, .inl gw)), (a2, .inl (k2, 384, .inl gd)), (a3, .inl (k3, 384, .inl gl)), (a4, .inl (k4, 24, .inl (fun j => bI (dz j)))), (a5, .inl (k5, 24, .inl (fun j => bI (lg j))))] := hD
    refine lv_aload_n hx hb dX1_start_0 rfl (lv_at hl 0 rfl) ?_
    refine va_get (ci := 1) (v := .int 1) (C := RX1) (T := TX1) (N := 10) hx hb hts (by decide +kernel) hown hK hP 0 rfl rfl 5 (by decide) (hts (.fieldLink RX1 30 "CommitLogModel" "off" "Z") (by decide +kernel)) (fun _ h9 => h9) rfl dX1_start_1 ?_
    refine lv_if_eq (tgt := 18) hx hb dX1_start_4 (by decide) (fun c_1 => ?_) (fun c_1 => ?_)
    · -- T of pc 4
      exact absurd c_1 (by decide)
    · -- F of pc 4
      refine lv_iload_n hx hb dX1_start_7 rfl (lv_at hl 1 rfl) ?_
      refine lv_iconst (v := 0) hx hb dX1_start_8 (by decide) ?_
      refine lv_sipush (v := 1000) hx hb dX1_start_9 (by decide) ?_
      refine ct_Si (As := [.int (nI t), .int 0, .int 1000]) (rest := []) (wr := [(h0, .inr (1, [.ref a1, .ref a2, .ref a3, .ref a4, .ref a5, .int 1, .int 1, .int (nI la), .int (lfI lf), .int (nI sh)])), (a1, .inl (k1, 384, .inl gw)), (a2, .inl (k2, 384, .inl gd)), (a3, .inl (k3, 384, .inl gl)), (a4, .inl (k4, 24, .inl (fun j => bI (dz j)))), (a5, .inl (k5, 24, .inl (fun j => bI (lg j))))]) (wn := [(h0, .inr (1, [.ref a1, .ref a2, .ref a3, .ref a4, .ref a5, .int 1, .int 1, .int (nI la), .int (lfI lf), .int (nI sh)])), (a1, .inl (k1, 384, .inl gw)), (a2, .inl (k2, 384, .inl gd)), (a3, .inl (k3, 384, .inl gl)), (a4, .inl (k4, 24, .inl (fun j => bI (dz j)))), (a5, .inl (k5, 24, .inl (fun j => bI (lg j))))]) ⟨hx, hb, hml, hown, hts⟩ (c1_in l D (nI t) 0 1000) (va_cwS 3 hts gX1_start_X1_in rfl rfl rfl (by decide +kernel) ⟨Nat.le_of_ble_eq_true rfl, Nat.le_of_ble_eq_true rfl⟩) hK hP hD hS hA [] [0, 1, 2, 3, 4, 5] [] [0, 1, 2, 3, 4, 5] rfl rfl (by decide) rfl (by decide) (by decide) rfl (by decide) rfl hl.1 rfl (Nat.le_of_ble_eq_true rfl) dX1_start_12 ⟨Nat.zero_le _, Nat.zero_le _⟩ (fun H locs hP hD hS => ?_)
      refine tp_as (z := 1) (by rw [inR_ix 1001 (by decide) 1000 rfl _, e1]; rfl) ?_
      refine lv_if_ne (tgt := 20) hx hb dX1_start_15 (by decide) (fun c_2 => ?_) (fun c_2 => ?_)
      · -- T of pc 15
        refine lv_aload_n hx hb dX1_start_20 rfl (lv_at hl 0 rfl) ?_
        refine va_get (ci := 1) (v := .int 1) (C := RX1) (T := TX1) (N := 10) hx hb hts (by decide +kernel) hown hK hP 0 rfl rfl 6 (by decide) (hts (.fieldLink RX1 42 "CommitLogModel" "mark" "Z") (by decide +kernel)) (fun _ h9 => h9) rfl dX1_start_21 ?_
        refine lv_if_eq (tgt := 41) hx hb dX1_start_24 (by decide) (fun c_3 => ?_) (fun c_3 => ?_)
        · -- T of pc 24
          exact absurd c_3 (by decide)
        · -- F of pc 24
          refine lv_aload_n hx hb dX1_start_27 rfl (lv_at hl 0 rfl) ?_
          refine lv_aload_n hx hb dX1_start_28 rfl (lv_at hl 0 rfl) ?_
          refine ct_Vi (As := []) (rest := [.ref h0]) (wr := []) (wn := [(h0, .inr (1, [.ref a1, .ref a2, .ref a3, .ref a4, .ref a5, .int 1, .int 1, .int (nI la), .int (lfI lf), .int (nI sh)])), (a1, .inl (k1, 384, .inl gw)), (a2, .inl (k2, 384, .inl gd)), (a3, .inl (k3, 384, .inl gl)), (a4, .inl (k4, 24, .inl (fun j => bI (dz j)))), (a5, .inl (k5, 24, .inl (fun j => bI (lg j))))]) ⟨hx, hb, hml, hown, hts⟩ (c1_loggedMany l D h0 a1 a2 a3 a4 a5 k1 k2 k3 k4 k5 gw gd gl dz lg true true la lf sh) (cwV 0 hts gX1_start_X1_loggedMany rfl rfl rfl (by decide +kernel) ⟨Nat.le_of_ble_eq_true rfl, Nat.le_of_ble_eq_true rfl⟩) hK hP hD hS hA [0, 1, 2, 3, 4, 5] [] [0, 1, 2, 3, 4] [0, 1, 2, 3, 4, 5] rfl rfl (by decide) rfl (by decide) (by decide) rfl (by decide) 1 rfl 0 rfl rfl hl.1 rfl (Nat.le_of_ble_eq_true rfl) dX1_start_29 ⟨Nat.zero_le _, Nat.zero_le _⟩ (fun H locs hP hD hS => ?_)
          refine lv_iload_n hx hb dX1_start_32 rfl (lv_at hl 1 rfl) ?_
          refine lv_imul hx hb dX1_start_33 ?_
          refine tp_as (z := nI (cnt lg 24 * t)) (pk_mul _ _) ?_
          refine lv_sipush (v := 1000) hx hb dX1_start_34 (by decide) ?_
          refine lv_idiv hx hb dX1_start_37 (by decide) ?_
          refine tp_as (z := nI (cnt lg 24 * t / 1000)) (pk_div (d := 1000) (by omega) (by decide) (by decide)) ?_
          refine ct_Vv (As := [.int (nI (cnt lg 24 * t / 1000))]) (rest := []) (wr := []) (wn := [(h0, .inr (1, [.ref a1, .ref a2, .ref a3, .ref a4, .ref a5, .int 1, .int 1, .int (nI la), .int (lfI lf), .int (nI sh)])), (a1, .inl (k1, 384, .inl gw)), (a2, .inl (k2, 384, .inl (lyK gl lg (cnt lg 24 * t / 1000) gd 24))), (a3, .inl (k3, 384, .inl gl)), (a4, .inl (k4, 24, .inl (fun j => bI (dz j)))), (a5, .inl (k5, 24, .inl (fun j => bI (lg j))))]) ⟨hx, hb, hml, hown, hts⟩ (c1_lay l D h0 a1 a2 a3 a4 a5 k1 k2 k3 k4 k5 gw gd gl dz lg true true la lf sh (cnt lg 24 * t / 1000) (sh_div hc (by omega))) (cwV 1 hts gX1_start_X1_lay rfl rfl rfl (by decide +kernel) ⟨Nat.le_of_ble_eq_true rfl, Nat.le_of_ble_eq_true rfl⟩) hK hP hD hS hA [0, 1, 2, 3, 4, 5] [] [0, 1, 2, 3, 4] [0, 1, 2, 3, 4, 5] rfl rfl (by decide) rfl (by decide) (by decide) rfl (by decide) 1 rfl 0 rfl rfl hl.1 rfl (Nat.le_of_ble_eq_true rfl) dX1_start_38 ⟨Nat.zero_le _, Nat.zero_le _⟩ (fun H locs hP hD hS => ?_)
          refine lv_iload_n hx hb dX1_start_41 rfl (lv_at hl 1 rfl) ?_
          refine lv_sipush (v := 1000) hx hb dX1_start_42 (by decide) ?_
          refine lv_icmp_ge (tgt := 50) hx hb dX1_start_45 (by decide) (fun c_4 => ?_) (fun c_4 => ?_)
          · -- T of pc 45
            exact absurd c_4 (show ¬ nI 1000 ≤ nI t from nI_ge (by omega) (by decide))
          · -- F of pc 45
            refine lv_iconst (v := 0) hx hb dX1_start_48 (by decide) ?_
            exact hret _ _ _ _ _ hP hD hS rfl dX1_start_49
      · -- F of pc 15
        exact absurd c_2 (by decide)
set_option maxHeartbeats 4000000 in
set_option maxRecDepth 100000 in
theorem c1_start_on (l : Launch) (D : va_G) (h0 a1 a2 a3 a4 a5 : Nat) (k1 k2 k3 k4 k5 : ClassId) (gw gd gl : Nat → Int32) (dz lg : Nat → Bool) (mk : Bool) (la : Nat) (lf : Option Nat) (sh : Nat) : ct_i l yX1_start wsX1_start ({ frames := 2, cells := 0, slots := 0, locals := 46 }) D vwCl (MT k1 k2 k3 k4 k5) [.ref h0, .int (nI 1000)] (MW h0 a1 a2 a3 a4 a5 k1 k2 k3 k4 k5 gw gd gl dz lg true mk la lf sh) (MW h0 a1 a2 a3 a4 a5 k1 k2 k3 k4 k5 (frK (msd mk gl lg gd 1000) gw 24) (msd mk gl lg gd 1000) gl (clr dz 24) lg false false la lf sh) (bI true) := by
  have hc := cnt_le lg 24
  have hm := sh_mul (s := 1000) (m := 1000) hc (by omega)
  have e1 : ix 1001 (nI 1000) = some 1000 := ix_nI (by omega) (by decide)
  cases mk with
  | false =>
    refine ct_i.of (cc := cX1_start) (maxL := 2) (ty := .boolean) (by decide) rfl (Nat.le_of_ble_eq_true rfl) (nb_bI _) ?_
    intro p e s m args below meth c ls A Q hx hb hml hts hown hK hP hD hA hS hl hret
    have hown : s.vm.findClass RX1 = some m.cls := hown
    have hl : lv_has ls 2 [(0, .ref h0), (1, .int (nI 1000))] := hl
    have hP : va_P D vwCl [(h0, .inr (1, [.ref a1, .ref a2, .ref a3, .ref a4, .ref a5, .int 1, .int 0, .int (nI la), .int (lfI lf), .int (nI sh)])), (a1, .inl (k1, 384, .inl gw)), (a2, .inl (k2, 384, .inl gd)), (a3, .inl (k3, 384, .inl gl)), (a4, .inl (k4, 24, .inl (fun j => bI (dz j)))), (a5, .inl (k5, 24, .inl (fun j => bI (lg j))))] s.heap := hP
    have hD : va_D A [(h0, .inr (1, [.ref a1, .ref a2, .ref a3, .ref a4, .ref a5, .int 1, .int 0, .int (nI la), .int (lfI lf), .int (nI sh)])), (a1, .inl (k1, 384, .inl gw)), (a2, .inl (k2, 384, .inl gd)), (a3, .inl (k3, 384, .inl gl)), (a4, .inl (k4, 24, .inl (fun j => bI (dz j)))), (a5, .inl (k5, 24, .inl (fun j => bI (lg j))))] := hD
    refine lv_aload_n hx hb dX1_start_0 rfl (lv_at hl 0 rfl) ?_
    refine va_get (ci := 1) (v := .int 1) (C := RX1) (T := TX1) (N := 10) hx hb hts (by decide +kernel) hown hK hP 0 rfl rfl 5 (by decide) (hts (.fieldLink RX1 30 "CommitLogModel" "off" "Z") (by decide +kernel)) (fun _ h9 => h9) rfl dX1_start_1 ?_
    refine lv_if_eq (tgt := 18) hx hb dX1_start_4 (by decide) (fun c_1 => ?_) (fun c_1 => ?_)
    · -- T of pc 4
      exact absurd c_1 (by decide)
    · -- F of pc 4
      refine lv_iload_n hx hb dX1_start_7 rfl (lv_at hl 1 rfl) ?_
      refine lv_iconst (v := 0) hx hb dX1_start_8 (by decide) ?_
      refine lv_sipush (v := 1000) hx hb dX1_start_9 (by decide) ?_
      refine ct_Si (As := [.int (nI 1000), .int 0, .int 1000]) (rest := []) (wr := [(h0, .inr (1, [.ref a1, .ref a2, .ref a3, .ref a4, .ref a5, .int 1, .int 0, .int (nI la), .int (lfI lf), .int (nI sh)])), (a1, .inl (k1, 384, .inl gw)), (a2, .inl (k2, 384, .inl gd)), (a3, .inl (k3, 384, .inl gl)), (a4, .inl (k4, 24, .inl (fun j => bI (dz j)))), (a5, .inl (k5, 24, .inl (fun j => bI (lg j))))]) (wn := [(h0, .inr (1, [.ref a1, .ref a2, .ref a3, .ref a4, .ref a5, .int 1, .int 0, .int (nI la), .int (lfI lf), .int (nI sh)])), (a1, .inl (k1, 384, .inl gw)), (a2, .inl (k2, 384, .inl gd)), (a3, .inl (k3, 384, .inl gl)), (a4, .inl (k4, 24, .inl (fun j => bI (dz j)))), (a5, .inl (k5, 24, .inl (fun j => bI (lg j))))]) ⟨hx, hb, hml, hown, hts⟩ (c1_in l D (nI 1000) 0 1000) (va_cwS 3 hts gX1_start_X1_in rfl rfl rfl (by decide +kernel) ⟨Nat.le_of_ble_eq_true rfl, Nat.le_of_ble_eq_true rfl⟩) hK hP hD hS hA [] [0, 1, 2, 3, 4, 5] [] [0, 1, 2, 3, 4, 5] rfl rfl (by decide) rfl (by decide) (by decide) rfl (by decide) rfl hl.1 rfl (Nat.le_of_ble_eq_true rfl) dX1_start_12 ⟨Nat.zero_le _, Nat.zero_le _⟩ (fun H locs hP hD hS => ?_)
      refine tp_as (z := 1) (by rw [inR_ix 1001 (by decide) 1000 rfl _, e1]; rfl) ?_
      refine lv_if_ne (tgt := 20) hx hb dX1_start_15 (by decide) (fun c_2 => ?_) (fun c_2 => ?_)
      · -- T of pc 15
        refine lv_aload_n hx hb dX1_start_20 rfl (lv_at hl 0 rfl) ?_
        refine va_get (ci := 1) (v := .int 0) (C := RX1) (T := TX1) (N := 10) hx hb hts (by decide +kernel) hown hK hP 0 rfl rfl 6 (by decide) (hts (.fieldLink RX1 42 "CommitLogModel" "mark" "Z") (by decide +kernel)) (fun _ h9 => h9) rfl dX1_start_21 ?_
        refine lv_if_eq (tgt := 41) hx hb dX1_start_24 (by decide) (fun c_3 => ?_) (fun c_3 => ?_)
        · -- T of pc 24
          refine lv_iload_n hx hb dX1_start_41 rfl (lv_at hl 1 rfl) ?_
          refine lv_sipush (v := 1000) hx hb dX1_start_42 (by decide) ?_
          refine lv_icmp_ge (tgt := 50) hx hb dX1_start_45 (by decide) (fun c_4 => ?_) (fun c_4 => ?_)
          · -- T of pc 45
            refine lv_aload_n hx hb dX1_start_50 rfl (lv_at hl 0 rfl) ?_
            refine lv_iconst (v := 0) hx hb dX1_start_51 (by decide) ?_
            refine va_put (ci := 1) (v := .int 0) (ty := .boolean) (C := RX1) (T := TX1) (N := 10) hx hb hts (by decide +kernel) tyX1 tyX1_ok nmX1 hown hK hP hD hS 0 rfl rfl 6 (by decide) (hts (.fieldLink RX1 42 "CommitLogModel" "mark" "Z") (by decide +kernel)) (fun _ h9 => h9) rfl (by decide +kernel) rfl rfl (Nat.le_of_ble_eq_true rfl) dX1_start_52 (fun H locs hP hD hS => ?_)
            have hP : va_P D vwCl [(h0, .inr (1, [.ref a1, .ref a2, .ref a3, .ref a4, .ref a5, .int 1, .int 0, .int (nI la), .int (lfI lf), .int (nI sh)])), (a1, .inl (k1, 384, .inl gw)), (a2, .inl (k2, 384, .inl gd)), (a3, .inl (k3, 384, .inl gl)), (a4, .inl (k4, 24, .inl (fun j => bI (dz j)))), (a5, .inl (k5, 24, .inl (fun j => bI (lg j))))] H := hP
            have hD : va_D _ [(h0, .inr (1, [.ref a1, .ref a2, .ref a3, .ref a4, .ref a5, .int 1, .int 0, .int (nI la), .int (lfI lf), .int (nI sh)])), (a1, .inl (k1, 384, .inl gw)), (a2, .inl (k2, 384, .inl gd)), (a3, .inl (k3, 384, .inl gl)), (a4, .inl (k4, 24, .inl (fun j => bI (dz j)))), (a5, .inl (k5, 24, .inl (fun j => bI (lg j))))] := hD
            refine lv_aload_n hx hb dX1_start_55 rfl (lv_at hl 0 rfl) ?_
            refine lv_iconst (v := 0) hx hb dX1_start_56 (by decide) ?_
            refine va_put (ci := 1) (v := .int 0) (ty := .boolean) (C := RX1) (T := TX1) (N := 10) hx hb hts (by decide +kernel) tyX1 tyX1_ok nmX1 hown hK hP hD hS 0 rfl rfl 5 (by decide) (hts (.fieldLink RX1 30 "CommitLogModel" "off" "Z") (by decide +kernel)) (fun _ h9 => h9) rfl (by decide +kernel) rfl rfl (Nat.le_of_ble_eq_true rfl) dX1_start_57 (fun H locs hP hD hS => ?_)
            have hP : va_P D vwCl [(h0, .inr (1, [.ref a1, .ref a2, .ref a3, .ref a4, .ref a5, .int 0, .int 0, .int (nI la), .int (lfI lf), .int (nI sh)])), (a1, .inl (k1, 384, .inl gw)), (a2, .inl (k2, 384, .inl gd)), (a3, .inl (k3, 384, .inl gl)), (a4, .inl (k4, 24, .inl (fun j => bI (dz j)))), (a5, .inl (k5, 24, .inl (fun j => bI (lg j))))] H := hP
            have hD : va_D _ [(h0, .inr (1, [.ref a1, .ref a2, .ref a3, .ref a4, .ref a5, .int 0, .int 0, .int (nI la), .int (lfI lf), .int (nI sh)])), (a1, .inl (k1, 384, .inl gw)), (a2, .inl (k2, 384, .inl gd)), (a3, .inl (k3, 384, .inl gl)), (a4, .inl (k4, 24, .inl (fun j => bI (dz j)))), (a5, .inl (k5, 24, .inl (fun j => bI (lg j))))] := hD
            refine lv_aload_n hx hb dX1_start_60 rfl (lv_at hl 0 rfl) ?_
            refine ct_Vv (As := []) (rest := []) (wr := []) (wn := [(h0, .inr (1, [.ref a1, .ref a2, .ref a3, .ref a4, .ref a5, .int 0, .int 0, .int (nI la), .int (lfI lf), .int (nI sh)])), (a1, .inl (k1, 384, .inl (frK gd gw 24))), (a2, .inl (k2, 384, .inl gd)), (a3, .inl (k3, 384, .inl gl)), (a4, .inl (k4, 24, .inl (fun j => bI ((clr dz 24) j)))), (a5, .inl (k5, 24, .inl (fun j => bI (lg j))))]) ⟨hx, hb, hml, hown, hts⟩ (c1_fresh l D h0 a1 a2 a3 a4 a5 k1 k2 k3 k4 k5 gw gd gl dz lg false false la lf sh) (cwV 0 hts gX1_start_X1_fresh rfl rfl rfl (by decide +kernel) ⟨Nat.le_of_ble_eq_true rfl, Nat.le_of_ble_eq_true rfl⟩) hK hP hD hS hA [0, 1, 2, 3, 4, 5] [] [0, 1, 2, 3, 4] [0, 1, 2, 3, 4, 5] rfl rfl (by decide) rfl (by decide) (by decide) rfl (by decide) 1 rfl 0 rfl rfl hl.1 rfl (Nat.le_of_ble_eq_true rfl) dX1_start_61 ⟨Nat.zero_le _, Nat.zero_le _⟩ (fun H locs hP hD hS => ?_)
            refine lv_iconst (v := 1) hx hb dX1_start_64 (by decide) ?_
            exact hret _ _ _ _ _ hP hD hS rfl dX1_start_65
          · -- F of pc 45
            exact absurd (by decide) c_4
        · -- F of pc 24
          exact absurd (by decide) c_3
      · -- F of pc 15
        exact absurd c_2 (by decide)
  | true =>
    refine ct_i.of (cc := cX1_start) (maxL := 2) (ty := .boolean) (by decide) rfl (Nat.le_of_ble_eq_true rfl) (nb_bI _) ?_
    intro p e s m args below meth c ls A Q hx hb hml hts hown hK hP hD hA hS hl hret
    have hown : s.vm.findClass RX1 = some m.cls := hown
    have hl : lv_has ls 2 [(0, .ref h0), (1, .int (nI 1000))] := hl
    have hP : va_P D vwCl [(h0, .inr (1, [.ref a1, .ref a2, .ref a3, .ref a4, .ref a5, .int 1, .int 1, .int (nI la), .int (lfI lf), .int (nI sh)])), (a1, .inl (k1, 384, .inl gw)), (a2, .inl (k2, 384, .inl gd)), (a3, .inl (k3, 384, .inl gl)), (a4, .inl (k4, 24, .inl (fun j => bI (dz j)))), (a5, .inl (k5, 24, .inl (fun j => bI (lg j))))] s.heap := hP
    have hD : va_D A [(h0, .inr (1, [.ref a1, .ref a2, .ref a3, .ref a4, .ref a5, .int 1, .int 1, .int (nI la), .int (lfI lf), .int (nI sh)])), (a1, .inl (k1, 384, .inl gw)), (a2, .inl (k2, 384, .inl gd)), (a3, .inl (k3, 384, .inl gl)), (a4, .inl (k4, 24, .inl (fun j => bI (dz j)))), (a5, .inl (k5, 24, .inl (fun j => bI (lg j))))] := hD
    refine lv_aload_n hx hb dX1_start_0 rfl (lv_at hl 0 rfl) ?_
    refine va_get (ci := 1) (v := .int 1) (C := RX1) (T := TX1) (N := 10) hx hb hts (by decide +kernel) hown hK hP 0 rfl rfl 5 (by decide) (hts (.fieldLink RX1 30 "CommitLogModel" "off" "Z") (by decide +kernel)) (fun _ h9 => h9) rfl dX1_start_1 ?_
    refine lv_if_eq (tgt := 18) hx hb dX1_start_4 (by decide) (fun c_1 => ?_) (fun c_1 => ?_)
    · -- T of pc 4
      exact absurd c_1 (by decide)
    · -- F of pc 4
      refine lv_iload_n hx hb dX1_start_7 rfl (lv_at hl 1 rfl) ?_
      refine lv_iconst (v := 0) hx hb dX1_start_8 (by decide) ?_
      refine lv_sipush (v := 1000) hx hb dX1_start_9 (by decide) ?_
      refine ct_Si (As := [.int (nI 1000), .int 0, .int 1000]) (rest := []) (wr := [(h0, .inr (1, [.ref a1, .ref a2, .ref a3, .ref a4, .ref a5, .int 1, .int 1, .int (nI la), .int (lfI lf), .int (nI sh)])), (a1, .inl (k1, 384, .inl gw)), (a2, .inl (k2, 384, .inl gd)), (a3, .inl (k3, 384, .inl gl)), (a4, .inl (k4, 24, .inl (fun j => bI (dz j)))), (a5, .inl (k5, 24, .inl (fun j => bI (lg j))))]) (wn := [(h0, .inr (1, [.ref a1, .ref a2, .ref a3, .ref a4, .ref a5, .int 1, .int 1, .int (nI la), .int (lfI lf), .int (nI sh)])), (a1, .inl (k1, 384, .inl gw)), (a2, .inl (k2, 384, .inl gd)), (a3, .inl (k3, 384, .inl gl)), (a4, .inl (k4, 24, .inl (fun j => bI (dz j)))), (a5, .inl (k5, 24, .inl (fun j => bI (lg j))))]) ⟨hx, hb, hml, hown, hts⟩ (c1_in l D (nI 1000) 0 1000) (va_cwS 3 hts gX1_start_X1_in rfl rfl rfl (by decide +kernel) ⟨Nat.le_of_ble_eq_true rfl, Nat.le_of_ble_eq_true rfl⟩) hK hP hD hS hA [] [0, 1, 2, 3, 4, 5] [] [0, 1, 2, 3, 4, 5] rfl rfl (by decide) rfl (by decide) (by decide) rfl (by decide) rfl hl.1 rfl (Nat.le_of_ble_eq_true rfl) dX1_start_12 ⟨Nat.zero_le _, Nat.zero_le _⟩ (fun H locs hP hD hS => ?_)
      refine tp_as (z := 1) (by rw [inR_ix 1001 (by decide) 1000 rfl _, e1]; rfl) ?_
      refine lv_if_ne (tgt := 20) hx hb dX1_start_15 (by decide) (fun c_2 => ?_) (fun c_2 => ?_)
      · -- T of pc 15
        refine lv_aload_n hx hb dX1_start_20 rfl (lv_at hl 0 rfl) ?_
        refine va_get (ci := 1) (v := .int 1) (C := RX1) (T := TX1) (N := 10) hx hb hts (by decide +kernel) hown hK hP 0 rfl rfl 6 (by decide) (hts (.fieldLink RX1 42 "CommitLogModel" "mark" "Z") (by decide +kernel)) (fun _ h9 => h9) rfl dX1_start_21 ?_
        refine lv_if_eq (tgt := 41) hx hb dX1_start_24 (by decide) (fun c_3 => ?_) (fun c_3 => ?_)
        · -- T of pc 24
          exact absurd c_3 (by decide)
        · -- F of pc 24
          refine lv_aload_n hx hb dX1_start_27 rfl (lv_at hl 0 rfl) ?_
          refine lv_aload_n hx hb dX1_start_28 rfl (lv_at hl 0 rfl) ?_
          refine ct_Vi (As := []) (rest := [.ref h0]) (wr := []) (wn := [(h0, .inr (1, [.ref a1, .ref a2, .ref a3, .ref a4, .ref a5, .int 1, .int 1, .int (nI la), .int (lfI lf), .int (nI sh)])), (a1, .inl (k1, 384, .inl gw)), (a2, .inl (k2, 384, .inl gd)), (a3, .inl (k3, 384, .inl gl)), (a4, .inl (k4, 24, .inl (fun j => bI (dz j)))), (a5, .inl (k5, 24, .inl (fun j => bI (lg j))))]) ⟨hx, hb, hml, hown, hts⟩ (c1_loggedMany l D h0 a1 a2 a3 a4 a5 k1 k2 k3 k4 k5 gw gd gl dz lg true true la lf sh) (cwV 0 hts gX1_start_X1_loggedMany rfl rfl rfl (by decide +kernel) ⟨Nat.le_of_ble_eq_true rfl, Nat.le_of_ble_eq_true rfl⟩) hK hP hD hS hA [0, 1, 2, 3, 4, 5] [] [0, 1, 2, 3, 4] [0, 1, 2, 3, 4, 5] rfl rfl (by decide) rfl (by decide) (by decide) rfl (by decide) 1 rfl 0 rfl rfl hl.1 rfl (Nat.le_of_ble_eq_true rfl) dX1_start_29 ⟨Nat.zero_le _, Nat.zero_le _⟩ (fun H locs hP hD hS => ?_)
          refine lv_iload_n hx hb dX1_start_32 rfl (lv_at hl 1 rfl) ?_
          refine lv_imul hx hb dX1_start_33 ?_
          refine tp_as (z := nI (cnt lg 24 * 1000)) (pk_mul _ _) ?_
          refine lv_sipush (v := 1000) hx hb dX1_start_34 (by decide) ?_
          refine lv_idiv hx hb dX1_start_37 (by decide) ?_
          refine tp_as (z := nI (cnt lg 24 * 1000 / 1000)) (pk_div (d := 1000) (by omega) (by decide) (by decide)) ?_
          refine ct_Vv (As := [.int (nI (cnt lg 24 * 1000 / 1000))]) (rest := []) (wr := []) (wn := [(h0, .inr (1, [.ref a1, .ref a2, .ref a3, .ref a4, .ref a5, .int 1, .int 1, .int (nI la), .int (lfI lf), .int (nI sh)])), (a1, .inl (k1, 384, .inl gw)), (a2, .inl (k2, 384, .inl (lyK gl lg (cnt lg 24 * 1000 / 1000) gd 24))), (a3, .inl (k3, 384, .inl gl)), (a4, .inl (k4, 24, .inl (fun j => bI (dz j)))), (a5, .inl (k5, 24, .inl (fun j => bI (lg j))))]) ⟨hx, hb, hml, hown, hts⟩ (c1_lay l D h0 a1 a2 a3 a4 a5 k1 k2 k3 k4 k5 gw gd gl dz lg true true la lf sh (cnt lg 24 * 1000 / 1000) (sh_div hc (by omega))) (cwV 1 hts gX1_start_X1_lay rfl rfl rfl (by decide +kernel) ⟨Nat.le_of_ble_eq_true rfl, Nat.le_of_ble_eq_true rfl⟩) hK hP hD hS hA [0, 1, 2, 3, 4, 5] [] [0, 1, 2, 3, 4] [0, 1, 2, 3, 4, 5] rfl rfl (by decide) rfl (by decide) (by decide) rfl (by decide) 1 rfl 0 rfl rfl hl.1 rfl (Nat.le_of_ble_eq_true rfl) dX1_start_38 ⟨Nat.zero_le _, Nat.zero_le _⟩ (fun H locs hP hD hS => ?_)
          refine lv_iload_n hx hb dX1_start_41 rfl (lv_at hl 1 rfl) ?_
          refine lv_sipush (v := 1000) hx hb dX1_start_42 (by decide) ?_
          refine lv_icmp_ge (tgt := 50) hx hb dX1_start_45 (by decide) (fun c_4 => ?_) (fun c_4 => ?_)
          · -- T of pc 45
            refine lv_aload_n hx hb dX1_start_50 rfl (lv_at hl 0 rfl) ?_
            refine lv_iconst (v := 0) hx hb dX1_start_51 (by decide) ?_
            refine va_put (ci := 1) (v := .int 0) (ty := .boolean) (C := RX1) (T := TX1) (N := 10) hx hb hts (by decide +kernel) tyX1 tyX1_ok nmX1 hown hK hP hD hS 0 rfl rfl 6 (by decide) (hts (.fieldLink RX1 42 "CommitLogModel" "mark" "Z") (by decide +kernel)) (fun _ h9 => h9) rfl (by decide +kernel) rfl rfl (Nat.le_of_ble_eq_true rfl) dX1_start_52 (fun H locs hP hD hS => ?_)
            have hP : va_P D vwCl [(h0, .inr (1, [.ref a1, .ref a2, .ref a3, .ref a4, .ref a5, .int 1, .int 0, .int (nI la), .int (lfI lf), .int (nI sh)])), (a1, .inl (k1, 384, .inl gw)), (a2, .inl (k2, 384, .inl (lyK gl lg (cnt lg 24 * 1000 / 1000) gd 24))), (a3, .inl (k3, 384, .inl gl)), (a4, .inl (k4, 24, .inl (fun j => bI (dz j)))), (a5, .inl (k5, 24, .inl (fun j => bI (lg j))))] H := hP
            have hD : va_D _ [(h0, .inr (1, [.ref a1, .ref a2, .ref a3, .ref a4, .ref a5, .int 1, .int 0, .int (nI la), .int (lfI lf), .int (nI sh)])), (a1, .inl (k1, 384, .inl gw)), (a2, .inl (k2, 384, .inl (lyK gl lg (cnt lg 24 * 1000 / 1000) gd 24))), (a3, .inl (k3, 384, .inl gl)), (a4, .inl (k4, 24, .inl (fun j => bI (dz j)))), (a5, .inl (k5, 24, .inl (fun j => bI (lg j))))] := hD
            refine lv_aload_n hx hb dX1_start_55 rfl (lv_at hl 0 rfl) ?_
            refine lv_iconst (v := 0) hx hb dX1_start_56 (by decide) ?_
            refine va_put (ci := 1) (v := .int 0) (ty := .boolean) (C := RX1) (T := TX1) (N := 10) hx hb hts (by decide +kernel) tyX1 tyX1_ok nmX1 hown hK hP hD hS 0 rfl rfl 5 (by decide) (hts (.fieldLink RX1 30 "CommitLogModel" "off" "Z") (by decide +kernel)) (fun _ h9 => h9) rfl (by decide +kernel) rfl rfl (Nat.le_of_ble_eq_true rfl) dX1_start_57 (fun H locs hP hD hS => ?_)
            have hP : va_P D vwCl [(h0, .inr (1, [.ref a1, .ref a2, .ref a3, .ref a4, .ref a5, .int 0, .int 0, .int (nI la), .int (lfI lf), .int (nI sh)])), (a1, .inl (k1, 384, .inl gw)), (a2, .inl (k2, 384, .inl (lyK gl lg (cnt lg 24 * 1000 / 1000) gd 24))), (a3, .inl (k3, 384, .inl gl)), (a4, .inl (k4, 24, .inl (fun j => bI (dz j)))), (a5, .inl (k5, 24, .inl (fun j => bI (lg j))))] H := hP
            have hD : va_D _ [(h0, .inr (1, [.ref a1, .ref a2, .ref a3, .ref a4, .ref a5, .int 0, .int 0, .int (nI la), .int (lfI lf), .int (nI sh)])), (a1, .inl (k1, 384, .inl gw)), (a2, .inl (k2, 384, .inl (lyK gl lg (cnt lg 24 * 1000 / 1000) gd 24))), (a3, .inl (k3, 384, .inl gl)), (a4, .inl (k4, 24, .inl (fun j => bI (dz j)))), (a5, .inl (k5, 24, .inl (fun j => bI (lg j))))] := hD
            refine lv_aload_n hx hb dX1_start_60 rfl (lv_at hl 0 rfl) ?_
            refine ct_Vv (As := []) (rest := []) (wr := []) (wn := [(h0, .inr (1, [.ref a1, .ref a2, .ref a3, .ref a4, .ref a5, .int 0, .int 0, .int (nI la), .int (lfI lf), .int (nI sh)])), (a1, .inl (k1, 384, .inl (frK (lyK gl lg (cnt lg 24 * 1000 / 1000) gd 24) gw 24))), (a2, .inl (k2, 384, .inl (lyK gl lg (cnt lg 24 * 1000 / 1000) gd 24))), (a3, .inl (k3, 384, .inl gl)), (a4, .inl (k4, 24, .inl (fun j => bI ((clr dz 24) j)))), (a5, .inl (k5, 24, .inl (fun j => bI (lg j))))]) ⟨hx, hb, hml, hown, hts⟩ (c1_fresh l D h0 a1 a2 a3 a4 a5 k1 k2 k3 k4 k5 gw (lyK gl lg (cnt lg 24 * 1000 / 1000) gd 24) gl dz lg false false la lf sh) (cwV 0 hts gX1_start_X1_fresh rfl rfl rfl (by decide +kernel) ⟨Nat.le_of_ble_eq_true rfl, Nat.le_of_ble_eq_true rfl⟩) hK hP hD hS hA [0, 1, 2, 3, 4, 5] [] [0, 1, 2, 3, 4] [0, 1, 2, 3, 4, 5] rfl rfl (by decide) rfl (by decide) (by decide) rfl (by decide) 1 rfl 0 rfl rfl hl.1 rfl (Nat.le_of_ble_eq_true rfl) dX1_start_61 ⟨Nat.zero_le _, Nat.zero_le _⟩ (fun H locs hP hD hS => ?_)
            refine lv_iconst (v := 1) hx hb dX1_start_64 (by decide) ?_
            exact hret _ _ _ _ _ hP hD hS rfl dX1_start_65
          · -- F of pc 45
            exact absurd (by decide) c_4
      · -- F of pc 15
        exact absurd c_2 (by decide)
