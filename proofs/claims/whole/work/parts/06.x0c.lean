/-! The class: its public methods but commit and start. -/
theorem dz_0 {b : Bool} (h : bI b = 0) : 0 = bI b := h.symm
theorem dz_1 {b : Bool} (h : ¬ bI b = 0) : 1 = bI b := by rw [dz_t h]; rfl
def xwr (fw : Nat → Int32) (dz : Nat → Bool) (pw : Bool) (b q v : Int32) : (Nat → Int32) × (Nat → Bool) × Bool := match pw, ix 24 b, ix 16 q with
  | true, some i, some j => (upd fw (i * 16 + j) (v &&& 255), va_up dz i true, true)
  | _, _, _ => (fw, dz, false)
def xrd (pw : Bool) (f : Nat → Int32) (b q : Int32) : Int32 := match pw, ix 24 b, ix 16 q with
  | true, some i, some j => f (i * 16 + j)
  | _, _, _ => -1
def xdt (pw : Bool) (dz : Nat → Bool) (b : Int32) : Bool := match pw, ix 24 b with
  | true, some i => dz i
  | _, _ => false
def xct (pw : Bool) (cu cs : Nat) (n t : Int32) : Nat × Nat × Bool := match pw, ix 1001 n, ix 1000 t with
  | true, some (k + 1), some j => (k + 1, j, true)
  | _, _, _ => (cu, cs, false)
def xst (pw mk : Bool) (lc : Nat) (x : Int32) : Int32 := match ix 3 x with
  | some 0 => bI pw
  | some 1 => bI mk
  | some 2 => nI lc
  | _ => -1
set_option maxHeartbeats 4000000 in
set_option maxRecDepth 100000 in
theorem c0_write (l : Launch) (D : va_G) (h0 a1 a2 a3 a4 a5 : Nat) (k1 k2 k3 k4 k5 : ClassId) (fw fd fb : Nat → Int32) (lq dz : Nat → Bool) (pw mk : Bool) (lc cu cs : Nat) (b q v : Int32) : ct_i l yX0_write wsX0_write ({ frames := 1, cells := 0, slots := 0, locals := 20 }) D vwCl (XT k1 k2 k3 k4 k5) [.ref h0, .int b, .int q, .int v] (XW h0 a1 a2 a3 a4 a5 k1 k2 k3 k4 k5 fw fd fb lq dz pw mk lc cu cs) (XW h0 a1 a2 a3 a4 a5 k1 k2 k3 k4 k5 ((xwr fw dz pw b q v).1) fd fb lq ((xwr fw dz pw b q v).2.1) pw mk lc cu cs) (bI (xwr fw dz pw b q v).2.2) := by
  cases pw with
  | false =>
    simp only [xwr]
    refine ct_i.of (cc := cX0_write) (maxL := 4) (ty := .boolean) (by decide) rfl (Nat.le_of_ble_eq_true rfl) (nb_bI _) ?_
    intro p e s m args below meth c ls A Q hx hb hml hts hown hK hP hD hA hS hl hret
    have hown : s.vm.findClass RX0 = some m.cls := hown
    have hl : lv_has ls 4 [(0, .ref h0), (1, .int b), (2, .int q), (3, .int v)] := hl
    have hP : va_P D vwCl [(h0, .inr (0, [.ref a1, .ref a2, .ref a3, .ref a4, .ref a5, .int 0, .int (bI mk), .int (nI lc), .int (nI cu), .int (nI cs)])), (a1, .inl (k1, 384, .inl fw)), (a2, .inl (k2, 384, .inl fd)), (a3, .inl (k3, 384, .inl fb)), (a4, .inl (k4, 24, .inl (fun j => bI (dz j)))), (a5, .inl (k5, 24, .inl (fun j => bI (lq j))))] s.heap := hP
    have hD : va_D A [(h0, .inr (0, [.ref a1, .ref a2, .ref a3, .ref a4, .ref a5, .int 0, .int (bI mk), .int (nI lc), .int (nI cu), .int (nI cs)])), (a1, .inl (k1, 384, .inl fw)), (a2, .inl (k2, 384, .inl fd)), (a3, .inl (k3, 384, .inl fb)), (a4, .inl (k4, 24, .inl (fun j => bI (dz j)))), (a5, .inl (k5, 24, .inl (fun j => bI (lq j))))] := hD
    refine lv_aload_n hx hb dX0_write_0 rfl (lv_at hl 0 rfl) ?_
    refine va_get (ci := 0) (v := .int 0) (C := RX0) (T := TX0) (N := 10) hx hb hts (by decide +kernel) hown hK hP 0 rfl rfl 5 (by decide) (hts (.fieldLink RX0 26 "CommitLog" "powered" "Z") (by decide +kernel)) (fun _ h9 => h9) rfl dX0_write_1 ?_
    refine lv_if_eq (tgt := 21) hx hb dX0_write_4 (by decide) (fun c_1 => ?_) (fun c_1 => ?_)
    · -- T of pc 4
      refine lv_iconst (v := 0) hx hb dX0_write_21 (by decide) ?_
      exact hret _ _ _ _ _ hP hD hS rfl dX0_write_22
    · -- F of pc 4
      exact absurd (by decide) c_1
  | true =>
    rcases ix_cases 24 (by decide) b with ⟨e1, -⟩ | ⟨i, hi, rfl, e1⟩
    · simp only [xwr, e1]
      refine ct_i.of (cc := cX0_write) (maxL := 4) (ty := .boolean) (by decide) rfl (Nat.le_of_ble_eq_true rfl) (nb_bI _) ?_
      intro p e s m args below meth c ls A Q hx hb hml hts hown hK hP hD hA hS hl hret
      have hown : s.vm.findClass RX0 = some m.cls := hown
      have hl : lv_has ls 4 [(0, .ref h0), (1, .int b), (2, .int q), (3, .int v)] := hl
      have hP : va_P D vwCl [(h0, .inr (0, [.ref a1, .ref a2, .ref a3, .ref a4, .ref a5, .int 1, .int (bI mk), .int (nI lc), .int (nI cu), .int (nI cs)])), (a1, .inl (k1, 384, .inl fw)), (a2, .inl (k2, 384, .inl fd)), (a3, .inl (k3, 384, .inl fb)), (a4, .inl (k4, 24, .inl (fun j => bI (dz j)))), (a5, .inl (k5, 24, .inl (fun j => bI (lq j))))] s.heap := hP
      have hD : va_D A [(h0, .inr (0, [.ref a1, .ref a2, .ref a3, .ref a4, .ref a5, .int 1, .int (bI mk), .int (nI lc), .int (nI cu), .int (nI cs)])), (a1, .inl (k1, 384, .inl fw)), (a2, .inl (k2, 384, .inl fd)), (a3, .inl (k3, 384, .inl fb)), (a4, .inl (k4, 24, .inl (fun j => bI (dz j)))), (a5, .inl (k5, 24, .inl (fun j => bI (lq j))))] := hD
      refine lv_aload_n hx hb dX0_write_0 rfl (lv_at hl 0 rfl) ?_
      refine va_get (ci := 0) (v := .int 1) (C := RX0) (T := TX0) (N := 10) hx hb hts (by decide +kernel) hown hK hP 0 rfl rfl 5 (by decide) (hts (.fieldLink RX0 26 "CommitLog" "powered" "Z") (by decide +kernel)) (fun _ h9 => h9) rfl dX0_write_1 ?_
      refine lv_if_eq (tgt := 21) hx hb dX0_write_4 (by decide) (fun c_1 => ?_) (fun c_1 => ?_)
      · -- T of pc 4
        exact absurd c_1 (by decide)
      · -- F of pc 4
        refine lv_iload_n hx hb dX0_write_7 rfl (lv_at hl 1 rfl) ?_
        refine ct_Si (As := [.int b]) (rest := []) (wr := [(h0, .inr (0, [.ref a1, .ref a2, .ref a3, .ref a4, .ref a5, .int 1, .int (bI mk), .int (nI lc), .int (nI cu), .int (nI cs)])), (a1, .inl (k1, 384, .inl fw)), (a2, .inl (k2, 384, .inl fd)), (a3, .inl (k3, 384, .inl fb)), (a4, .inl (k4, 24, .inl (fun j => bI (dz j)))), (a5, .inl (k5, 24, .inl (fun j => bI (lq j))))]) (wn := [(h0, .inr (0, [.ref a1, .ref a2, .ref a3, .ref a4, .ref a5, .int 1, .int (bI mk), .int (nI lc), .int (nI cu), .int (nI cs)])), (a1, .inl (k1, 384, .inl fw)), (a2, .inl (k2, 384, .inl fd)), (a3, .inl (k3, 384, .inl fb)), (a4, .inl (k4, 24, .inl (fun j => bI (dz j)))), (a5, .inl (k5, 24, .inl (fun j => bI (lq j))))]) ⟨hx, hb, hml, hown, hts⟩ (c0_isBlock l D b) (va_cwS 1 hts gX0_write_X0_isBlock rfl rfl rfl (by decide +kernel) ⟨Nat.le_of_ble_eq_true rfl, Nat.le_of_ble_eq_true rfl⟩) hK hP hD hS hA [] [0, 1, 2, 3, 4, 5] [] [0, 1, 2, 3, 4, 5] rfl rfl (by decide) rfl (by decide) (by decide) rfl (by decide) rfl hl.1 rfl (Nat.le_of_ble_eq_true rfl) dX0_write_8 ⟨Nat.zero_le _, Nat.zero_le _⟩ (fun H locs hP hD hS => ?_)
        refine tp_as (z := 0) (by rw [e1]; rfl) ?_
        refine lv_if_eq (tgt := 21) hx hb dX0_write_11 (by decide) (fun c_2 => ?_) (fun c_2 => ?_)
        · -- T of pc 11
          refine lv_iconst (v := 0) hx hb dX0_write_21 (by decide) ?_
          exact hret _ _ _ _ _ hP hD hS rfl dX0_write_22
        · -- F of pc 11
          exact absurd (by decide) c_2
    · rcases ix_cases 16 (by decide) q with ⟨e2, -⟩ | ⟨j, hj, rfl, e2⟩
      · simp only [xwr, e1, e2]
        refine ct_i.of (cc := cX0_write) (maxL := 4) (ty := .boolean) (by decide) rfl (Nat.le_of_ble_eq_true rfl) (nb_bI _) ?_
        intro p e s m args below meth c ls A Q hx hb hml hts hown hK hP hD hA hS hl hret
        have hown : s.vm.findClass RX0 = some m.cls := hown
        have hl : lv_has ls 4 [(0, .ref h0), (1, .int (nI i)), (2, .int q), (3, .int v)] := hl
        have hP : va_P D vwCl [(h0, .inr (0, [.ref a1, .ref a2, .ref a3, .ref a4, .ref a5, .int 1, .int (bI mk), .int (nI lc), .int (nI cu), .int (nI cs)])), (a1, .inl (k1, 384, .inl fw)), (a2, .inl (k2, 384, .inl fd)), (a3, .inl (k3, 384, .inl fb)), (a4, .inl (k4, 24, .inl (fun j => bI (dz j)))), (a5, .inl (k5, 24, .inl (fun j => bI (lq j))))] s.heap := hP
        have hD : va_D A [(h0, .inr (0, [.ref a1, .ref a2, .ref a3, .ref a4, .ref a5, .int 1, .int (bI mk), .int (nI lc), .int (nI cu), .int (nI cs)])), (a1, .inl (k1, 384, .inl fw)), (a2, .inl (k2, 384, .inl fd)), (a3, .inl (k3, 384, .inl fb)), (a4, .inl (k4, 24, .inl (fun j => bI (dz j)))), (a5, .inl (k5, 24, .inl (fun j => bI (lq j))))] := hD
        refine lv_aload_n hx hb dX0_write_0 rfl (lv_at hl 0 rfl) ?_
        refine va_get (ci := 0) (v := .int 1) (C := RX0) (T := TX0) (N := 10) hx hb hts (by decide +kernel) hown hK hP 0 rfl rfl 5 (by decide) (hts (.fieldLink RX0 26 "CommitLog" "powered" "Z") (by decide +kernel)) (fun _ h9 => h9) rfl dX0_write_1 ?_
        refine lv_if_eq (tgt := 21) hx hb dX0_write_4 (by decide) (fun c_1 => ?_) (fun c_1 => ?_)
        · -- T of pc 4
          exact absurd c_1 (by decide)
        · -- F of pc 4
          refine lv_iload_n hx hb dX0_write_7 rfl (lv_at hl 1 rfl) ?_
          refine ct_Si (As := [.int (nI i)]) (rest := []) (wr := [(h0, .inr (0, [.ref a1, .ref a2, .ref a3, .ref a4, .ref a5, .int 1, .int (bI mk), .int (nI lc), .int (nI cu), .int (nI cs)])), (a1, .inl (k1, 384, .inl fw)), (a2, .inl (k2, 384, .inl fd)), (a3, .inl (k3, 384, .inl fb)), (a4, .inl (k4, 24, .inl (fun j => bI (dz j)))), (a5, .inl (k5, 24, .inl (fun j => bI (lq j))))]) (wn := [(h0, .inr (0, [.ref a1, .ref a2, .ref a3, .ref a4, .ref a5, .int 1, .int (bI mk), .int (nI lc), .int (nI cu), .int (nI cs)])), (a1, .inl (k1, 384, .inl fw)), (a2, .inl (k2, 384, .inl fd)), (a3, .inl (k3, 384, .inl fb)), (a4, .inl (k4, 24, .inl (fun j => bI (dz j)))), (a5, .inl (k5, 24, .inl (fun j => bI (lq j))))]) ⟨hx, hb, hml, hown, hts⟩ (c0_isBlock l D (nI i)) (va_cwS 1 hts gX0_write_X0_isBlock rfl rfl rfl (by decide +kernel) ⟨Nat.le_of_ble_eq_true rfl, Nat.le_of_ble_eq_true rfl⟩) hK hP hD hS hA [] [0, 1, 2, 3, 4, 5] [] [0, 1, 2, 3, 4, 5] rfl rfl (by decide) rfl (by decide) (by decide) rfl (by decide) rfl hl.1 rfl (Nat.le_of_ble_eq_true rfl) dX0_write_8 ⟨Nat.zero_le _, Nat.zero_le _⟩ (fun H locs hP hD hS => ?_)
          refine tp_as (z := 1) (by rw [e1]; rfl) ?_
          refine lv_if_eq (tgt := 21) hx hb dX0_write_11 (by decide) (fun c_2 => ?_) (fun c_2 => ?_)
          · -- T of pc 11
            exact absurd c_2 (by decide)
          · -- F of pc 11
            refine lv_iload_n hx hb dX0_write_14 rfl (lv_at hl 2 rfl) ?_
            refine ct_Si (As := [.int q]) (rest := []) (wr := [(h0, .inr (0, [.ref a1, .ref a2, .ref a3, .ref a4, .ref a5, .int 1, .int (bI mk), .int (nI lc), .int (nI cu), .int (nI cs)])), (a1, .inl (k1, 384, .inl fw)), (a2, .inl (k2, 384, .inl fd)), (a3, .inl (k3, 384, .inl fb)), (a4, .inl (k4, 24, .inl (fun j => bI (dz j)))), (a5, .inl (k5, 24, .inl (fun j => bI (lq j))))]) (wn := [(h0, .inr (0, [.ref a1, .ref a2, .ref a3, .ref a4, .ref a5, .int 1, .int (bI mk), .int (nI lc), .int (nI cu), .int (nI cs)])), (a1, .inl (k1, 384, .inl fw)), (a2, .inl (k2, 384, .inl fd)), (a3, .inl (k3, 384, .inl fb)), (a4, .inl (k4, 24, .inl (fun j => bI (dz j)))), (a5, .inl (k5, 24, .inl (fun j => bI (lq j))))]) ⟨hx, hb, hml, hown, hts⟩ (c0_isPlace l D q) (va_cwS 1 hts gX0_write_X0_isPlace rfl rfl rfl (by decide +kernel) ⟨Nat.le_of_ble_eq_true rfl, Nat.le_of_ble_eq_true rfl⟩) hK hP hD hS hA [] [0, 1, 2, 3, 4, 5] [] [0, 1, 2, 3, 4, 5] rfl rfl (by decide) rfl (by decide) (by decide) rfl (by decide) rfl hl.1 rfl (Nat.le_of_ble_eq_true rfl) dX0_write_15 ⟨Nat.zero_le _, Nat.zero_le _⟩ (fun H locs hP hD hS => ?_)
            refine tp_as (z := 0) (by rw [e2]; rfl) ?_
            refine lv_if_ne (tgt := 23) hx hb dX0_write_18 (by decide) (fun c_3 => ?_) (fun c_3 => ?_)
            · -- T of pc 18
              exact absurd (by decide) c_3
            · -- F of pc 18
              refine lv_iconst (v := 0) hx hb dX0_write_21 (by decide) ?_
              exact hret _ _ _ _ _ hP hD hS rfl dX0_write_22
      · simp only [xwr, e1, e2]
        refine ct_i.of (cc := cX0_write) (maxL := 4) (ty := .boolean) (by decide) rfl (Nat.le_of_ble_eq_true rfl) (nb_bI _) ?_
        intro p e s m args below meth c ls A Q hx hb hml hts hown hK hP hD hA hS hl hret
        have hown : s.vm.findClass RX0 = some m.cls := hown
        have hl : lv_has ls 4 [(0, .ref h0), (1, .int (nI i)), (2, .int (nI j)), (3, .int v)] := hl
        have hP : va_P D vwCl [(h0, .inr (0, [.ref a1, .ref a2, .ref a3, .ref a4, .ref a5, .int 1, .int (bI mk), .int (nI lc), .int (nI cu), .int (nI cs)])), (a1, .inl (k1, 384, .inl fw)), (a2, .inl (k2, 384, .inl fd)), (a3, .inl (k3, 384, .inl fb)), (a4, .inl (k4, 24, .inl (fun j => bI (dz j)))), (a5, .inl (k5, 24, .inl (fun j => bI (lq j))))] s.heap := hP
        have hD : va_D A [(h0, .inr (0, [.ref a1, .ref a2, .ref a3, .ref a4, .ref a5, .int 1, .int (bI mk), .int (nI lc), .int (nI cu), .int (nI cs)])), (a1, .inl (k1, 384, .inl fw)), (a2, .inl (k2, 384, .inl fd)), (a3, .inl (k3, 384, .inl fb)), (a4, .inl (k4, 24, .inl (fun j => bI (dz j)))), (a5, .inl (k5, 24, .inl (fun j => bI (lq j))))] := hD
        refine lv_aload_n hx hb dX0_write_0 rfl (lv_at hl 0 rfl) ?_
        refine va_get (ci := 0) (v := .int 1) (C := RX0) (T := TX0) (N := 10) hx hb hts (by decide +kernel) hown hK hP 0 rfl rfl 5 (by decide) (hts (.fieldLink RX0 26 "CommitLog" "powered" "Z") (by decide +kernel)) (fun _ h9 => h9) rfl dX0_write_1 ?_
        refine lv_if_eq (tgt := 21) hx hb dX0_write_4 (by decide) (fun c_1 => ?_) (fun c_1 => ?_)
        · -- T of pc 4
          exact absurd c_1 (by decide)
        · -- F of pc 4
          refine lv_iload_n hx hb dX0_write_7 rfl (lv_at hl 1 rfl) ?_
          refine ct_Si (As := [.int (nI i)]) (rest := []) (wr := [(h0, .inr (0, [.ref a1, .ref a2, .ref a3, .ref a4, .ref a5, .int 1, .int (bI mk), .int (nI lc), .int (nI cu), .int (nI cs)])), (a1, .inl (k1, 384, .inl fw)), (a2, .inl (k2, 384, .inl fd)), (a3, .inl (k3, 384, .inl fb)), (a4, .inl (k4, 24, .inl (fun j => bI (dz j)))), (a5, .inl (k5, 24, .inl (fun j => bI (lq j))))]) (wn := [(h0, .inr (0, [.ref a1, .ref a2, .ref a3, .ref a4, .ref a5, .int 1, .int (bI mk), .int (nI lc), .int (nI cu), .int (nI cs)])), (a1, .inl (k1, 384, .inl fw)), (a2, .inl (k2, 384, .inl fd)), (a3, .inl (k3, 384, .inl fb)), (a4, .inl (k4, 24, .inl (fun j => bI (dz j)))), (a5, .inl (k5, 24, .inl (fun j => bI (lq j))))]) ⟨hx, hb, hml, hown, hts⟩ (c0_isBlock l D (nI i)) (va_cwS 1 hts gX0_write_X0_isBlock rfl rfl rfl (by decide +kernel) ⟨Nat.le_of_ble_eq_true rfl, Nat.le_of_ble_eq_true rfl⟩) hK hP hD hS hA [] [0, 1, 2, 3, 4, 5] [] [0, 1, 2, 3, 4, 5] rfl rfl (by decide) rfl (by decide) (by decide) rfl (by decide) rfl hl.1 rfl (Nat.le_of_ble_eq_true rfl) dX0_write_8 ⟨Nat.zero_le _, Nat.zero_le _⟩ (fun H locs hP hD hS => ?_)
          refine tp_as (z := 1) (by rw [e1]; rfl) ?_
          refine lv_if_eq (tgt := 21) hx hb dX0_write_11 (by decide) (fun c_2 => ?_) (fun c_2 => ?_)
          · -- T of pc 11
            exact absurd c_2 (by decide)
          · -- F of pc 11
            refine lv_iload_n hx hb dX0_write_14 rfl (lv_at hl 2 rfl) ?_
            refine ct_Si (As := [.int (nI j)]) (rest := []) (wr := [(h0, .inr (0, [.ref a1, .ref a2, .ref a3, .ref a4, .ref a5, .int 1, .int (bI mk), .int (nI lc), .int (nI cu), .int (nI cs)])), (a1, .inl (k1, 384, .inl fw)), (a2, .inl (k2, 384, .inl fd)), (a3, .inl (k3, 384, .inl fb)), (a4, .inl (k4, 24, .inl (fun j => bI (dz j)))), (a5, .inl (k5, 24, .inl (fun j => bI (lq j))))]) (wn := [(h0, .inr (0, [.ref a1, .ref a2, .ref a3, .ref a4, .ref a5, .int 1, .int (bI mk), .int (nI lc), .int (nI cu), .int (nI cs)])), (a1, .inl (k1, 384, .inl fw)), (a2, .inl (k2, 384, .inl fd)), (a3, .inl (k3, 384, .inl fb)), (a4, .inl (k4, 24, .inl (fun j => bI (dz j)))), (a5, .inl (k5, 24, .inl (fun j => bI (lq j))))]) ⟨hx, hb, hml, hown, hts⟩ (c0_isPlace l D (nI j)) (va_cwS 1 hts gX0_write_X0_isPlace rfl rfl rfl (by decide +kernel) ⟨Nat.le_of_ble_eq_true rfl, Nat.le_of_ble_eq_true rfl⟩) hK hP hD hS hA [] [0, 1, 2, 3, 4, 5] [] [0, 1, 2, 3, 4, 5] rfl rfl (by decide) rfl (by decide) (by decide) rfl (by decide) rfl hl.1 rfl (Nat.le_of_ble_eq_true rfl) dX0_write_15 ⟨Nat.zero_le _, Nat.zero_le _⟩ (fun H locs hP hD hS => ?_)
            refine tp_as (z := 1) (by rw [e2]; rfl) ?_
            refine lv_if_ne (tgt := 23) hx hb dX0_write_18 (by decide) (fun c_3 => ?_) (fun c_3 => ?_)
            · -- T of pc 18
              refine lv_aload_n hx hb dX0_write_23 rfl (lv_at hl 0 rfl) ?_
              refine va_get (ci := 0) (v := .ref a1) (C := RX0) (T := TX0) (N := 10) hx hb hts (by decide +kernel) hown hK hP 0 rfl rfl 0 (by decide) (hts (.fieldLink RX0 9 "CommitLog" "work" "[I") (by decide +kernel)) (fun _ h9 => h9) rfl dX0_write_24 ?_
              refine lv_iload_n hx hb dX0_write_27 rfl (lv_at hl 1 rfl) ?_
              refine lv_bipush (v := 16) hx hb dX0_write_28 (by decide) ?_
              refine lv_imul hx hb dX0_write_30 ?_
              refine tp_as (z := nI (i * 16)) (pk_mul i 16) ?_
              refine lv_iload_n hx hb dX0_write_31 rfl (lv_at hl 2 rfl) ?_
              refine lv_iadd hx hb dX0_write_32 ?_
              refine tp_as (z := nI (i * 16 + j)) (nI_add _ _) ?_
              refine lv_iload_n hx hb dX0_write_33 rfl (lv_at hl 3 rfl) ?_
              refine lv_sipush (v := 255) hx hb dX0_write_34 (by decide) ?_
              refine lv_iand hx hb dX0_write_37 ?_
              refine va_iast hx hb hK hP hD hS 1 0 rfl rfl (vp_in_nI (by omega) (by decide)) dX0_write_38 (fun H locs hP hD hS => ?_)
              rw [cl_nI (show i * 16 + j < 2 ^ 31 by omega)] at hP hD
              have hP : va_P D vwCl [(h0, .inr (0, [.ref a1, .ref a2, .ref a3, .ref a4, .ref a5, .int 1, .int (bI mk), .int (nI lc), .int (nI cu), .int (nI cs)])), (a1, .inl (k1, 384, .inl (upd fw (i * 16 + j) (v &&& 255)))), (a2, .inl (k2, 384, .inl fd)), (a3, .inl (k3, 384, .inl fb)), (a4, .inl (k4, 24, .inl (fun j => bI (dz j)))), (a5, .inl (k5, 24, .inl (fun j => bI (lq j))))] H := hP
              have hD : va_D _ [(h0, .inr (0, [.ref a1, .ref a2, .ref a3, .ref a4, .ref a5, .int 1, .int (bI mk), .int (nI lc), .int (nI cu), .int (nI cs)])), (a1, .inl (k1, 384, .inl (upd fw (i * 16 + j) (v &&& 255)))), (a2, .inl (k2, 384, .inl fd)), (a3, .inl (k3, 384, .inl fb)), (a4, .inl (k4, 24, .inl (fun j => bI (dz j)))), (a5, .inl (k5, 24, .inl (fun j => bI (lq j))))] := hD
              refine lv_aload_n hx hb dX0_write_39 rfl (lv_at hl 0 rfl) ?_
              refine va_get (ci := 0) (v := .ref a4) (C := RX0) (T := TX0) (N := 10) hx hb hts (by decide +kernel) hown hK hP 0 rfl rfl 3 (by decide) (hts (.fieldLink RX0 19 "CommitLog" "written" "[Z") (by decide +kernel)) (fun _ h9 => h9) rfl dX0_write_40 ?_
              refine lv_iload_n hx hb dX0_write_43 rfl (lv_at hl 1 rfl) ?_
              refine lv_iconst (v := 1) hx hb dX0_write_44 (by decide) ?_
              refine va_zast hx hb hK hP hD hS 4 3 rfl rfl (vp_in_nI (by omega) (by decide)) dX0_write_45 (fun H locs hP hD hS => ?_)
              rw [cl_nI (show i < 2 ^ 31 by omega), show vp_nar .boolean 1 = bI true from rfl, up_bI] at hP hD
              have hP : va_P D vwCl [(h0, .inr (0, [.ref a1, .ref a2, .ref a3, .ref a4, .ref a5, .int 1, .int (bI mk), .int (nI lc), .int (nI cu), .int (nI cs)])), (a1, .inl (k1, 384, .inl (upd fw (i * 16 + j) (v &&& 255)))), (a2, .inl (k2, 384, .inl fd)), (a3, .inl (k3, 384, .inl fb)), (a4, .inl (k4, 24, .inl (fun j => bI (va_up dz i true j)))), (a5, .inl (k5, 24, .inl (fun j => bI (lq j))))] H := hP
              have hD : va_D _ [(h0, .inr (0, [.ref a1, .ref a2, .ref a3, .ref a4, .ref a5, .int 1, .int (bI mk), .int (nI lc), .int (nI cu), .int (nI cs)])), (a1, .inl (k1, 384, .inl (upd fw (i * 16 + j) (v &&& 255)))), (a2, .inl (k2, 384, .inl fd)), (a3, .inl (k3, 384, .inl fb)), (a4, .inl (k4, 24, .inl (fun j => bI (va_up dz i true j)))), (a5, .inl (k5, 24, .inl (fun j => bI (lq j))))] := hD
              refine lv_iconst (v := 1) hx hb dX0_write_46 (by decide) ?_
              exact hret _ _ _ _ _ hP hD hS rfl dX0_write_47
            · -- F of pc 18
              exact absurd c_3 (by decide)
set_option maxHeartbeats 4000000 in
set_option maxRecDepth 100000 in
theorem c0_read (l : Launch) (D : va_G) (h0 a1 a2 a3 a4 a5 : Nat) (k1 k2 k3 k4 k5 : ClassId) (fw fd fb : Nat → Int32) (lq dz : Nat → Bool) (pw mk : Bool) (lc cu cs : Nat) (b q : Int32) : ct_i l yX0_read wsX0_read ({ frames := 1, cells := 0, slots := 0, locals := 20 }) D vwCl (XT k1 k2 k3 k4 k5) [.ref h0, .int b, .int q] (XW h0 a1 a2 a3 a4 a5 k1 k2 k3 k4 k5 fw fd fb lq dz pw mk lc cu cs) (XW h0 a1 a2 a3 a4 a5 k1 k2 k3 k4 k5 fw fd fb lq dz pw mk lc cu cs) (xrd pw fw b q) := by
  cases pw with
  | false =>
    simp only [xrd]
    refine ct_i.of (cc := cX0_read) (maxL := 3) (ty := .int) (by decide) rfl (Nat.le_of_ble_eq_true rfl) rfl ?_
    intro p e s m args below meth c ls A Q hx hb hml hts hown hK hP hD hA hS hl hret
    have hown : s.vm.findClass RX0 = some m.cls := hown
    have hl : lv_has ls 3 [(0, .ref h0), (1, .int b), (2, .int q)] := hl
    have hP : va_P D vwCl [(h0, .inr (0, [.ref a1, .ref a2, .ref a3, .ref a4, .ref a5, .int 0, .int (bI mk), .int (nI lc), .int (nI cu), .int (nI cs)])), (a1, .inl (k1, 384, .inl fw)), (a2, .inl (k2, 384, .inl fd)), (a3, .inl (k3, 384, .inl fb)), (a4, .inl (k4, 24, .inl (fun j => bI (dz j)))), (a5, .inl (k5, 24, .inl (fun j => bI (lq j))))] s.heap := hP
    have hD : va_D A [(h0, .inr (0, [.ref a1, .ref a2, .ref a3, .ref a4, .ref a5, .int 0, .int (bI mk), .int (nI lc), .int (nI cu), .int (nI cs)])), (a1, .inl (k1, 384, .inl fw)), (a2, .inl (k2, 384, .inl fd)), (a3, .inl (k3, 384, .inl fb)), (a4, .inl (k4, 24, .inl (fun j => bI (dz j)))), (a5, .inl (k5, 24, .inl (fun j => bI (lq j))))] := hD
    refine lv_aload_n hx hb dX0_read_0 rfl (lv_at hl 0 rfl) ?_
    refine va_get (ci := 0) (v := .int 0) (C := RX0) (T := TX0) (N := 10) hx hb hts (by decide +kernel) hown hK hP 0 rfl rfl 5 (by decide) (hts (.fieldLink RX0 26 "CommitLog" "powered" "Z") (by decide +kernel)) (fun _ h9 => h9) rfl dX0_read_1 ?_
    refine lv_if_eq (tgt := 21) hx hb dX0_read_4 (by decide) (fun c_1 => ?_) (fun c_1 => ?_)
    · -- T of pc 4
      refine lv_iconst (v := (-1)) hx hb dX0_read_21 (by decide) ?_
      exact hret _ _ _ _ _ hP hD hS rfl dX0_read_22
    · -- F of pc 4
      exact absurd (by decide) c_1
  | true =>
    rcases ix_cases 24 (by decide) b with ⟨e1, -⟩ | ⟨i, hi, rfl, e1⟩
    · simp only [xrd, e1]
      refine ct_i.of (cc := cX0_read) (maxL := 3) (ty := .int) (by decide) rfl (Nat.le_of_ble_eq_true rfl) rfl ?_
      intro p e s m args below meth c ls A Q hx hb hml hts hown hK hP hD hA hS hl hret
      have hown : s.vm.findClass RX0 = some m.cls := hown
      have hl : lv_has ls 3 [(0, .ref h0), (1, .int b), (2, .int q)] := hl
      have hP : va_P D vwCl [(h0, .inr (0, [.ref a1, .ref a2, .ref a3, .ref a4, .ref a5, .int 1, .int (bI mk), .int (nI lc), .int (nI cu), .int (nI cs)])), (a1, .inl (k1, 384, .inl fw)), (a2, .inl (k2, 384, .inl fd)), (a3, .inl (k3, 384, .inl fb)), (a4, .inl (k4, 24, .inl (fun j => bI (dz j)))), (a5, .inl (k5, 24, .inl (fun j => bI (lq j))))] s.heap := hP
      have hD : va_D A [(h0, .inr (0, [.ref a1, .ref a2, .ref a3, .ref a4, .ref a5, .int 1, .int (bI mk), .int (nI lc), .int (nI cu), .int (nI cs)])), (a1, .inl (k1, 384, .inl fw)), (a2, .inl (k2, 384, .inl fd)), (a3, .inl (k3, 384, .inl fb)), (a4, .inl (k4, 24, .inl (fun j => bI (dz j)))), (a5, .inl (k5, 24, .inl (fun j => bI (lq j))))] := hD
      refine lv_aload_n hx hb dX0_read_0 rfl (lv_at hl 0 rfl) ?_
      refine va_get (ci := 0) (v := .int 1) (C := RX0) (T := TX0) (N := 10) hx hb hts (by decide +kernel) hown hK hP 0 rfl rfl 5 (by decide) (hts (.fieldLink RX0 26 "CommitLog" "powered" "Z") (by decide +kernel)) (fun _ h9 => h9) rfl dX0_read_1 ?_
      refine lv_if_eq (tgt := 21) hx hb dX0_read_4 (by decide) (fun c_1 => ?_) (fun c_1 => ?_)
      · -- T of pc 4
        exact absurd c_1 (by decide)
      · -- F of pc 4
        refine lv_iload_n hx hb dX0_read_7 rfl (lv_at hl 1 rfl) ?_
        refine ct_Si (As := [.int b]) (rest := []) (wr := [(h0, .inr (0, [.ref a1, .ref a2, .ref a3, .ref a4, .ref a5, .int 1, .int (bI mk), .int (nI lc), .int (nI cu), .int (nI cs)])), (a1, .inl (k1, 384, .inl fw)), (a2, .inl (k2, 384, .inl fd)), (a3, .inl (k3, 384, .inl fb)), (a4, .inl (k4, 24, .inl (fun j => bI (dz j)))), (a5, .inl (k5, 24, .inl (fun j => bI (lq j))))]) (wn := [(h0, .inr (0, [.ref a1, .ref a2, .ref a3, .ref a4, .ref a5, .int 1, .int (bI mk), .int (nI lc), .int (nI cu), .int (nI cs)])), (a1, .inl (k1, 384, .inl fw)), (a2, .inl (k2, 384, .inl fd)), (a3, .inl (k3, 384, .inl fb)), (a4, .inl (k4, 24, .inl (fun j => bI (dz j)))), (a5, .inl (k5, 24, .inl (fun j => bI (lq j))))]) ⟨hx, hb, hml, hown, hts⟩ (c0_isBlock l D b) (va_cwS 1 hts gX0_read_X0_isBlock rfl rfl rfl (by decide +kernel) ⟨Nat.le_of_ble_eq_true rfl, Nat.le_of_ble_eq_true rfl⟩) hK hP hD hS hA [] [0, 1, 2, 3, 4, 5] [] [0, 1, 2, 3, 4, 5] rfl rfl (by decide) rfl (by decide) (by decide) rfl (by decide) rfl hl.1 rfl (Nat.le_of_ble_eq_true rfl) dX0_read_8 ⟨Nat.zero_le _, Nat.zero_le _⟩ (fun H locs hP hD hS => ?_)
        refine tp_as (z := 0) (by rw [e1]; rfl) ?_
        refine lv_if_eq (tgt := 21) hx hb dX0_read_11 (by decide) (fun c_2 => ?_) (fun c_2 => ?_)
        · -- T of pc 11
          refine lv_iconst (v := (-1)) hx hb dX0_read_21 (by decide) ?_
          exact hret _ _ _ _ _ hP hD hS rfl dX0_read_22
        · -- F of pc 11
          exact absurd (by decide) c_2
    · rcases ix_cases 16 (by decide) q with ⟨e2, -⟩ | ⟨j, hj, rfl, e2⟩
      · simp only [xrd, e1, e2]
        refine ct_i.of (cc := cX0_read) (maxL := 3) (ty := .int) (by decide) rfl (Nat.le_of_ble_eq_true rfl) rfl ?_
        intro p e s m args below meth c ls A Q hx hb hml hts hown hK hP hD hA hS hl hret
        have hown : s.vm.findClass RX0 = some m.cls := hown
        have hl : lv_has ls 3 [(0, .ref h0), (1, .int (nI i)), (2, .int q)] := hl
        have hP : va_P D vwCl [(h0, .inr (0, [.ref a1, .ref a2, .ref a3, .ref a4, .ref a5, .int 1, .int (bI mk), .int (nI lc), .int (nI cu), .int (nI cs)])), (a1, .inl (k1, 384, .inl fw)), (a2, .inl (k2, 384, .inl fd)), (a3, .inl (k3, 384, .inl fb)), (a4, .inl (k4, 24, .inl (fun j => bI (dz j)))), (a5, .inl (k5, 24, .inl (fun j => bI (lq j))))] s.heap := hP
        have hD : va_D A [(h0, .inr (0, [.ref a1, .ref a2, .ref a3, .ref a4, .ref a5, .int 1, .int (bI mk), .int (nI lc), .int (nI cu), .int (nI cs)])), (a1, .inl (k1, 384, .inl fw)), (a2, .inl (k2, 384, .inl fd)), (a3, .inl (k3, 384, .inl fb)), (a4, .inl (k4, 24, .inl (fun j => bI (dz j)))), (a5, .inl (k5, 24, .inl (fun j => bI (lq j))))] := hD
        refine lv_aload_n hx hb dX0_read_0 rfl (lv_at hl 0 rfl) ?_
        refine va_get (ci := 0) (v := .int 1) (C := RX0) (T := TX0) (N := 10) hx hb hts (by decide +kernel) hown hK hP 0 rfl rfl 5 (by decide) (hts (.fieldLink RX0 26 "CommitLog" "powered" "Z") (by decide +kernel)) (fun _ h9 => h9) rfl dX0_read_1 ?_
        refine lv_if_eq (tgt := 21) hx hb dX0_read_4 (by decide) (fun c_1 => ?_) (fun c_1 => ?_)
        · -- T of pc 4
          exact absurd c_1 (by decide)
        · -- F of pc 4
          refine lv_iload_n hx hb dX0_read_7 rfl (lv_at hl 1 rfl) ?_
          refine ct_Si (As := [.int (nI i)]) (rest := []) (wr := [(h0, .inr (0, [.ref a1, .ref a2, .ref a3, .ref a4, .ref a5, .int 1, .int (bI mk), .int (nI lc), .int (nI cu), .int (nI cs)])), (a1, .inl (k1, 384, .inl fw)), (a2, .inl (k2, 384, .inl fd)), (a3, .inl (k3, 384, .inl fb)), (a4, .inl (k4, 24, .inl (fun j => bI (dz j)))), (a5, .inl (k5, 24, .inl (fun j => bI (lq j))))]) (wn := [(h0, .inr (0, [.ref a1, .ref a2, .ref a3, .ref a4, .ref a5, .int 1, .int (bI mk), .int (nI lc), .int (nI cu), .int (nI cs)])), (a1, .inl (k1, 384, .inl fw)), (a2, .inl (k2, 384, .inl fd)), (a3, .inl (k3, 384, .inl fb)), (a4, .inl (k4, 24, .inl (fun j => bI (dz j)))), (a5, .inl (k5, 24, .inl (fun j => bI (lq j))))]) ⟨hx, hb, hml, hown, hts⟩ (c0_isBlock l D (nI i)) (va_cwS 1 hts gX0_read_X0_isBlock rfl rfl rfl (by decide +kernel) ⟨Nat.le_of_ble_eq_true rfl, Nat.le_of_ble_eq_true rfl⟩) hK hP hD hS hA [] [0, 1, 2, 3, 4, 5] [] [0, 1, 2, 3, 4, 5] rfl rfl (by decide) rfl (by decide) (by decide) rfl (by decide) rfl hl.1 rfl (Nat.le_of_ble_eq_true rfl) dX0_read_8 ⟨Nat.zero_le _, Nat.zero_le _⟩ (fun H locs hP hD hS => ?_)
          refine tp_as (z := 1) (by rw [e1]; rfl) ?_
          refine lv_if_eq (tgt := 21) hx hb dX0_read_11 (by decide) (fun c_2 => ?_) (fun c_2 => ?_)
          · -- T of pc 11
            exact absurd c_2 (by decide)
          · -- F of pc 11
            refine lv_iload_n hx hb dX0_read_14 rfl (lv_at hl 2 rfl) ?_
            refine ct_Si (As := [.int q]) (rest := []) (wr := [(h0, .inr (0, [.ref a1, .ref a2, .ref a3, .ref a4, .ref a5, .int 1, .int (bI mk), .int (nI lc), .int (nI cu), .int (nI cs)])), (a1, .inl (k1, 384, .inl fw)), (a2, .inl (k2, 384, .inl fd)), (a3, .inl (k3, 384, .inl fb)), (a4, .inl (k4, 24, .inl (fun j => bI (dz j)))), (a5, .inl (k5, 24, .inl (fun j => bI (lq j))))]) (wn := [(h0, .inr (0, [.ref a1, .ref a2, .ref a3, .ref a4, .ref a5, .int 1, .int (bI mk), .int (nI lc), .int (nI cu), .int (nI cs)])), (a1, .inl (k1, 384, .inl fw)), (a2, .inl (k2, 384, .inl fd)), (a3, .inl (k3, 384, .inl fb)), (a4, .inl (k4, 24, .inl (fun j => bI (dz j)))), (a5, .inl (k5, 24, .inl (fun j => bI (lq j))))]) ⟨hx, hb, hml, hown, hts⟩ (c0_isPlace l D q) (va_cwS 1 hts gX0_read_X0_isPlace rfl rfl rfl (by decide +kernel) ⟨Nat.le_of_ble_eq_true rfl, Nat.le_of_ble_eq_true rfl⟩) hK hP hD hS hA [] [0, 1, 2, 3, 4, 5] [] [0, 1, 2, 3, 4, 5] rfl rfl (by decide) rfl (by decide) (by decide) rfl (by decide) rfl hl.1 rfl (Nat.le_of_ble_eq_true rfl) dX0_read_15 ⟨Nat.zero_le _, Nat.zero_le _⟩ (fun H locs hP hD hS => ?_)
            refine tp_as (z := 0) (by rw [e2]; rfl) ?_
            refine lv_if_ne (tgt := 23) hx hb dX0_read_18 (by decide) (fun c_3 => ?_) (fun c_3 => ?_)
            · -- T of pc 18
              exact absurd (by decide) c_3
            · -- F of pc 18
              refine lv_iconst (v := (-1)) hx hb dX0_read_21 (by decide) ?_
              exact hret _ _ _ _ _ hP hD hS rfl dX0_read_22
      · simp only [xrd, e1, e2]
        refine ct_i.of (cc := cX0_read) (maxL := 3) (ty := .int) (by decide) rfl (Nat.le_of_ble_eq_true rfl) rfl ?_
        intro p e s m args below meth c ls A Q hx hb hml hts hown hK hP hD hA hS hl hret
        have hown : s.vm.findClass RX0 = some m.cls := hown
        have hl : lv_has ls 3 [(0, .ref h0), (1, .int (nI i)), (2, .int (nI j))] := hl
        have hP : va_P D vwCl [(h0, .inr (0, [.ref a1, .ref a2, .ref a3, .ref a4, .ref a5, .int 1, .int (bI mk), .int (nI lc), .int (nI cu), .int (nI cs)])), (a1, .inl (k1, 384, .inl fw)), (a2, .inl (k2, 384, .inl fd)), (a3, .inl (k3, 384, .inl fb)), (a4, .inl (k4, 24, .inl (fun j => bI (dz j)))), (a5, .inl (k5, 24, .inl (fun j => bI (lq j))))] s.heap := hP
        have hD : va_D A [(h0, .inr (0, [.ref a1, .ref a2, .ref a3, .ref a4, .ref a5, .int 1, .int (bI mk), .int (nI lc), .int (nI cu), .int (nI cs)])), (a1, .inl (k1, 384, .inl fw)), (a2, .inl (k2, 384, .inl fd)), (a3, .inl (k3, 384, .inl fb)), (a4, .inl (k4, 24, .inl (fun j => bI (dz j)))), (a5, .inl (k5, 24, .inl (fun j => bI (lq j))))] := hD
        refine lv_aload_n hx hb dX0_read_0 rfl (lv_at hl 0 rfl) ?_
        refine va_get (ci := 0) (v := .int 1) (C := RX0) (T := TX0) (N := 10) hx hb hts (by decide +kernel) hown hK hP 0 rfl rfl 5 (by decide) (hts (.fieldLink RX0 26 "CommitLog" "powered" "Z") (by decide +kernel)) (fun _ h9 => h9) rfl dX0_read_1 ?_
        refine lv_if_eq (tgt := 21) hx hb dX0_read_4 (by decide) (fun c_1 => ?_) (fun c_1 => ?_)
        · -- T of pc 4
          exact absurd c_1 (by decide)
        · -- F of pc 4
          refine lv_iload_n hx hb dX0_read_7 rfl (lv_at hl 1 rfl) ?_
          refine ct_Si (As := [.int (nI i)]) (rest := []) (wr := [(h0, .inr (0, [.ref a1, .ref a2, .ref a3, .ref a4, .ref a5, .int 1, .int (bI mk), .int (nI lc), .int (nI cu), .int (nI cs)])), (a1, .inl (k1, 384, .inl fw)), (a2, .inl (k2, 384, .inl fd)), (a3, .inl (k3, 384, .inl fb)), (a4, .inl (k4, 24, .inl (fun j => bI (dz j)))), (a5, .inl (k5, 24, .inl (fun j => bI (lq j))))]) (wn := [(h0, .inr (0, [.ref a1, .ref a2, .ref a3, .ref a4, .ref a5, .int 1, .int (bI mk), .int (nI lc), .int (nI cu), .int (nI cs)])), (a1, .inl (k1, 384, .inl fw)), (a2, .inl (k2, 384, .inl fd)), (a3, .inl (k3, 384, .inl fb)), (a4, .inl (k4, 24, .inl (fun j => bI (dz j)))), (a5, .inl (k5, 24, .inl (fun j => bI (lq j))))]) ⟨hx, hb, hml, hown, hts⟩ (c0_isBlock l D (nI i)) (va_cwS 1 hts gX0_read_X0_isBlock rfl rfl rfl (by decide +kernel) ⟨Nat.le_of_ble_eq_true rfl, Nat.le_of_ble_eq_true rfl⟩) hK hP hD hS hA [] [0, 1, 2, 3, 4, 5] [] [0, 1, 2, 3, 4, 5] rfl rfl (by decide) rfl (by decide) (by decide) rfl (by decide) rfl hl.1 rfl (Nat.le_of_ble_eq_true rfl) dX0_read_8 ⟨Nat.zero_le _, Nat.zero_le _⟩ (fun H locs hP hD hS => ?_)
          refine tp_as (z := 1) (by rw [e1]; rfl) ?_
          refine lv_if_eq (tgt := 21) hx hb dX0_read_11 (by decide) (fun c_2 => ?_) (fun c_2 => ?_)
          · -- T of pc 11
            exact absurd c_2 (by decide)
          · -- F of pc 11
            refine lv_iload_n hx hb dX0_read_14 rfl (lv_at hl 2 rfl) ?_
            refine ct_Si (As := [.int (nI j)]) (rest := []) (wr := [(h0, .inr (0, [.ref a1, .ref a2, .ref a3, .ref a4, .ref a5, .int 1, .int (bI mk), .int (nI lc), .int (nI cu), .int (nI cs)])), (a1, .inl (k1, 384, .inl fw)), (a2, .inl (k2, 384, .inl fd)), (a3, .inl (k3, 384, .inl fb)), (a4, .inl (k4, 24, .inl (fun j => bI (dz j)))), (a5, .inl (k5, 24, .inl (fun j => bI (lq j))))]) (wn := [(h0, .inr (0, [.ref a1, .ref a2, .ref a3, .ref a4, .ref a5, .int 1, .int (bI mk), .int (nI lc), .int (nI cu), .int (nI cs)])), (a1, .inl (k1, 384, .inl fw)), (a2, .inl (k2, 384, .inl fd)), (a3, .inl (k3, 384, .inl fb)), (a4, .inl (k4, 24, .inl (fun j => bI (dz j)))), (a5, .inl (k5, 24, .inl (fun j => bI (lq j))))]) ⟨hx, hb, hml, hown, hts⟩ (c0_isPlace l D (nI j)) (va_cwS 1 hts gX0_read_X0_isPlace rfl rfl rfl (by decide +kernel) ⟨Nat.le_of_ble_eq_true rfl, Nat.le_of_ble_eq_true rfl⟩) hK hP hD hS hA [] [0, 1, 2, 3, 4, 5] [] [0, 1, 2, 3, 4, 5] rfl rfl (by decide) rfl (by decide) (by decide) rfl (by decide) rfl hl.1 rfl (Nat.le_of_ble_eq_true rfl) dX0_read_15 ⟨Nat.zero_le _, Nat.zero_le _⟩ (fun H locs hP hD hS => ?_)
            refine tp_as (z := 1) (by rw [e2]; rfl) ?_
            refine lv_if_ne (tgt := 23) hx hb dX0_read_18 (by decide) (fun c_3 => ?_) (fun c_3 => ?_)
            · -- T of pc 18
              refine lv_aload_n hx hb dX0_read_23 rfl (lv_at hl 0 rfl) ?_
              refine va_get (ci := 0) (v := .ref a1) (C := RX0) (T := TX0) (N := 10) hx hb hts (by decide +kernel) hown hK hP 0 rfl rfl 0 (by decide) (hts (.fieldLink RX0 9 "CommitLog" "work" "[I") (by decide +kernel)) (fun _ h9 => h9) rfl dX0_read_24 ?_
              refine lv_iload_n hx hb dX0_read_27 rfl (lv_at hl 1 rfl) ?_
              refine lv_bipush (v := 16) hx hb dX0_read_28 (by decide) ?_
              refine lv_imul hx hb dX0_read_30 ?_
              refine tp_as (z := nI (i * 16)) (pk_mul i 16) ?_
              refine lv_iload_n hx hb dX0_read_31 rfl (lv_at hl 2 rfl) ?_
              refine lv_iadd hx hb dX0_read_32 ?_
              refine tp_as (z := nI (i * 16 + j)) (nI_add _ _) ?_
              refine va_iald hx hb hK hP 1 0 rfl rfl (vp_in_nI (by omega) (by decide)) dX0_read_33 ?_
              refine tp_as (z := fw (i * 16 + j)) (by show fw (nI (i * 16 + j)).toNatClampNeg = _; rw [cl_nI (by omega)]) ?_
              exact hret _ _ _ _ _ hP hD hS rfl dX0_read_34
            · -- F of pc 18
              exact absurd c_3 (by decide)
set_option maxHeartbeats 4000000 in
set_option maxRecDepth 100000 in
theorem c0_disk (l : Launch) (D : va_G) (h0 a1 a2 a3 a4 a5 : Nat) (k1 k2 k3 k4 k5 : ClassId) (fw fd fb : Nat → Int32) (lq dz : Nat → Bool) (pw mk : Bool) (lc cu cs : Nat) (b q : Int32) : ct_i l yX0_disk wsX0_disk ({ frames := 1, cells := 0, slots := 0, locals := 20 }) D vwCl (XT k1 k2 k3 k4 k5) [.ref h0, .int b, .int q] (XW h0 a1 a2 a3 a4 a5 k1 k2 k3 k4 k5 fw fd fb lq dz pw mk lc cu cs) (XW h0 a1 a2 a3 a4 a5 k1 k2 k3 k4 k5 fw fd fb lq dz pw mk lc cu cs) (xrd true fd b q) := by
  rcases ix_cases 24 (by decide) b with ⟨e1, -⟩ | ⟨i, hi, rfl, e1⟩
  · simp only [xrd, e1]
    refine ct_i.of (cc := cX0_disk) (maxL := 3) (ty := .int) (by decide) rfl (Nat.le_of_ble_eq_true rfl) rfl ?_
    intro p e s m args below meth c ls A Q hx hb hml hts hown hK hP hD hA hS hl hret
    have hown : s.vm.findClass RX0 = some m.cls := hown
    have hl : lv_has ls 3 [(0, .ref h0), (1, .int b), (2, .int q)] := hl
    have hP : va_P D vwCl [(h0, .inr (0, [.ref a1, .ref a2, .ref a3, .ref a4, .ref a5, .int (bI pw), .int (bI mk), .int (nI lc), .int (nI cu), .int (nI cs)])), (a1, .inl (k1, 384, .inl fw)), (a2, .inl (k2, 384, .inl fd)), (a3, .inl (k3, 384, .inl fb)), (a4, .inl (k4, 24, .inl (fun j => bI (dz j)))), (a5, .inl (k5, 24, .inl (fun j => bI (lq j))))] s.heap := hP
    have hD : va_D A [(h0, .inr (0, [.ref a1, .ref a2, .ref a3, .ref a4, .ref a5, .int (bI pw), .int (bI mk), .int (nI lc), .int (nI cu), .int (nI cs)])), (a1, .inl (k1, 384, .inl fw)), (a2, .inl (k2, 384, .inl fd)), (a3, .inl (k3, 384, .inl fb)), (a4, .inl (k4, 24, .inl (fun j => bI (dz j)))), (a5, .inl (k5, 24, .inl (fun j => bI (lq j))))] := hD
    refine lv_iload_n hx hb dX0_disk_0 rfl (lv_at hl 1 rfl) ?_
    refine ct_Si (As := [.int b]) (rest := []) (wr := [(h0, .inr (0, [.ref a1, .ref a2, .ref a3, .ref a4, .ref a5, .int (bI pw), .int (bI mk), .int (nI lc), .int (nI cu), .int (nI cs)])), (a1, .inl (k1, 384, .inl fw)), (a2, .inl (k2, 384, .inl fd)), (a3, .inl (k3, 384, .inl fb)), (a4, .inl (k4, 24, .inl (fun j => bI (dz j)))), (a5, .inl (k5, 24, .inl (fun j => bI (lq j))))]) (wn := [(h0, .inr (0, [.ref a1, .ref a2, .ref a3, .ref a4, .ref a5, .int (bI pw), .int (bI mk), .int (nI lc), .int (nI cu), .int (nI cs)])), (a1, .inl (k1, 384, .inl fw)), (a2, .inl (k2, 384, .inl fd)), (a3, .inl (k3, 384, .inl fb)), (a4, .inl (k4, 24, .inl (fun j => bI (dz j)))), (a5, .inl (k5, 24, .inl (fun j => bI (lq j))))]) ⟨hx, hb, hml, hown, hts⟩ (c0_isBlock l D b) (va_cwS 1 hts gX0_disk_X0_isBlock rfl rfl rfl (by decide +kernel) ⟨Nat.le_of_ble_eq_true rfl, Nat.le_of_ble_eq_true rfl⟩) hK hP hD hS hA [] [0, 1, 2, 3, 4, 5] [] [0, 1, 2, 3, 4, 5] rfl rfl (by decide) rfl (by decide) (by decide) rfl (by decide) rfl hl.1 rfl (Nat.le_of_ble_eq_true rfl) dX0_disk_1 ⟨Nat.zero_le _, Nat.zero_le _⟩ (fun H locs hP hD hS => ?_)
    refine tp_as (z := 0) (by rw [e1]; rfl) ?_
    refine lv_if_eq (tgt := 14) hx hb dX0_disk_4 (by decide) (fun c_1 => ?_) (fun c_1 => ?_)
    · -- T of pc 4
      refine lv_iconst (v := (-1)) hx hb dX0_disk_14 (by decide) ?_
      exact hret _ _ _ _ _ hP hD hS rfl dX0_disk_15
    · -- F of pc 4
      exact absurd (by decide) c_1
  · rcases ix_cases 16 (by decide) q with ⟨e2, -⟩ | ⟨j, hj, rfl, e2⟩
    · simp only [xrd, e1, e2]
      refine ct_i.of (cc := cX0_disk) (maxL := 3) (ty := .int) (by decide) rfl (Nat.le_of_ble_eq_true rfl) rfl ?_
      intro p e s m args below meth c ls A Q hx hb hml hts hown hK hP hD hA hS hl hret
      have hown : s.vm.findClass RX0 = some m.cls := hown
      have hl : lv_has ls 3 [(0, .ref h0), (1, .int (nI i)), (2, .int q)] := hl
      have hP : va_P D vwCl [(h0, .inr (0, [.ref a1, .ref a2, .ref a3, .ref a4, .ref a5, .int (bI pw), .int (bI mk), .int (nI lc), .int (nI cu), .int (nI cs)])), (a1, .inl (k1, 384, .inl fw)), (a2, .inl (k2, 384, .inl fd)), (a3, .inl (k3, 384, .inl fb)), (a4, .inl (k4, 24, .inl (fun j => bI (dz j)))), (a5, .inl (k5, 24, .inl (fun j => bI (lq j))))] s.heap := hP
      have hD : va_D A [(h0, .inr (0, [.ref a1, .ref a2, .ref a3, .ref a4, .ref a5, .int (bI pw), .int (bI mk), .int (nI lc), .int (nI cu), .int (nI cs)])), (a1, .inl (k1, 384, .inl fw)), (a2, .inl (k2, 384, .inl fd)), (a3, .inl (k3, 384, .inl fb)), (a4, .inl (k4, 24, .inl (fun j => bI (dz j)))), (a5, .inl (k5, 24, .inl (fun j => bI (lq j))))] := hD
      refine lv_iload_n hx hb dX0_disk_0 rfl (lv_at hl 1 rfl) ?_
      refine ct_Si (As := [.int (nI i)]) (rest := []) (wr := [(h0, .inr (0, [.ref a1, .ref a2, .ref a3, .ref a4, .ref a5, .int (bI pw), .int (bI mk), .int (nI lc), .int (nI cu), .int (nI cs)])), (a1, .inl (k1, 384, .inl fw)), (a2, .inl (k2, 384, .inl fd)), (a3, .inl (k3, 384, .inl fb)), (a4, .inl (k4, 24, .inl (fun j => bI (dz j)))), (a5, .inl (k5, 24, .inl (fun j => bI (lq j))))]) (wn := [(h0, .inr (0, [.ref a1, .ref a2, .ref a3, .ref a4, .ref a5, .int (bI pw), .int (bI mk), .int (nI lc), .int (nI cu), .int (nI cs)])), (a1, .inl (k1, 384, .inl fw)), (a2, .inl (k2, 384, .inl fd)), (a3, .inl (k3, 384, .inl fb)), (a4, .inl (k4, 24, .inl (fun j => bI (dz j)))), (a5, .inl (k5, 24, .inl (fun j => bI (lq j))))]) ⟨hx, hb, hml, hown, hts⟩ (c0_isBlock l D (nI i)) (va_cwS 1 hts gX0_disk_X0_isBlock rfl rfl rfl (by decide +kernel) ⟨Nat.le_of_ble_eq_true rfl, Nat.le_of_ble_eq_true rfl⟩) hK hP hD hS hA [] [0, 1, 2, 3, 4, 5] [] [0, 1, 2, 3, 4, 5] rfl rfl (by decide) rfl (by decide) (by decide) rfl (by decide) rfl hl.1 rfl (Nat.le_of_ble_eq_true rfl) dX0_disk_1 ⟨Nat.zero_le _, Nat.zero_le _⟩ (fun H locs hP hD hS => ?_)
      refine tp_as (z := 1) (by rw [e1]; rfl) ?_
      refine lv_if_eq (tgt := 14) hx hb dX0_disk_4 (by decide) (fun c_1 => ?_) (fun c_1 => ?_)
      · -- T of pc 4
        exact absurd c_1 (by decide)
      · -- F of pc 4
        refine lv_iload_n hx hb dX0_disk_7 rfl (lv_at hl 2 rfl) ?_
        refine ct_Si (As := [.int q]) (rest := []) (wr := [(h0, .inr (0, [.ref a1, .ref a2, .ref a3, .ref a4, .ref a5, .int (bI pw), .int (bI mk), .int (nI lc), .int (nI cu), .int (nI cs)])), (a1, .inl (k1, 384, .inl fw)), (a2, .inl (k2, 384, .inl fd)), (a3, .inl (k3, 384, .inl fb)), (a4, .inl (k4, 24, .inl (fun j => bI (dz j)))), (a5, .inl (k5, 24, .inl (fun j => bI (lq j))))]) (wn := [(h0, .inr (0, [.ref a1, .ref a2, .ref a3, .ref a4, .ref a5, .int (bI pw), .int (bI mk), .int (nI lc), .int (nI cu), .int (nI cs)])), (a1, .inl (k1, 384, .inl fw)), (a2, .inl (k2, 384, .inl fd)), (a3, .inl (k3, 384, .inl fb)), (a4, .inl (k4, 24, .inl (fun j => bI (dz j)))), (a5, .inl (k5, 24, .inl (fun j => bI (lq j))))]) ⟨hx, hb, hml, hown, hts⟩ (c0_isPlace l D q) (va_cwS 1 hts gX0_disk_X0_isPlace rfl rfl rfl (by decide +kernel) ⟨Nat.le_of_ble_eq_true rfl, Nat.le_of_ble_eq_true rfl⟩) hK hP hD hS hA [] [0, 1, 2, 3, 4, 5] [] [0, 1, 2, 3, 4, 5] rfl rfl (by decide) rfl (by decide) (by decide) rfl (by decide) rfl hl.1 rfl (Nat.le_of_ble_eq_true rfl) dX0_disk_8 ⟨Nat.zero_le _, Nat.zero_le _⟩ (fun H locs hP hD hS => ?_)
        refine tp_as (z := 0) (by rw [e2]; rfl) ?_
        refine lv_if_ne (tgt := 16) hx hb dX0_disk_11 (by decide) (fun c_2 => ?_) (fun c_2 => ?_)
        · -- T of pc 11
          exact absurd (by decide) c_2
        · -- F of pc 11
          refine lv_iconst (v := (-1)) hx hb dX0_disk_14 (by decide) ?_
          exact hret _ _ _ _ _ hP hD hS rfl dX0_disk_15
    · simp only [xrd, e1, e2]
      refine ct_i.of (cc := cX0_disk) (maxL := 3) (ty := .int) (by decide) rfl (Nat.le_of_ble_eq_true rfl) rfl ?_
      intro p e s m args below meth c ls A Q hx hb hml hts hown hK hP hD hA hS hl hret
      have hown : s.vm.findClass RX0 = some m.cls := hown
      have hl : lv_has ls 3 [(0, .ref h0), (1, .int (nI i)), (2, .int (nI j))] := hl
      have hP : va_P D vwCl [(h0, .inr (0, [.ref a1, .ref a2, .ref a3, .ref a4, .ref a5, .int (bI pw), .int (bI mk), .int (nI lc), .int (nI cu), .int (nI cs)])), (a1, .inl (k1, 384, .inl fw)), (a2, .inl (k2, 384, .inl fd)), (a3, .inl (k3, 384, .inl fb)), (a4, .inl (k4, 24, .inl (fun j => bI (dz j)))), (a5, .inl (k5, 24, .inl (fun j => bI (lq j))))] s.heap := hP
      have hD : va_D A [(h0, .inr (0, [.ref a1, .ref a2, .ref a3, .ref a4, .ref a5, .int (bI pw), .int (bI mk), .int (nI lc), .int (nI cu), .int (nI cs)])), (a1, .inl (k1, 384, .inl fw)), (a2, .inl (k2, 384, .inl fd)), (a3, .inl (k3, 384, .inl fb)), (a4, .inl (k4, 24, .inl (fun j => bI (dz j)))), (a5, .inl (k5, 24, .inl (fun j => bI (lq j))))] := hD
      refine lv_iload_n hx hb dX0_disk_0 rfl (lv_at hl 1 rfl) ?_
      refine ct_Si (As := [.int (nI i)]) (rest := []) (wr := [(h0, .inr (0, [.ref a1, .ref a2, .ref a3, .ref a4, .ref a5, .int (bI pw), .int (bI mk), .int (nI lc), .int (nI cu), .int (nI cs)])), (a1, .inl (k1, 384, .inl fw)), (a2, .inl (k2, 384, .inl fd)), (a3, .inl (k3, 384, .inl fb)), (a4, .inl (k4, 24, .inl (fun j => bI (dz j)))), (a5, .inl (k5, 24, .inl (fun j => bI (lq j))))]) (wn := [(h0, .inr (0, [.ref a1, .ref a2, .ref a3, .ref a4, .ref a5, .int (bI pw), .int (bI mk), .int (nI lc), .int (nI cu), .int (nI cs)])), (a1, .inl (k1, 384, .inl fw)), (a2, .inl (k2, 384, .inl fd)), (a3, .inl (k3, 384, .inl fb)), (a4, .inl (k4, 24, .inl (fun j => bI (dz j)))), (a5, .inl (k5, 24, .inl (fun j => bI (lq j))))]) ⟨hx, hb, hml, hown, hts⟩ (c0_isBlock l D (nI i)) (va_cwS 1 hts gX0_disk_X0_isBlock rfl rfl rfl (by decide +kernel) ⟨Nat.le_of_ble_eq_true rfl, Nat.le_of_ble_eq_true rfl⟩) hK hP hD hS hA [] [0, 1, 2, 3, 4, 5] [] [0, 1, 2, 3, 4, 5] rfl rfl (by decide) rfl (by decide) (by decide) rfl (by decide) rfl hl.1 rfl (Nat.le_of_ble_eq_true rfl) dX0_disk_1 ⟨Nat.zero_le _, Nat.zero_le _⟩ (fun H locs hP hD hS => ?_)
      refine tp_as (z := 1) (by rw [e1]; rfl) ?_
      refine lv_if_eq (tgt := 14) hx hb dX0_disk_4 (by decide) (fun c_1 => ?_) (fun c_1 => ?_)
      · -- T of pc 4
        exact absurd c_1 (by decide)
      · -- F of pc 4
        refine lv_iload_n hx hb dX0_disk_7 rfl (lv_at hl 2 rfl) ?_
        refine ct_Si (As := [.int (nI j)]) (rest := []) (wr := [(h0, .inr (0, [.ref a1, .ref a2, .ref a3, .ref a4, .ref a5, .int (bI pw), .int (bI mk), .int (nI lc), .int (nI cu), .int (nI cs)])), (a1, .inl (k1, 384, .inl fw)), (a2, .inl (k2, 384, .inl fd)), (a3, .inl (k3, 384, .inl fb)), (a4, .inl (k4, 24, .inl (fun j => bI (dz j)))), (a5, .inl (k5, 24, .inl (fun j => bI (lq j))))]) (wn := [(h0, .inr (0, [.ref a1, .ref a2, .ref a3, .ref a4, .ref a5, .int (bI pw), .int (bI mk), .int (nI lc), .int (nI cu), .int (nI cs)])), (a1, .inl (k1, 384, .inl fw)), (a2, .inl (k2, 384, .inl fd)), (a3, .inl (k3, 384, .inl fb)), (a4, .inl (k4, 24, .inl (fun j => bI (dz j)))), (a5, .inl (k5, 24, .inl (fun j => bI (lq j))))]) ⟨hx, hb, hml, hown, hts⟩ (c0_isPlace l D (nI j)) (va_cwS 1 hts gX0_disk_X0_isPlace rfl rfl rfl (by decide +kernel) ⟨Nat.le_of_ble_eq_true rfl, Nat.le_of_ble_eq_true rfl⟩) hK hP hD hS hA [] [0, 1, 2, 3, 4, 5] [] [0, 1, 2, 3, 4, 5] rfl rfl (by decide) rfl (by decide) (by decide) rfl (by decide) rfl hl.1 rfl (Nat.le_of_ble_eq_true rfl) dX0_disk_8 ⟨Nat.zero_le _, Nat.zero_le _⟩ (fun H locs hP hD hS => ?_)
        refine tp_as (z := 1) (by rw [e2]; rfl) ?_
        refine lv_if_ne (tgt := 16) hx hb dX0_disk_11 (by decide) (fun c_2 => ?_) (fun c_2 => ?_)
        · -- T of pc 11
          refine lv_aload_n hx hb dX0_disk_16 rfl (lv_at hl 0 rfl) ?_
          refine va_get (ci := 0) (v := .ref a2) (C := RX0) (T := TX0) (N := 10) hx hb hts (by decide +kernel) hown hK hP 0 rfl rfl 1 (by decide) (hts (.fieldLink RX0 13 "CommitLog" "onDisk" "[I") (by decide +kernel)) (fun _ h9 => h9) rfl dX0_disk_17 ?_
          refine lv_iload_n hx hb dX0_disk_20 rfl (lv_at hl 1 rfl) ?_
          refine lv_bipush (v := 16) hx hb dX0_disk_21 (by decide) ?_
          refine lv_imul hx hb dX0_disk_23 ?_
          refine tp_as (z := nI (i * 16)) (pk_mul i 16) ?_
          refine lv_iload_n hx hb dX0_disk_24 rfl (lv_at hl 2 rfl) ?_
          refine lv_iadd hx hb dX0_disk_25 ?_
          refine tp_as (z := nI (i * 16 + j)) (nI_add _ _) ?_
          refine va_iald hx hb hK hP 2 1 rfl rfl (vp_in_nI (by omega) (by decide)) dX0_disk_26 ?_
          refine tp_as (z := fd (i * 16 + j)) (by show fd (nI (i * 16 + j)).toNatClampNeg = _; rw [cl_nI (by omega)]) ?_
          exact hret _ _ _ _ _ hP hD hS rfl dX0_disk_27
        · -- F of pc 11
          exact absurd c_2 (by decide)
set_option maxHeartbeats 4000000 in
set_option maxRecDepth 100000 in
theorem c0_dirty (l : Launch) (D : va_G) (h0 a1 a2 a3 a4 a5 : Nat) (k1 k2 k3 k4 k5 : ClassId) (fw fd fb : Nat → Int32) (lq dz : Nat → Bool) (pw mk : Bool) (lc cu cs : Nat) (b : Int32) : ct_i l yX0_dirty wsX0_dirty ({ frames := 1, cells := 0, slots := 0, locals := 20 }) D vwCl (XT k1 k2 k3 k4 k5) [.ref h0, .int b] (XW h0 a1 a2 a3 a4 a5 k1 k2 k3 k4 k5 fw fd fb lq dz pw mk lc cu cs) (XW h0 a1 a2 a3 a4 a5 k1 k2 k3 k4 k5 fw fd fb lq dz pw mk lc cu cs) (bI (xdt pw dz b)) := by
  cases pw with
  | false =>
    simp only [xdt]
    refine ct_i.of (cc := cX0_dirty) (maxL := 2) (ty := .boolean) (by decide) rfl (Nat.le_of_ble_eq_true rfl) (nb_bI _) ?_
    intro p e s m args below meth c ls A Q hx hb hml hts hown hK hP hD hA hS hl hret
    have hown : s.vm.findClass RX0 = some m.cls := hown
    have hl : lv_has ls 2 [(0, .ref h0), (1, .int b)] := hl
    have hP : va_P D vwCl [(h0, .inr (0, [.ref a1, .ref a2, .ref a3, .ref a4, .ref a5, .int 0, .int (bI mk), .int (nI lc), .int (nI cu), .int (nI cs)])), (a1, .inl (k1, 384, .inl fw)), (a2, .inl (k2, 384, .inl fd)), (a3, .inl (k3, 384, .inl fb)), (a4, .inl (k4, 24, .inl (fun j => bI (dz j)))), (a5, .inl (k5, 24, .inl (fun j => bI (lq j))))] s.heap := hP
    have hD : va_D A [(h0, .inr (0, [.ref a1, .ref a2, .ref a3, .ref a4, .ref a5, .int 0, .int (bI mk), .int (nI lc), .int (nI cu), .int (nI cs)])), (a1, .inl (k1, 384, .inl fw)), (a2, .inl (k2, 384, .inl fd)), (a3, .inl (k3, 384, .inl fb)), (a4, .inl (k4, 24, .inl (fun j => bI (dz j)))), (a5, .inl (k5, 24, .inl (fun j => bI (lq j))))] := hD
    refine lv_aload_n hx hb dX0_dirty_0 rfl (lv_at hl 0 rfl) ?_
    refine va_get (ci := 0) (v := .int 0) (C := RX0) (T := TX0) (N := 10) hx hb hts (by decide +kernel) hown hK hP 0 rfl rfl 5 (by decide) (hts (.fieldLink RX0 26 "CommitLog" "powered" "Z") (by decide +kernel)) (fun _ h9 => h9) rfl dX0_dirty_1 ?_
    refine lv_if_eq (tgt := 27) hx hb dX0_dirty_4 (by decide) (fun c_1 => ?_) (fun c_1 => ?_)
    · -- T of pc 4
      refine lv_iconst (v := 0) hx hb dX0_dirty_27 (by decide) ?_
      exact hret _ _ _ _ _ hP hD hS rfl dX0_dirty_28
    · -- F of pc 4
      exact absurd (by decide) c_1
  | true =>
    rcases ix_cases 24 (by decide) b with ⟨e1, -⟩ | ⟨i, hi, rfl, e1⟩
    · simp only [xdt, e1]
      refine ct_i.of (cc := cX0_dirty) (maxL := 2) (ty := .boolean) (by decide) rfl (Nat.le_of_ble_eq_true rfl) (nb_bI _) ?_
      intro p e s m args below meth c ls A Q hx hb hml hts hown hK hP hD hA hS hl hret
      have hown : s.vm.findClass RX0 = some m.cls := hown
      have hl : lv_has ls 2 [(0, .ref h0), (1, .int b)] := hl
      have hP : va_P D vwCl [(h0, .inr (0, [.ref a1, .ref a2, .ref a3, .ref a4, .ref a5, .int 1, .int (bI mk), .int (nI lc), .int (nI cu), .int (nI cs)])), (a1, .inl (k1, 384, .inl fw)), (a2, .inl (k2, 384, .inl fd)), (a3, .inl (k3, 384, .inl fb)), (a4, .inl (k4, 24, .inl (fun j => bI (dz j)))), (a5, .inl (k5, 24, .inl (fun j => bI (lq j))))] s.heap := hP
      have hD : va_D A [(h0, .inr (0, [.ref a1, .ref a2, .ref a3, .ref a4, .ref a5, .int 1, .int (bI mk), .int (nI lc), .int (nI cu), .int (nI cs)])), (a1, .inl (k1, 384, .inl fw)), (a2, .inl (k2, 384, .inl fd)), (a3, .inl (k3, 384, .inl fb)), (a4, .inl (k4, 24, .inl (fun j => bI (dz j)))), (a5, .inl (k5, 24, .inl (fun j => bI (lq j))))] := hD
      refine lv_aload_n hx hb dX0_dirty_0 rfl (lv_at hl 0 rfl) ?_
      refine va_get (ci := 0) (v := .int 1) (C := RX0) (T := TX0) (N := 10) hx hb hts (by decide +kernel) hown hK hP 0 rfl rfl 5 (by decide) (hts (.fieldLink RX0 26 "CommitLog" "powered" "Z") (by decide +kernel)) (fun _ h9 => h9) rfl dX0_dirty_1 ?_
      refine lv_if_eq (tgt := 27) hx hb dX0_dirty_4 (by decide) (fun c_1 => ?_) (fun c_1 => ?_)
      · -- T of pc 4
        exact absurd c_1 (by decide)
      · -- F of pc 4
        refine lv_iload_n hx hb dX0_dirty_7 rfl (lv_at hl 1 rfl) ?_
        refine ct_Si (As := [.int b]) (rest := []) (wr := [(h0, .inr (0, [.ref a1, .ref a2, .ref a3, .ref a4, .ref a5, .int 1, .int (bI mk), .int (nI lc), .int (nI cu), .int (nI cs)])), (a1, .inl (k1, 384, .inl fw)), (a2, .inl (k2, 384, .inl fd)), (a3, .inl (k3, 384, .inl fb)), (a4, .inl (k4, 24, .inl (fun j => bI (dz j)))), (a5, .inl (k5, 24, .inl (fun j => bI (lq j))))]) (wn := [(h0, .inr (0, [.ref a1, .ref a2, .ref a3, .ref a4, .ref a5, .int 1, .int (bI mk), .int (nI lc), .int (nI cu), .int (nI cs)])), (a1, .inl (k1, 384, .inl fw)), (a2, .inl (k2, 384, .inl fd)), (a3, .inl (k3, 384, .inl fb)), (a4, .inl (k4, 24, .inl (fun j => bI (dz j)))), (a5, .inl (k5, 24, .inl (fun j => bI (lq j))))]) ⟨hx, hb, hml, hown, hts⟩ (c0_isBlock l D b) (va_cwS 1 hts gX0_dirty_X0_isBlock rfl rfl rfl (by decide +kernel) ⟨Nat.le_of_ble_eq_true rfl, Nat.le_of_ble_eq_true rfl⟩) hK hP hD hS hA [] [0, 1, 2, 3, 4, 5] [] [0, 1, 2, 3, 4, 5] rfl rfl (by decide) rfl (by decide) (by decide) rfl (by decide) rfl hl.1 rfl (Nat.le_of_ble_eq_true rfl) dX0_dirty_8 ⟨Nat.zero_le _, Nat.zero_le _⟩ (fun H locs hP hD hS => ?_)
        refine tp_as (z := 0) (by rw [e1]; rfl) ?_
        refine lv_if_eq (tgt := 27) hx hb dX0_dirty_11 (by decide) (fun c_2 => ?_) (fun c_2 => ?_)
        · -- T of pc 11
          refine lv_iconst (v := 0) hx hb dX0_dirty_27 (by decide) ?_
          exact hret _ _ _ _ _ hP hD hS rfl dX0_dirty_28
        · -- F of pc 11
          exact absurd (by decide) c_2
    · simp only [xdt, e1]
      refine ct_i.of (cc := cX0_dirty) (maxL := 2) (ty := .boolean) (by decide) rfl (Nat.le_of_ble_eq_true rfl) (nb_bI _) ?_
      intro p e s m args below meth c ls A Q hx hb hml hts hown hK hP hD hA hS hl hret
      have hown : s.vm.findClass RX0 = some m.cls := hown
      have hl : lv_has ls 2 [(0, .ref h0), (1, .int (nI i))] := hl
      have hP : va_P D vwCl [(h0, .inr (0, [.ref a1, .ref a2, .ref a3, .ref a4, .ref a5, .int 1, .int (bI mk), .int (nI lc), .int (nI cu), .int (nI cs)])), (a1, .inl (k1, 384, .inl fw)), (a2, .inl (k2, 384, .inl fd)), (a3, .inl (k3, 384, .inl fb)), (a4, .inl (k4, 24, .inl (fun j => bI (dz j)))), (a5, .inl (k5, 24, .inl (fun j => bI (lq j))))] s.heap := hP
      have hD : va_D A [(h0, .inr (0, [.ref a1, .ref a2, .ref a3, .ref a4, .ref a5, .int 1, .int (bI mk), .int (nI lc), .int (nI cu), .int (nI cs)])), (a1, .inl (k1, 384, .inl fw)), (a2, .inl (k2, 384, .inl fd)), (a3, .inl (k3, 384, .inl fb)), (a4, .inl (k4, 24, .inl (fun j => bI (dz j)))), (a5, .inl (k5, 24, .inl (fun j => bI (lq j))))] := hD
      refine lv_aload_n hx hb dX0_dirty_0 rfl (lv_at hl 0 rfl) ?_
      refine va_get (ci := 0) (v := .int 1) (C := RX0) (T := TX0) (N := 10) hx hb hts (by decide +kernel) hown hK hP 0 rfl rfl 5 (by decide) (hts (.fieldLink RX0 26 "CommitLog" "powered" "Z") (by decide +kernel)) (fun _ h9 => h9) rfl dX0_dirty_1 ?_
      refine lv_if_eq (tgt := 27) hx hb dX0_dirty_4 (by decide) (fun c_1 => ?_) (fun c_1 => ?_)
      · -- T of pc 4
        exact absurd c_1 (by decide)
      · -- F of pc 4
        refine lv_iload_n hx hb dX0_dirty_7 rfl (lv_at hl 1 rfl) ?_
        refine ct_Si (As := [.int (nI i)]) (rest := []) (wr := [(h0, .inr (0, [.ref a1, .ref a2, .ref a3, .ref a4, .ref a5, .int 1, .int (bI mk), .int (nI lc), .int (nI cu), .int (nI cs)])), (a1, .inl (k1, 384, .inl fw)), (a2, .inl (k2, 384, .inl fd)), (a3, .inl (k3, 384, .inl fb)), (a4, .inl (k4, 24, .inl (fun j => bI (dz j)))), (a5, .inl (k5, 24, .inl (fun j => bI (lq j))))]) (wn := [(h0, .inr (0, [.ref a1, .ref a2, .ref a3, .ref a4, .ref a5, .int 1, .int (bI mk), .int (nI lc), .int (nI cu), .int (nI cs)])), (a1, .inl (k1, 384, .inl fw)), (a2, .inl (k2, 384, .inl fd)), (a3, .inl (k3, 384, .inl fb)), (a4, .inl (k4, 24, .inl (fun j => bI (dz j)))), (a5, .inl (k5, 24, .inl (fun j => bI (lq j))))]) ⟨hx, hb, hml, hown, hts⟩ (c0_isBlock l D (nI i)) (va_cwS 1 hts gX0_dirty_X0_isBlock rfl rfl rfl (by decide +kernel) ⟨Nat.le_of_ble_eq_true rfl, Nat.le_of_ble_eq_true rfl⟩) hK hP hD hS hA [] [0, 1, 2, 3, 4, 5] [] [0, 1, 2, 3, 4, 5] rfl rfl (by decide) rfl (by decide) (by decide) rfl (by decide) rfl hl.1 rfl (Nat.le_of_ble_eq_true rfl) dX0_dirty_8 ⟨Nat.zero_le _, Nat.zero_le _⟩ (fun H locs hP hD hS => ?_)
        refine tp_as (z := 1) (by rw [e1]; rfl) ?_
        refine lv_if_eq (tgt := 27) hx hb dX0_dirty_11 (by decide) (fun c_2 => ?_) (fun c_2 => ?_)
        · -- T of pc 11
          exact absurd c_2 (by decide)
        · -- F of pc 11
          refine lv_aload_n hx hb dX0_dirty_14 rfl (lv_at hl 0 rfl) ?_
          refine va_get (ci := 0) (v := .ref a4) (C := RX0) (T := TX0) (N := 10) hx hb hts (by decide +kernel) hown hK hP 0 rfl rfl 3 (by decide) (hts (.fieldLink RX0 19 "CommitLog" "written" "[Z") (by decide +kernel)) (fun _ h9 => h9) rfl dX0_dirty_15 ?_
          refine lv_iload_n hx hb dX0_dirty_18 rfl (lv_at hl 1 rfl) ?_
          refine va_zald hx hb hK hP 4 3 rfl rfl (vp_in_nI (by omega) (by decide)) dX0_dirty_19 ?_
          refine tp_as (z := bI (dz i)) (by show bI (dz (nI i).toNatClampNeg) = _; rw [cl_nI (by omega)]) ?_
          refine lv_if_eq (tgt := 27) hx hb dX0_dirty_20 (by decide) (fun c_3 => ?_) (fun c_3 => ?_)
          · -- T of pc 20
            refine lv_iconst (v := 0) hx hb dX0_dirty_27 (by decide) ?_
            exact hret _ _ _ _ _ hP hD hS (by first | rfl | exact dz_0 (by assumption) | exact dz_1 (by assumption)) dX0_dirty_28
          · -- F of pc 20
            refine lv_iconst (v := 1) hx hb dX0_dirty_23 (by decide) ?_
            refine lv_goto (tgt := 28) hx hb dX0_dirty_24 (by decide) ?_
            exact hret _ _ _ _ _ hP hD hS (by first | rfl | exact dz_0 (by assumption) | exact dz_1 (by assumption)) dX0_dirty_28
set_option maxHeartbeats 4000000 in
set_option maxRecDepth 100000 in
theorem c0_revert (l : Launch) (D : va_G) (h0 a1 a2 a3 a4 a5 : Nat) (k1 k2 k3 k4 k5 : ClassId) (fw fd fb : Nat → Int32) (lq dz : Nat → Bool) (pw mk : Bool) (lc cu cs : Nat) : ct_i l yX0_revert wsX0_revert ({ frames := 2, cells := 0, slots := 0, locals := 41 }) D vwCl (XT k1 k2 k3 k4 k5) [.ref h0] (XW h0 a1 a2 a3 a4 a5 k1 k2 k3 k4 k5 fw fd fb lq dz pw mk lc cu cs) (XW h0 a1 a2 a3 a4 a5 k1 k2 k3 k4 k5 (bif pw then va_cpy fd fw 0 0 384 else fw) fd fb lq (bif pw then clr dz 24 else dz) pw mk lc cu cs) (bI pw) := by
  cases pw with
  | false =>
    refine ct_i.of (cc := cX0_revert) (maxL := 1) (ty := .boolean) (by decide) rfl (Nat.le_of_ble_eq_true rfl) (nb_bI _) ?_
    intro p e s m args below meth c ls A Q hx hb hml hts hown hK hP hD hA hS hl hret
    have hown : s.vm.findClass RX0 = some m.cls := hown
    have hl : lv_has ls 1 [(0, .ref h0)] := hl
    have hP : va_P D vwCl [(h0, .inr (0, [.ref a1, .ref a2, .ref a3, .ref a4, .ref a5, .int 0, .int (bI mk), .int (nI lc), .int (nI cu), .int (nI cs)])), (a1, .inl (k1, 384, .inl fw)), (a2, .inl (k2, 384, .inl fd)), (a3, .inl (k3, 384, .inl fb)), (a4, .inl (k4, 24, .inl (fun j => bI (dz j)))), (a5, .inl (k5, 24, .inl (fun j => bI (lq j))))] s.heap := hP
    have hD : va_D A [(h0, .inr (0, [.ref a1, .ref a2, .ref a3, .ref a4, .ref a5, .int 0, .int (bI mk), .int (nI lc), .int (nI cu), .int (nI cs)])), (a1, .inl (k1, 384, .inl fw)), (a2, .inl (k2, 384, .inl fd)), (a3, .inl (k3, 384, .inl fb)), (a4, .inl (k4, 24, .inl (fun j => bI (dz j)))), (a5, .inl (k5, 24, .inl (fun j => bI (lq j))))] := hD
    refine lv_aload_n hx hb dX0_revert_0 rfl (lv_at hl 0 rfl) ?_
    refine va_get (ci := 0) (v := .int 0) (C := RX0) (T := TX0) (N := 10) hx hb hts (by decide +kernel) hown hK hP 0 rfl rfl 5 (by decide) (hts (.fieldLink RX0 26 "CommitLog" "powered" "Z") (by decide +kernel)) (fun _ h9 => h9) rfl dX0_revert_1 ?_
    refine lv_if_ne (tgt := 9) hx hb dX0_revert_4 (by decide) (fun c_1 => ?_) (fun c_1 => ?_)
    · -- T of pc 4
      exact absurd (by decide) c_1
    · -- F of pc 4
      refine lv_iconst (v := 0) hx hb dX0_revert_7 (by decide) ?_
      exact hret _ _ _ _ _ hP hD hS rfl dX0_revert_8
  | true =>
    refine ct_i.of (cc := cX0_revert) (maxL := 1) (ty := .boolean) (by decide) rfl (Nat.le_of_ble_eq_true rfl) (nb_bI _) ?_
    intro p e s m args below meth c ls A Q hx hb hml hts hown hK hP hD hA hS hl hret
    have hown : s.vm.findClass RX0 = some m.cls := hown
    have hl : lv_has ls 1 [(0, .ref h0)] := hl
    have hP : va_P D vwCl [(h0, .inr (0, [.ref a1, .ref a2, .ref a3, .ref a4, .ref a5, .int 1, .int (bI mk), .int (nI lc), .int (nI cu), .int (nI cs)])), (a1, .inl (k1, 384, .inl fw)), (a2, .inl (k2, 384, .inl fd)), (a3, .inl (k3, 384, .inl fb)), (a4, .inl (k4, 24, .inl (fun j => bI (dz j)))), (a5, .inl (k5, 24, .inl (fun j => bI (lq j))))] s.heap := hP
    have hD : va_D A [(h0, .inr (0, [.ref a1, .ref a2, .ref a3, .ref a4, .ref a5, .int 1, .int (bI mk), .int (nI lc), .int (nI cu), .int (nI cs)])), (a1, .inl (k1, 384, .inl fw)), (a2, .inl (k2, 384, .inl fd)), (a3, .inl (k3, 384, .inl fb)), (a4, .inl (k4, 24, .inl (fun j => bI (dz j)))), (a5, .inl (k5, 24, .inl (fun j => bI (lq j))))] := hD
    refine lv_aload_n hx hb dX0_revert_0 rfl (lv_at hl 0 rfl) ?_
    refine va_get (ci := 0) (v := .int 1) (C := RX0) (T := TX0) (N := 10) hx hb hts (by decide +kernel) hown hK hP 0 rfl rfl 5 (by decide) (hts (.fieldLink RX0 26 "CommitLog" "powered" "Z") (by decide +kernel)) (fun _ h9 => h9) rfl dX0_revert_1 ?_
    refine lv_if_ne (tgt := 9) hx hb dX0_revert_4 (by decide) (fun c_1 => ?_) (fun c_1 => ?_)
    · -- T of pc 4
      refine lv_aload_n hx hb dX0_revert_9 rfl (lv_at hl 0 rfl) ?_
      refine ct_Vv (As := []) (rest := []) (wr := []) (wn := [(h0, .inr (0, [.ref a1, .ref a2, .ref a3, .ref a4, .ref a5, .int 1, .int (bI mk), .int (nI lc), .int (nI cu), .int (nI cs)])), (a1, .inl (k1, 384, .inl (va_cpy fd fw 0 0 384))), (a2, .inl (k2, 384, .inl fd)), (a3, .inl (k3, 384, .inl fb)), (a4, .inl (k4, 24, .inl (fun j => bI (clr dz 24 j)))), (a5, .inl (k5, 24, .inl (fun j => bI (lq j))))]) ⟨hx, hb, hml, hown, hts⟩ (c0_takeWork l D h0 a1 a2 a3 a4 a5 k1 k2 k3 k4 k5 fw fd fb lq dz true mk lc cu cs) (cwV 0 hts gX0_revert_X0_takeWorkFromDisk rfl rfl rfl (by decide +kernel) ⟨Nat.le_of_ble_eq_true rfl, Nat.le_of_ble_eq_true rfl⟩) hK hP hD hS hA [0, 1, 2, 3, 4, 5] [] [0, 1, 2, 3, 4] [0, 1, 2, 3, 4, 5] rfl rfl (by decide) rfl (by decide) (by decide) rfl (by decide) 0 rfl 0 rfl rfl hl.1 rfl (Nat.le_of_ble_eq_true rfl) dX0_revert_10 ⟨Nat.zero_le _, Nat.zero_le _⟩ (fun H locs hP hD hS => ?_)
      refine lv_iconst (v := 1) hx hb dX0_revert_13 (by decide) ?_
      exact hret _ _ _ _ _ hP hD hS rfl dX0_revert_14
    · -- F of pc 4
      exact absurd c_1 (by decide)
theorem ct_bad {n : Int32} (h1 : ¬ n < 1) (h2 : ¬ 1000 < n) : ¬ (n < 0 ∨ nI 1001 ≤ n) := by
  have e1 : (1 : Int32).toInt = 1 := rfl
  have e2 : (1000 : Int32).toInt = 1000 := rfl
  have e3 : (nI 1001).toInt = 1001 := rfl
  have e0 : (0 : Int32).toInt = 0 := rfl
  rw [Int32.lt_iff_toInt_lt] at h1 h2
  rintro (h | h)
  · rw [Int32.lt_iff_toInt_lt] at h; omega
  · rw [Int32.le_iff_toInt_le] at h; omega
theorem ct_bad2 {t : Int32} (h1 : ¬ t < 0) (h2 : t < 1000) : ¬ (t < 0 ∨ nI 1000 ≤ t) := by
  have e2 : (1000 : Int32).toInt = 1000 := rfl
  have e3 : (nI 1000).toInt = 1000 := rfl
  rw [Int32.lt_iff_toInt_lt] at h2
  rintro (h | h)
  · exact h1 h
  · rw [Int32.le_iff_toInt_le] at h; omega
set_option maxHeartbeats 4000000 in
set_option maxRecDepth 100000 in
theorem c0_cut (l : Launch) (D : va_G) (h0 a1 a2 a3 a4 a5 : Nat) (k1 k2 k3 k4 k5 : ClassId) (fw fd fb : Nat → Int32) (lq dz : Nat → Bool) (pw mk : Bool) (lc cu cs : Nat) (n t : Int32) : ct_i l yX0_cut wsX0_cut ({ frames := 0, cells := 0, slots := 0, locals := 0 }) D vwCl (XT k1 k2 k3 k4 k5) [.ref h0, .int n, .int t] (XW h0 a1 a2 a3 a4 a5 k1 k2 k3 k4 k5 fw fd fb lq dz pw mk lc cu cs) (XW h0 a1 a2 a3 a4 a5 k1 k2 k3 k4 k5 fw fd fb lq dz pw mk lc ((xct pw cu cs n t).1) ((xct pw cu cs n t).2.1)) (bI (xct pw cu cs n t).2.2) := by
  cases pw with
  | false =>
    simp only [xct]
    refine ct_i.of (cc := cX0_cut) (maxL := 3) (ty := .boolean) (by decide) rfl (Nat.le_of_ble_eq_true rfl) (nb_bI _) ?_
    intro p e s m args below meth c ls A Q hx hb hml hts hown hK hP hD hA hS hl hret
    have hown : s.vm.findClass RX0 = some m.cls := hown
    have hl : lv_has ls 3 [(0, .ref h0), (1, .int n), (2, .int t)] := hl
    have hP : va_P D vwCl [(h0, .inr (0, [.ref a1, .ref a2, .ref a3, .ref a4, .ref a5, .int 0, .int (bI mk), .int (nI lc), .int (nI cu), .int (nI cs)])), (a1, .inl (k1, 384, .inl fw)), (a2, .inl (k2, 384, .inl fd)), (a3, .inl (k3, 384, .inl fb)), (a4, .inl (k4, 24, .inl (fun j => bI (dz j)))), (a5, .inl (k5, 24, .inl (fun j => bI (lq j))))] s.heap := hP
    have hD : va_D A [(h0, .inr (0, [.ref a1, .ref a2, .ref a3, .ref a4, .ref a5, .int 0, .int (bI mk), .int (nI lc), .int (nI cu), .int (nI cs)])), (a1, .inl (k1, 384, .inl fw)), (a2, .inl (k2, 384, .inl fd)), (a3, .inl (k3, 384, .inl fb)), (a4, .inl (k4, 24, .inl (fun j => bI (dz j)))), (a5, .inl (k5, 24, .inl (fun j => bI (lq j))))] := hD
    refine lv_aload_n hx hb dX0_cut_0 rfl (lv_at hl 0 rfl) ?_
    refine va_get (ci := 0) (v := .int 0) (C := RX0) (T := TX0) (N := 10) hx hb hts (by decide +kernel) hown hK hP 0 rfl rfl 5 (by decide) (hts (.fieldLink RX0 26 "CommitLog" "powered" "Z") (by decide +kernel)) (fun _ h9 => h9) rfl dX0_cut_1 ?_
    refine lv_if_eq (tgt := 30) hx hb dX0_cut_4 (by decide) (fun c_1 => ?_) (fun c_1 => ?_)
    · -- T of pc 4
      refine lv_iconst (v := 0) hx hb dX0_cut_30 (by decide) ?_
      exact hret _ _ _ _ _ hP hD hS rfl dX0_cut_31
    · -- F of pc 4
      exact absurd (by decide) c_1
  | true =>
    rcases ix_cases 1001 (by decide) n with ⟨e1, h1⟩ | ⟨k, hk, rfl, e1⟩
    · simp only [xct, e1]
      refine ct_i.of (cc := cX0_cut) (maxL := 3) (ty := .boolean) (by decide) rfl (Nat.le_of_ble_eq_true rfl) (nb_bI _) ?_
      intro p e s m args below meth c ls A Q hx hb hml hts hown hK hP hD hA hS hl hret
      have hown : s.vm.findClass RX0 = some m.cls := hown
      have hl : lv_has ls 3 [(0, .ref h0), (1, .int n), (2, .int t)] := hl
      have hP : va_P D vwCl [(h0, .inr (0, [.ref a1, .ref a2, .ref a3, .ref a4, .ref a5, .int 1, .int (bI mk), .int (nI lc), .int (nI cu), .int (nI cs)])), (a1, .inl (k1, 384, .inl fw)), (a2, .inl (k2, 384, .inl fd)), (a3, .inl (k3, 384, .inl fb)), (a4, .inl (k4, 24, .inl (fun j => bI (dz j)))), (a5, .inl (k5, 24, .inl (fun j => bI (lq j))))] s.heap := hP
      have hD : va_D A [(h0, .inr (0, [.ref a1, .ref a2, .ref a3, .ref a4, .ref a5, .int 1, .int (bI mk), .int (nI lc), .int (nI cu), .int (nI cs)])), (a1, .inl (k1, 384, .inl fw)), (a2, .inl (k2, 384, .inl fd)), (a3, .inl (k3, 384, .inl fb)), (a4, .inl (k4, 24, .inl (fun j => bI (dz j)))), (a5, .inl (k5, 24, .inl (fun j => bI (lq j))))] := hD
      refine lv_aload_n hx hb dX0_cut_0 rfl (lv_at hl 0 rfl) ?_
      refine va_get (ci := 0) (v := .int 1) (C := RX0) (T := TX0) (N := 10) hx hb hts (by decide +kernel) hown hK hP 0 rfl rfl 5 (by decide) (hts (.fieldLink RX0 26 "CommitLog" "powered" "Z") (by decide +kernel)) (fun _ h9 => h9) rfl dX0_cut_1 ?_
      refine lv_if_eq (tgt := 30) hx hb dX0_cut_4 (by decide) (fun c_1 => ?_) (fun c_1 => ?_)
      · -- T of pc 4
        exact absurd c_1 (by decide)
      · -- F of pc 4
        refine lv_iload_n hx hb dX0_cut_7 rfl (lv_at hl 1 rfl) ?_
        refine lv_iconst (v := 1) hx hb dX0_cut_8 (by decide) ?_
        refine lv_icmp_lt (tgt := 30) hx hb dX0_cut_9 (by decide) (fun c_2 => ?_) (fun c_2 => ?_)
        · -- T of pc 9
          refine lv_iconst (v := 0) hx hb dX0_cut_30 (by decide) ?_
          exact hret _ _ _ _ _ hP hD hS rfl dX0_cut_31
        · -- F of pc 9
          refine lv_iload_n hx hb dX0_cut_12 rfl (lv_at hl 1 rfl) ?_
          refine lv_sipush (v := 1000) hx hb dX0_cut_13 (by decide) ?_
          refine lv_icmp_gt (tgt := 30) hx hb dX0_cut_16 (by decide) (fun c_3 => ?_) (fun c_3 => ?_)
          · -- T of pc 16
            refine lv_iconst (v := 0) hx hb dX0_cut_30 (by decide) ?_
            exact hret _ _ _ _ _ hP hD hS rfl dX0_cut_31
          · -- F of pc 16
            exact absurd h1 (ct_bad c_2 c_3)
    · match k, hk, e1 with
      | 0, _, e1 =>
        simp only [xct, e1]
        refine ct_i.of (cc := cX0_cut) (maxL := 3) (ty := .boolean) (by decide) rfl (Nat.le_of_ble_eq_true rfl) (nb_bI _) ?_
        intro p e s m args below meth c ls A Q hx hb hml hts hown hK hP hD hA hS hl hret
        have hown : s.vm.findClass RX0 = some m.cls := hown
        have hl : lv_has ls 3 [(0, .ref h0), (1, .int (nI 0)), (2, .int t)] := hl
        have hP : va_P D vwCl [(h0, .inr (0, [.ref a1, .ref a2, .ref a3, .ref a4, .ref a5, .int 1, .int (bI mk), .int (nI lc), .int (nI cu), .int (nI cs)])), (a1, .inl (k1, 384, .inl fw)), (a2, .inl (k2, 384, .inl fd)), (a3, .inl (k3, 384, .inl fb)), (a4, .inl (k4, 24, .inl (fun j => bI (dz j)))), (a5, .inl (k5, 24, .inl (fun j => bI (lq j))))] s.heap := hP
        have hD : va_D A [(h0, .inr (0, [.ref a1, .ref a2, .ref a3, .ref a4, .ref a5, .int 1, .int (bI mk), .int (nI lc), .int (nI cu), .int (nI cs)])), (a1, .inl (k1, 384, .inl fw)), (a2, .inl (k2, 384, .inl fd)), (a3, .inl (k3, 384, .inl fb)), (a4, .inl (k4, 24, .inl (fun j => bI (dz j)))), (a5, .inl (k5, 24, .inl (fun j => bI (lq j))))] := hD
        refine lv_aload_n hx hb dX0_cut_0 rfl (lv_at hl 0 rfl) ?_
        refine va_get (ci := 0) (v := .int 1) (C := RX0) (T := TX0) (N := 10) hx hb hts (by decide +kernel) hown hK hP 0 rfl rfl 5 (by decide) (hts (.fieldLink RX0 26 "CommitLog" "powered" "Z") (by decide +kernel)) (fun _ h9 => h9) rfl dX0_cut_1 ?_
        refine lv_if_eq (tgt := 30) hx hb dX0_cut_4 (by decide) (fun c_1 => ?_) (fun c_1 => ?_)
        · -- T of pc 4
          exact absurd c_1 (by decide)
        · -- F of pc 4
          refine lv_iload_n hx hb dX0_cut_7 rfl (lv_at hl 1 rfl) ?_
          refine lv_iconst (v := 1) hx hb dX0_cut_8 (by decide) ?_
          refine lv_icmp_lt (tgt := 30) hx hb dX0_cut_9 (by decide) (fun c_2 => ?_) (fun c_2 => ?_)
          · -- T of pc 9
            refine lv_iconst (v := 0) hx hb dX0_cut_30 (by decide) ?_
            exact hret _ _ _ _ _ hP hD hS rfl dX0_cut_31
          · -- F of pc 9
            exact absurd (by decide) c_2
      | k + 1, hk, e1 =>
        rcases ix_cases 1000 (by decide) t with ⟨e2, h2⟩ | ⟨j, hj, rfl, e2⟩
        · simp only [xct, e1, e2]
          refine ct_i.of (cc := cX0_cut) (maxL := 3) (ty := .boolean) (by decide) rfl (Nat.le_of_ble_eq_true rfl) (nb_bI _) ?_
          intro p e s m args below meth c ls A Q hx hb hml hts hown hK hP hD hA hS hl hret
          have hown : s.vm.findClass RX0 = some m.cls := hown
          have hl : lv_has ls 3 [(0, .ref h0), (1, .int (nI (k + 1))), (2, .int t)] := hl
          have hP : va_P D vwCl [(h0, .inr (0, [.ref a1, .ref a2, .ref a3, .ref a4, .ref a5, .int 1, .int (bI mk), .int (nI lc), .int (nI cu), .int (nI cs)])), (a1, .inl (k1, 384, .inl fw)), (a2, .inl (k2, 384, .inl fd)), (a3, .inl (k3, 384, .inl fb)), (a4, .inl (k4, 24, .inl (fun j => bI (dz j)))), (a5, .inl (k5, 24, .inl (fun j => bI (lq j))))] s.heap := hP
          have hD : va_D A [(h0, .inr (0, [.ref a1, .ref a2, .ref a3, .ref a4, .ref a5, .int 1, .int (bI mk), .int (nI lc), .int (nI cu), .int (nI cs)])), (a1, .inl (k1, 384, .inl fw)), (a2, .inl (k2, 384, .inl fd)), (a3, .inl (k3, 384, .inl fb)), (a4, .inl (k4, 24, .inl (fun j => bI (dz j)))), (a5, .inl (k5, 24, .inl (fun j => bI (lq j))))] := hD
          refine lv_aload_n hx hb dX0_cut_0 rfl (lv_at hl 0 rfl) ?_
          refine va_get (ci := 0) (v := .int 1) (C := RX0) (T := TX0) (N := 10) hx hb hts (by decide +kernel) hown hK hP 0 rfl rfl 5 (by decide) (hts (.fieldLink RX0 26 "CommitLog" "powered" "Z") (by decide +kernel)) (fun _ h9 => h9) rfl dX0_cut_1 ?_
          refine lv_if_eq (tgt := 30) hx hb dX0_cut_4 (by decide) (fun c_1 => ?_) (fun c_1 => ?_)
          · -- T of pc 4
            exact absurd c_1 (by decide)
          · -- F of pc 4
            refine lv_iload_n hx hb dX0_cut_7 rfl (lv_at hl 1 rfl) ?_
            refine lv_iconst (v := 1) hx hb dX0_cut_8 (by decide) ?_
            refine lv_icmp_lt (tgt := 30) hx hb dX0_cut_9 (by decide) (fun c_2 => ?_) (fun c_2 => ?_)
            · -- T of pc 9
              exact absurd c_2 (show ¬ nI (k + 1) < nI 1 from nI_nlt (by omega) (by omega))
            · -- F of pc 9
              refine lv_iload_n hx hb dX0_cut_12 rfl (lv_at hl 1 rfl) ?_
              refine lv_sipush (v := 1000) hx hb dX0_cut_13 (by decide) ?_
              refine lv_icmp_gt (tgt := 30) hx hb dX0_cut_16 (by decide) (fun c_3 => ?_) (fun c_3 => ?_)
              · -- T of pc 16
                exact absurd c_3 (show ¬ nI 1000 < nI (k + 1) from nI_nlt (by omega) (by decide))
              · -- F of pc 16
                refine lv_iload_n hx hb dX0_cut_19 rfl (lv_at hl 2 rfl) ?_
                refine lv_if_lt (tgt := 30) hx hb dX0_cut_20 (by decide) (fun c_4 => ?_) (fun c_4 => ?_)
                · -- T of pc 20
                  refine lv_iconst (v := 0) hx hb dX0_cut_30 (by decide) ?_
                  exact hret _ _ _ _ _ hP hD hS rfl dX0_cut_31
                · -- F of pc 20
                  refine lv_iload_n hx hb dX0_cut_23 rfl (lv_at hl 2 rfl) ?_
                  refine lv_sipush (v := 1000) hx hb dX0_cut_24 (by decide) ?_
                  refine lv_icmp_lt (tgt := 32) hx hb dX0_cut_27 (by decide) (fun c_5 => ?_) (fun c_5 => ?_)
                  · -- T of pc 27
                    exact absurd h2 (ct_bad2 c_4 c_5)
                  · -- F of pc 27
                    refine lv_iconst (v := 0) hx hb dX0_cut_30 (by decide) ?_
                    exact hret _ _ _ _ _ hP hD hS rfl dX0_cut_31
        · simp only [xct, e1, e2]
          refine ct_i.of (cc := cX0_cut) (maxL := 3) (ty := .boolean) (by decide) rfl (Nat.le_of_ble_eq_true rfl) (nb_bI _) ?_
          intro p e s m args below meth c ls A Q hx hb hml hts hown hK hP hD hA hS hl hret
          have hown : s.vm.findClass RX0 = some m.cls := hown
          have hl : lv_has ls 3 [(0, .ref h0), (1, .int (nI (k + 1))), (2, .int (nI j))] := hl
          have hP : va_P D vwCl [(h0, .inr (0, [.ref a1, .ref a2, .ref a3, .ref a4, .ref a5, .int 1, .int (bI mk), .int (nI lc), .int (nI cu), .int (nI cs)])), (a1, .inl (k1, 384, .inl fw)), (a2, .inl (k2, 384, .inl fd)), (a3, .inl (k3, 384, .inl fb)), (a4, .inl (k4, 24, .inl (fun j => bI (dz j)))), (a5, .inl (k5, 24, .inl (fun j => bI (lq j))))] s.heap := hP
          have hD : va_D A [(h0, .inr (0, [.ref a1, .ref a2, .ref a3, .ref a4, .ref a5, .int 1, .int (bI mk), .int (nI lc), .int (nI cu), .int (nI cs)])), (a1, .inl (k1, 384, .inl fw)), (a2, .inl (k2, 384, .inl fd)), (a3, .inl (k3, 384, .inl fb)), (a4, .inl (k4, 24, .inl (fun j => bI (dz j)))), (a5, .inl (k5, 24, .inl (fun j => bI (lq j))))] := hD
          refine lv_aload_n hx hb dX0_cut_0 rfl (lv_at hl 0 rfl) ?_
          refine va_get (ci := 0) (v := .int 1) (C := RX0) (T := TX0) (N := 10) hx hb hts (by decide +kernel) hown hK hP 0 rfl rfl 5 (by decide) (hts (.fieldLink RX0 26 "CommitLog" "powered" "Z") (by decide +kernel)) (fun _ h9 => h9) rfl dX0_cut_1 ?_
          refine lv_if_eq (tgt := 30) hx hb dX0_cut_4 (by decide) (fun c_1 => ?_) (fun c_1 => ?_)
          · -- T of pc 4
            exact absurd c_1 (by decide)
          · -- F of pc 4
            refine lv_iload_n hx hb dX0_cut_7 rfl (lv_at hl 1 rfl) ?_
            refine lv_iconst (v := 1) hx hb dX0_cut_8 (by decide) ?_
            refine lv_icmp_lt (tgt := 30) hx hb dX0_cut_9 (by decide) (fun c_2 => ?_) (fun c_2 => ?_)
            · -- T of pc 9
              exact absurd c_2 (show ¬ nI (k + 1) < nI 1 from nI_nlt (by omega) (by omega))
            · -- F of pc 9
              refine lv_iload_n hx hb dX0_cut_12 rfl (lv_at hl 1 rfl) ?_
              refine lv_sipush (v := 1000) hx hb dX0_cut_13 (by decide) ?_
              refine lv_icmp_gt (tgt := 30) hx hb dX0_cut_16 (by decide) (fun c_3 => ?_) (fun c_3 => ?_)
              · -- T of pc 16
                exact absurd c_3 (show ¬ nI 1000 < nI (k + 1) from nI_nlt (by omega) (by decide))
              · -- F of pc 16
                refine lv_iload_n hx hb dX0_cut_19 rfl (lv_at hl 2 rfl) ?_
                refine lv_if_lt (tgt := 30) hx hb dX0_cut_20 (by decide) (fun c_4 => ?_) (fun c_4 => ?_)
                · -- T of pc 20
                  exact absurd c_4 (nI_pos (by omega))
                · -- F of pc 20
                  refine lv_iload_n hx hb dX0_cut_23 rfl (lv_at hl 2 rfl) ?_
                  refine lv_sipush (v := 1000) hx hb dX0_cut_24 (by decide) ?_
                  refine lv_icmp_lt (tgt := 32) hx hb dX0_cut_27 (by decide) (fun c_5 => ?_) (fun c_5 => ?_)
                  · -- T of pc 27
                    refine lv_aload_n hx hb dX0_cut_32 rfl (lv_at hl 0 rfl) ?_
                    refine lv_iload_n hx hb dX0_cut_33 rfl (lv_at hl 1 rfl) ?_
                    refine va_put (ci := 0) (v := .int (nI (k + 1))) (ty := .int) (C := RX0) (T := TX0) (N := 10) hx hb hts (by decide +kernel) tyX0 tyX0_ok nmX0 hown hK hP hD hS 0 rfl rfl 8 (by decide) (hts (.fieldLink RX0 37 "CommitLog" "commitsUntilCut" "I") (by decide +kernel)) (fun _ h9 => h9) rfl (by decide +kernel) rfl rfl (Nat.le_of_ble_eq_true rfl) dX0_cut_34 (fun H locs hP hD hS => ?_)
                    have hP : va_P D vwCl [(h0, .inr (0, [.ref a1, .ref a2, .ref a3, .ref a4, .ref a5, .int 1, .int (bI mk), .int (nI lc), .int (nI (k + 1)), .int (nI cs)])), (a1, .inl (k1, 384, .inl fw)), (a2, .inl (k2, 384, .inl fd)), (a3, .inl (k3, 384, .inl fb)), (a4, .inl (k4, 24, .inl (fun j => bI (dz j)))), (a5, .inl (k5, 24, .inl (fun j => bI (lq j))))] H := hP
                    have hD : va_D _ [(h0, .inr (0, [.ref a1, .ref a2, .ref a3, .ref a4, .ref a5, .int 1, .int (bI mk), .int (nI lc), .int (nI (k + 1)), .int (nI cs)])), (a1, .inl (k1, 384, .inl fw)), (a2, .inl (k2, 384, .inl fd)), (a3, .inl (k3, 384, .inl fb)), (a4, .inl (k4, 24, .inl (fun j => bI (dz j)))), (a5, .inl (k5, 24, .inl (fun j => bI (lq j))))] := hD
                    refine lv_aload_n hx hb dX0_cut_37 rfl (lv_at hl 0 rfl) ?_
                    refine lv_iload_n hx hb dX0_cut_38 rfl (lv_at hl 2 rfl) ?_
                    refine va_put (ci := 0) (v := .int (nI j)) (ty := .int) (C := RX0) (T := TX0) (N := 10) hx hb hts (by decide +kernel) tyX0 tyX0_ok nmX0 hown hK hP hD hS 0 rfl rfl 9 (by decide) (hts (.fieldLink RX0 40 "CommitLog" "cutShare" "I") (by decide +kernel)) (fun _ h9 => h9) rfl (by decide +kernel) rfl rfl (Nat.le_of_ble_eq_true rfl) dX0_cut_39 (fun H locs hP hD hS => ?_)
                    have hP : va_P D vwCl [(h0, .inr (0, [.ref a1, .ref a2, .ref a3, .ref a4, .ref a5, .int 1, .int (bI mk), .int (nI lc), .int (nI (k + 1)), .int (nI j)])), (a1, .inl (k1, 384, .inl fw)), (a2, .inl (k2, 384, .inl fd)), (a3, .inl (k3, 384, .inl fb)), (a4, .inl (k4, 24, .inl (fun j => bI (dz j)))), (a5, .inl (k5, 24, .inl (fun j => bI (lq j))))] H := hP
                    have hD : va_D _ [(h0, .inr (0, [.ref a1, .ref a2, .ref a3, .ref a4, .ref a5, .int 1, .int (bI mk), .int (nI lc), .int (nI (k + 1)), .int (nI j)])), (a1, .inl (k1, 384, .inl fw)), (a2, .inl (k2, 384, .inl fd)), (a3, .inl (k3, 384, .inl fb)), (a4, .inl (k4, 24, .inl (fun j => bI (dz j)))), (a5, .inl (k5, 24, .inl (fun j => bI (lq j))))] := hD
                    refine lv_iconst (v := 1) hx hb dX0_cut_42 (by decide) ?_
                    exact hret _ _ _ _ _ hP hD hS rfl dX0_cut_43
                  · -- F of pc 27
                    exact absurd (show nI j < nI 1000 from nI_lt (by omega) (by decide)) c_5
theorem st_out {x : Int32} (h : x < 0 ∨ nI 3 ≤ x) : x.toInt < 0 ∨ 2 < x.toInt := by
  have e3 : (nI 3).toInt = 3 := rfl
  have e0 : (0 : Int32).toInt = 0 := rfl
  rcases h with h | h
  · rw [Int32.lt_iff_toInt_lt] at h; omega
  · rw [Int32.le_iff_toInt_le] at h; omega
set_option maxHeartbeats 4000000 in
set_option maxRecDepth 100000 in
theorem c0_state (l : Launch) (D : va_G) (h0 a1 a2 a3 a4 a5 : Nat) (k1 k2 k3 k4 k5 : ClassId) (fw fd fb : Nat → Int32) (lq dz : Nat → Bool) (pw mk : Bool) (lc cu cs : Nat) (x : Int32) : ct_i l yX0_state wsX0_state ({ frames := 0, cells := 0, slots := 0, locals := 0 }) D vwCl (XT k1 k2 k3 k4 k5) [.ref h0, .int x] (XW h0 a1 a2 a3 a4 a5 k1 k2 k3 k4 k5 fw fd fb lq dz pw mk lc cu cs) (XW h0 a1 a2 a3 a4 a5 k1 k2 k3 k4 k5 fw fd fb lq dz pw mk lc cu cs) (xst pw mk lc x) := by
  rcases ix_cases 3 (by decide) x with ⟨e1, h1⟩ | ⟨k, hk, rfl, e1⟩
  · simp only [xst, e1]
    have h1 := st_out h1
    refine ct_i.of (cc := cX0_state) (maxL := 2) (ty := .int) (by decide) rfl (Nat.le_of_ble_eq_true rfl) rfl ?_
    intro p e s m args below meth c ls A Q hx hb hml hts hown hK hP hD hA hS hl hret
    have hown : s.vm.findClass RX0 = some m.cls := hown
    have hl : lv_has ls 2 [(0, .ref h0), (1, .int x)] := hl
    have hP : va_P D vwCl [(h0, .inr (0, [.ref a1, .ref a2, .ref a3, .ref a4, .ref a5, .int (bI pw), .int (bI mk), .int (nI lc), .int (nI cu), .int (nI cs)])), (a1, .inl (k1, 384, .inl fw)), (a2, .inl (k2, 384, .inl fd)), (a3, .inl (k3, 384, .inl fb)), (a4, .inl (k4, 24, .inl (fun j => bI (dz j)))), (a5, .inl (k5, 24, .inl (fun j => bI (lq j))))] s.heap := hP
    have hD : va_D A [(h0, .inr (0, [.ref a1, .ref a2, .ref a3, .ref a4, .ref a5, .int (bI pw), .int (bI mk), .int (nI lc), .int (nI cu), .int (nI cs)])), (a1, .inl (k1, 384, .inl fw)), (a2, .inl (k2, 384, .inl fd)), (a3, .inl (k3, 384, .inl fb)), (a4, .inl (k4, 24, .inl (fun j => bI (dz j)))), (a5, .inl (k5, 24, .inl (fun j => bI (lq j))))] := hD
    refine lv_iload_n hx hb dX0_state_0 rfl (lv_at hl 1 rfl) ?_
    refine lv_tableOut (tgt := 59) hx hb dX0_state_1 h1 (by decide) ?_
    refine lv_iconst (v := (-1)) hx hb dX0_state_59 (by decide) ?_
    exact hret _ _ _ _ _ hP hD hS (by first | rfl | exact dz_0 (by assumption) | exact dz_1 (by assumption)) dX0_state_60
  · match k, hk, e1 with
    | 0, _, e1 =>
      simp only [xst, e1]
      refine ct_i.of (cc := cX0_state) (maxL := 2) (ty := .int) (by decide) rfl (Nat.le_of_ble_eq_true rfl) rfl ?_
      intro p e s m args below meth c ls A Q hx hb hml hts hown hK hP hD hA hS hl hret
      have hown : s.vm.findClass RX0 = some m.cls := hown
      have hl : lv_has ls 2 [(0, .ref h0), (1, .int (nI 0))] := hl
      have hP : va_P D vwCl [(h0, .inr (0, [.ref a1, .ref a2, .ref a3, .ref a4, .ref a5, .int (bI pw), .int (bI mk), .int (nI lc), .int (nI cu), .int (nI cs)])), (a1, .inl (k1, 384, .inl fw)), (a2, .inl (k2, 384, .inl fd)), (a3, .inl (k3, 384, .inl fb)), (a4, .inl (k4, 24, .inl (fun j => bI (dz j)))), (a5, .inl (k5, 24, .inl (fun j => bI (lq j))))] s.heap := hP
      have hD : va_D A [(h0, .inr (0, [.ref a1, .ref a2, .ref a3, .ref a4, .ref a5, .int (bI pw), .int (bI mk), .int (nI lc), .int (nI cu), .int (nI cs)])), (a1, .inl (k1, 384, .inl fw)), (a2, .inl (k2, 384, .inl fd)), (a3, .inl (k3, 384, .inl fb)), (a4, .inl (k4, 24, .inl (fun j => bI (dz j)))), (a5, .inl (k5, 24, .inl (fun j => bI (lq j))))] := hD
      refine lv_iload_n hx hb dX0_state_0 rfl (lv_at hl 1 rfl) ?_
      refine lv_tableIn (tgt := 28) hx hb dX0_state_1 (by decide) (by decide) rfl (by decide) ?_
      refine lv_aload_n hx hb dX0_state_28 rfl (lv_at hl 0 rfl) ?_
      refine va_get (ci := 0) (v := .int (bI pw)) (C := RX0) (T := TX0) (N := 10) hx hb hts (by decide +kernel) hown hK hP 0 rfl rfl 5 (by decide) (hts (.fieldLink RX0 26 "CommitLog" "powered" "Z") (by decide +kernel)) (fun _ h9 => h9) rfl dX0_state_29 ?_
      refine lv_if_eq (tgt := 39) hx hb dX0_state_32 (by decide) (fun c_1 => ?_) (fun c_1 => ?_)
      · -- T of pc 32
        refine lv_iconst (v := 0) hx hb dX0_state_39 (by decide) ?_
        exact hret _ _ _ _ _ hP hD hS (by first | rfl | exact dz_0 (by assumption) | exact dz_1 (by assumption)) dX0_state_40
      · -- F of pc 32
        refine lv_iconst (v := 1) hx hb dX0_state_35 (by decide) ?_
        refine lv_goto (tgt := 40) hx hb dX0_state_36 (by decide) ?_
        exact hret _ _ _ _ _ hP hD hS (by first | rfl | exact dz_0 (by assumption) | exact dz_1 (by assumption)) dX0_state_40
    | 1, _, e1 =>
      simp only [xst, e1]
      refine ct_i.of (cc := cX0_state) (maxL := 2) (ty := .int) (by decide) rfl (Nat.le_of_ble_eq_true rfl) rfl ?_
      intro p e s m args below meth c ls A Q hx hb hml hts hown hK hP hD hA hS hl hret
      have hown : s.vm.findClass RX0 = some m.cls := hown
      have hl : lv_has ls 2 [(0, .ref h0), (1, .int (nI 1))] := hl
      have hP : va_P D vwCl [(h0, .inr (0, [.ref a1, .ref a2, .ref a3, .ref a4, .ref a5, .int (bI pw), .int (bI mk), .int (nI lc), .int (nI cu), .int (nI cs)])), (a1, .inl (k1, 384, .inl fw)), (a2, .inl (k2, 384, .inl fd)), (a3, .inl (k3, 384, .inl fb)), (a4, .inl (k4, 24, .inl (fun j => bI (dz j)))), (a5, .inl (k5, 24, .inl (fun j => bI (lq j))))] s.heap := hP
      have hD : va_D A [(h0, .inr (0, [.ref a1, .ref a2, .ref a3, .ref a4, .ref a5, .int (bI pw), .int (bI mk), .int (nI lc), .int (nI cu), .int (nI cs)])), (a1, .inl (k1, 384, .inl fw)), (a2, .inl (k2, 384, .inl fd)), (a3, .inl (k3, 384, .inl fb)), (a4, .inl (k4, 24, .inl (fun j => bI (dz j)))), (a5, .inl (k5, 24, .inl (fun j => bI (lq j))))] := hD
      refine lv_iload_n hx hb dX0_state_0 rfl (lv_at hl 1 rfl) ?_
      refine lv_tableIn (tgt := 41) hx hb dX0_state_1 (by decide) (by decide) rfl (by decide) ?_
      refine lv_aload_n hx hb dX0_state_41 rfl (lv_at hl 0 rfl) ?_
      refine va_get (ci := 0) (v := .int (bI mk)) (C := RX0) (T := TX0) (N := 10) hx hb hts (by decide +kernel) hown hK hP 0 rfl rfl 6 (by decide) (hts (.fieldLink RX0 30 "CommitLog" "marked" "Z") (by decide +kernel)) (fun _ h9 => h9) rfl dX0_state_42 ?_
      refine lv_if_eq (tgt := 52) hx hb dX0_state_45 (by decide) (fun c_1 => ?_) (fun c_1 => ?_)
      · -- T of pc 45
        refine lv_iconst (v := 0) hx hb dX0_state_52 (by decide) ?_
        exact hret _ _ _ _ _ hP hD hS (by first | rfl | exact dz_0 (by assumption) | exact dz_1 (by assumption)) dX0_state_53
      · -- F of pc 45
        refine lv_iconst (v := 1) hx hb dX0_state_48 (by decide) ?_
        refine lv_goto (tgt := 53) hx hb dX0_state_49 (by decide) ?_
        exact hret _ _ _ _ _ hP hD hS (by first | rfl | exact dz_0 (by assumption) | exact dz_1 (by assumption)) dX0_state_53
    | 2, _, e1 =>
      simp only [xst, e1]
      refine ct_i.of (cc := cX0_state) (maxL := 2) (ty := .int) (by decide) rfl (Nat.le_of_ble_eq_true rfl) rfl ?_
      intro p e s m args below meth c ls A Q hx hb hml hts hown hK hP hD hA hS hl hret
      have hown : s.vm.findClass RX0 = some m.cls := hown
      have hl : lv_has ls 2 [(0, .ref h0), (1, .int (nI 2))] := hl
      have hP : va_P D vwCl [(h0, .inr (0, [.ref a1, .ref a2, .ref a3, .ref a4, .ref a5, .int (bI pw), .int (bI mk), .int (nI lc), .int (nI cu), .int (nI cs)])), (a1, .inl (k1, 384, .inl fw)), (a2, .inl (k2, 384, .inl fd)), (a3, .inl (k3, 384, .inl fb)), (a4, .inl (k4, 24, .inl (fun j => bI (dz j)))), (a5, .inl (k5, 24, .inl (fun j => bI (lq j))))] s.heap := hP
      have hD : va_D A [(h0, .inr (0, [.ref a1, .ref a2, .ref a3, .ref a4, .ref a5, .int (bI pw), .int (bI mk), .int (nI lc), .int (nI cu), .int (nI cs)])), (a1, .inl (k1, 384, .inl fw)), (a2, .inl (k2, 384, .inl fd)), (a3, .inl (k3, 384, .inl fb)), (a4, .inl (k4, 24, .inl (fun j => bI (dz j)))), (a5, .inl (k5, 24, .inl (fun j => bI (lq j))))] := hD
      refine lv_iload_n hx hb dX0_state_0 rfl (lv_at hl 1 rfl) ?_
      refine lv_tableIn (tgt := 54) hx hb dX0_state_1 (by decide) (by decide) rfl (by decide) ?_
      refine lv_aload_n hx hb dX0_state_54 rfl (lv_at hl 0 rfl) ?_
      refine va_get (ci := 0) (v := .int (nI lc)) (C := RX0) (T := TX0) (N := 10) hx hb hts (by decide +kernel) hown hK hP 0 rfl rfl 7 (by decide) (hts (.fieldLink RX0 33 "CommitLog" "latestCount" "I") (by decide +kernel)) (fun _ h9 => h9) rfl dX0_state_55 ?_
      exact hret _ _ _ _ _ hP hD hS (by first | rfl | exact dz_0 (by assumption) | exact dz_1 (by assumption)) dX0_state_58
