/-! The reference: its public methods but commit and start. -/
theorem inR_ix (n : Nat) (hn : n < 2 ^ 31) (hi : Int32) (h : hi.toInt = (n : Int) - 1) (x : Int32) : inR 0 hi x = (ix n x).isSome := by
  have e0 : (0 : Int32).toInt = 0 := rfl
  rcases ix_cases n hn x with ⟨e, h1⟩ | ⟨j, hj, rfl, e⟩
  · rw [e]
    rcases h1 with h1 | h1
    · simp [inR, h1]
    · have h2 : hi < x := by
        rw [Int32.le_iff_toInt_le, nI_toInt hn] at h1
        rw [Int32.lt_iff_toInt_lt]; omega
      simp [inR, h2]
  · rw [e]
    have h1 : ¬ nI j < 0 := nI_pos (by omega)
    have h2 : ¬ hi < nI j := by
      rw [Int32.lt_iff_toInt_lt, nI_toInt (by omega)]; omega
    simp [inR, h1, h2]
theorem inR_1k (x : Int32) : inR 1 1000 x = (match ix 1001 x with | some (_ + 1) => true | _ => false) := by
  have e0 : (0 : Int32).toInt = 0 := rfl
  have e1 : (1 : Int32).toInt = 1 := rfl
  have e2 : (1000 : Int32).toInt = 1000 := rfl
  rcases ix_cases 1001 (by decide) x with ⟨e, h1⟩ | ⟨j, hj, rfl, e⟩
  · rw [e]
    rcases h1 with h1 | h1
    · have h2 : x < 1 := by
        rw [Int32.lt_iff_toInt_lt] at h1 ⊢; omega
      simp [inR, h2]
    · have h2 : 1000 < x := by
        rw [Int32.le_iff_toInt_le, nI_toInt (by decide)] at h1
        rw [Int32.lt_iff_toInt_lt]; omega
      simp [inR, h2]
  · rw [e]
    match j, hj with
    | 0, _ => rfl
    | k + 1, hj =>
      have h1 : ¬ nI (k + 1) < 1 := by
        rw [Int32.lt_iff_toInt_lt, nI_toInt (by omega)]; omega
      have h2 : ¬ 1000 < nI (k + 1) := by
        rw [Int32.lt_iff_toInt_lt, nI_toInt (by omega)]; omega
      simp [inR, h1, h2]
def mwr (gw : Nat → Int32) (dz : Nat → Bool) (of : Bool) (b q v : Int32) : (Nat → Int32) × (Nat → Bool) × Bool := match of, ix 24 b, ix 16 q with
  | false, some i, some j => (upd gw (i * 16 + j) v.toInt8.toInt32, va_up dz i true, true)
  | _, _, _ => (gw, dz, false)
def mrd (of : Bool) (f : Nat → Int32) (b q : Int32) : Int32 := match of, ix 24 b, ix 16 q with
  | false, some i, some j => f (i * 16 + j) &&& 255
  | _, _, _ => -1
def mdt (of : Bool) (dz : Nat → Bool) (b : Int32) : Bool := match of, ix 24 b with
  | false, some i => dz i
  | _, _ => false
def mct (of : Bool) (lf : Option Nat) (sh : Nat) (n t : Int32) : Option Nat × Nat × Bool := match of, ix 1001 n, ix 1000 t with
  | false, some (k + 1), some j => (some (k + 1), j, true)
  | _, _, _ => (lf, sh, false)
def mst (of mk : Bool) (la : Nat) (x : Int32) : Int32 := match ix 3 x with
  | some 0 => bI (!of)
  | some 1 => bI mk
  | some 2 => nI la
  | _ => -1
theorem bn_0 {b : Bool} (h : ¬ bI b = 0) : 0 = bI (!b) := by rw [dz_t h]; rfl
theorem bn_1 {b : Bool} (h : bI b = 0) : 1 = bI (!b) := by rw [dz_f h]; rfl
set_option maxHeartbeats 4000000 in
set_option maxRecDepth 100000 in
theorem c1_isPlace (l : Launch) (D : va_G) (b q : Int32) : ct_i l yX1_isPlace wsX1_isPlace ({ frames := 1, cells := 0, slots := 0, locals := 22 }) D vwCl [] [.int b, .int q] [] [] (bI ((ix 24 b).isSome && (ix 16 q).isSome)) := by
  rcases ix_cases 24 (by decide) b with ⟨e1, -⟩ | ⟨i, hi, rfl, e1⟩
  · rw [e1]
    refine ct_i.of (cc := cX1_isPlace) (maxL := 2) (ty := .boolean) (by decide) rfl (Nat.le_of_ble_eq_true rfl) (nb_bI _) ?_
    intro p e s m args below meth c ls A Q hx hb hml hts hown hK hP hD hA hS hl hret
    have hown : s.vm.findClass RX1 = some m.cls := hown
    have hl : lv_has ls 2 [(0, .int b), (1, .int q)] := hl
    have hP : va_P D vwCl [] s.heap := hP
    have hD : va_D A [] := hD
    refine lv_iload_n hx hb dX1_isPlace_0 rfl (lv_at hl 0 rfl) ?_
    refine lv_iconst (v := 0) hx hb dX1_isPlace_1 (by decide) ?_
    refine lv_bipush (v := 23) hx hb dX1_isPlace_2 (by decide) ?_
    refine ct_Si (As := [.int b, .int 0, .int 23]) (rest := []) (wr := []) (wn := []) ⟨hx, hb, hml, hown, hts⟩ (c1_in l D b 0 23) (va_cwS 3 hts gX1_isPlace_X1_in rfl rfl rfl (by decide +kernel) ⟨Nat.le_of_ble_eq_true rfl, Nat.le_of_ble_eq_true rfl⟩) hK hP hD hS hA [] [] [] [] rfl rfl (by decide) rfl (by decide) (by decide) rfl (by decide) rfl hl.1 rfl (Nat.le_of_ble_eq_true rfl) dX1_isPlace_4 ⟨Nat.zero_le _, Nat.zero_le _⟩ (fun H locs hP hD hS => ?_)
    refine tp_as (z := 0) (by rw [inR_ix 24 (by decide) 23 rfl _, e1]; rfl) ?_
    refine lv_if_eq (tgt := 24) hx hb dX1_isPlace_7 (by decide) (fun c_1 => ?_) (fun c_1 => ?_)
    · -- T of pc 7
      refine lv_iconst (v := 0) hx hb dX1_isPlace_24 (by decide) ?_
      exact hret _ _ _ _ _ hP hD hS rfl dX1_isPlace_25
    · -- F of pc 7
      exact absurd (by decide) c_1
  · rcases ix_cases 16 (by decide) q with ⟨e2, -⟩ | ⟨j, hj, rfl, e2⟩
    · rw [e1, e2]
      refine ct_i.of (cc := cX1_isPlace) (maxL := 2) (ty := .boolean) (by decide) rfl (Nat.le_of_ble_eq_true rfl) (nb_bI _) ?_
      intro p e s m args below meth c ls A Q hx hb hml hts hown hK hP hD hA hS hl hret
      have hown : s.vm.findClass RX1 = some m.cls := hown
      have hl : lv_has ls 2 [(0, .int (nI i)), (1, .int q)] := hl
      have hP : va_P D vwCl [] s.heap := hP
      have hD : va_D A [] := hD
      refine lv_iload_n hx hb dX1_isPlace_0 rfl (lv_at hl 0 rfl) ?_
      refine lv_iconst (v := 0) hx hb dX1_isPlace_1 (by decide) ?_
      refine lv_bipush (v := 23) hx hb dX1_isPlace_2 (by decide) ?_
      refine ct_Si (As := [.int (nI i), .int 0, .int 23]) (rest := []) (wr := []) (wn := []) ⟨hx, hb, hml, hown, hts⟩ (c1_in l D (nI i) 0 23) (va_cwS 3 hts gX1_isPlace_X1_in rfl rfl rfl (by decide +kernel) ⟨Nat.le_of_ble_eq_true rfl, Nat.le_of_ble_eq_true rfl⟩) hK hP hD hS hA [] [] [] [] rfl rfl (by decide) rfl (by decide) (by decide) rfl (by decide) rfl hl.1 rfl (Nat.le_of_ble_eq_true rfl) dX1_isPlace_4 ⟨Nat.zero_le _, Nat.zero_le _⟩ (fun H locs hP hD hS => ?_)
      refine tp_as (z := 1) (by rw [inR_ix 24 (by decide) 23 rfl _, e1]; rfl) ?_
      refine lv_if_eq (tgt := 24) hx hb dX1_isPlace_7 (by decide) (fun c_1 => ?_) (fun c_1 => ?_)
      · -- T of pc 7
        exact absurd c_1 (by decide)
      · -- F of pc 7
        refine lv_iload_n hx hb dX1_isPlace_10 rfl (lv_at hl 1 rfl) ?_
        refine lv_iconst (v := 0) hx hb dX1_isPlace_11 (by decide) ?_
        refine lv_bipush (v := 15) hx hb dX1_isPlace_12 (by decide) ?_
        refine ct_Si (As := [.int q, .int 0, .int 15]) (rest := []) (wr := []) (wn := []) ⟨hx, hb, hml, hown, hts⟩ (c1_in l D q 0 15) (va_cwS 3 hts gX1_isPlace_X1_in rfl rfl rfl (by decide +kernel) ⟨Nat.le_of_ble_eq_true rfl, Nat.le_of_ble_eq_true rfl⟩) hK hP hD hS hA [] [] [] [] rfl rfl (by decide) rfl (by decide) (by decide) rfl (by decide) rfl hl.1 rfl (Nat.le_of_ble_eq_true rfl) dX1_isPlace_14 ⟨Nat.zero_le _, Nat.zero_le _⟩ (fun H locs hP hD hS => ?_)
        refine tp_as (z := 0) (by rw [inR_ix 16 (by decide) 15 rfl _, e2]; rfl) ?_
        refine lv_if_eq (tgt := 24) hx hb dX1_isPlace_17 (by decide) (fun c_2 => ?_) (fun c_2 => ?_)
        · -- T of pc 17
          refine lv_iconst (v := 0) hx hb dX1_isPlace_24 (by decide) ?_
          exact hret _ _ _ _ _ hP hD hS rfl dX1_isPlace_25
        · -- F of pc 17
          exact absurd (by decide) c_2
    · rw [e1, e2]
      refine ct_i.of (cc := cX1_isPlace) (maxL := 2) (ty := .boolean) (by decide) rfl (Nat.le_of_ble_eq_true rfl) (nb_bI _) ?_
      intro p e s m args below meth c ls A Q hx hb hml hts hown hK hP hD hA hS hl hret
      have hown : s.vm.findClass RX1 = some m.cls := hown
      have hl : lv_has ls 2 [(0, .int (nI i)), (1, .int (nI j))] := hl
      have hP : va_P D vwCl [] s.heap := hP
      have hD : va_D A [] := hD
      refine lv_iload_n hx hb dX1_isPlace_0 rfl (lv_at hl 0 rfl) ?_
      refine lv_iconst (v := 0) hx hb dX1_isPlace_1 (by decide) ?_
      refine lv_bipush (v := 23) hx hb dX1_isPlace_2 (by decide) ?_
      refine ct_Si (As := [.int (nI i), .int 0, .int 23]) (rest := []) (wr := []) (wn := []) ⟨hx, hb, hml, hown, hts⟩ (c1_in l D (nI i) 0 23) (va_cwS 3 hts gX1_isPlace_X1_in rfl rfl rfl (by decide +kernel) ⟨Nat.le_of_ble_eq_true rfl, Nat.le_of_ble_eq_true rfl⟩) hK hP hD hS hA [] [] [] [] rfl rfl (by decide) rfl (by decide) (by decide) rfl (by decide) rfl hl.1 rfl (Nat.le_of_ble_eq_true rfl) dX1_isPlace_4 ⟨Nat.zero_le _, Nat.zero_le _⟩ (fun H locs hP hD hS => ?_)
      refine tp_as (z := 1) (by rw [inR_ix 24 (by decide) 23 rfl _, e1]; rfl) ?_
      refine lv_if_eq (tgt := 24) hx hb dX1_isPlace_7 (by decide) (fun c_1 => ?_) (fun c_1 => ?_)
      · -- T of pc 7
        exact absurd c_1 (by decide)
      · -- F of pc 7
        refine lv_iload_n hx hb dX1_isPlace_10 rfl (lv_at hl 1 rfl) ?_
        refine lv_iconst (v := 0) hx hb dX1_isPlace_11 (by decide) ?_
        refine lv_bipush (v := 15) hx hb dX1_isPlace_12 (by decide) ?_
        refine ct_Si (As := [.int (nI j), .int 0, .int 15]) (rest := []) (wr := []) (wn := []) ⟨hx, hb, hml, hown, hts⟩ (c1_in l D (nI j) 0 15) (va_cwS 3 hts gX1_isPlace_X1_in rfl rfl rfl (by decide +kernel) ⟨Nat.le_of_ble_eq_true rfl, Nat.le_of_ble_eq_true rfl⟩) hK hP hD hS hA [] [] [] [] rfl rfl (by decide) rfl (by decide) (by decide) rfl (by decide) rfl hl.1 rfl (Nat.le_of_ble_eq_true rfl) dX1_isPlace_14 ⟨Nat.zero_le _, Nat.zero_le _⟩ (fun H locs hP hD hS => ?_)
        refine tp_as (z := 1) (by rw [inR_ix 16 (by decide) 15 rfl _, e2]; rfl) ?_
        refine lv_if_eq (tgt := 24) hx hb dX1_isPlace_17 (by decide) (fun c_2 => ?_) (fun c_2 => ?_)
        · -- T of pc 17
          exact absurd c_2 (by decide)
        · -- F of pc 17
          refine lv_iconst (v := 1) hx hb dX1_isPlace_20 (by decide) ?_
          refine lv_goto (tgt := 25) hx hb dX1_isPlace_21 (by decide) ?_
          exact hret _ _ _ _ _ hP hD hS rfl dX1_isPlace_25
set_option maxHeartbeats 4000000 in
set_option maxRecDepth 100000 in
theorem c1_write (l : Launch) (D : va_G) (h0 a1 a2 a3 a4 a5 : Nat) (k1 k2 k3 k4 k5 : ClassId) (gw gd gl : Nat → Int32) (dz lg : Nat → Bool) (of mk : Bool) (la : Nat) (lf : Option Nat) (sh : Nat) (b q v : Int32) : ct_i l yX1_write wsX1_write ({ frames := 2, cells := 0, slots := 0, locals := 43 }) D vwCl (MT k1 k2 k3 k4 k5) [.ref h0, .int b, .int q, .int v] (MW h0 a1 a2 a3 a4 a5 k1 k2 k3 k4 k5 gw gd gl dz lg of mk la lf sh) (MW h0 a1 a2 a3 a4 a5 k1 k2 k3 k4 k5 ((mwr gw dz of b q v).1) gd gl ((mwr gw dz of b q v).2.1) lg of mk la lf sh) (bI (mwr gw dz of b q v).2.2) := by
  cases of with
  | true =>
    simp only [mwr]
    refine ct_i.of (cc := cX1_write) (maxL := 4) (ty := .boolean) (by decide) rfl (Nat.le_of_ble_eq_true rfl) (nb_bI _) ?_
    intro p e s m args below meth c ls A Q hx hb hml hts hown hK hP hD hA hS hl hret
    have hown : s.vm.findClass RX1 = some m.cls := hown
    have hl : lv_has ls 4 [(0, .ref h0), (1, .int b), (2, .int q), (3, .int v)] := hl
    have hP : va_P D vwCl [(h0, .inr (1, [.ref a1, .ref a2, .ref a3, .ref a4, .ref a5, .int 1, .int (bI mk), .int (nI la), .int (lfI lf), .int (nI sh)])), (a1, .inl (k1, 384, .inl gw)), (a2, .inl (k2, 384, .inl gd)), (a3, .inl (k3, 384, .inl gl)), (a4, .inl (k4, 24, .inl (fun j => bI (dz j)))), (a5, .inl (k5, 24, .inl (fun j => bI (lg j))))] s.heap := hP
    have hD : va_D A [(h0, .inr (1, [.ref a1, .ref a2, .ref a3, .ref a4, .ref a5, .int 1, .int (bI mk), .int (nI la), .int (lfI lf), .int (nI sh)])), (a1, .inl (k1, 384, .inl gw)), (a2, .inl (k2, 384, .inl gd)), (a3, .inl (k3, 384, .inl gl)), (a4, .inl (k4, 24, .inl (fun j => bI (dz j)))), (a5, .inl (k5, 24, .inl (fun j => bI (lg j))))] := hD
    refine lv_aload_n hx hb dX1_write_0 rfl (lv_at hl 0 rfl) ?_
    refine va_get (ci := 1) (v := .int 1) (C := RX1) (T := TX1) (N := 10) hx hb hts (by decide +kernel) hown hK hP 0 rfl rfl 5 (by decide) (hts (.fieldLink RX1 30 "CommitLogModel" "off" "Z") (by decide +kernel)) (fun _ h9 => h9) rfl dX1_write_1 ?_
    refine lv_if_ne (tgt := 15) hx hb dX1_write_4 (by decide) (fun c_1 => ?_) (fun c_1 => ?_)
    · -- T of pc 4
      refine lv_iconst (v := 0) hx hb dX1_write_15 (by decide) ?_
      exact hret _ _ _ _ _ hP hD hS rfl dX1_write_16
    · -- F of pc 4
      exact absurd c_1 (by decide)
  | false =>
    rcases ix_cases 24 (by decide) b with ⟨e1, -⟩ | ⟨i, hi, rfl, e1⟩
    · simp only [mwr, e1]
      refine ct_i.of (cc := cX1_write) (maxL := 4) (ty := .boolean) (by decide) rfl (Nat.le_of_ble_eq_true rfl) (nb_bI _) ?_
      intro p e s m args below meth c ls A Q hx hb hml hts hown hK hP hD hA hS hl hret
      have hown : s.vm.findClass RX1 = some m.cls := hown
      have hl : lv_has ls 4 [(0, .ref h0), (1, .int b), (2, .int q), (3, .int v)] := hl
      have hP : va_P D vwCl [(h0, .inr (1, [.ref a1, .ref a2, .ref a3, .ref a4, .ref a5, .int 0, .int (bI mk), .int (nI la), .int (lfI lf), .int (nI sh)])), (a1, .inl (k1, 384, .inl gw)), (a2, .inl (k2, 384, .inl gd)), (a3, .inl (k3, 384, .inl gl)), (a4, .inl (k4, 24, .inl (fun j => bI (dz j)))), (a5, .inl (k5, 24, .inl (fun j => bI (lg j))))] s.heap := hP
      have hD : va_D A [(h0, .inr (1, [.ref a1, .ref a2, .ref a3, .ref a4, .ref a5, .int 0, .int (bI mk), .int (nI la), .int (lfI lf), .int (nI sh)])), (a1, .inl (k1, 384, .inl gw)), (a2, .inl (k2, 384, .inl gd)), (a3, .inl (k3, 384, .inl gl)), (a4, .inl (k4, 24, .inl (fun j => bI (dz j)))), (a5, .inl (k5, 24, .inl (fun j => bI (lg j))))] := hD
      refine lv_aload_n hx hb dX1_write_0 rfl (lv_at hl 0 rfl) ?_
      refine va_get (ci := 1) (v := .int 0) (C := RX1) (T := TX1) (N := 10) hx hb hts (by decide +kernel) hown hK hP 0 rfl rfl 5 (by decide) (hts (.fieldLink RX1 30 "CommitLogModel" "off" "Z") (by decide +kernel)) (fun _ h9 => h9) rfl dX1_write_1 ?_
      refine lv_if_ne (tgt := 15) hx hb dX1_write_4 (by decide) (fun c_1 => ?_) (fun c_1 => ?_)
      · -- T of pc 4
        exact absurd (by decide) c_1
      · -- F of pc 4
        refine lv_iload_n hx hb dX1_write_7 rfl (lv_at hl 1 rfl) ?_
        refine lv_iload_n hx hb dX1_write_8 rfl (lv_at hl 2 rfl) ?_
        refine ct_Si (As := [.int b, .int q]) (rest := []) (wr := [(h0, .inr (1, [.ref a1, .ref a2, .ref a3, .ref a4, .ref a5, .int 0, .int (bI mk), .int (nI la), .int (lfI lf), .int (nI sh)])), (a1, .inl (k1, 384, .inl gw)), (a2, .inl (k2, 384, .inl gd)), (a3, .inl (k3, 384, .inl gl)), (a4, .inl (k4, 24, .inl (fun j => bI (dz j)))), (a5, .inl (k5, 24, .inl (fun j => bI (lg j))))]) (wn := [(h0, .inr (1, [.ref a1, .ref a2, .ref a3, .ref a4, .ref a5, .int 0, .int (bI mk), .int (nI la), .int (lfI lf), .int (nI sh)])), (a1, .inl (k1, 384, .inl gw)), (a2, .inl (k2, 384, .inl gd)), (a3, .inl (k3, 384, .inl gl)), (a4, .inl (k4, 24, .inl (fun j => bI (dz j)))), (a5, .inl (k5, 24, .inl (fun j => bI (lg j))))]) ⟨hx, hb, hml, hown, hts⟩ (c1_isPlace l D b q) (va_cwS 2 hts gX1_write_X1_isPlace rfl rfl rfl (by decide +kernel) ⟨Nat.le_of_ble_eq_true rfl, Nat.le_of_ble_eq_true rfl⟩) hK hP hD hS hA [] [0, 1, 2, 3, 4, 5] [] [0, 1, 2, 3, 4, 5] rfl rfl (by decide) rfl (by decide) (by decide) rfl (by decide) rfl hl.1 rfl (Nat.le_of_ble_eq_true rfl) dX1_write_9 ⟨Nat.zero_le _, Nat.zero_le _⟩ (fun H locs hP hD hS => ?_)
        refine tp_as (z := 0) (by rw [e1]; rfl) ?_
        refine lv_if_ne (tgt := 17) hx hb dX1_write_12 (by decide) (fun c_2 => ?_) (fun c_2 => ?_)
        · -- T of pc 12
          exact absurd (by decide) c_2
        · -- F of pc 12
          refine lv_iconst (v := 0) hx hb dX1_write_15 (by decide) ?_
          exact hret _ _ _ _ _ hP hD hS rfl dX1_write_16
    · rcases ix_cases 16 (by decide) q with ⟨e2, -⟩ | ⟨j, hj, rfl, e2⟩
      · simp only [mwr, e1, e2]
        refine ct_i.of (cc := cX1_write) (maxL := 4) (ty := .boolean) (by decide) rfl (Nat.le_of_ble_eq_true rfl) (nb_bI _) ?_
        intro p e s m args below meth c ls A Q hx hb hml hts hown hK hP hD hA hS hl hret
        have hown : s.vm.findClass RX1 = some m.cls := hown
        have hl : lv_has ls 4 [(0, .ref h0), (1, .int (nI i)), (2, .int q), (3, .int v)] := hl
        have hP : va_P D vwCl [(h0, .inr (1, [.ref a1, .ref a2, .ref a3, .ref a4, .ref a5, .int 0, .int (bI mk), .int (nI la), .int (lfI lf), .int (nI sh)])), (a1, .inl (k1, 384, .inl gw)), (a2, .inl (k2, 384, .inl gd)), (a3, .inl (k3, 384, .inl gl)), (a4, .inl (k4, 24, .inl (fun j => bI (dz j)))), (a5, .inl (k5, 24, .inl (fun j => bI (lg j))))] s.heap := hP
        have hD : va_D A [(h0, .inr (1, [.ref a1, .ref a2, .ref a3, .ref a4, .ref a5, .int 0, .int (bI mk), .int (nI la), .int (lfI lf), .int (nI sh)])), (a1, .inl (k1, 384, .inl gw)), (a2, .inl (k2, 384, .inl gd)), (a3, .inl (k3, 384, .inl gl)), (a4, .inl (k4, 24, .inl (fun j => bI (dz j)))), (a5, .inl (k5, 24, .inl (fun j => bI (lg j))))] := hD
        refine lv_aload_n hx hb dX1_write_0 rfl (lv_at hl 0 rfl) ?_
        refine va_get (ci := 1) (v := .int 0) (C := RX1) (T := TX1) (N := 10) hx hb hts (by decide +kernel) hown hK hP 0 rfl rfl 5 (by decide) (hts (.fieldLink RX1 30 "CommitLogModel" "off" "Z") (by decide +kernel)) (fun _ h9 => h9) rfl dX1_write_1 ?_
        refine lv_if_ne (tgt := 15) hx hb dX1_write_4 (by decide) (fun c_1 => ?_) (fun c_1 => ?_)
        · -- T of pc 4
          exact absurd (by decide) c_1
        · -- F of pc 4
          refine lv_iload_n hx hb dX1_write_7 rfl (lv_at hl 1 rfl) ?_
          refine lv_iload_n hx hb dX1_write_8 rfl (lv_at hl 2 rfl) ?_
          refine ct_Si (As := [.int (nI i), .int q]) (rest := []) (wr := [(h0, .inr (1, [.ref a1, .ref a2, .ref a3, .ref a4, .ref a5, .int 0, .int (bI mk), .int (nI la), .int (lfI lf), .int (nI sh)])), (a1, .inl (k1, 384, .inl gw)), (a2, .inl (k2, 384, .inl gd)), (a3, .inl (k3, 384, .inl gl)), (a4, .inl (k4, 24, .inl (fun j => bI (dz j)))), (a5, .inl (k5, 24, .inl (fun j => bI (lg j))))]) (wn := [(h0, .inr (1, [.ref a1, .ref a2, .ref a3, .ref a4, .ref a5, .int 0, .int (bI mk), .int (nI la), .int (lfI lf), .int (nI sh)])), (a1, .inl (k1, 384, .inl gw)), (a2, .inl (k2, 384, .inl gd)), (a3, .inl (k3, 384, .inl gl)), (a4, .inl (k4, 24, .inl (fun j => bI (dz j)))), (a5, .inl (k5, 24, .inl (fun j => bI (lg j))))]) ⟨hx, hb, hml, hown, hts⟩ (c1_isPlace l D (nI i) q) (va_cwS 2 hts gX1_write_X1_isPlace rfl rfl rfl (by decide +kernel) ⟨Nat.le_of_ble_eq_true rfl, Nat.le_of_ble_eq_true rfl⟩) hK hP hD hS hA [] [0, 1, 2, 3, 4, 5] [] [0, 1, 2, 3, 4, 5] rfl rfl (by decide) rfl (by decide) (by decide) rfl (by decide) rfl hl.1 rfl (Nat.le_of_ble_eq_true rfl) dX1_write_9 ⟨Nat.zero_le _, Nat.zero_le _⟩ (fun H locs hP hD hS => ?_)
          refine tp_as (z := 0) (by rw [e1, e2]; rfl) ?_
          refine lv_if_ne (tgt := 17) hx hb dX1_write_12 (by decide) (fun c_2 => ?_) (fun c_2 => ?_)
          · -- T of pc 12
            exact absurd (by decide) c_2
          · -- F of pc 12
            refine lv_iconst (v := 0) hx hb dX1_write_15 (by decide) ?_
            exact hret _ _ _ _ _ hP hD hS rfl dX1_write_16
      · simp only [mwr, e1, e2]
        refine ct_i.of (cc := cX1_write) (maxL := 4) (ty := .boolean) (by decide) rfl (Nat.le_of_ble_eq_true rfl) (nb_bI _) ?_
        intro p e s m args below meth c ls A Q hx hb hml hts hown hK hP hD hA hS hl hret
        have hown : s.vm.findClass RX1 = some m.cls := hown
        have hl : lv_has ls 4 [(0, .ref h0), (1, .int (nI i)), (2, .int (nI j)), (3, .int v)] := hl
        have hP : va_P D vwCl [(h0, .inr (1, [.ref a1, .ref a2, .ref a3, .ref a4, .ref a5, .int 0, .int (bI mk), .int (nI la), .int (lfI lf), .int (nI sh)])), (a1, .inl (k1, 384, .inl gw)), (a2, .inl (k2, 384, .inl gd)), (a3, .inl (k3, 384, .inl gl)), (a4, .inl (k4, 24, .inl (fun j => bI (dz j)))), (a5, .inl (k5, 24, .inl (fun j => bI (lg j))))] s.heap := hP
        have hD : va_D A [(h0, .inr (1, [.ref a1, .ref a2, .ref a3, .ref a4, .ref a5, .int 0, .int (bI mk), .int (nI la), .int (lfI lf), .int (nI sh)])), (a1, .inl (k1, 384, .inl gw)), (a2, .inl (k2, 384, .inl gd)), (a3, .inl (k3, 384, .inl gl)), (a4, .inl (k4, 24, .inl (fun j => bI (dz j)))), (a5, .inl (k5, 24, .inl (fun j => bI (lg j))))] := hD
        refine lv_aload_n hx hb dX1_write_0 rfl (lv_at hl 0 rfl) ?_
        refine va_get (ci := 1) (v := .int 0) (C := RX1) (T := TX1) (N := 10) hx hb hts (by decide +kernel) hown hK hP 0 rfl rfl 5 (by decide) (hts (.fieldLink RX1 30 "CommitLogModel" "off" "Z") (by decide +kernel)) (fun _ h9 => h9) rfl dX1_write_1 ?_
        refine lv_if_ne (tgt := 15) hx hb dX1_write_4 (by decide) (fun c_1 => ?_) (fun c_1 => ?_)
        · -- T of pc 4
          exact absurd (by decide) c_1
        · -- F of pc 4
          refine lv_iload_n hx hb dX1_write_7 rfl (lv_at hl 1 rfl) ?_
          refine lv_iload_n hx hb dX1_write_8 rfl (lv_at hl 2 rfl) ?_
          refine ct_Si (As := [.int (nI i), .int (nI j)]) (rest := []) (wr := [(h0, .inr (1, [.ref a1, .ref a2, .ref a3, .ref a4, .ref a5, .int 0, .int (bI mk), .int (nI la), .int (lfI lf), .int (nI sh)])), (a1, .inl (k1, 384, .inl gw)), (a2, .inl (k2, 384, .inl gd)), (a3, .inl (k3, 384, .inl gl)), (a4, .inl (k4, 24, .inl (fun j => bI (dz j)))), (a5, .inl (k5, 24, .inl (fun j => bI (lg j))))]) (wn := [(h0, .inr (1, [.ref a1, .ref a2, .ref a3, .ref a4, .ref a5, .int 0, .int (bI mk), .int (nI la), .int (lfI lf), .int (nI sh)])), (a1, .inl (k1, 384, .inl gw)), (a2, .inl (k2, 384, .inl gd)), (a3, .inl (k3, 384, .inl gl)), (a4, .inl (k4, 24, .inl (fun j => bI (dz j)))), (a5, .inl (k5, 24, .inl (fun j => bI (lg j))))]) ⟨hx, hb, hml, hown, hts⟩ (c1_isPlace l D (nI i) (nI j)) (va_cwS 2 hts gX1_write_X1_isPlace rfl rfl rfl (by decide +kernel) ⟨Nat.le_of_ble_eq_true rfl, Nat.le_of_ble_eq_true rfl⟩) hK hP hD hS hA [] [0, 1, 2, 3, 4, 5] [] [0, 1, 2, 3, 4, 5] rfl rfl (by decide) rfl (by decide) (by decide) rfl (by decide) rfl hl.1 rfl (Nat.le_of_ble_eq_true rfl) dX1_write_9 ⟨Nat.zero_le _, Nat.zero_le _⟩ (fun H locs hP hD hS => ?_)
          refine tp_as (z := 1) (by rw [e1, e2]; rfl) ?_
          refine lv_if_ne (tgt := 17) hx hb dX1_write_12 (by decide) (fun c_2 => ?_) (fun c_2 => ?_)
          · -- T of pc 12
            refine lv_aload_n hx hb dX1_write_17 rfl (lv_at hl 0 rfl) ?_
            refine va_get (ci := 1) (v := .ref a1) (C := RX1) (T := TX1) (N := 10) hx hb hts (by decide +kernel) hown hK hP 0 rfl rfl 0 (by decide) (hts (.fieldLink RX1 7 "CommitLogModel" "work" "[B") (by decide +kernel)) (fun _ h9 => h9) rfl dX1_write_18 ?_
            refine lv_bipush (v := 16) hx hb dX1_write_21 (by decide) ?_
            refine lv_iload_n hx hb dX1_write_23 rfl (lv_at hl 1 rfl) ?_
            refine lv_imul hx hb dX1_write_24 ?_
            refine tp_as (z := nI (i * 16)) (by rw [Nat.mul_comm i 16]; exact pk_mul 16 i) ?_
            refine lv_iload_n hx hb dX1_write_25 rfl (lv_at hl 2 rfl) ?_
            refine lv_iadd hx hb dX1_write_26 ?_
            refine tp_as (z := nI (i * 16 + j)) (nI_add _ _) ?_
            refine lv_iload_n hx hb dX1_write_27 rfl (lv_at hl 3 rfl) ?_
            refine lv_i2b (v := v.toInt8.toInt32) hx hb dX1_write_28 rfl ?_
            refine va_bast hx hb hK hP hD hS 1 0 rfl rfl (vp_in_nI (by omega) (by decide)) dX1_write_29 (fun H locs hP hD hS => ?_)
            rw [cl_nI (show i * 16 + j < 2 ^ 31 by omega), pk_vb] at hP hD
            have hP : va_P D vwCl [(h0, .inr (1, [.ref a1, .ref a2, .ref a3, .ref a4, .ref a5, .int 0, .int (bI mk), .int (nI la), .int (lfI lf), .int (nI sh)])), (a1, .inl (k1, 384, .inl (upd gw (i * 16 + j) v.toInt8.toInt32))), (a2, .inl (k2, 384, .inl gd)), (a3, .inl (k3, 384, .inl gl)), (a4, .inl (k4, 24, .inl (fun j => bI (dz j)))), (a5, .inl (k5, 24, .inl (fun j => bI (lg j))))] H := hP
            have hD : va_D _ [(h0, .inr (1, [.ref a1, .ref a2, .ref a3, .ref a4, .ref a5, .int 0, .int (bI mk), .int (nI la), .int (lfI lf), .int (nI sh)])), (a1, .inl (k1, 384, .inl (upd gw (i * 16 + j) v.toInt8.toInt32))), (a2, .inl (k2, 384, .inl gd)), (a3, .inl (k3, 384, .inl gl)), (a4, .inl (k4, 24, .inl (fun j => bI (dz j)))), (a5, .inl (k5, 24, .inl (fun j => bI (lg j))))] := hD
            refine lv_aload_n hx hb dX1_write_30 rfl (lv_at hl 0 rfl) ?_
            refine va_get (ci := 1) (v := .ref a4) (C := RX1) (T := TX1) (N := 10) hx hb hts (by decide +kernel) hown hK hP 0 rfl rfl 3 (by decide) (hts (.fieldLink RX1 19 "CommitLogModel" "dirty" "[Z") (by decide +kernel)) (fun _ h9 => h9) rfl dX1_write_31 ?_
            refine lv_iload_n hx hb dX1_write_34 rfl (lv_at hl 1 rfl) ?_
            refine lv_iconst (v := 1) hx hb dX1_write_35 (by decide) ?_
            refine va_zast hx hb hK hP hD hS 4 3 rfl rfl (vp_in_nI (by omega) (by decide)) dX1_write_36 (fun H locs hP hD hS => ?_)
            rw [cl_nI (show i < 2 ^ 31 by omega), show vp_nar .boolean 1 = bI true from rfl, up_bI] at hP hD
            have hP : va_P D vwCl [(h0, .inr (1, [.ref a1, .ref a2, .ref a3, .ref a4, .ref a5, .int 0, .int (bI mk), .int (nI la), .int (lfI lf), .int (nI sh)])), (a1, .inl (k1, 384, .inl (upd gw (i * 16 + j) v.toInt8.toInt32))), (a2, .inl (k2, 384, .inl gd)), (a3, .inl (k3, 384, .inl gl)), (a4, .inl (k4, 24, .inl (fun j => bI (va_up dz i true j)))), (a5, .inl (k5, 24, .inl (fun j => bI (lg j))))] H := hP
            have hD : va_D _ [(h0, .inr (1, [.ref a1, .ref a2, .ref a3, .ref a4, .ref a5, .int 0, .int (bI mk), .int (nI la), .int (lfI lf), .int (nI sh)])), (a1, .inl (k1, 384, .inl (upd gw (i * 16 + j) v.toInt8.toInt32))), (a2, .inl (k2, 384, .inl gd)), (a3, .inl (k3, 384, .inl gl)), (a4, .inl (k4, 24, .inl (fun j => bI (va_up dz i true j)))), (a5, .inl (k5, 24, .inl (fun j => bI (lg j))))] := hD
            refine lv_iconst (v := 1) hx hb dX1_write_37 (by decide) ?_
            exact hret _ _ _ _ _ hP hD hS rfl dX1_write_38
          · -- F of pc 12
            exact absurd c_2 (by decide)
set_option maxHeartbeats 4000000 in
set_option maxRecDepth 100000 in
theorem c1_read (l : Launch) (D : va_G) (h0 a1 a2 a3 a4 a5 : Nat) (k1 k2 k3 k4 k5 : ClassId) (gw gd gl : Nat → Int32) (dz lg : Nat → Bool) (of mk : Bool) (la : Nat) (lf : Option Nat) (sh : Nat) (b q : Int32) : ct_i l yX1_read wsX1_read ({ frames := 2, cells := 0, slots := 0, locals := 43 }) D vwCl (MT k1 k2 k3 k4 k5) [.ref h0, .int b, .int q] (MW h0 a1 a2 a3 a4 a5 k1 k2 k3 k4 k5 gw gd gl dz lg of mk la lf sh) (MW h0 a1 a2 a3 a4 a5 k1 k2 k3 k4 k5 gw gd gl dz lg of mk la lf sh) (mrd of gw b q) := by
  cases of with
  | true =>
    simp only [mrd]
    refine ct_i.of (cc := cX1_read) (maxL := 3) (ty := .int) (by decide) rfl (Nat.le_of_ble_eq_true rfl) rfl ?_
    intro p e s m args below meth c ls A Q hx hb hml hts hown hK hP hD hA hS hl hret
    have hown : s.vm.findClass RX1 = some m.cls := hown
    have hl : lv_has ls 3 [(0, .ref h0), (1, .int b), (2, .int q)] := hl
    have hP : va_P D vwCl [(h0, .inr (1, [.ref a1, .ref a2, .ref a3, .ref a4, .ref a5, .int 1, .int (bI mk), .int (nI la), .int (lfI lf), .int (nI sh)])), (a1, .inl (k1, 384, .inl gw)), (a2, .inl (k2, 384, .inl gd)), (a3, .inl (k3, 384, .inl gl)), (a4, .inl (k4, 24, .inl (fun j => bI (dz j)))), (a5, .inl (k5, 24, .inl (fun j => bI (lg j))))] s.heap := hP
    have hD : va_D A [(h0, .inr (1, [.ref a1, .ref a2, .ref a3, .ref a4, .ref a5, .int 1, .int (bI mk), .int (nI la), .int (lfI lf), .int (nI sh)])), (a1, .inl (k1, 384, .inl gw)), (a2, .inl (k2, 384, .inl gd)), (a3, .inl (k3, 384, .inl gl)), (a4, .inl (k4, 24, .inl (fun j => bI (dz j)))), (a5, .inl (k5, 24, .inl (fun j => bI (lg j))))] := hD
    refine lv_aload_n hx hb dX1_read_0 rfl (lv_at hl 0 rfl) ?_
    refine va_get (ci := 1) (v := .int 1) (C := RX1) (T := TX1) (N := 10) hx hb hts (by decide +kernel) hown hK hP 0 rfl rfl 5 (by decide) (hts (.fieldLink RX1 30 "CommitLogModel" "off" "Z") (by decide +kernel)) (fun _ h9 => h9) rfl dX1_read_1 ?_
    refine lv_if_ne (tgt := 15) hx hb dX1_read_4 (by decide) (fun c_1 => ?_) (fun c_1 => ?_)
    · -- T of pc 4
      refine lv_iconst (v := (-1)) hx hb dX1_read_15 (by decide) ?_
      refine lv_goto (tgt := 34) hx hb dX1_read_16 (by decide) ?_
      exact hret _ _ _ _ _ hP hD hS rfl dX1_read_34
    · -- F of pc 4
      exact absurd c_1 (by decide)
  | false =>
    rcases ix_cases 24 (by decide) b with ⟨e1, -⟩ | ⟨i, hi, rfl, e1⟩
    · simp only [mrd, e1]
      refine ct_i.of (cc := cX1_read) (maxL := 3) (ty := .int) (by decide) rfl (Nat.le_of_ble_eq_true rfl) rfl ?_
      intro p e s m args below meth c ls A Q hx hb hml hts hown hK hP hD hA hS hl hret
      have hown : s.vm.findClass RX1 = some m.cls := hown
      have hl : lv_has ls 3 [(0, .ref h0), (1, .int b), (2, .int q)] := hl
      have hP : va_P D vwCl [(h0, .inr (1, [.ref a1, .ref a2, .ref a3, .ref a4, .ref a5, .int 0, .int (bI mk), .int (nI la), .int (lfI lf), .int (nI sh)])), (a1, .inl (k1, 384, .inl gw)), (a2, .inl (k2, 384, .inl gd)), (a3, .inl (k3, 384, .inl gl)), (a4, .inl (k4, 24, .inl (fun j => bI (dz j)))), (a5, .inl (k5, 24, .inl (fun j => bI (lg j))))] s.heap := hP
      have hD : va_D A [(h0, .inr (1, [.ref a1, .ref a2, .ref a3, .ref a4, .ref a5, .int 0, .int (bI mk), .int (nI la), .int (lfI lf), .int (nI sh)])), (a1, .inl (k1, 384, .inl gw)), (a2, .inl (k2, 384, .inl gd)), (a3, .inl (k3, 384, .inl gl)), (a4, .inl (k4, 24, .inl (fun j => bI (dz j)))), (a5, .inl (k5, 24, .inl (fun j => bI (lg j))))] := hD
      refine lv_aload_n hx hb dX1_read_0 rfl (lv_at hl 0 rfl) ?_
      refine va_get (ci := 1) (v := .int 0) (C := RX1) (T := TX1) (N := 10) hx hb hts (by decide +kernel) hown hK hP 0 rfl rfl 5 (by decide) (hts (.fieldLink RX1 30 "CommitLogModel" "off" "Z") (by decide +kernel)) (fun _ h9 => h9) rfl dX1_read_1 ?_
      refine lv_if_ne (tgt := 15) hx hb dX1_read_4 (by decide) (fun c_1 => ?_) (fun c_1 => ?_)
      · -- T of pc 4
        exact absurd (by decide) c_1
      · -- F of pc 4
        refine lv_iload_n hx hb dX1_read_7 rfl (lv_at hl 1 rfl) ?_
        refine lv_iload_n hx hb dX1_read_8 rfl (lv_at hl 2 rfl) ?_
        refine ct_Si (As := [.int b, .int q]) (rest := []) (wr := [(h0, .inr (1, [.ref a1, .ref a2, .ref a3, .ref a4, .ref a5, .int 0, .int (bI mk), .int (nI la), .int (lfI lf), .int (nI sh)])), (a1, .inl (k1, 384, .inl gw)), (a2, .inl (k2, 384, .inl gd)), (a3, .inl (k3, 384, .inl gl)), (a4, .inl (k4, 24, .inl (fun j => bI (dz j)))), (a5, .inl (k5, 24, .inl (fun j => bI (lg j))))]) (wn := [(h0, .inr (1, [.ref a1, .ref a2, .ref a3, .ref a4, .ref a5, .int 0, .int (bI mk), .int (nI la), .int (lfI lf), .int (nI sh)])), (a1, .inl (k1, 384, .inl gw)), (a2, .inl (k2, 384, .inl gd)), (a3, .inl (k3, 384, .inl gl)), (a4, .inl (k4, 24, .inl (fun j => bI (dz j)))), (a5, .inl (k5, 24, .inl (fun j => bI (lg j))))]) ⟨hx, hb, hml, hown, hts⟩ (c1_isPlace l D b q) (va_cwS 2 hts gX1_read_X1_isPlace rfl rfl rfl (by decide +kernel) ⟨Nat.le_of_ble_eq_true rfl, Nat.le_of_ble_eq_true rfl⟩) hK hP hD hS hA [] [0, 1, 2, 3, 4, 5] [] [0, 1, 2, 3, 4, 5] rfl rfl (by decide) rfl (by decide) (by decide) rfl (by decide) rfl hl.1 rfl (Nat.le_of_ble_eq_true rfl) dX1_read_9 ⟨Nat.zero_le _, Nat.zero_le _⟩ (fun H locs hP hD hS => ?_)
        refine tp_as (z := 0) (by rw [e1]; rfl) ?_
        refine lv_if_ne (tgt := 19) hx hb dX1_read_12 (by decide) (fun c_2 => ?_) (fun c_2 => ?_)
        · -- T of pc 12
          exact absurd (by decide) c_2
        · -- F of pc 12
          refine lv_iconst (v := (-1)) hx hb dX1_read_15 (by decide) ?_
          refine lv_goto (tgt := 34) hx hb dX1_read_16 (by decide) ?_
          exact hret _ _ _ _ _ hP hD hS rfl dX1_read_34
    · rcases ix_cases 16 (by decide) q with ⟨e2, -⟩ | ⟨j, hj, rfl, e2⟩
      · simp only [mrd, e1, e2]
        refine ct_i.of (cc := cX1_read) (maxL := 3) (ty := .int) (by decide) rfl (Nat.le_of_ble_eq_true rfl) rfl ?_
        intro p e s m args below meth c ls A Q hx hb hml hts hown hK hP hD hA hS hl hret
        have hown : s.vm.findClass RX1 = some m.cls := hown
        have hl : lv_has ls 3 [(0, .ref h0), (1, .int (nI i)), (2, .int q)] := hl
        have hP : va_P D vwCl [(h0, .inr (1, [.ref a1, .ref a2, .ref a3, .ref a4, .ref a5, .int 0, .int (bI mk), .int (nI la), .int (lfI lf), .int (nI sh)])), (a1, .inl (k1, 384, .inl gw)), (a2, .inl (k2, 384, .inl gd)), (a3, .inl (k3, 384, .inl gl)), (a4, .inl (k4, 24, .inl (fun j => bI (dz j)))), (a5, .inl (k5, 24, .inl (fun j => bI (lg j))))] s.heap := hP
        have hD : va_D A [(h0, .inr (1, [.ref a1, .ref a2, .ref a3, .ref a4, .ref a5, .int 0, .int (bI mk), .int (nI la), .int (lfI lf), .int (nI sh)])), (a1, .inl (k1, 384, .inl gw)), (a2, .inl (k2, 384, .inl gd)), (a3, .inl (k3, 384, .inl gl)), (a4, .inl (k4, 24, .inl (fun j => bI (dz j)))), (a5, .inl (k5, 24, .inl (fun j => bI (lg j))))] := hD
        refine lv_aload_n hx hb dX1_read_0 rfl (lv_at hl 0 rfl) ?_
        refine va_get (ci := 1) (v := .int 0) (C := RX1) (T := TX1) (N := 10) hx hb hts (by decide +kernel) hown hK hP 0 rfl rfl 5 (by decide) (hts (.fieldLink RX1 30 "CommitLogModel" "off" "Z") (by decide +kernel)) (fun _ h9 => h9) rfl dX1_read_1 ?_
        refine lv_if_ne (tgt := 15) hx hb dX1_read_4 (by decide) (fun c_1 => ?_) (fun c_1 => ?_)
        · -- T of pc 4
          exact absurd (by decide) c_1
        · -- F of pc 4
          refine lv_iload_n hx hb dX1_read_7 rfl (lv_at hl 1 rfl) ?_
          refine lv_iload_n hx hb dX1_read_8 rfl (lv_at hl 2 rfl) ?_
          refine ct_Si (As := [.int (nI i), .int q]) (rest := []) (wr := [(h0, .inr (1, [.ref a1, .ref a2, .ref a3, .ref a4, .ref a5, .int 0, .int (bI mk), .int (nI la), .int (lfI lf), .int (nI sh)])), (a1, .inl (k1, 384, .inl gw)), (a2, .inl (k2, 384, .inl gd)), (a3, .inl (k3, 384, .inl gl)), (a4, .inl (k4, 24, .inl (fun j => bI (dz j)))), (a5, .inl (k5, 24, .inl (fun j => bI (lg j))))]) (wn := [(h0, .inr (1, [.ref a1, .ref a2, .ref a3, .ref a4, .ref a5, .int 0, .int (bI mk), .int (nI la), .int (lfI lf), .int (nI sh)])), (a1, .inl (k1, 384, .inl gw)), (a2, .inl (k2, 384, .inl gd)), (a3, .inl (k3, 384, .inl gl)), (a4, .inl (k4, 24, .inl (fun j => bI (dz j)))), (a5, .inl (k5, 24, .inl (fun j => bI (lg j))))]) ⟨hx, hb, hml, hown, hts⟩ (c1_isPlace l D (nI i) q) (va_cwS 2 hts gX1_read_X1_isPlace rfl rfl rfl (by decide +kernel) ⟨Nat.le_of_ble_eq_true rfl, Nat.le_of_ble_eq_true rfl⟩) hK hP hD hS hA [] [0, 1, 2, 3, 4, 5] [] [0, 1, 2, 3, 4, 5] rfl rfl (by decide) rfl (by decide) (by decide) rfl (by decide) rfl hl.1 rfl (Nat.le_of_ble_eq_true rfl) dX1_read_9 ⟨Nat.zero_le _, Nat.zero_le _⟩ (fun H locs hP hD hS => ?_)
          refine tp_as (z := 0) (by rw [e1, e2]; rfl) ?_
          refine lv_if_ne (tgt := 19) hx hb dX1_read_12 (by decide) (fun c_2 => ?_) (fun c_2 => ?_)
          · -- T of pc 12
            exact absurd (by decide) c_2
          · -- F of pc 12
            refine lv_iconst (v := (-1)) hx hb dX1_read_15 (by decide) ?_
            refine lv_goto (tgt := 34) hx hb dX1_read_16 (by decide) ?_
            exact hret _ _ _ _ _ hP hD hS rfl dX1_read_34
      · simp only [mrd, e1, e2]
        refine ct_i.of (cc := cX1_read) (maxL := 3) (ty := .int) (by decide) rfl (Nat.le_of_ble_eq_true rfl) rfl ?_
        intro p e s m args below meth c ls A Q hx hb hml hts hown hK hP hD hA hS hl hret
        have hown : s.vm.findClass RX1 = some m.cls := hown
        have hl : lv_has ls 3 [(0, .ref h0), (1, .int (nI i)), (2, .int (nI j))] := hl
        have hP : va_P D vwCl [(h0, .inr (1, [.ref a1, .ref a2, .ref a3, .ref a4, .ref a5, .int 0, .int (bI mk), .int (nI la), .int (lfI lf), .int (nI sh)])), (a1, .inl (k1, 384, .inl gw)), (a2, .inl (k2, 384, .inl gd)), (a3, .inl (k3, 384, .inl gl)), (a4, .inl (k4, 24, .inl (fun j => bI (dz j)))), (a5, .inl (k5, 24, .inl (fun j => bI (lg j))))] s.heap := hP
        have hD : va_D A [(h0, .inr (1, [.ref a1, .ref a2, .ref a3, .ref a4, .ref a5, .int 0, .int (bI mk), .int (nI la), .int (lfI lf), .int (nI sh)])), (a1, .inl (k1, 384, .inl gw)), (a2, .inl (k2, 384, .inl gd)), (a3, .inl (k3, 384, .inl gl)), (a4, .inl (k4, 24, .inl (fun j => bI (dz j)))), (a5, .inl (k5, 24, .inl (fun j => bI (lg j))))] := hD
        refine lv_aload_n hx hb dX1_read_0 rfl (lv_at hl 0 rfl) ?_
        refine va_get (ci := 1) (v := .int 0) (C := RX1) (T := TX1) (N := 10) hx hb hts (by decide +kernel) hown hK hP 0 rfl rfl 5 (by decide) (hts (.fieldLink RX1 30 "CommitLogModel" "off" "Z") (by decide +kernel)) (fun _ h9 => h9) rfl dX1_read_1 ?_
        refine lv_if_ne (tgt := 15) hx hb dX1_read_4 (by decide) (fun c_1 => ?_) (fun c_1 => ?_)
        · -- T of pc 4
          exact absurd (by decide) c_1
        · -- F of pc 4
          refine lv_iload_n hx hb dX1_read_7 rfl (lv_at hl 1 rfl) ?_
          refine lv_iload_n hx hb dX1_read_8 rfl (lv_at hl 2 rfl) ?_
          refine ct_Si (As := [.int (nI i), .int (nI j)]) (rest := []) (wr := [(h0, .inr (1, [.ref a1, .ref a2, .ref a3, .ref a4, .ref a5, .int 0, .int (bI mk), .int (nI la), .int (lfI lf), .int (nI sh)])), (a1, .inl (k1, 384, .inl gw)), (a2, .inl (k2, 384, .inl gd)), (a3, .inl (k3, 384, .inl gl)), (a4, .inl (k4, 24, .inl (fun j => bI (dz j)))), (a5, .inl (k5, 24, .inl (fun j => bI (lg j))))]) (wn := [(h0, .inr (1, [.ref a1, .ref a2, .ref a3, .ref a4, .ref a5, .int 0, .int (bI mk), .int (nI la), .int (lfI lf), .int (nI sh)])), (a1, .inl (k1, 384, .inl gw)), (a2, .inl (k2, 384, .inl gd)), (a3, .inl (k3, 384, .inl gl)), (a4, .inl (k4, 24, .inl (fun j => bI (dz j)))), (a5, .inl (k5, 24, .inl (fun j => bI (lg j))))]) ⟨hx, hb, hml, hown, hts⟩ (c1_isPlace l D (nI i) (nI j)) (va_cwS 2 hts gX1_read_X1_isPlace rfl rfl rfl (by decide +kernel) ⟨Nat.le_of_ble_eq_true rfl, Nat.le_of_ble_eq_true rfl⟩) hK hP hD hS hA [] [0, 1, 2, 3, 4, 5] [] [0, 1, 2, 3, 4, 5] rfl rfl (by decide) rfl (by decide) (by decide) rfl (by decide) rfl hl.1 rfl (Nat.le_of_ble_eq_true rfl) dX1_read_9 ⟨Nat.zero_le _, Nat.zero_le _⟩ (fun H locs hP hD hS => ?_)
          refine tp_as (z := 1) (by rw [e1, e2]; rfl) ?_
          refine lv_if_ne (tgt := 19) hx hb dX1_read_12 (by decide) (fun c_2 => ?_) (fun c_2 => ?_)
          · -- T of pc 12
            refine lv_aload_n hx hb dX1_read_19 rfl (lv_at hl 0 rfl) ?_
            refine va_get (ci := 1) (v := .ref a1) (C := RX1) (T := TX1) (N := 10) hx hb hts (by decide +kernel) hown hK hP 0 rfl rfl 0 (by decide) (hts (.fieldLink RX1 7 "CommitLogModel" "work" "[B") (by decide +kernel)) (fun _ h9 => h9) rfl dX1_read_20 ?_
            refine lv_bipush (v := 16) hx hb dX1_read_23 (by decide) ?_
            refine lv_iload_n hx hb dX1_read_25 rfl (lv_at hl 1 rfl) ?_
            refine lv_imul hx hb dX1_read_26 ?_
            refine tp_as (z := nI (i * 16)) (by rw [Nat.mul_comm i 16]; exact pk_mul 16 i) ?_
            refine lv_iload_n hx hb dX1_read_27 rfl (lv_at hl 2 rfl) ?_
            refine lv_iadd hx hb dX1_read_28 ?_
            refine tp_as (z := nI (i * 16 + j)) (nI_add _ _) ?_
            refine va_bald hx hb hK hP 1 0 rfl rfl (vp_in_nI (by omega) (by decide)) dX1_read_29 ?_
            refine tp_as (z := gw (i * 16 + j)) (by show gw (nI (i * 16 + j)).toNatClampNeg = _; rw [cl_nI (by omega)]) ?_
            refine lv_sipush (v := 255) hx hb dX1_read_30 (by decide) ?_
            refine lv_iand hx hb dX1_read_33 ?_
            exact hret _ _ _ _ _ hP hD hS rfl dX1_read_34
          · -- F of pc 12
            exact absurd c_2 (by decide)
set_option maxHeartbeats 4000000 in
set_option maxRecDepth 100000 in
theorem c1_disk (l : Launch) (D : va_G) (h0 a1 a2 a3 a4 a5 : Nat) (k1 k2 k3 k4 k5 : ClassId) (gw gd gl : Nat → Int32) (dz lg : Nat → Bool) (of mk : Bool) (la : Nat) (lf : Option Nat) (sh : Nat) (b q : Int32) : ct_i l yX1_disk wsX1_disk ({ frames := 2, cells := 0, slots := 0, locals := 43 }) D vwCl (MT k1 k2 k3 k4 k5) [.ref h0, .int b, .int q] (MW h0 a1 a2 a3 a4 a5 k1 k2 k3 k4 k5 gw gd gl dz lg of mk la lf sh) (MW h0 a1 a2 a3 a4 a5 k1 k2 k3 k4 k5 gw gd gl dz lg of mk la lf sh) (mrd false gd b q) := by
  rcases ix_cases 24 (by decide) b with ⟨e1, -⟩ | ⟨i, hi, rfl, e1⟩
  · simp only [mrd, e1]
    refine ct_i.of (cc := cX1_disk) (maxL := 3) (ty := .int) (by decide) rfl (Nat.le_of_ble_eq_true rfl) rfl ?_
    intro p e s m args below meth c ls A Q hx hb hml hts hown hK hP hD hA hS hl hret
    have hown : s.vm.findClass RX1 = some m.cls := hown
    have hl : lv_has ls 3 [(0, .ref h0), (1, .int b), (2, .int q)] := hl
    have hP : va_P D vwCl [(h0, .inr (1, [.ref a1, .ref a2, .ref a3, .ref a4, .ref a5, .int (bI of), .int (bI mk), .int (nI la), .int (lfI lf), .int (nI sh)])), (a1, .inl (k1, 384, .inl gw)), (a2, .inl (k2, 384, .inl gd)), (a3, .inl (k3, 384, .inl gl)), (a4, .inl (k4, 24, .inl (fun j => bI (dz j)))), (a5, .inl (k5, 24, .inl (fun j => bI (lg j))))] s.heap := hP
    have hD : va_D A [(h0, .inr (1, [.ref a1, .ref a2, .ref a3, .ref a4, .ref a5, .int (bI of), .int (bI mk), .int (nI la), .int (lfI lf), .int (nI sh)])), (a1, .inl (k1, 384, .inl gw)), (a2, .inl (k2, 384, .inl gd)), (a3, .inl (k3, 384, .inl gl)), (a4, .inl (k4, 24, .inl (fun j => bI (dz j)))), (a5, .inl (k5, 24, .inl (fun j => bI (lg j))))] := hD
    refine lv_iload_n hx hb dX1_disk_0 rfl (lv_at hl 1 rfl) ?_
    refine lv_iload_n hx hb dX1_disk_1 rfl (lv_at hl 2 rfl) ?_
    refine ct_Si (As := [.int b, .int q]) (rest := []) (wr := [(h0, .inr (1, [.ref a1, .ref a2, .ref a3, .ref a4, .ref a5, .int (bI of), .int (bI mk), .int (nI la), .int (lfI lf), .int (nI sh)])), (a1, .inl (k1, 384, .inl gw)), (a2, .inl (k2, 384, .inl gd)), (a3, .inl (k3, 384, .inl gl)), (a4, .inl (k4, 24, .inl (fun j => bI (dz j)))), (a5, .inl (k5, 24, .inl (fun j => bI (lg j))))]) (wn := [(h0, .inr (1, [.ref a1, .ref a2, .ref a3, .ref a4, .ref a5, .int (bI of), .int (bI mk), .int (nI la), .int (lfI lf), .int (nI sh)])), (a1, .inl (k1, 384, .inl gw)), (a2, .inl (k2, 384, .inl gd)), (a3, .inl (k3, 384, .inl gl)), (a4, .inl (k4, 24, .inl (fun j => bI (dz j)))), (a5, .inl (k5, 24, .inl (fun j => bI (lg j))))]) ⟨hx, hb, hml, hown, hts⟩ (c1_isPlace l D b q) (va_cwS 2 hts gX1_disk_X1_isPlace rfl rfl rfl (by decide +kernel) ⟨Nat.le_of_ble_eq_true rfl, Nat.le_of_ble_eq_true rfl⟩) hK hP hD hS hA [] [0, 1, 2, 3, 4, 5] [] [0, 1, 2, 3, 4, 5] rfl rfl (by decide) rfl (by decide) (by decide) rfl (by decide) rfl hl.1 rfl (Nat.le_of_ble_eq_true rfl) dX1_disk_2 ⟨Nat.zero_le _, Nat.zero_le _⟩ (fun H locs hP hD hS => ?_)
    refine tp_as (z := 0) (by rw [e1]; rfl) ?_
    refine lv_if_eq (tgt := 26) hx hb dX1_disk_5 (by decide) (fun c_1 => ?_) (fun c_1 => ?_)
    · -- T of pc 5
      refine lv_iconst (v := (-1)) hx hb dX1_disk_26 (by decide) ?_
      exact hret _ _ _ _ _ hP hD hS rfl dX1_disk_27
    · -- F of pc 5
      exact absurd (by decide) c_1
  · rcases ix_cases 16 (by decide) q with ⟨e2, -⟩ | ⟨j, hj, rfl, e2⟩
    · simp only [mrd, e1, e2]
      refine ct_i.of (cc := cX1_disk) (maxL := 3) (ty := .int) (by decide) rfl (Nat.le_of_ble_eq_true rfl) rfl ?_
      intro p e s m args below meth c ls A Q hx hb hml hts hown hK hP hD hA hS hl hret
      have hown : s.vm.findClass RX1 = some m.cls := hown
      have hl : lv_has ls 3 [(0, .ref h0), (1, .int (nI i)), (2, .int q)] := hl
      have hP : va_P D vwCl [(h0, .inr (1, [.ref a1, .ref a2, .ref a3, .ref a4, .ref a5, .int (bI of), .int (bI mk), .int (nI la), .int (lfI lf), .int (nI sh)])), (a1, .inl (k1, 384, .inl gw)), (a2, .inl (k2, 384, .inl gd)), (a3, .inl (k3, 384, .inl gl)), (a4, .inl (k4, 24, .inl (fun j => bI (dz j)))), (a5, .inl (k5, 24, .inl (fun j => bI (lg j))))] s.heap := hP
      have hD : va_D A [(h0, .inr (1, [.ref a1, .ref a2, .ref a3, .ref a4, .ref a5, .int (bI of), .int (bI mk), .int (nI la), .int (lfI lf), .int (nI sh)])), (a1, .inl (k1, 384, .inl gw)), (a2, .inl (k2, 384, .inl gd)), (a3, .inl (k3, 384, .inl gl)), (a4, .inl (k4, 24, .inl (fun j => bI (dz j)))), (a5, .inl (k5, 24, .inl (fun j => bI (lg j))))] := hD
      refine lv_iload_n hx hb dX1_disk_0 rfl (lv_at hl 1 rfl) ?_
      refine lv_iload_n hx hb dX1_disk_1 rfl (lv_at hl 2 rfl) ?_
      refine ct_Si (As := [.int (nI i), .int q]) (rest := []) (wr := [(h0, .inr (1, [.ref a1, .ref a2, .ref a3, .ref a4, .ref a5, .int (bI of), .int (bI mk), .int (nI la), .int (lfI lf), .int (nI sh)])), (a1, .inl (k1, 384, .inl gw)), (a2, .inl (k2, 384, .inl gd)), (a3, .inl (k3, 384, .inl gl)), (a4, .inl (k4, 24, .inl (fun j => bI (dz j)))), (a5, .inl (k5, 24, .inl (fun j => bI (lg j))))]) (wn := [(h0, .inr (1, [.ref a1, .ref a2, .ref a3, .ref a4, .ref a5, .int (bI of), .int (bI mk), .int (nI la), .int (lfI lf), .int (nI sh)])), (a1, .inl (k1, 384, .inl gw)), (a2, .inl (k2, 384, .inl gd)), (a3, .inl (k3, 384, .inl gl)), (a4, .inl (k4, 24, .inl (fun j => bI (dz j)))), (a5, .inl (k5, 24, .inl (fun j => bI (lg j))))]) ⟨hx, hb, hml, hown, hts⟩ (c1_isPlace l D (nI i) q) (va_cwS 2 hts gX1_disk_X1_isPlace rfl rfl rfl (by decide +kernel) ⟨Nat.le_of_ble_eq_true rfl, Nat.le_of_ble_eq_true rfl⟩) hK hP hD hS hA [] [0, 1, 2, 3, 4, 5] [] [0, 1, 2, 3, 4, 5] rfl rfl (by decide) rfl (by decide) (by decide) rfl (by decide) rfl hl.1 rfl (Nat.le_of_ble_eq_true rfl) dX1_disk_2 ⟨Nat.zero_le _, Nat.zero_le _⟩ (fun H locs hP hD hS => ?_)
      refine tp_as (z := 0) (by rw [e1, e2]; rfl) ?_
      refine lv_if_eq (tgt := 26) hx hb dX1_disk_5 (by decide) (fun c_1 => ?_) (fun c_1 => ?_)
      · -- T of pc 5
        refine lv_iconst (v := (-1)) hx hb dX1_disk_26 (by decide) ?_
        exact hret _ _ _ _ _ hP hD hS rfl dX1_disk_27
      · -- F of pc 5
        exact absurd (by decide) c_1
    · simp only [mrd, e1, e2]
      refine ct_i.of (cc := cX1_disk) (maxL := 3) (ty := .int) (by decide) rfl (Nat.le_of_ble_eq_true rfl) rfl ?_
      intro p e s m args below meth c ls A Q hx hb hml hts hown hK hP hD hA hS hl hret
      have hown : s.vm.findClass RX1 = some m.cls := hown
      have hl : lv_has ls 3 [(0, .ref h0), (1, .int (nI i)), (2, .int (nI j))] := hl
      have hP : va_P D vwCl [(h0, .inr (1, [.ref a1, .ref a2, .ref a3, .ref a4, .ref a5, .int (bI of), .int (bI mk), .int (nI la), .int (lfI lf), .int (nI sh)])), (a1, .inl (k1, 384, .inl gw)), (a2, .inl (k2, 384, .inl gd)), (a3, .inl (k3, 384, .inl gl)), (a4, .inl (k4, 24, .inl (fun j => bI (dz j)))), (a5, .inl (k5, 24, .inl (fun j => bI (lg j))))] s.heap := hP
      have hD : va_D A [(h0, .inr (1, [.ref a1, .ref a2, .ref a3, .ref a4, .ref a5, .int (bI of), .int (bI mk), .int (nI la), .int (lfI lf), .int (nI sh)])), (a1, .inl (k1, 384, .inl gw)), (a2, .inl (k2, 384, .inl gd)), (a3, .inl (k3, 384, .inl gl)), (a4, .inl (k4, 24, .inl (fun j => bI (dz j)))), (a5, .inl (k5, 24, .inl (fun j => bI (lg j))))] := hD
      refine lv_iload_n hx hb dX1_disk_0 rfl (lv_at hl 1 rfl) ?_
      refine lv_iload_n hx hb dX1_disk_1 rfl (lv_at hl 2 rfl) ?_
      refine ct_Si (As := [.int (nI i), .int (nI j)]) (rest := []) (wr := [(h0, .inr (1, [.ref a1, .ref a2, .ref a3, .ref a4, .ref a5, .int (bI of), .int (bI mk), .int (nI la), .int (lfI lf), .int (nI sh)])), (a1, .inl (k1, 384, .inl gw)), (a2, .inl (k2, 384, .inl gd)), (a3, .inl (k3, 384, .inl gl)), (a4, .inl (k4, 24, .inl (fun j => bI (dz j)))), (a5, .inl (k5, 24, .inl (fun j => bI (lg j))))]) (wn := [(h0, .inr (1, [.ref a1, .ref a2, .ref a3, .ref a4, .ref a5, .int (bI of), .int (bI mk), .int (nI la), .int (lfI lf), .int (nI sh)])), (a1, .inl (k1, 384, .inl gw)), (a2, .inl (k2, 384, .inl gd)), (a3, .inl (k3, 384, .inl gl)), (a4, .inl (k4, 24, .inl (fun j => bI (dz j)))), (a5, .inl (k5, 24, .inl (fun j => bI (lg j))))]) ⟨hx, hb, hml, hown, hts⟩ (c1_isPlace l D (nI i) (nI j)) (va_cwS 2 hts gX1_disk_X1_isPlace rfl rfl rfl (by decide +kernel) ⟨Nat.le_of_ble_eq_true rfl, Nat.le_of_ble_eq_true rfl⟩) hK hP hD hS hA [] [0, 1, 2, 3, 4, 5] [] [0, 1, 2, 3, 4, 5] rfl rfl (by decide) rfl (by decide) (by decide) rfl (by decide) rfl hl.1 rfl (Nat.le_of_ble_eq_true rfl) dX1_disk_2 ⟨Nat.zero_le _, Nat.zero_le _⟩ (fun H locs hP hD hS => ?_)
      refine tp_as (z := 1) (by rw [e1, e2]; rfl) ?_
      refine lv_if_eq (tgt := 26) hx hb dX1_disk_5 (by decide) (fun c_1 => ?_) (fun c_1 => ?_)
      · -- T of pc 5
        exact absurd c_1 (by decide)
      · -- F of pc 5
        refine lv_aload_n hx hb dX1_disk_8 rfl (lv_at hl 0 rfl) ?_
        refine va_get (ci := 1) (v := .ref a2) (C := RX1) (T := TX1) (N := 10) hx hb hts (by decide +kernel) hown hK hP 0 rfl rfl 1 (by decide) (hts (.fieldLink RX1 13 "CommitLogModel" "disk" "[B") (by decide +kernel)) (fun _ h9 => h9) rfl dX1_disk_9 ?_
        refine lv_bipush (v := 16) hx hb dX1_disk_12 (by decide) ?_
        refine lv_iload_n hx hb dX1_disk_14 rfl (lv_at hl 1 rfl) ?_
        refine lv_imul hx hb dX1_disk_15 ?_
        refine tp_as (z := nI (i * 16)) (by rw [Nat.mul_comm i 16]; exact pk_mul 16 i) ?_
        refine lv_iload_n hx hb dX1_disk_16 rfl (lv_at hl 2 rfl) ?_
        refine lv_iadd hx hb dX1_disk_17 ?_
        refine tp_as (z := nI (i * 16 + j)) (nI_add _ _) ?_
        refine va_bald hx hb hK hP 2 1 rfl rfl (vp_in_nI (by omega) (by decide)) dX1_disk_18 ?_
        refine tp_as (z := gd (i * 16 + j)) (by show gd (nI (i * 16 + j)).toNatClampNeg = _; rw [cl_nI (by omega)]) ?_
        refine lv_sipush (v := 255) hx hb dX1_disk_19 (by decide) ?_
        refine lv_iand hx hb dX1_disk_22 ?_
        refine lv_goto (tgt := 27) hx hb dX1_disk_23 (by decide) ?_
        exact hret _ _ _ _ _ hP hD hS rfl dX1_disk_27
set_option maxHeartbeats 4000000 in
set_option maxRecDepth 100000 in
theorem c1_dirty (l : Launch) (D : va_G) (h0 a1 a2 a3 a4 a5 : Nat) (k1 k2 k3 k4 k5 : ClassId) (gw gd gl : Nat → Int32) (dz lg : Nat → Bool) (of mk : Bool) (la : Nat) (lf : Option Nat) (sh : Nat) (b : Int32) : ct_i l yX1_dirty wsX1_dirty ({ frames := 2, cells := 0, slots := 0, locals := 43 }) D vwCl (MT k1 k2 k3 k4 k5) [.ref h0, .int b] (MW h0 a1 a2 a3 a4 a5 k1 k2 k3 k4 k5 gw gd gl dz lg of mk la lf sh) (MW h0 a1 a2 a3 a4 a5 k1 k2 k3 k4 k5 gw gd gl dz lg of mk la lf sh) (bI (mdt of dz b)) := by
  cases of with
  | true =>
    simp only [mdt]
    refine ct_i.of (cc := cX1_dirty) (maxL := 2) (ty := .boolean) (by decide) rfl (Nat.le_of_ble_eq_true rfl) (nb_bI _) ?_
    intro p e s m args below meth c ls A Q hx hb hml hts hown hK hP hD hA hS hl hret
    have hown : s.vm.findClass RX1 = some m.cls := hown
    have hl : lv_has ls 2 [(0, .ref h0), (1, .int b)] := hl
    have hP : va_P D vwCl [(h0, .inr (1, [.ref a1, .ref a2, .ref a3, .ref a4, .ref a5, .int 1, .int (bI mk), .int (nI la), .int (lfI lf), .int (nI sh)])), (a1, .inl (k1, 384, .inl gw)), (a2, .inl (k2, 384, .inl gd)), (a3, .inl (k3, 384, .inl gl)), (a4, .inl (k4, 24, .inl (fun j => bI (dz j)))), (a5, .inl (k5, 24, .inl (fun j => bI (lg j))))] s.heap := hP
    have hD : va_D A [(h0, .inr (1, [.ref a1, .ref a2, .ref a3, .ref a4, .ref a5, .int 1, .int (bI mk), .int (nI la), .int (lfI lf), .int (nI sh)])), (a1, .inl (k1, 384, .inl gw)), (a2, .inl (k2, 384, .inl gd)), (a3, .inl (k3, 384, .inl gl)), (a4, .inl (k4, 24, .inl (fun j => bI (dz j)))), (a5, .inl (k5, 24, .inl (fun j => bI (lg j))))] := hD
    refine lv_aload_n hx hb dX1_dirty_0 rfl (lv_at hl 0 rfl) ?_
    refine va_get (ci := 1) (v := .int 1) (C := RX1) (T := TX1) (N := 10) hx hb hts (by decide +kernel) hown hK hP 0 rfl rfl 5 (by decide) (hts (.fieldLink RX1 30 "CommitLogModel" "off" "Z") (by decide +kernel)) (fun _ h9 => h9) rfl dX1_dirty_1 ?_
    refine lv_if_ne (tgt := 30) hx hb dX1_dirty_4 (by decide) (fun c_1 => ?_) (fun c_1 => ?_)
    · -- T of pc 4
      refine lv_iconst (v := 0) hx hb dX1_dirty_30 (by decide) ?_
      exact hret _ _ _ _ _ hP hD hS rfl dX1_dirty_31
    · -- F of pc 4
      exact absurd c_1 (by decide)
  | false =>
    rcases ix_cases 24 (by decide) b with ⟨e1, -⟩ | ⟨i, hi, rfl, e1⟩
    · simp only [mdt, e1]
      refine ct_i.of (cc := cX1_dirty) (maxL := 2) (ty := .boolean) (by decide) rfl (Nat.le_of_ble_eq_true rfl) (nb_bI _) ?_
      intro p e s m args below meth c ls A Q hx hb hml hts hown hK hP hD hA hS hl hret
      have hown : s.vm.findClass RX1 = some m.cls := hown
      have hl : lv_has ls 2 [(0, .ref h0), (1, .int b)] := hl
      have hP : va_P D vwCl [(h0, .inr (1, [.ref a1, .ref a2, .ref a3, .ref a4, .ref a5, .int 0, .int (bI mk), .int (nI la), .int (lfI lf), .int (nI sh)])), (a1, .inl (k1, 384, .inl gw)), (a2, .inl (k2, 384, .inl gd)), (a3, .inl (k3, 384, .inl gl)), (a4, .inl (k4, 24, .inl (fun j => bI (dz j)))), (a5, .inl (k5, 24, .inl (fun j => bI (lg j))))] s.heap := hP
      have hD : va_D A [(h0, .inr (1, [.ref a1, .ref a2, .ref a3, .ref a4, .ref a5, .int 0, .int (bI mk), .int (nI la), .int (lfI lf), .int (nI sh)])), (a1, .inl (k1, 384, .inl gw)), (a2, .inl (k2, 384, .inl gd)), (a3, .inl (k3, 384, .inl gl)), (a4, .inl (k4, 24, .inl (fun j => bI (dz j)))), (a5, .inl (k5, 24, .inl (fun j => bI (lg j))))] := hD
      refine lv_aload_n hx hb dX1_dirty_0 rfl (lv_at hl 0 rfl) ?_
      refine va_get (ci := 1) (v := .int 0) (C := RX1) (T := TX1) (N := 10) hx hb hts (by decide +kernel) hown hK hP 0 rfl rfl 5 (by decide) (hts (.fieldLink RX1 30 "CommitLogModel" "off" "Z") (by decide +kernel)) (fun _ h9 => h9) rfl dX1_dirty_1 ?_
      refine lv_if_ne (tgt := 30) hx hb dX1_dirty_4 (by decide) (fun c_1 => ?_) (fun c_1 => ?_)
      · -- T of pc 4
        exact absurd (by decide) c_1
      · -- F of pc 4
        refine lv_iload_n hx hb dX1_dirty_7 rfl (lv_at hl 1 rfl) ?_
        refine lv_iconst (v := 0) hx hb dX1_dirty_8 (by decide) ?_
        refine lv_bipush (v := 23) hx hb dX1_dirty_9 (by decide) ?_
        refine ct_Si (As := [.int b, .int 0, .int 23]) (rest := []) (wr := [(h0, .inr (1, [.ref a1, .ref a2, .ref a3, .ref a4, .ref a5, .int 0, .int (bI mk), .int (nI la), .int (lfI lf), .int (nI sh)])), (a1, .inl (k1, 384, .inl gw)), (a2, .inl (k2, 384, .inl gd)), (a3, .inl (k3, 384, .inl gl)), (a4, .inl (k4, 24, .inl (fun j => bI (dz j)))), (a5, .inl (k5, 24, .inl (fun j => bI (lg j))))]) (wn := [(h0, .inr (1, [.ref a1, .ref a2, .ref a3, .ref a4, .ref a5, .int 0, .int (bI mk), .int (nI la), .int (lfI lf), .int (nI sh)])), (a1, .inl (k1, 384, .inl gw)), (a2, .inl (k2, 384, .inl gd)), (a3, .inl (k3, 384, .inl gl)), (a4, .inl (k4, 24, .inl (fun j => bI (dz j)))), (a5, .inl (k5, 24, .inl (fun j => bI (lg j))))]) ⟨hx, hb, hml, hown, hts⟩ (c1_in l D b 0 23) (va_cwS 3 hts gX1_dirty_X1_in rfl rfl rfl (by decide +kernel) ⟨Nat.le_of_ble_eq_true rfl, Nat.le_of_ble_eq_true rfl⟩) hK hP hD hS hA [] [0, 1, 2, 3, 4, 5] [] [0, 1, 2, 3, 4, 5] rfl rfl (by decide) rfl (by decide) (by decide) rfl (by decide) rfl hl.1 rfl (Nat.le_of_ble_eq_true rfl) dX1_dirty_11 ⟨Nat.zero_le _, Nat.zero_le _⟩ (fun H locs hP hD hS => ?_)
        refine tp_as (z := 0) (by rw [inR_ix 24 (by decide) 23 rfl _, e1]; rfl) ?_
        refine lv_if_eq (tgt := 30) hx hb dX1_dirty_14 (by decide) (fun c_2 => ?_) (fun c_2 => ?_)
        · -- T of pc 14
          refine lv_iconst (v := 0) hx hb dX1_dirty_30 (by decide) ?_
          exact hret _ _ _ _ _ hP hD hS rfl dX1_dirty_31
        · -- F of pc 14
          exact absurd (by decide) c_2
    · simp only [mdt, e1]
      refine ct_i.of (cc := cX1_dirty) (maxL := 2) (ty := .boolean) (by decide) rfl (Nat.le_of_ble_eq_true rfl) (nb_bI _) ?_
      intro p e s m args below meth c ls A Q hx hb hml hts hown hK hP hD hA hS hl hret
      have hown : s.vm.findClass RX1 = some m.cls := hown
      have hl : lv_has ls 2 [(0, .ref h0), (1, .int (nI i))] := hl
      have hP : va_P D vwCl [(h0, .inr (1, [.ref a1, .ref a2, .ref a3, .ref a4, .ref a5, .int 0, .int (bI mk), .int (nI la), .int (lfI lf), .int (nI sh)])), (a1, .inl (k1, 384, .inl gw)), (a2, .inl (k2, 384, .inl gd)), (a3, .inl (k3, 384, .inl gl)), (a4, .inl (k4, 24, .inl (fun j => bI (dz j)))), (a5, .inl (k5, 24, .inl (fun j => bI (lg j))))] s.heap := hP
      have hD : va_D A [(h0, .inr (1, [.ref a1, .ref a2, .ref a3, .ref a4, .ref a5, .int 0, .int (bI mk), .int (nI la), .int (lfI lf), .int (nI sh)])), (a1, .inl (k1, 384, .inl gw)), (a2, .inl (k2, 384, .inl gd)), (a3, .inl (k3, 384, .inl gl)), (a4, .inl (k4, 24, .inl (fun j => bI (dz j)))), (a5, .inl (k5, 24, .inl (fun j => bI (lg j))))] := hD
      refine lv_aload_n hx hb dX1_dirty_0 rfl (lv_at hl 0 rfl) ?_
      refine va_get (ci := 1) (v := .int 0) (C := RX1) (T := TX1) (N := 10) hx hb hts (by decide +kernel) hown hK hP 0 rfl rfl 5 (by decide) (hts (.fieldLink RX1 30 "CommitLogModel" "off" "Z") (by decide +kernel)) (fun _ h9 => h9) rfl dX1_dirty_1 ?_
      refine lv_if_ne (tgt := 30) hx hb dX1_dirty_4 (by decide) (fun c_1 => ?_) (fun c_1 => ?_)
      · -- T of pc 4
        exact absurd (by decide) c_1
      · -- F of pc 4
        refine lv_iload_n hx hb dX1_dirty_7 rfl (lv_at hl 1 rfl) ?_
        refine lv_iconst (v := 0) hx hb dX1_dirty_8 (by decide) ?_
        refine lv_bipush (v := 23) hx hb dX1_dirty_9 (by decide) ?_
        refine ct_Si (As := [.int (nI i), .int 0, .int 23]) (rest := []) (wr := [(h0, .inr (1, [.ref a1, .ref a2, .ref a3, .ref a4, .ref a5, .int 0, .int (bI mk), .int (nI la), .int (lfI lf), .int (nI sh)])), (a1, .inl (k1, 384, .inl gw)), (a2, .inl (k2, 384, .inl gd)), (a3, .inl (k3, 384, .inl gl)), (a4, .inl (k4, 24, .inl (fun j => bI (dz j)))), (a5, .inl (k5, 24, .inl (fun j => bI (lg j))))]) (wn := [(h0, .inr (1, [.ref a1, .ref a2, .ref a3, .ref a4, .ref a5, .int 0, .int (bI mk), .int (nI la), .int (lfI lf), .int (nI sh)])), (a1, .inl (k1, 384, .inl gw)), (a2, .inl (k2, 384, .inl gd)), (a3, .inl (k3, 384, .inl gl)), (a4, .inl (k4, 24, .inl (fun j => bI (dz j)))), (a5, .inl (k5, 24, .inl (fun j => bI (lg j))))]) ⟨hx, hb, hml, hown, hts⟩ (c1_in l D (nI i) 0 23) (va_cwS 3 hts gX1_dirty_X1_in rfl rfl rfl (by decide +kernel) ⟨Nat.le_of_ble_eq_true rfl, Nat.le_of_ble_eq_true rfl⟩) hK hP hD hS hA [] [0, 1, 2, 3, 4, 5] [] [0, 1, 2, 3, 4, 5] rfl rfl (by decide) rfl (by decide) (by decide) rfl (by decide) rfl hl.1 rfl (Nat.le_of_ble_eq_true rfl) dX1_dirty_11 ⟨Nat.zero_le _, Nat.zero_le _⟩ (fun H locs hP hD hS => ?_)
        refine tp_as (z := 1) (by rw [inR_ix 24 (by decide) 23 rfl _, e1]; rfl) ?_
        refine lv_if_eq (tgt := 30) hx hb dX1_dirty_14 (by decide) (fun c_2 => ?_) (fun c_2 => ?_)
        · -- T of pc 14
          exact absurd c_2 (by decide)
        · -- F of pc 14
          refine lv_aload_n hx hb dX1_dirty_17 rfl (lv_at hl 0 rfl) ?_
          refine va_get (ci := 1) (v := .ref a4) (C := RX1) (T := TX1) (N := 10) hx hb hts (by decide +kernel) hown hK hP 0 rfl rfl 3 (by decide) (hts (.fieldLink RX1 19 "CommitLogModel" "dirty" "[Z") (by decide +kernel)) (fun _ h9 => h9) rfl dX1_dirty_18 ?_
          refine lv_iload_n hx hb dX1_dirty_21 rfl (lv_at hl 1 rfl) ?_
          refine va_zald hx hb hK hP 4 3 rfl rfl (vp_in_nI (by omega) (by decide)) dX1_dirty_22 ?_
          refine tp_as (z := bI (dz i)) (by show bI (dz (nI i).toNatClampNeg) = _; rw [cl_nI (by omega)]) ?_
          refine lv_if_eq (tgt := 30) hx hb dX1_dirty_23 (by decide) (fun c_3 => ?_) (fun c_3 => ?_)
          · -- T of pc 23
            refine lv_iconst (v := 0) hx hb dX1_dirty_30 (by decide) ?_
            exact hret _ _ _ _ _ hP hD hS (by first | rfl | exact dz_0 (by assumption) | exact dz_1 (by assumption)) dX1_dirty_31
          · -- F of pc 23
            refine lv_iconst (v := 1) hx hb dX1_dirty_26 (by decide) ?_
            refine lv_goto (tgt := 31) hx hb dX1_dirty_27 (by decide) ?_
            exact hret _ _ _ _ _ hP hD hS (by first | rfl | exact dz_0 (by assumption) | exact dz_1 (by assumption)) dX1_dirty_31
set_option maxHeartbeats 4000000 in
set_option maxRecDepth 100000 in
theorem c1_revert (l : Launch) (D : va_G) (h0 a1 a2 a3 a4 a5 : Nat) (k1 k2 k3 k4 k5 : ClassId) (gw gd gl : Nat → Int32) (dz lg : Nat → Bool) (of mk : Bool) (la : Nat) (lf : Option Nat) (sh : Nat) : ct_i l yX1_revert wsX1_revert ({ frames := 2, cells := 0, slots := 0, locals := 46 }) D vwCl (MT k1 k2 k3 k4 k5) [.ref h0] (MW h0 a1 a2 a3 a4 a5 k1 k2 k3 k4 k5 gw gd gl dz lg of mk la lf sh) (MW h0 a1 a2 a3 a4 a5 k1 k2 k3 k4 k5 (bif of then gw else frK gd gw 24) gd gl (bif of then dz else clr dz 24) lg of mk la lf sh) (bI (!of)) := by
  cases of with
  | true =>
    refine ct_i.of (cc := cX1_revert) (maxL := 1) (ty := .boolean) (by decide) rfl (Nat.le_of_ble_eq_true rfl) (nb_bI _) ?_
    intro p e s m args below meth c ls A Q hx hb hml hts hown hK hP hD hA hS hl hret
    have hown : s.vm.findClass RX1 = some m.cls := hown
    have hl : lv_has ls 1 [(0, .ref h0)] := hl
    have hP : va_P D vwCl [(h0, .inr (1, [.ref a1, .ref a2, .ref a3, .ref a4, .ref a5, .int 1, .int (bI mk), .int (nI la), .int (lfI lf), .int (nI sh)])), (a1, .inl (k1, 384, .inl gw)), (a2, .inl (k2, 384, .inl gd)), (a3, .inl (k3, 384, .inl gl)), (a4, .inl (k4, 24, .inl (fun j => bI (dz j)))), (a5, .inl (k5, 24, .inl (fun j => bI (lg j))))] s.heap := hP
    have hD : va_D A [(h0, .inr (1, [.ref a1, .ref a2, .ref a3, .ref a4, .ref a5, .int 1, .int (bI mk), .int (nI la), .int (lfI lf), .int (nI sh)])), (a1, .inl (k1, 384, .inl gw)), (a2, .inl (k2, 384, .inl gd)), (a3, .inl (k3, 384, .inl gl)), (a4, .inl (k4, 24, .inl (fun j => bI (dz j)))), (a5, .inl (k5, 24, .inl (fun j => bI (lg j))))] := hD
    refine lv_aload_n hx hb dX1_revert_0 rfl (lv_at hl 0 rfl) ?_
    refine va_get (ci := 1) (v := .int 1) (C := RX1) (T := TX1) (N := 10) hx hb hts (by decide +kernel) hown hK hP 0 rfl rfl 5 (by decide) (hts (.fieldLink RX1 30 "CommitLogModel" "off" "Z") (by decide +kernel)) (fun _ h9 => h9) rfl dX1_revert_1 ?_
    refine lv_if_eq (tgt := 9) hx hb dX1_revert_4 (by decide) (fun c_1 => ?_) (fun c_1 => ?_)
    · -- T of pc 4
      exact absurd c_1 (by decide)
    · -- F of pc 4
      refine lv_iconst (v := 0) hx hb dX1_revert_7 (by decide) ?_
      exact hret _ _ _ _ _ hP hD hS rfl dX1_revert_8
  | false =>
    refine ct_i.of (cc := cX1_revert) (maxL := 1) (ty := .boolean) (by decide) rfl (Nat.le_of_ble_eq_true rfl) (nb_bI _) ?_
    intro p e s m args below meth c ls A Q hx hb hml hts hown hK hP hD hA hS hl hret
    have hown : s.vm.findClass RX1 = some m.cls := hown
    have hl : lv_has ls 1 [(0, .ref h0)] := hl
    have hP : va_P D vwCl [(h0, .inr (1, [.ref a1, .ref a2, .ref a3, .ref a4, .ref a5, .int 0, .int (bI mk), .int (nI la), .int (lfI lf), .int (nI sh)])), (a1, .inl (k1, 384, .inl gw)), (a2, .inl (k2, 384, .inl gd)), (a3, .inl (k3, 384, .inl gl)), (a4, .inl (k4, 24, .inl (fun j => bI (dz j)))), (a5, .inl (k5, 24, .inl (fun j => bI (lg j))))] s.heap := hP
    have hD : va_D A [(h0, .inr (1, [.ref a1, .ref a2, .ref a3, .ref a4, .ref a5, .int 0, .int (bI mk), .int (nI la), .int (lfI lf), .int (nI sh)])), (a1, .inl (k1, 384, .inl gw)), (a2, .inl (k2, 384, .inl gd)), (a3, .inl (k3, 384, .inl gl)), (a4, .inl (k4, 24, .inl (fun j => bI (dz j)))), (a5, .inl (k5, 24, .inl (fun j => bI (lg j))))] := hD
    refine lv_aload_n hx hb dX1_revert_0 rfl (lv_at hl 0 rfl) ?_
    refine va_get (ci := 1) (v := .int 0) (C := RX1) (T := TX1) (N := 10) hx hb hts (by decide +kernel) hown hK hP 0 rfl rfl 5 (by decide) (hts (.fieldLink RX1 30 "CommitLogModel" "off" "Z") (by decide +kernel)) (fun _ h9 => h9) rfl dX1_revert_1 ?_
    refine lv_if_eq (tgt := 9) hx hb dX1_revert_4 (by decide) (fun c_1 => ?_) (fun c_1 => ?_)
    · -- T of pc 4
      refine lv_aload_n hx hb dX1_revert_9 rfl (lv_at hl 0 rfl) ?_
      refine ct_Vv (As := []) (rest := []) (wr := []) (wn := [(h0, .inr (1, [.ref a1, .ref a2, .ref a3, .ref a4, .ref a5, .int 0, .int (bI mk), .int (nI la), .int (lfI lf), .int (nI sh)])), (a1, .inl (k1, 384, .inl (frK gd gw 24))), (a2, .inl (k2, 384, .inl gd)), (a3, .inl (k3, 384, .inl gl)), (a4, .inl (k4, 24, .inl (fun j => bI ((clr dz 24) j)))), (a5, .inl (k5, 24, .inl (fun j => bI (lg j))))]) ⟨hx, hb, hml, hown, hts⟩ (c1_fresh l D h0 a1 a2 a3 a4 a5 k1 k2 k3 k4 k5 gw gd gl dz lg false mk la lf sh) (cwV 0 hts gX1_revert_X1_fresh rfl rfl rfl (by decide +kernel) ⟨Nat.le_of_ble_eq_true rfl, Nat.le_of_ble_eq_true rfl⟩) hK hP hD hS hA [0, 1, 2, 3, 4, 5] [] [0, 1, 2, 3, 4] [0, 1, 2, 3, 4, 5] rfl rfl (by decide) rfl (by decide) (by decide) rfl (by decide) 1 rfl 0 rfl rfl hl.1 rfl (Nat.le_of_ble_eq_true rfl) dX1_revert_10 ⟨Nat.zero_le _, Nat.zero_le _⟩ (fun H locs hP hD hS => ?_)
      refine lv_iconst (v := 1) hx hb dX1_revert_13 (by decide) ?_
      exact hret _ _ _ _ _ hP hD hS rfl dX1_revert_14
    · -- F of pc 4
      exact absurd (by decide) c_1
set_option maxHeartbeats 4000000 in
set_option maxRecDepth 100000 in
theorem c1_cut (l : Launch) (D : va_G) (h0 a1 a2 a3 a4 a5 : Nat) (k1 k2 k3 k4 k5 : ClassId) (gw gd gl : Nat → Int32) (dz lg : Nat → Bool) (of mk : Bool) (la : Nat) (lf : Option Nat) (sh : Nat) (n t : Int32) : ct_i l yX1_cut wsX1_cut ({ frames := 1, cells := 0, slots := 0, locals := 22 }) D vwCl (MT k1 k2 k3 k4 k5) [.ref h0, .int n, .int t] (MW h0 a1 a2 a3 a4 a5 k1 k2 k3 k4 k5 gw gd gl dz lg of mk la lf sh) (MW h0 a1 a2 a3 a4 a5 k1 k2 k3 k4 k5 gw gd gl dz lg of mk la ((mct of lf sh n t).1) ((mct of lf sh n t).2.1)) (bI (mct of lf sh n t).2.2) := by
  cases of with
  | true =>
    simp only [mct]
    refine ct_i.of (cc := cX1_cut) (maxL := 3) (ty := .boolean) (by decide) rfl (Nat.le_of_ble_eq_true rfl) (nb_bI _) ?_
    intro p e s m args below meth c ls A Q hx hb hml hts hown hK hP hD hA hS hl hret
    have hown : s.vm.findClass RX1 = some m.cls := hown
    have hl : lv_has ls 3 [(0, .ref h0), (1, .int n), (2, .int t)] := hl
    have hP : va_P D vwCl [(h0, .inr (1, [.ref a1, .ref a2, .ref a3, .ref a4, .ref a5, .int 1, .int (bI mk), .int (nI la), .int (lfI lf), .int (nI sh)])), (a1, .inl (k1, 384, .inl gw)), (a2, .inl (k2, 384, .inl gd)), (a3, .inl (k3, 384, .inl gl)), (a4, .inl (k4, 24, .inl (fun j => bI (dz j)))), (a5, .inl (k5, 24, .inl (fun j => bI (lg j))))] s.heap := hP
    have hD : va_D A [(h0, .inr (1, [.ref a1, .ref a2, .ref a3, .ref a4, .ref a5, .int 1, .int (bI mk), .int (nI la), .int (lfI lf), .int (nI sh)])), (a1, .inl (k1, 384, .inl gw)), (a2, .inl (k2, 384, .inl gd)), (a3, .inl (k3, 384, .inl gl)), (a4, .inl (k4, 24, .inl (fun j => bI (dz j)))), (a5, .inl (k5, 24, .inl (fun j => bI (lg j))))] := hD
    refine lv_aload_n hx hb dX1_cut_0 rfl (lv_at hl 0 rfl) ?_
    refine va_get (ci := 1) (v := .int 1) (C := RX1) (T := TX1) (N := 10) hx hb hts (by decide +kernel) hown hK hP 0 rfl rfl 5 (by decide) (hts (.fieldLink RX1 30 "CommitLogModel" "off" "Z") (by decide +kernel)) (fun _ h9 => h9) rfl dX1_cut_1 ?_
    refine lv_if_ne (tgt := 29) hx hb dX1_cut_4 (by decide) (fun c_1 => ?_) (fun c_1 => ?_)
    · -- T of pc 4
      refine lv_iconst (v := 0) hx hb dX1_cut_29 (by decide) ?_
      exact hret _ _ _ _ _ hP hD hS rfl dX1_cut_30
    · -- F of pc 4
      exact absurd c_1 (by decide)
  | false =>
    rcases ix_cases 1001 (by decide) n with ⟨e1, -⟩ | ⟨k, hk, rfl, e1⟩
    · simp only [mct, e1]
      refine ct_i.of (cc := cX1_cut) (maxL := 3) (ty := .boolean) (by decide) rfl (Nat.le_of_ble_eq_true rfl) (nb_bI _) ?_
      intro p e s m args below meth c ls A Q hx hb hml hts hown hK hP hD hA hS hl hret
      have hown : s.vm.findClass RX1 = some m.cls := hown
      have hl : lv_has ls 3 [(0, .ref h0), (1, .int n), (2, .int t)] := hl
      have hP : va_P D vwCl [(h0, .inr (1, [.ref a1, .ref a2, .ref a3, .ref a4, .ref a5, .int 0, .int (bI mk), .int (nI la), .int (lfI lf), .int (nI sh)])), (a1, .inl (k1, 384, .inl gw)), (a2, .inl (k2, 384, .inl gd)), (a3, .inl (k3, 384, .inl gl)), (a4, .inl (k4, 24, .inl (fun j => bI (dz j)))), (a5, .inl (k5, 24, .inl (fun j => bI (lg j))))] s.heap := hP
      have hD : va_D A [(h0, .inr (1, [.ref a1, .ref a2, .ref a3, .ref a4, .ref a5, .int 0, .int (bI mk), .int (nI la), .int (lfI lf), .int (nI sh)])), (a1, .inl (k1, 384, .inl gw)), (a2, .inl (k2, 384, .inl gd)), (a3, .inl (k3, 384, .inl gl)), (a4, .inl (k4, 24, .inl (fun j => bI (dz j)))), (a5, .inl (k5, 24, .inl (fun j => bI (lg j))))] := hD
      refine lv_aload_n hx hb dX1_cut_0 rfl (lv_at hl 0 rfl) ?_
      refine va_get (ci := 1) (v := .int 0) (C := RX1) (T := TX1) (N := 10) hx hb hts (by decide +kernel) hown hK hP 0 rfl rfl 5 (by decide) (hts (.fieldLink RX1 30 "CommitLogModel" "off" "Z") (by decide +kernel)) (fun _ h9 => h9) rfl dX1_cut_1 ?_
      refine lv_if_ne (tgt := 29) hx hb dX1_cut_4 (by decide) (fun c_1 => ?_) (fun c_1 => ?_)
      · -- T of pc 4
        exact absurd (by decide) c_1
      · -- F of pc 4
        refine lv_iload_n hx hb dX1_cut_7 rfl (lv_at hl 1 rfl) ?_
        refine lv_iconst (v := 1) hx hb dX1_cut_8 (by decide) ?_
        refine lv_sipush (v := 1000) hx hb dX1_cut_9 (by decide) ?_
        refine ct_Si (As := [.int n, .int 1, .int 1000]) (rest := []) (wr := [(h0, .inr (1, [.ref a1, .ref a2, .ref a3, .ref a4, .ref a5, .int 0, .int (bI mk), .int (nI la), .int (lfI lf), .int (nI sh)])), (a1, .inl (k1, 384, .inl gw)), (a2, .inl (k2, 384, .inl gd)), (a3, .inl (k3, 384, .inl gl)), (a4, .inl (k4, 24, .inl (fun j => bI (dz j)))), (a5, .inl (k5, 24, .inl (fun j => bI (lg j))))]) (wn := [(h0, .inr (1, [.ref a1, .ref a2, .ref a3, .ref a4, .ref a5, .int 0, .int (bI mk), .int (nI la), .int (lfI lf), .int (nI sh)])), (a1, .inl (k1, 384, .inl gw)), (a2, .inl (k2, 384, .inl gd)), (a3, .inl (k3, 384, .inl gl)), (a4, .inl (k4, 24, .inl (fun j => bI (dz j)))), (a5, .inl (k5, 24, .inl (fun j => bI (lg j))))]) ⟨hx, hb, hml, hown, hts⟩ (c1_in l D n 1 1000) (va_cwS 3 hts gX1_cut_X1_in rfl rfl rfl (by decide +kernel) ⟨Nat.le_of_ble_eq_true rfl, Nat.le_of_ble_eq_true rfl⟩) hK hP hD hS hA [] [0, 1, 2, 3, 4, 5] [] [0, 1, 2, 3, 4, 5] rfl rfl (by decide) rfl (by decide) (by decide) rfl (by decide) rfl hl.1 rfl (Nat.le_of_ble_eq_true rfl) dX1_cut_12 ⟨Nat.zero_le _, Nat.zero_le _⟩ (fun H locs hP hD hS => ?_)
        refine tp_as (z := 0) (by rw [inR_1k, e1]; rfl) ?_
        refine lv_if_eq (tgt := 29) hx hb dX1_cut_15 (by decide) (fun c_2 => ?_) (fun c_2 => ?_)
        · -- T of pc 15
          refine lv_iconst (v := 0) hx hb dX1_cut_29 (by decide) ?_
          exact hret _ _ _ _ _ hP hD hS rfl dX1_cut_30
        · -- F of pc 15
          exact absurd (by decide) c_2
    · match k, hk, e1 with
      | 0, _, e1 =>
        simp only [mct, e1]
        refine ct_i.of (cc := cX1_cut) (maxL := 3) (ty := .boolean) (by decide) rfl (Nat.le_of_ble_eq_true rfl) (nb_bI _) ?_
        intro p e s m args below meth c ls A Q hx hb hml hts hown hK hP hD hA hS hl hret
        have hown : s.vm.findClass RX1 = some m.cls := hown
        have hl : lv_has ls 3 [(0, .ref h0), (1, .int (nI 0)), (2, .int t)] := hl
        have hP : va_P D vwCl [(h0, .inr (1, [.ref a1, .ref a2, .ref a3, .ref a4, .ref a5, .int 0, .int (bI mk), .int (nI la), .int (lfI lf), .int (nI sh)])), (a1, .inl (k1, 384, .inl gw)), (a2, .inl (k2, 384, .inl gd)), (a3, .inl (k3, 384, .inl gl)), (a4, .inl (k4, 24, .inl (fun j => bI (dz j)))), (a5, .inl (k5, 24, .inl (fun j => bI (lg j))))] s.heap := hP
        have hD : va_D A [(h0, .inr (1, [.ref a1, .ref a2, .ref a3, .ref a4, .ref a5, .int 0, .int (bI mk), .int (nI la), .int (lfI lf), .int (nI sh)])), (a1, .inl (k1, 384, .inl gw)), (a2, .inl (k2, 384, .inl gd)), (a3, .inl (k3, 384, .inl gl)), (a4, .inl (k4, 24, .inl (fun j => bI (dz j)))), (a5, .inl (k5, 24, .inl (fun j => bI (lg j))))] := hD
        refine lv_aload_n hx hb dX1_cut_0 rfl (lv_at hl 0 rfl) ?_
        refine va_get (ci := 1) (v := .int 0) (C := RX1) (T := TX1) (N := 10) hx hb hts (by decide +kernel) hown hK hP 0 rfl rfl 5 (by decide) (hts (.fieldLink RX1 30 "CommitLogModel" "off" "Z") (by decide +kernel)) (fun _ h9 => h9) rfl dX1_cut_1 ?_
        refine lv_if_ne (tgt := 29) hx hb dX1_cut_4 (by decide) (fun c_1 => ?_) (fun c_1 => ?_)
        · -- T of pc 4
          exact absurd (by decide) c_1
        · -- F of pc 4
          refine lv_iload_n hx hb dX1_cut_7 rfl (lv_at hl 1 rfl) ?_
          refine lv_iconst (v := 1) hx hb dX1_cut_8 (by decide) ?_
          refine lv_sipush (v := 1000) hx hb dX1_cut_9 (by decide) ?_
          refine ct_Si (As := [.int (nI 0), .int 1, .int 1000]) (rest := []) (wr := [(h0, .inr (1, [.ref a1, .ref a2, .ref a3, .ref a4, .ref a5, .int 0, .int (bI mk), .int (nI la), .int (lfI lf), .int (nI sh)])), (a1, .inl (k1, 384, .inl gw)), (a2, .inl (k2, 384, .inl gd)), (a3, .inl (k3, 384, .inl gl)), (a4, .inl (k4, 24, .inl (fun j => bI (dz j)))), (a5, .inl (k5, 24, .inl (fun j => bI (lg j))))]) (wn := [(h0, .inr (1, [.ref a1, .ref a2, .ref a3, .ref a4, .ref a5, .int 0, .int (bI mk), .int (nI la), .int (lfI lf), .int (nI sh)])), (a1, .inl (k1, 384, .inl gw)), (a2, .inl (k2, 384, .inl gd)), (a3, .inl (k3, 384, .inl gl)), (a4, .inl (k4, 24, .inl (fun j => bI (dz j)))), (a5, .inl (k5, 24, .inl (fun j => bI (lg j))))]) ⟨hx, hb, hml, hown, hts⟩ (c1_in l D (nI 0) 1 1000) (va_cwS 3 hts gX1_cut_X1_in rfl rfl rfl (by decide +kernel) ⟨Nat.le_of_ble_eq_true rfl, Nat.le_of_ble_eq_true rfl⟩) hK hP hD hS hA [] [0, 1, 2, 3, 4, 5] [] [0, 1, 2, 3, 4, 5] rfl rfl (by decide) rfl (by decide) (by decide) rfl (by decide) rfl hl.1 rfl (Nat.le_of_ble_eq_true rfl) dX1_cut_12 ⟨Nat.zero_le _, Nat.zero_le _⟩ (fun H locs hP hD hS => ?_)
          refine tp_as (z := 0) (by rw [inR_1k, e1]; rfl) ?_
          refine lv_if_eq (tgt := 29) hx hb dX1_cut_15 (by decide) (fun c_2 => ?_) (fun c_2 => ?_)
          · -- T of pc 15
            refine lv_iconst (v := 0) hx hb dX1_cut_29 (by decide) ?_
            exact hret _ _ _ _ _ hP hD hS rfl dX1_cut_30
          · -- F of pc 15
            exact absurd (by decide) c_2
      | k + 1, hk, e1 =>
        rcases ix_cases 1000 (by decide) t with ⟨e2, -⟩ | ⟨j, hj, rfl, e2⟩
        · simp only [mct, e1, e2]
          refine ct_i.of (cc := cX1_cut) (maxL := 3) (ty := .boolean) (by decide) rfl (Nat.le_of_ble_eq_true rfl) (nb_bI _) ?_
          intro p e s m args below meth c ls A Q hx hb hml hts hown hK hP hD hA hS hl hret
          have hown : s.vm.findClass RX1 = some m.cls := hown
          have hl : lv_has ls 3 [(0, .ref h0), (1, .int (nI (k + 1))), (2, .int t)] := hl
          have hP : va_P D vwCl [(h0, .inr (1, [.ref a1, .ref a2, .ref a3, .ref a4, .ref a5, .int 0, .int (bI mk), .int (nI la), .int (lfI lf), .int (nI sh)])), (a1, .inl (k1, 384, .inl gw)), (a2, .inl (k2, 384, .inl gd)), (a3, .inl (k3, 384, .inl gl)), (a4, .inl (k4, 24, .inl (fun j => bI (dz j)))), (a5, .inl (k5, 24, .inl (fun j => bI (lg j))))] s.heap := hP
          have hD : va_D A [(h0, .inr (1, [.ref a1, .ref a2, .ref a3, .ref a4, .ref a5, .int 0, .int (bI mk), .int (nI la), .int (lfI lf), .int (nI sh)])), (a1, .inl (k1, 384, .inl gw)), (a2, .inl (k2, 384, .inl gd)), (a3, .inl (k3, 384, .inl gl)), (a4, .inl (k4, 24, .inl (fun j => bI (dz j)))), (a5, .inl (k5, 24, .inl (fun j => bI (lg j))))] := hD
          refine lv_aload_n hx hb dX1_cut_0 rfl (lv_at hl 0 rfl) ?_
          refine va_get (ci := 1) (v := .int 0) (C := RX1) (T := TX1) (N := 10) hx hb hts (by decide +kernel) hown hK hP 0 rfl rfl 5 (by decide) (hts (.fieldLink RX1 30 "CommitLogModel" "off" "Z") (by decide +kernel)) (fun _ h9 => h9) rfl dX1_cut_1 ?_
          refine lv_if_ne (tgt := 29) hx hb dX1_cut_4 (by decide) (fun c_1 => ?_) (fun c_1 => ?_)
          · -- T of pc 4
            exact absurd (by decide) c_1
          · -- F of pc 4
            refine lv_iload_n hx hb dX1_cut_7 rfl (lv_at hl 1 rfl) ?_
            refine lv_iconst (v := 1) hx hb dX1_cut_8 (by decide) ?_
            refine lv_sipush (v := 1000) hx hb dX1_cut_9 (by decide) ?_
            refine ct_Si (As := [.int (nI (k + 1)), .int 1, .int 1000]) (rest := []) (wr := [(h0, .inr (1, [.ref a1, .ref a2, .ref a3, .ref a4, .ref a5, .int 0, .int (bI mk), .int (nI la), .int (lfI lf), .int (nI sh)])), (a1, .inl (k1, 384, .inl gw)), (a2, .inl (k2, 384, .inl gd)), (a3, .inl (k3, 384, .inl gl)), (a4, .inl (k4, 24, .inl (fun j => bI (dz j)))), (a5, .inl (k5, 24, .inl (fun j => bI (lg j))))]) (wn := [(h0, .inr (1, [.ref a1, .ref a2, .ref a3, .ref a4, .ref a5, .int 0, .int (bI mk), .int (nI la), .int (lfI lf), .int (nI sh)])), (a1, .inl (k1, 384, .inl gw)), (a2, .inl (k2, 384, .inl gd)), (a3, .inl (k3, 384, .inl gl)), (a4, .inl (k4, 24, .inl (fun j => bI (dz j)))), (a5, .inl (k5, 24, .inl (fun j => bI (lg j))))]) ⟨hx, hb, hml, hown, hts⟩ (c1_in l D (nI (k + 1)) 1 1000) (va_cwS 3 hts gX1_cut_X1_in rfl rfl rfl (by decide +kernel) ⟨Nat.le_of_ble_eq_true rfl, Nat.le_of_ble_eq_true rfl⟩) hK hP hD hS hA [] [0, 1, 2, 3, 4, 5] [] [0, 1, 2, 3, 4, 5] rfl rfl (by decide) rfl (by decide) (by decide) rfl (by decide) rfl hl.1 rfl (Nat.le_of_ble_eq_true rfl) dX1_cut_12 ⟨Nat.zero_le _, Nat.zero_le _⟩ (fun H locs hP hD hS => ?_)
            refine tp_as (z := 1) (by rw [inR_1k, e1]; rfl) ?_
            refine lv_if_eq (tgt := 29) hx hb dX1_cut_15 (by decide) (fun c_2 => ?_) (fun c_2 => ?_)
            · -- T of pc 15
              exact absurd c_2 (by decide)
            · -- F of pc 15
              refine lv_iload_n hx hb dX1_cut_18 rfl (lv_at hl 2 rfl) ?_
              refine lv_iconst (v := 0) hx hb dX1_cut_19 (by decide) ?_
              refine lv_sipush (v := 999) hx hb dX1_cut_20 (by decide) ?_
              refine ct_Si (As := [.int t, .int 0, .int 999]) (rest := []) (wr := [(h0, .inr (1, [.ref a1, .ref a2, .ref a3, .ref a4, .ref a5, .int 0, .int (bI mk), .int (nI la), .int (lfI lf), .int (nI sh)])), (a1, .inl (k1, 384, .inl gw)), (a2, .inl (k2, 384, .inl gd)), (a3, .inl (k3, 384, .inl gl)), (a4, .inl (k4, 24, .inl (fun j => bI (dz j)))), (a5, .inl (k5, 24, .inl (fun j => bI (lg j))))]) (wn := [(h0, .inr (1, [.ref a1, .ref a2, .ref a3, .ref a4, .ref a5, .int 0, .int (bI mk), .int (nI la), .int (lfI lf), .int (nI sh)])), (a1, .inl (k1, 384, .inl gw)), (a2, .inl (k2, 384, .inl gd)), (a3, .inl (k3, 384, .inl gl)), (a4, .inl (k4, 24, .inl (fun j => bI (dz j)))), (a5, .inl (k5, 24, .inl (fun j => bI (lg j))))]) ⟨hx, hb, hml, hown, hts⟩ (c1_in l D t 0 999) (va_cwS 3 hts gX1_cut_X1_in rfl rfl rfl (by decide +kernel) ⟨Nat.le_of_ble_eq_true rfl, Nat.le_of_ble_eq_true rfl⟩) hK hP hD hS hA [] [0, 1, 2, 3, 4, 5] [] [0, 1, 2, 3, 4, 5] rfl rfl (by decide) rfl (by decide) (by decide) rfl (by decide) rfl hl.1 rfl (Nat.le_of_ble_eq_true rfl) dX1_cut_23 ⟨Nat.zero_le _, Nat.zero_le _⟩ (fun H locs hP hD hS => ?_)
              refine tp_as (z := 0) (by rw [inR_ix 1000 (by decide) 999 rfl _, e2]; rfl) ?_
              refine lv_if_ne (tgt := 31) hx hb dX1_cut_26 (by decide) (fun c_3 => ?_) (fun c_3 => ?_)
              · -- T of pc 26
                exact absurd (by decide) c_3
              · -- F of pc 26
                refine lv_iconst (v := 0) hx hb dX1_cut_29 (by decide) ?_
                exact hret _ _ _ _ _ hP hD hS rfl dX1_cut_30
        · simp only [mct, e1, e2]
          refine ct_i.of (cc := cX1_cut) (maxL := 3) (ty := .boolean) (by decide) rfl (Nat.le_of_ble_eq_true rfl) (nb_bI _) ?_
          intro p e s m args below meth c ls A Q hx hb hml hts hown hK hP hD hA hS hl hret
          have hown : s.vm.findClass RX1 = some m.cls := hown
          have hl : lv_has ls 3 [(0, .ref h0), (1, .int (nI (k + 1))), (2, .int (nI j))] := hl
          have hP : va_P D vwCl [(h0, .inr (1, [.ref a1, .ref a2, .ref a3, .ref a4, .ref a5, .int 0, .int (bI mk), .int (nI la), .int (lfI lf), .int (nI sh)])), (a1, .inl (k1, 384, .inl gw)), (a2, .inl (k2, 384, .inl gd)), (a3, .inl (k3, 384, .inl gl)), (a4, .inl (k4, 24, .inl (fun j => bI (dz j)))), (a5, .inl (k5, 24, .inl (fun j => bI (lg j))))] s.heap := hP
          have hD : va_D A [(h0, .inr (1, [.ref a1, .ref a2, .ref a3, .ref a4, .ref a5, .int 0, .int (bI mk), .int (nI la), .int (lfI lf), .int (nI sh)])), (a1, .inl (k1, 384, .inl gw)), (a2, .inl (k2, 384, .inl gd)), (a3, .inl (k3, 384, .inl gl)), (a4, .inl (k4, 24, .inl (fun j => bI (dz j)))), (a5, .inl (k5, 24, .inl (fun j => bI (lg j))))] := hD
          refine lv_aload_n hx hb dX1_cut_0 rfl (lv_at hl 0 rfl) ?_
          refine va_get (ci := 1) (v := .int 0) (C := RX1) (T := TX1) (N := 10) hx hb hts (by decide +kernel) hown hK hP 0 rfl rfl 5 (by decide) (hts (.fieldLink RX1 30 "CommitLogModel" "off" "Z") (by decide +kernel)) (fun _ h9 => h9) rfl dX1_cut_1 ?_
          refine lv_if_ne (tgt := 29) hx hb dX1_cut_4 (by decide) (fun c_1 => ?_) (fun c_1 => ?_)
          · -- T of pc 4
            exact absurd (by decide) c_1
          · -- F of pc 4
            refine lv_iload_n hx hb dX1_cut_7 rfl (lv_at hl 1 rfl) ?_
            refine lv_iconst (v := 1) hx hb dX1_cut_8 (by decide) ?_
            refine lv_sipush (v := 1000) hx hb dX1_cut_9 (by decide) ?_
            refine ct_Si (As := [.int (nI (k + 1)), .int 1, .int 1000]) (rest := []) (wr := [(h0, .inr (1, [.ref a1, .ref a2, .ref a3, .ref a4, .ref a5, .int 0, .int (bI mk), .int (nI la), .int (lfI lf), .int (nI sh)])), (a1, .inl (k1, 384, .inl gw)), (a2, .inl (k2, 384, .inl gd)), (a3, .inl (k3, 384, .inl gl)), (a4, .inl (k4, 24, .inl (fun j => bI (dz j)))), (a5, .inl (k5, 24, .inl (fun j => bI (lg j))))]) (wn := [(h0, .inr (1, [.ref a1, .ref a2, .ref a3, .ref a4, .ref a5, .int 0, .int (bI mk), .int (nI la), .int (lfI lf), .int (nI sh)])), (a1, .inl (k1, 384, .inl gw)), (a2, .inl (k2, 384, .inl gd)), (a3, .inl (k3, 384, .inl gl)), (a4, .inl (k4, 24, .inl (fun j => bI (dz j)))), (a5, .inl (k5, 24, .inl (fun j => bI (lg j))))]) ⟨hx, hb, hml, hown, hts⟩ (c1_in l D (nI (k + 1)) 1 1000) (va_cwS 3 hts gX1_cut_X1_in rfl rfl rfl (by decide +kernel) ⟨Nat.le_of_ble_eq_true rfl, Nat.le_of_ble_eq_true rfl⟩) hK hP hD hS hA [] [0, 1, 2, 3, 4, 5] [] [0, 1, 2, 3, 4, 5] rfl rfl (by decide) rfl (by decide) (by decide) rfl (by decide) rfl hl.1 rfl (Nat.le_of_ble_eq_true rfl) dX1_cut_12 ⟨Nat.zero_le _, Nat.zero_le _⟩ (fun H locs hP hD hS => ?_)
            refine tp_as (z := 1) (by rw [inR_1k, e1]; rfl) ?_
            refine lv_if_eq (tgt := 29) hx hb dX1_cut_15 (by decide) (fun c_2 => ?_) (fun c_2 => ?_)
            · -- T of pc 15
              exact absurd c_2 (by decide)
            · -- F of pc 15
              refine lv_iload_n hx hb dX1_cut_18 rfl (lv_at hl 2 rfl) ?_
              refine lv_iconst (v := 0) hx hb dX1_cut_19 (by decide) ?_
              refine lv_sipush (v := 999) hx hb dX1_cut_20 (by decide) ?_
              refine ct_Si (As := [.int (nI j), .int 0, .int 999]) (rest := []) (wr := [(h0, .inr (1, [.ref a1, .ref a2, .ref a3, .ref a4, .ref a5, .int 0, .int (bI mk), .int (nI la), .int (lfI lf), .int (nI sh)])), (a1, .inl (k1, 384, .inl gw)), (a2, .inl (k2, 384, .inl gd)), (a3, .inl (k3, 384, .inl gl)), (a4, .inl (k4, 24, .inl (fun j => bI (dz j)))), (a5, .inl (k5, 24, .inl (fun j => bI (lg j))))]) (wn := [(h0, .inr (1, [.ref a1, .ref a2, .ref a3, .ref a4, .ref a5, .int 0, .int (bI mk), .int (nI la), .int (lfI lf), .int (nI sh)])), (a1, .inl (k1, 384, .inl gw)), (a2, .inl (k2, 384, .inl gd)), (a3, .inl (k3, 384, .inl gl)), (a4, .inl (k4, 24, .inl (fun j => bI (dz j)))), (a5, .inl (k5, 24, .inl (fun j => bI (lg j))))]) ⟨hx, hb, hml, hown, hts⟩ (c1_in l D (nI j) 0 999) (va_cwS 3 hts gX1_cut_X1_in rfl rfl rfl (by decide +kernel) ⟨Nat.le_of_ble_eq_true rfl, Nat.le_of_ble_eq_true rfl⟩) hK hP hD hS hA [] [0, 1, 2, 3, 4, 5] [] [0, 1, 2, 3, 4, 5] rfl rfl (by decide) rfl (by decide) (by decide) rfl (by decide) rfl hl.1 rfl (Nat.le_of_ble_eq_true rfl) dX1_cut_23 ⟨Nat.zero_le _, Nat.zero_le _⟩ (fun H locs hP hD hS => ?_)
              refine tp_as (z := 1) (by rw [inR_ix 1000 (by decide) 999 rfl _, e2]; rfl) ?_
              refine lv_if_ne (tgt := 31) hx hb dX1_cut_26 (by decide) (fun c_3 => ?_) (fun c_3 => ?_)
              · -- T of pc 26
                refine lv_aload_n hx hb dX1_cut_31 rfl (lv_at hl 0 rfl) ?_
                refine lv_iload_n hx hb dX1_cut_32 rfl (lv_at hl 1 rfl) ?_
                refine va_put (ci := 1) (v := .int (nI (k + 1))) (ty := .int) (C := RX1) (T := TX1) (N := 10) hx hb hts (by decide +kernel) tyX1 tyX1_ok nmX1 hown hK hP hD hS 0 rfl rfl 8 (by decide) (hts (.fieldLink RX1 53 "CommitLogModel" "left" "I") (by decide +kernel)) (fun _ h9 => h9) rfl (by decide +kernel) rfl rfl (Nat.le_of_ble_eq_true rfl) dX1_cut_33 (fun H locs hP hD hS => ?_)
                have hP : va_P D vwCl [(h0, .inr (1, [.ref a1, .ref a2, .ref a3, .ref a4, .ref a5, .int 0, .int (bI mk), .int (nI la), .int (nI (k + 1)), .int (nI sh)])), (a1, .inl (k1, 384, .inl gw)), (a2, .inl (k2, 384, .inl gd)), (a3, .inl (k3, 384, .inl gl)), (a4, .inl (k4, 24, .inl (fun j => bI (dz j)))), (a5, .inl (k5, 24, .inl (fun j => bI (lg j))))] H := hP
                have hD : va_D _ [(h0, .inr (1, [.ref a1, .ref a2, .ref a3, .ref a4, .ref a5, .int 0, .int (bI mk), .int (nI la), .int (nI (k + 1)), .int (nI sh)])), (a1, .inl (k1, 384, .inl gw)), (a2, .inl (k2, 384, .inl gd)), (a3, .inl (k3, 384, .inl gl)), (a4, .inl (k4, 24, .inl (fun j => bI (dz j)))), (a5, .inl (k5, 24, .inl (fun j => bI (lg j))))] := hD
                refine lv_aload_n hx hb dX1_cut_36 rfl (lv_at hl 0 rfl) ?_
                refine lv_iload_n hx hb dX1_cut_37 rfl (lv_at hl 2 rfl) ?_
                refine va_put (ci := 1) (v := .int (nI j)) (ty := .int) (C := RX1) (T := TX1) (N := 10) hx hb hts (by decide +kernel) tyX1 tyX1_ok nmX1 hown hK hP hD hS 0 rfl rfl 9 (by decide) (hts (.fieldLink RX1 56 "CommitLogModel" "share" "I") (by decide +kernel)) (fun _ h9 => h9) rfl (by decide +kernel) rfl rfl (Nat.le_of_ble_eq_true rfl) dX1_cut_38 (fun H locs hP hD hS => ?_)
                have hP : va_P D vwCl [(h0, .inr (1, [.ref a1, .ref a2, .ref a3, .ref a4, .ref a5, .int 0, .int (bI mk), .int (nI la), .int (nI (k + 1)), .int (nI j)])), (a1, .inl (k1, 384, .inl gw)), (a2, .inl (k2, 384, .inl gd)), (a3, .inl (k3, 384, .inl gl)), (a4, .inl (k4, 24, .inl (fun j => bI (dz j)))), (a5, .inl (k5, 24, .inl (fun j => bI (lg j))))] H := hP
                have hD : va_D _ [(h0, .inr (1, [.ref a1, .ref a2, .ref a3, .ref a4, .ref a5, .int 0, .int (bI mk), .int (nI la), .int (nI (k + 1)), .int (nI j)])), (a1, .inl (k1, 384, .inl gw)), (a2, .inl (k2, 384, .inl gd)), (a3, .inl (k3, 384, .inl gl)), (a4, .inl (k4, 24, .inl (fun j => bI (dz j)))), (a5, .inl (k5, 24, .inl (fun j => bI (lg j))))] := hD
                refine lv_iconst (v := 1) hx hb dX1_cut_41 (by decide) ?_
                exact hret _ _ _ _ _ hP hD hS rfl dX1_cut_42
              · -- F of pc 26
                exact absurd c_3 (by decide)
set_option maxHeartbeats 4000000 in
set_option maxRecDepth 100000 in
theorem c1_state (l : Launch) (D : va_G) (h0 a1 a2 a3 a4 a5 : Nat) (k1 k2 k3 k4 k5 : ClassId) (gw gd gl : Nat → Int32) (dz lg : Nat → Bool) (of mk : Bool) (la : Nat) (lf : Option Nat) (sh : Nat) (x : Int32) : ct_i l yX1_state wsX1_state ({ frames := 0, cells := 0, slots := 0, locals := 0 }) D vwCl (MT k1 k2 k3 k4 k5) [.ref h0, .int x] (MW h0 a1 a2 a3 a4 a5 k1 k2 k3 k4 k5 gw gd gl dz lg of mk la lf sh) (MW h0 a1 a2 a3 a4 a5 k1 k2 k3 k4 k5 gw gd gl dz lg of mk la lf sh) (mst of mk la x) := by
  rcases ix_cases 3 (by decide) x with ⟨e1, h1⟩ | ⟨k, hk, rfl, e1⟩
  · simp only [mst, e1]
    have h1 := st_out h1
    refine ct_i.of (cc := cX1_state) (maxL := 2) (ty := .int) (by decide) rfl (Nat.le_of_ble_eq_true rfl) rfl ?_
    intro p e s m args below meth c ls A Q hx hb hml hts hown hK hP hD hA hS hl hret
    have hown : s.vm.findClass RX1 = some m.cls := hown
    have hl : lv_has ls 2 [(0, .ref h0), (1, .int x)] := hl
    have hP : va_P D vwCl [(h0, .inr (1, [.ref a1, .ref a2, .ref a3, .ref a4, .ref a5, .int (bI of), .int (bI mk), .int (nI la), .int (lfI lf), .int (nI sh)])), (a1, .inl (k1, 384, .inl gw)), (a2, .inl (k2, 384, .inl gd)), (a3, .inl (k3, 384, .inl gl)), (a4, .inl (k4, 24, .inl (fun j => bI (dz j)))), (a5, .inl (k5, 24, .inl (fun j => bI (lg j))))] s.heap := hP
    have hD : va_D A [(h0, .inr (1, [.ref a1, .ref a2, .ref a3, .ref a4, .ref a5, .int (bI of), .int (bI mk), .int (nI la), .int (lfI lf), .int (nI sh)])), (a1, .inl (k1, 384, .inl gw)), (a2, .inl (k2, 384, .inl gd)), (a3, .inl (k3, 384, .inl gl)), (a4, .inl (k4, 24, .inl (fun j => bI (dz j)))), (a5, .inl (k5, 24, .inl (fun j => bI (lg j))))] := hD
    refine lv_iload_n hx hb dX1_state_0 rfl (lv_at hl 1 rfl) ?_
    refine lv_tableOut (tgt := 59) hx hb dX1_state_1 h1 (by decide) ?_
    refine lv_iconst (v := (-1)) hx hb dX1_state_59 (by decide) ?_
    exact hret _ _ _ _ _ hP hD hS (by first | rfl | exact dz_0 (by assumption) | exact dz_1 (by assumption) | exact bn_0 (by assumption) | exact bn_1 (by assumption)) dX1_state_60
  · match k, hk, e1 with
    | 0, _, e1 =>
      simp only [mst, e1]
      refine ct_i.of (cc := cX1_state) (maxL := 2) (ty := .int) (by decide) rfl (Nat.le_of_ble_eq_true rfl) rfl ?_
      intro p e s m args below meth c ls A Q hx hb hml hts hown hK hP hD hA hS hl hret
      have hown : s.vm.findClass RX1 = some m.cls := hown
      have hl : lv_has ls 2 [(0, .ref h0), (1, .int (nI 0))] := hl
      have hP : va_P D vwCl [(h0, .inr (1, [.ref a1, .ref a2, .ref a3, .ref a4, .ref a5, .int (bI of), .int (bI mk), .int (nI la), .int (lfI lf), .int (nI sh)])), (a1, .inl (k1, 384, .inl gw)), (a2, .inl (k2, 384, .inl gd)), (a3, .inl (k3, 384, .inl gl)), (a4, .inl (k4, 24, .inl (fun j => bI (dz j)))), (a5, .inl (k5, 24, .inl (fun j => bI (lg j))))] s.heap := hP
      have hD : va_D A [(h0, .inr (1, [.ref a1, .ref a2, .ref a3, .ref a4, .ref a5, .int (bI of), .int (bI mk), .int (nI la), .int (lfI lf), .int (nI sh)])), (a1, .inl (k1, 384, .inl gw)), (a2, .inl (k2, 384, .inl gd)), (a3, .inl (k3, 384, .inl gl)), (a4, .inl (k4, 24, .inl (fun j => bI (dz j)))), (a5, .inl (k5, 24, .inl (fun j => bI (lg j))))] := hD
      refine lv_iload_n hx hb dX1_state_0 rfl (lv_at hl 1 rfl) ?_
      refine lv_tableIn (tgt := 28) hx hb dX1_state_1 (by decide) (by decide) rfl (by decide) ?_
      refine lv_aload_n hx hb dX1_state_28 rfl (lv_at hl 0 rfl) ?_
      refine va_get (ci := 1) (v := .int (bI of)) (C := RX1) (T := TX1) (N := 10) hx hb hts (by decide +kernel) hown hK hP 0 rfl rfl 5 (by decide) (hts (.fieldLink RX1 30 "CommitLogModel" "off" "Z") (by decide +kernel)) (fun _ h9 => h9) rfl dX1_state_29 ?_
      refine lv_if_eq (tgt := 39) hx hb dX1_state_32 (by decide) (fun c_1 => ?_) (fun c_1 => ?_)
      · -- T of pc 32
        refine lv_iconst (v := 1) hx hb dX1_state_39 (by decide) ?_
        exact hret _ _ _ _ _ hP hD hS (by first | rfl | exact dz_0 (by assumption) | exact dz_1 (by assumption) | exact bn_0 (by assumption) | exact bn_1 (by assumption)) dX1_state_40
      · -- F of pc 32
        refine lv_iconst (v := 0) hx hb dX1_state_35 (by decide) ?_
        refine lv_goto (tgt := 40) hx hb dX1_state_36 (by decide) ?_
        exact hret _ _ _ _ _ hP hD hS (by first | rfl | exact dz_0 (by assumption) | exact dz_1 (by assumption) | exact bn_0 (by assumption) | exact bn_1 (by assumption)) dX1_state_40
    | 1, _, e1 =>
      simp only [mst, e1]
      refine ct_i.of (cc := cX1_state) (maxL := 2) (ty := .int) (by decide) rfl (Nat.le_of_ble_eq_true rfl) rfl ?_
      intro p e s m args below meth c ls A Q hx hb hml hts hown hK hP hD hA hS hl hret
      have hown : s.vm.findClass RX1 = some m.cls := hown
      have hl : lv_has ls 2 [(0, .ref h0), (1, .int (nI 1))] := hl
      have hP : va_P D vwCl [(h0, .inr (1, [.ref a1, .ref a2, .ref a3, .ref a4, .ref a5, .int (bI of), .int (bI mk), .int (nI la), .int (lfI lf), .int (nI sh)])), (a1, .inl (k1, 384, .inl gw)), (a2, .inl (k2, 384, .inl gd)), (a3, .inl (k3, 384, .inl gl)), (a4, .inl (k4, 24, .inl (fun j => bI (dz j)))), (a5, .inl (k5, 24, .inl (fun j => bI (lg j))))] s.heap := hP
      have hD : va_D A [(h0, .inr (1, [.ref a1, .ref a2, .ref a3, .ref a4, .ref a5, .int (bI of), .int (bI mk), .int (nI la), .int (lfI lf), .int (nI sh)])), (a1, .inl (k1, 384, .inl gw)), (a2, .inl (k2, 384, .inl gd)), (a3, .inl (k3, 384, .inl gl)), (a4, .inl (k4, 24, .inl (fun j => bI (dz j)))), (a5, .inl (k5, 24, .inl (fun j => bI (lg j))))] := hD
      refine lv_iload_n hx hb dX1_state_0 rfl (lv_at hl 1 rfl) ?_
      refine lv_tableIn (tgt := 41) hx hb dX1_state_1 (by decide) (by decide) rfl (by decide) ?_
      refine lv_aload_n hx hb dX1_state_41 rfl (lv_at hl 0 rfl) ?_
      refine va_get (ci := 1) (v := .int (bI mk)) (C := RX1) (T := TX1) (N := 10) hx hb hts (by decide +kernel) hown hK hP 0 rfl rfl 6 (by decide) (hts (.fieldLink RX1 42 "CommitLogModel" "mark" "Z") (by decide +kernel)) (fun _ h9 => h9) rfl dX1_state_42 ?_
      refine lv_if_eq (tgt := 52) hx hb dX1_state_45 (by decide) (fun c_1 => ?_) (fun c_1 => ?_)
      · -- T of pc 45
        refine lv_iconst (v := 0) hx hb dX1_state_52 (by decide) ?_
        exact hret _ _ _ _ _ hP hD hS (by first | rfl | exact dz_0 (by assumption) | exact dz_1 (by assumption) | exact bn_0 (by assumption) | exact bn_1 (by assumption)) dX1_state_53
      · -- F of pc 45
        refine lv_iconst (v := 1) hx hb dX1_state_48 (by decide) ?_
        refine lv_goto (tgt := 53) hx hb dX1_state_49 (by decide) ?_
        exact hret _ _ _ _ _ hP hD hS (by first | rfl | exact dz_0 (by assumption) | exact dz_1 (by assumption) | exact bn_0 (by assumption) | exact bn_1 (by assumption)) dX1_state_53
    | 2, _, e1 =>
      simp only [mst, e1]
      refine ct_i.of (cc := cX1_state) (maxL := 2) (ty := .int) (by decide) rfl (Nat.le_of_ble_eq_true rfl) rfl ?_
      intro p e s m args below meth c ls A Q hx hb hml hts hown hK hP hD hA hS hl hret
      have hown : s.vm.findClass RX1 = some m.cls := hown
      have hl : lv_has ls 2 [(0, .ref h0), (1, .int (nI 2))] := hl
      have hP : va_P D vwCl [(h0, .inr (1, [.ref a1, .ref a2, .ref a3, .ref a4, .ref a5, .int (bI of), .int (bI mk), .int (nI la), .int (lfI lf), .int (nI sh)])), (a1, .inl (k1, 384, .inl gw)), (a2, .inl (k2, 384, .inl gd)), (a3, .inl (k3, 384, .inl gl)), (a4, .inl (k4, 24, .inl (fun j => bI (dz j)))), (a5, .inl (k5, 24, .inl (fun j => bI (lg j))))] s.heap := hP
      have hD : va_D A [(h0, .inr (1, [.ref a1, .ref a2, .ref a3, .ref a4, .ref a5, .int (bI of), .int (bI mk), .int (nI la), .int (lfI lf), .int (nI sh)])), (a1, .inl (k1, 384, .inl gw)), (a2, .inl (k2, 384, .inl gd)), (a3, .inl (k3, 384, .inl gl)), (a4, .inl (k4, 24, .inl (fun j => bI (dz j)))), (a5, .inl (k5, 24, .inl (fun j => bI (lg j))))] := hD
      refine lv_iload_n hx hb dX1_state_0 rfl (lv_at hl 1 rfl) ?_
      refine lv_tableIn (tgt := 54) hx hb dX1_state_1 (by decide) (by decide) rfl (by decide) ?_
      refine lv_aload_n hx hb dX1_state_54 rfl (lv_at hl 0 rfl) ?_
      refine va_get (ci := 1) (v := .int (nI la)) (C := RX1) (T := TX1) (N := 10) hx hb hts (by decide +kernel) hown hK hP 0 rfl rfl 7 (by decide) (hts (.fieldLink RX1 49 "CommitLogModel" "latest" "I") (by decide +kernel)) (fun _ h9 => h9) rfl dX1_state_55 ?_
      exact hret _ _ _ _ _ hP hD hS (by first | rfl | exact dz_0 (by assumption) | exact dz_1 (by assumption) | exact bn_0 (by assumption) | exact bn_1 (by assumption)) dX1_state_58
