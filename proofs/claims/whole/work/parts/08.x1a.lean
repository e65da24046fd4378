/-! The reference: its world, its private methods. -/
def lfI : Option Nat → Int32
  | none => -1
  | some k => nI k
def lfD : Option Nat → Option Nat
  | some (k + 1) => some k
  | _ => none
abbrev MW (h0 a1 a2 a3 a4 a5 : Nat) (k1 k2 k3 k4 k5 : ClassId) (gw gd gl : Nat → Int32) (dz lg : Nat → Bool) (of mk : Bool) (la : Nat) (lf : Option Nat) (sh : Nat) : va_W := [(h0, .inr (1, [.ref a1, .ref a2, .ref a3, .ref a4, .ref a5, .int (bI of), .int (bI mk), .int (nI la), .int (lfI lf), .int (nI sh)])), (a1, .inl (k1, 384, .inl gw)), (a2, .inl (k2, 384, .inl gd)), (a3, .inl (k3, 384, .inl gl)), (a4, .inl (k4, 24, .inl (fun j => bI (dz j)))), (a5, .inl (k5, 24, .inl (fun j => bI (lg j))))]
abbrev MT (k1 k2 k3 k4 k5 : ClassId) : List (ClassId × FieldType) := [(k1, .byte), (k2, .byte), (k3, .byte), (k4, .boolean), (k5, .boolean)]
def cpK (f g : Nat → Int32) (i k : Nat) : Nat → Int32 := fun j => if i * 16 ≤ j ∧ j < i * 16 + k then vp_nar .byte (f j) else g j
theorem cpK_0 (f g : Nat → Int32) (i : Nat) : cpK f g i 0 = g := by
  funext j; simp only [cpK]; rw [if_neg (by omega)]
theorem cpK_s (f g : Nat → Int32) (i k : Nat) : upd (cpK f g i k) (i * 16 + k) (vp_nar .byte (f (i * 16 + k))) = cpK f g i (k + 1) := by
  funext j
  simp only [upd, cpK]
  by_cases h : j = i * 16 + k
  · subst h; rw [if_pos rfl, if_pos (by omega)]
  · rw [if_neg h]
    by_cases h2 : i * 16 ≤ j ∧ j < i * 16 + k
    · rw [if_pos h2, if_pos (by omega)]
    · rw [if_neg h2, if_neg (by omega)]
def lgK (dz lg : Nat → Bool) (k : Nat) : Nat → Bool := fun j => if j < k then dz j else lg j
theorem lgK_0 (dz lg : Nat → Bool) : lgK dz lg 0 = lg := by funext j; simp [lgK]
theorem lgK_s (dz lg : Nat → Bool) (k : Nat) : va_up (lgK dz lg k) k (dz k) = lgK dz lg (k + 1) := by
  funext j
  simp only [va_up, lgK]
  by_cases h : j = k
  · subst h; simp
  · by_cases h2 : j < k
    · simp [h, h2, show j < k + 1 by omega]
    · simp [h, h2, show ¬ j < k + 1 by omega]
def ntK (gw : Nat → Int32) (dz : Nat → Bool) (gl : Nat → Int32) : Nat → Nat → Int32
  | 0 => gl
  | k + 1 => bif dz k then cpK gw (ntK gw dz gl k) k 16 else ntK gw dz gl k
def lyK (gl : Nat → Int32) (lg : Nat → Bool) (mo : Nat) (gd : Nat → Int32) : Nat → Nat → Int32
  | 0 => gd
  | k + 1 => if lg k = true ∧ cnt lg k < mo then cpK gl (lyK gl lg mo gd k) k 16 else lyK gl lg mo gd k
def frK (gd gw : Nat → Int32) : Nat → Nat → Int32
  | 0 => gw
  | k + 1 => cpK gd (frK gd gw k) k 16
def inR (lo hi x : Int32) : Bool := decide (¬ x < lo) && decide (¬ hi < x)
set_option maxHeartbeats 4000000 in
set_option maxRecDepth 100000 in
theorem c1_in (l : Launch) (D : va_G) (x lo hi : Int32) : ct_i l yX1_in wsX1_in ({ frames := 0, cells := 0, slots := 0, locals := 0 }) D vwCl [] [.int x, .int lo, .int hi] [] [] (bI (inR lo hi x)) := by
  refine ct_i.of (cc := cX1_in) (maxL := 3) (ty := .boolean) (by decide) rfl (Nat.le_of_ble_eq_true rfl) (nb_bI _) ?_
  intro p e s m args below meth c ls A Q hx hb hml hts hown hK hP hD hA hS hl hret
  have hown : s.vm.findClass RX1 = some m.cls := hown
  have hl : lv_has ls 3 [(0, .int x), (1, .int lo), (2, .int hi)] := hl
  have hP : va_P D vwCl [] s.heap := hP
  have hD : va_D A [] := hD
  refine lv_iload_n hx hb dX1_in_0 rfl (lv_at hl 0 rfl) ?_
  refine lv_iload_n hx hb dX1_in_1 rfl (lv_at hl 1 rfl) ?_
  refine lv_icmp_lt (tgt := 14) hx hb dX1_in_2 (by decide) (fun c_1 => ?_) (fun c_1 => ?_)
  · -- T of pc 2
    refine lv_iconst (v := 0) hx hb dX1_in_14 (by decide) ?_
    exact hret _ _ _ _ _ hP hD hS (by simp [inR, bI, *]) dX1_in_15
  · -- F of pc 2
    refine lv_iload_n hx hb dX1_in_5 rfl (lv_at hl 0 rfl) ?_
    refine lv_iload_n hx hb dX1_in_6 rfl (lv_at hl 2 rfl) ?_
    refine lv_icmp_gt (tgt := 14) hx hb dX1_in_7 (by decide) (fun c_2 => ?_) (fun c_2 => ?_)
    · -- T of pc 7
      refine lv_iconst (v := 0) hx hb dX1_in_14 (by decide) ?_
      exact hret _ _ _ _ _ hP hD hS (by simp [inR, bI, *]) dX1_in_15
    · -- F of pc 7
      refine lv_iconst (v := 1) hx hb dX1_in_10 (by decide) ?_
      refine lv_goto (tgt := 15) hx hb dX1_in_11 (by decide) ?_
      exact hret _ _ _ _ _ hP hD hS (by simp [inR, bI, *]) dX1_in_15
set_option maxHeartbeats 4000000 in
set_option maxRecDepth 100000 in
theorem c1_copy (l : Launch) (D : va_G) (x1 x2 : Nat) (q1 q2 : ClassId) (f g : Nat → Int32) (i : Nat) (hi : i < 24) : ct_v l yX1_copy wsX1_copy ({ frames := 0, cells := 0, slots := 0, locals := 0 }) D vwCl [(q1, .byte), (q2, .byte)] [.ref x1, .ref x2, .int (nI i)] [(x1, .inl (q1, 384, .inl f)), (x2, .inl (q2, 384, .inl g))] [(x1, .inl (q1, 384, .inl f)), (x2, .inl (q2, 384, .inl (cpK f g i 16)))] := by
  refine ct_v.of (cc := cX1_copy) (maxL := 4) (by decide) rfl (Nat.le_of_ble_eq_true rfl) ?_
  intro p e s m args below meth c ls A Q hx hb hml hts hown hK hP hD hA hS hl hret
  have hown : s.vm.findClass RX1 = some m.cls := hown
  have hl : lv_has ls 4 [(0, .ref x1), (1, .ref x2), (2, .int (nI i))] := hl
  have hP : va_P D vwCl [(x1, .inl (q1, 384, .inl f)), (x2, .inl (q2, 384, .inl g))] s.heap := hP
  have hD : va_D A [(x1, .inl (q1, 384, .inl f)), (x2, .inl (q2, 384, .inl g))] := hD
  refine lv_bipush (v := 16) hx hb dX1_copy_0 (by decide) ?_
  refine lv_iload_n hx hb dX1_copy_2 rfl (lv_at hl 2 rfl) ?_
  refine lv_imul hx hb dX1_copy_3 ?_
  refine tp_as (z := nI (i * 16)) (by rw [Nat.mul_comm i 16]; exact pk_mul 16 i) ?_
  refine lv_istore_n (lv' := [(3, .int (nI (i * 16))), (0, .ref x1), (1, .ref x2), (2, .int (nI i))]) hx hb dX1_copy_4 rfl hl (by decide) rfl (fun ls hl => ?_)
  have loop : ∀ (n k : Nat), k + n = 16 → ∀ (ls : Array Slot) (H : Heap) (locs : List Loc), lv_has ls 4 [(3, .int (nI (i * 16 + k))), (2, .int (nI i)), (1, .ref x2), (0, .ref x1)] → va_P D vwCl [(x1, .inl (q1, 384, .inl f)), (x2, .inl (q2, 384, .inl (cpK f g i k)))] H → va_D A [(x1, .inl (q1, 384, .inl f)), (x2, .inl (q2, 384, .inl (cpK f g i k)))] → va_S A s.heap H locs → W p l e ({ frames := 0, cells := 0, slots := 0, locals := 0 }) s m args below meth c H locs 0 0 Q (F0 m 5 ls []) := by
    intro n
    induction n with
    | zero =>
      intro k hk ls H locs hl hP hD hS
      obtain rfl : k = 16 := by omega
      refine lv_iload_n hx hb dX1_copy_5 rfl (lv_at hl 0 rfl) ?_
      refine lv_bipush (v := 16) hx hb dX1_copy_6 (by decide) ?_
      refine lv_iload_n hx hb dX1_copy_8 rfl (lv_at hl 1 rfl) ?_
      refine lv_imul hx hb dX1_copy_9 ?_
      refine tp_as (z := nI (i * 16)) (by rw [Nat.mul_comm i 16]; exact pk_mul 16 i) ?_
      refine lv_bipush (v := 16) hx hb dX1_copy_10 (by decide) ?_
      refine lv_iadd hx hb dX1_copy_12 ?_
      refine tp_as (z := nI (i * 16 + 16)) (nI_add _ 16) ?_
      refine lv_icmp_ge (tgt := 28) hx hb dX1_copy_13 (by decide) (fun c_1 => ?_) (fun c_1 => ?_)
      · -- T of pc 13
        exact hret _ _ _ _ hP hD hS dX1_copy_28
      · -- F of pc 13
        exact absurd (nI_le (Nat.le_refl _) (by omega)) c_1
    | succ n ih =>
      intro k hk ls H locs hl hP hD hS
      refine lv_iload_n hx hb dX1_copy_5 rfl (lv_at hl 0 rfl) ?_
      refine lv_bipush (v := 16) hx hb dX1_copy_6 (by decide) ?_
      refine lv_iload_n hx hb dX1_copy_8 rfl (lv_at hl 1 rfl) ?_
      refine lv_imul hx hb dX1_copy_9 ?_
      refine tp_as (z := nI (i * 16)) (by rw [Nat.mul_comm i 16]; exact pk_mul 16 i) ?_
      refine lv_bipush (v := 16) hx hb dX1_copy_10 (by decide) ?_
      refine lv_iadd hx hb dX1_copy_12 ?_
      refine tp_as (z := nI (i * 16 + 16)) (nI_add _ 16) ?_
      refine lv_icmp_ge (tgt := 28) hx hb dX1_copy_13 (by decide) (fun c_2 => ?_) (fun c_2 => ?_)
      · -- T of pc 13
        exact absurd c_2 (nI_ge (by omega) (by omega))
      · -- F of pc 13
        refine lv_aload_n hx hb dX1_copy_16 rfl (lv_at hl 2 rfl) ?_
        refine lv_iload_n hx hb dX1_copy_17 rfl (lv_at hl 0 rfl) ?_
        refine lv_aload_n hx hb dX1_copy_18 rfl (lv_at hl 3 rfl) ?_
        refine lv_iload_n hx hb dX1_copy_19 rfl (lv_at hl 0 rfl) ?_
        refine va_bald hx hb hK hP 0 0 rfl rfl (vp_in_nI (by omega) (by decide)) dX1_copy_20 ?_
        refine tp_as (z := f (i * 16 + k)) (by show f (nI (i * 16 + k)).toNatClampNeg = _; rw [cl_nI (by omega)]) ?_
        refine va_bast hx hb hK hP hD hS 1 1 rfl rfl (vp_in_nI (by omega) (by decide)) dX1_copy_21 (fun H locs hP hD hS => ?_)
        rw [cl_nI (show i * 16 + k < 2 ^ 31 by omega), cpK_s] at hP hD
        have hP : va_P D vwCl [(x1, .inl (q1, 384, .inl f)), (x2, .inl (q2, 384, .inl (cpK f g i (k + 1))))] H := hP
        have hD : va_D _ [(x1, .inl (q1, 384, .inl f)), (x2, .inl (q2, 384, .inl (cpK f g i (k + 1))))] := hD
        refine lv_iinc (v := (nI (i * 16 + (k + 1)))) (lv' := [(3, .int (nI (i * 16 + (k + 1)))), (2, .int (nI i)), (1, .ref x2), (0, .ref x1)]) hx hb dX1_copy_22 hl (k := 0) rfl (nI_1 _) (by decide) rfl (fun ls hl => ?_)
        refine lv_goto (tgt := 5) hx hb dX1_copy_25 (by decide) ?_
        exact ih (k + 1) (by omega) ls H locs (lv_sub hl [0, 1, 2, 3] rfl) hP hD hS
  exact loop 16 0 rfl ls _ _ (lv_sub hl [0, 3, 2, 1] rfl) (by rw [cpK_0]; exact hP) (by rw [cpK_0]; exact hD) hS
set_option maxHeartbeats 4000000 in
set_option maxRecDepth 100000 in
theorem c1_many (l : Launch) (D : va_G) (h0 a1 a2 a3 a4 a5 : Nat) (k1 k2 k3 k4 k5 : ClassId) (gw gd gl : Nat → Int32) (dz lg : Nat → Bool) (of mk : Bool) (la : Nat) (lf : Option Nat) (sh : Nat) : ct_i l yX1_many wsX1_many ({ frames := 0, cells := 0, slots := 0, locals := 0 }) D vwCl (MT k1 k2 k3 k4 k5) [.ref h0] (MW h0 a1 a2 a3 a4 a5 k1 k2 k3 k4 k5 gw gd gl dz lg of mk la lf sh) (MW h0 a1 a2 a3 a4 a5 k1 k2 k3 k4 k5 gw gd gl dz lg of mk la lf sh) (nI (cnt dz 24)) := by
  refine ct_i.of (cc := cX1_many) (maxL := 3) (ty := .int) (by decide) rfl (Nat.le_of_ble_eq_true rfl) rfl ?_
  intro p e s m args below meth c ls A Q hx hb hml hts hown hK hP hD hA hS hl hret
  have hown : s.vm.findClass RX1 = some m.cls := hown
  have hl : lv_has ls 3 [(0, .ref h0)] := hl
  have hP : va_P D vwCl [(h0, .inr (1, [.ref a1, .ref a2, .ref a3, .ref a4, .ref a5, .int (bI of), .int (bI mk), .int (nI la), .int (lfI lf), .int (nI sh)])), (a1, .inl (k1, 384, .inl gw)), (a2, .inl (k2, 384, .inl gd)), (a3, .inl (k3, 384, .inl gl)), (a4, .inl (k4, 24, .inl (fun j => bI (dz j)))), (a5, .inl (k5, 24, .inl (fun j => bI (lg j))))] s.heap := hP
  have hD : va_D A [(h0, .inr (1, [.ref a1, .ref a2, .ref a3, .ref a4, .ref a5, .int (bI of), .int (bI mk), .int (nI la), .int (lfI lf), .int (nI sh)])), (a1, .inl (k1, 384, .inl gw)), (a2, .inl (k2, 384, .inl gd)), (a3, .inl (k3, 384, .inl gl)), (a4, .inl (k4, 24, .inl (fun j => bI (dz j)))), (a5, .inl (k5, 24, .inl (fun j => bI (lg j))))] := hD
  refine lv_iconst (v := 0) hx hb dX1_many_0 (by decide) ?_
  refine lv_istore_n (lv' := [(1, .int 0), (0, .ref h0)]) hx hb dX1_many_1 rfl hl (by decide) rfl (fun ls hl => ?_)
  refine lv_iconst (v := 0) hx hb dX1_many_2 (by decide) ?_
  refine lv_istore_n (lv' := [(2, .int 0), (1, .int 0), (0, .ref h0)]) hx hb dX1_many_3 rfl hl (by decide) rfl (fun ls hl => ?_)
  have loop : ∀ (n k : Nat), k + n = 24 → ∀ (ls : Array Slot) (H : Heap) (locs : List Loc), lv_has ls 3 [(2, .int (nI k)), (1, .int (nI (cnt dz k))), (0, .ref h0)] → va_P D vwCl [(h0, .inr (1, [.ref a1, .ref a2, .ref a3, .ref a4, .ref a5, .int (bI of), .int (bI mk), .int (nI la), .int (lfI lf), .int (nI sh)])), (a1, .inl (k1, 384, .inl gw)), (a2, .inl (k2, 384, .inl gd)), (a3, .inl (k3, 384, .inl gl)), (a4, .inl (k4, 24, .inl (fun j => bI (dz j)))), (a5, .inl (k5, 24, .inl (fun j => bI (lg j))))] H → va_D A [(h0, .inr (1, [.ref a1, .ref a2, .ref a3, .ref a4, .ref a5, .int (bI of), .int (bI mk), .int (nI la), .int (lfI lf), .int (nI sh)])), (a1, .inl (k1, 384, .inl gw)), (a2, .inl (k2, 384, .inl gd)), (a3, .inl (k3, 384, .inl gl)), (a4, .inl (k4, 24, .inl (fun j => bI (dz j)))), (a5, .inl (k5, 24, .inl (fun j => bI (lg j))))] → va_S A s.heap H locs → W p l e ({ frames := 0, cells := 0, slots := 0, locals := 0 }) s m args below meth c H locs 0 0 Q (F0 m 4 ls []) := by
    intro n
    induction n with
    | zero =>
      intro k hk ls H locs hl hP hD hS
      obtain rfl : k = 24 := by omega
      refine lv_iload_n hx hb dX1_many_4 rfl (lv_at hl 0 rfl) ?_
      refine lv_bipush (v := 24) hx hb dX1_many_5 (by decide) ?_
      refine lv_icmp_ge (tgt := 33) hx hb dX1_many_7 (by decide) (fun c_1 => ?_) (fun c_1 => ?_)
      · -- T of pc 7
        refine lv_iload_n hx hb dX1_many_33 rfl (lv_at hl 1 rfl) ?_
        exact hret _ _ _ _ _ hP hD hS rfl dX1_many_34
      · -- F of pc 7
        exact absurd (by decide) c_1
    | succ n ih =>
      intro k hk ls H locs hl hP hD hS
      cases hz : dz k with
      | false =>
        refine lv_iload_n hx hb dX1_many_4 rfl (lv_at hl 0 rfl) ?_
        refine lv_bipush (v := 24) hx hb dX1_many_5 (by decide) ?_
        refine lv_icmp_ge (tgt := 33) hx hb dX1_many_7 (by decide) (fun c_2 => ?_) (fun c_2 => ?_)
        · -- T of pc 7
          exact absurd c_2 (show ¬ nI 24 ≤ nI k from nI_ge (by omega) (by decide))
        · -- F of pc 7
          refine lv_iload_n hx hb dX1_many_10 rfl (lv_at hl 1 rfl) ?_
          refine lv_aload_n hx hb dX1_many_11 rfl (lv_at hl 2 rfl) ?_
          refine va_get (ci := 1) (v := .ref a4) (C := RX1) (T := TX1) (N := 10) hx hb hts (by decide +kernel) hown hK hP 0 rfl rfl 3 (by decide) (hts (.fieldLink RX1 19 "CommitLogModel" "dirty" "[Z") (by decide +kernel)) (fun _ h9 => h9) rfl dX1_many_12 ?_
          refine lv_iload_n hx hb dX1_many_15 rfl (lv_at hl 0 rfl) ?_
          refine va_zald hx hb hK hP 4 3 rfl rfl (vp_in_nI (by omega) (by decide)) dX1_many_16 ?_
          refine tp_as (z := 0) (by rw [cl_nI (by omega)]; exact (by rw [hz]; rfl)) ?_
          refine lv_if_eq (tgt := 24) hx hb dX1_many_17 (by decide) (fun c_3 => ?_) (fun c_3 => ?_)
          · -- T of pc 17
            refine lv_iconst (v := 0) hx hb dX1_many_24 (by decide) ?_
            refine lv_iadd hx hb dX1_many_25 ?_
            refine tp_as (z := nI (cnt dz (k + 1))) (by rw [cnt_f hz]; exact Int32.add_zero _) ?_
            refine lv_istore_n (lv' := [(1, .int (nI (cnt dz (k + 1)))), (2, .int (nI k)), (0, .ref h0)]) hx hb dX1_many_26 rfl hl (by decide) rfl (fun ls hl => ?_)
            refine lv_iinc (v := (nI (k + 1))) (lv' := [(2, .int (nI (k + 1))), (1, .int (nI (cnt dz (k + 1)))), (0, .ref h0)]) hx hb dX1_many_27 hl (k := 1) rfl (nI_1 _) (by decide) rfl (fun ls hl => ?_)
            refine lv_goto (tgt := 4) hx hb dX1_many_30 (by decide) ?_
            exact ih (k + 1) (by omega) ls H locs (lv_sub hl [0, 1, 2] rfl) hP hD hS
          · -- F of pc 17
            exact absurd (by decide) c_3
      | true =>
        refine lv_iload_n hx hb dX1_many_4 rfl (lv_at hl 0 rfl) ?_
        refine lv_bipush (v := 24) hx hb dX1_many_5 (by decide) ?_
        refine lv_icmp_ge (tgt := 33) hx hb dX1_many_7 (by decide) (fun c_4 => ?_) (fun c_4 => ?_)
        · -- T of pc 7
          exact absurd c_4 (show ¬ nI 24 ≤ nI k from nI_ge (by omega) (by decide))
        · -- F of pc 7
          refine lv_iload_n hx hb dX1_many_10 rfl (lv_at hl 1 rfl) ?_
          refine lv_aload_n hx hb dX1_many_11 rfl (lv_at hl 2 rfl) ?_
          refine va_get (ci := 1) (v := .ref a4) (C := RX1) (T := TX1) (N := 10) hx hb hts (by decide +kernel) hown hK hP 0 rfl rfl 3 (by decide) (hts (.fieldLink RX1 19 "CommitLogModel" "dirty" "[Z") (by decide +kernel)) (fun _ h9 => h9) rfl dX1_many_12 ?_
          refine lv_iload_n hx hb dX1_many_15 rfl (lv_at hl 0 rfl) ?_
          refine va_zald hx hb hK hP 4 3 rfl rfl (vp_in_nI (by omega) (by decide)) dX1_many_16 ?_
          refine tp_as (z := 1) (by rw [cl_nI (by omega)]; exact (by rw [hz]; rfl)) ?_
          refine lv_if_eq (tgt := 24) hx hb dX1_many_17 (by decide) (fun c_5 => ?_) (fun c_5 => ?_)
          · -- T of pc 17
            exact absurd c_5 (by decide)
          · -- F of pc 17
            refine lv_iconst (v := 1) hx hb dX1_many_20 (by decide) ?_
            refine lv_goto (tgt := 25) hx hb dX1_many_21 (by decide) ?_
            refine lv_iadd hx hb dX1_many_25 ?_
            refine tp_as (z := nI (cnt dz (k + 1))) (by rw [cnt_t hz]; exact nI_1 _) ?_
            refine lv_istore_n (lv' := [(1, .int (nI (cnt dz (k + 1)))), (2, .int (nI k)), (0, .ref h0)]) hx hb dX1_many_26 rfl hl (by decide) rfl (fun ls hl => ?_)
            refine lv_iinc (v := (nI (k + 1))) (lv' := [(2, .int (nI (k + 1))), (1, .int (nI (cnt dz (k + 1)))), (0, .ref h0)]) hx hb dX1_many_27 hl (k := 1) rfl (nI_1 _) (by decide) rfl (fun ls hl => ?_)
            refine lv_goto (tgt := 4) hx hb dX1_many_30 (by decide) ?_
            exact ih (k + 1) (by omega) ls H locs (lv_sub hl [0, 1, 2] rfl) hP hD hS
  exact loop 24 0 rfl ls _ _ (lv_sub hl [0, 1, 2] rfl) hP hD hS
set_option maxHeartbeats 4000000 in
set_option maxRecDepth 100000 in
theorem c1_loggedMany (l : Launch) (D : va_G) (h0 a1 a2 a3 a4 a5 : Nat) (k1 k2 k3 k4 k5 : ClassId) (gw gd gl : Nat → Int32) (dz lg : Nat → Bool) (of mk : Bool) (la : Nat) (lf : Option Nat) (sh : Nat) : ct_i l yX1_loggedMany wsX1_loggedMany ({ frames := 0, cells := 0, slots := 0, locals := 0 }) D vwCl (MT k1 k2 k3 k4 k5) [.ref h0] (MW h0 a1 a2 a3 a4 a5 k1 k2 k3 k4 k5 gw gd gl dz lg of mk la lf sh) (MW h0 a1 a2 a3 a4 a5 k1 k2 k3 k4 k5 gw gd gl dz lg of mk la lf sh) (nI (cnt lg 24)) := by
  refine ct_i.of (cc := cX1_loggedMany) (maxL := 3) (ty := .int) (by decide) rfl (Nat.le_of_ble_eq_true rfl) rfl ?_
  intro p e s m args below meth c ls A Q hx hb hml hts hown hK hP hD hA hS hl hret
  have hown : s.vm.findClass RX1 = some m.cls := hown
  have hl : lv_has ls 3 [(0, .ref h0)] := hl
  have hP : va_P D vwCl [(h0, .inr (1, [.ref a1, .ref a2, .ref a3, .ref a4, .ref a5, .int (bI of), .int (bI mk), .int (nI la), .int (lfI lf), .int (nI sh)])), (a1, .inl (k1, 384, .inl gw)), (a2, .inl (k2, 384, .inl gd)), (a3, .inl (k3, 384, .inl gl)), (a4, .inl (k4, 24, .inl (fun j => bI (dz j)))), (a5, .inl (k5, 24, .inl (fun j => bI (lg j))))] s.heap := hP
  have hD : va_D A [(h0, .inr (1, [.ref a1, .ref a2, .ref a3, .ref a4, .ref a5, .int (bI of), .int (bI mk), .int (nI la), .int (lfI lf), .int (nI sh)])), (a1, .inl (k1, 384, .inl gw)), (a2, .inl (k2, 384, .inl gd)), (a3, .inl (k3, 384, .inl gl)), (a4, .inl (k4, 24, .inl (fun j => bI (dz j)))), (a5, .inl (k5, 24, .inl (fun j => bI (lg j))))] := hD
  refine lv_iconst (v := 0) hx hb dX1_loggedMany_0 (by decide) ?_
  refine lv_istore_n (lv' := [(1, .int 0), (0, .ref h0)]) hx hb dX1_loggedMany_1 rfl hl (by decide) rfl (fun ls hl => ?_)
  refine lv_iconst (v := 0) hx hb dX1_loggedMany_2 (by decide) ?_
  refine lv_istore_n (lv' := [(2, .int 0), (1, .int 0), (0, .ref h0)]) hx hb dX1_loggedMany_3 rfl hl (by decide) rfl (fun ls hl => ?_)
  have loop : ∀ (n k : Nat), k + n = 24 → ∀ (ls : Array Slot) (H : Heap) (locs : List Loc), lv_has ls 3 [(2, .int (nI k)), (1, .int (nI (cnt lg k))), (0, .ref h0)] → va_P D vwCl [(h0, .inr (1, [.ref a1, .ref a2, .ref a3, .ref a4, .ref a5, .int (bI of), .int (bI mk), .int (nI la), .int (lfI lf), .int (nI sh)])), (a1, .inl (k1, 384, .inl gw)), (a2, .inl (k2, 384, .inl gd)), (a3, .inl (k3, 384, .inl gl)), (a4, .inl (k4, 24, .inl (fun j => bI (dz j)))), (a5, .inl (k5, 24, .inl (fun j => bI (lg j))))] H → va_D A [(h0, .inr (1, [.ref a1, .ref a2, .ref a3, .ref a4, .ref a5, .int (bI of), .int (bI mk), .int (nI la), .int (lfI lf), .int (nI sh)])), (a1, .inl (k1, 384, .inl gw)), (a2, .inl (k2, 384, .inl gd)), (a3, .inl (k3, 384, .inl gl)), (a4, .inl (k4, 24, .inl (fun j => bI (dz j)))), (a5, .inl (k5, 24, .inl (fun j => bI (lg j))))] → va_S A s.heap H locs → W p l e ({ frames := 0, cells := 0, slots := 0, locals := 0 }) s m args below meth c H locs 0 0 Q (F0 m 4 ls []) := by
    intro n
    induction n with
    | zero =>
      intro k hk ls H locs hl hP hD hS
      obtain rfl : k = 24 := by omega
      refine lv_iload_n hx hb dX1_loggedMany_4 rfl (lv_at hl 0 rfl) ?_
      refine lv_bipush (v := 24) hx hb dX1_loggedMany_5 (by decide) ?_
      refine lv_icmp_ge (tgt := 33) hx hb dX1_loggedMany_7 (by decide) (fun c_1 => ?_) (fun c_1 => ?_)
      · -- T of pc 7
        refine lv_iload_n hx hb dX1_loggedMany_33 rfl (lv_at hl 1 rfl) ?_
        exact hret _ _ _ _ _ hP hD hS rfl dX1_loggedMany_34
      · -- F of pc 7
        exact absurd (by decide) c_1
    | succ n ih =>
      intro k hk ls H locs hl hP hD hS
      cases hz : lg k with
      | false =>
        refine lv_iload_n hx hb dX1_loggedMany_4 rfl (lv_at hl 0 rfl) ?_
        refine lv_bipush (v := 24) hx hb dX1_loggedMany_5 (by decide) ?_
        refine lv_icmp_ge (tgt := 33) hx hb dX1_loggedMany_7 (by decide) (fun c_2 => ?_) (fun c_2 => ?_)
        · -- T of pc 7
          exact absurd c_2 (show ¬ nI 24 ≤ nI k from nI_ge (by omega) (by decide))
        · -- F of pc 7
          refine lv_iload_n hx hb dX1_loggedMany_10 rfl (lv_at hl 1 rfl) ?_
          refine lv_aload_n hx hb dX1_loggedMany_11 rfl (lv_at hl 2 rfl) ?_
          refine va_get (ci := 1) (v := .ref a5) (C := RX1) (T := TX1) (N := 10) hx hb hts (by decide +kernel) hown hK hP 0 rfl rfl 4 (by decide) (hts (.fieldLink RX1 23 "CommitLogModel" "logged" "[Z") (by decide +kernel)) (fun _ h9 => h9) rfl dX1_loggedMany_12 ?_
          refine lv_iload_n hx hb dX1_loggedMany_15 rfl (lv_at hl 0 rfl) ?_
          refine va_zald hx hb hK hP 5 4 rfl rfl (vp_in_nI (by omega) (by decide)) dX1_loggedMany_16 ?_
          refine tp_as (z := 0) (by rw [cl_nI (by omega)]; exact (by rw [hz]; rfl)) ?_
          refine lv_if_eq (tgt := 24) hx hb dX1_loggedMany_17 (by decide) (fun c_3 => ?_) (fun c_3 => ?_)
          · -- T of pc 17
            refine lv_iconst (v := 0) hx hb dX1_loggedMany_24 (by decide) ?_
            refine lv_iadd hx hb dX1_loggedMany_25 ?_
            refine tp_as (z := nI (cnt lg (k + 1))) (by rw [cnt_f hz]; exact Int32.add_zero _) ?_
            refine lv_istore_n (lv' := [(1, .int (nI (cnt lg (k + 1)))), (2, .int (nI k)), (0, .ref h0)]) hx hb dX1_loggedMany_26 rfl hl (by decide) rfl (fun ls hl => ?_)
            refine lv_iinc (v := (nI (k + 1))) (lv' := [(2, .int (nI (k + 1))), (1, .int (nI (cnt lg (k + 1)))), (0, .ref h0)]) hx hb dX1_loggedMany_27 hl (k := 1) rfl (nI_1 _) (by decide) rfl (fun ls hl => ?_)
            refine lv_goto (tgt := 4) hx hb dX1_loggedMany_30 (by decide) ?_
            exact ih (k + 1) (by omega) ls H locs (lv_sub hl [0, 1, 2] rfl) hP hD hS
          · -- F of pc 17
            exact absurd (by decide) c_3
      | true =>
        refine lv_iload_n hx hb dX1_loggedMany_4 rfl (lv_at hl 0 rfl) ?_
        refine lv_bipush (v := 24) hx hb dX1_loggedMany_5 (by decide) ?_
        refine lv_icmp_ge (tgt := 33) hx hb dX1_loggedMany_7 (by decide) (fun c_4 => ?_) (fun c_4 => ?_)
        · -- T of pc 7
          exact absurd c_4 (show ¬ nI 24 ≤ nI k from nI_ge (by omega) (by decide))
        · -- F of pc 7
          refine lv_iload_n hx hb dX1_loggedMany_10 rfl (lv_at hl 1 rfl) ?_
          refine lv_aload_n hx hb dX1_loggedMany_11 rfl (lv_at hl 2 rfl) ?_
          refine va_get (ci := 1) (v := .ref a5) (C := RX1) (T := TX1) (N := 10) hx hb hts (by decide +kernel) hown hK hP 0 rfl rfl 4 (by decide) (hts (.fieldLink RX1 23 "CommitLogModel" "logged" "[Z") (by decide +kernel)) (fun _ h9 => h9) rfl dX1_loggedMany_12 ?_
          refine lv_iload_n hx hb dX1_loggedMany_15 rfl (lv_at hl 0 rfl) ?_
          refine va_zald hx hb hK hP 5 4 rfl rfl (vp_in_nI (by omega) (by decide)) dX1_loggedMany_16 ?_
          refine tp_as (z := 1) (by rw [cl_nI (by omega)]; exact (by rw [hz]; rfl)) ?_
          refine lv_if_eq (tgt := 24) hx hb dX1_loggedMany_17 (by decide) (fun c_5 => ?_) (fun c_5 => ?_)
          · -- T of pc 17
            exact absurd c_5 (by decide)
          · -- F of pc 17
            refine lv_iconst (v := 1) hx hb dX1_loggedMany_20 (by decide) ?_
            refine lv_goto (tgt := 25) hx hb dX1_loggedMany_21 (by decide) ?_
            refine lv_iadd hx hb dX1_loggedMany_25 ?_
            refine tp_as (z := nI (cnt lg (k + 1))) (by rw [cnt_t hz]; exact nI_1 _) ?_
            refine lv_istore_n (lv' := [(1, .int (nI (cnt lg (k + 1)))), (2, .int (nI k)), (0, .ref h0)]) hx hb dX1_loggedMany_26 rfl hl (by decide) rfl (fun ls hl => ?_)
            refine lv_iinc (v := (nI (k + 1))) (lv' := [(2, .int (nI (k + 1))), (1, .int (nI (cnt lg (k + 1)))), (0, .ref h0)]) hx hb dX1_loggedMany_27 hl (k := 1) rfl (nI_1 _) (by decide) rfl (fun ls hl => ?_)
            refine lv_goto (tgt := 4) hx hb dX1_loggedMany_30 (by decide) ?_
            exact ih (k + 1) (by omega) ls H locs (lv_sub hl [0, 1, 2] rfl) hP hD hS
  exact loop 24 0 rfl ls _ _ (lv_sub hl [0, 1, 2] rfl) hP hD hS
set_option maxHeartbeats 4000000 in
set_option maxRecDepth 100000 in
theorem c1_note (l : Launch) (D : va_G) (h0 a1 a2 a3 a4 a5 : Nat) (k1 k2 k3 k4 k5 : ClassId) (gw gd gl : Nat → Int32) (dz lg : Nat → Bool) (of mk : Bool) (la : Nat) (lf : Option Nat) (sh : Nat) : ct_v l yX1_note wsX1_note ({ frames := 1, cells := 0, slots := 0, locals := 23 }) D vwCl (MT k1 k2 k3 k4 k5) [.ref h0] (MW h0 a1 a2 a3 a4 a5 k1 k2 k3 k4 k5 gw gd gl dz lg of mk la lf sh) (MW h0 a1 a2 a3 a4 a5 k1 k2 k3 k4 k5 gw gd (ntK gw dz gl 24) dz (lgK dz lg 24) of true la lf sh) := by
  refine ct_v.of (cc := cX1_note) (maxL := 2) (by decide) rfl (Nat.le_of_ble_eq_true rfl) ?_
  intro p e s m args below meth c ls A Q hx hb hml hts hown hK hP hD hA hS hl hret
  have hown : s.vm.findClass RX1 = some m.cls := hown
  have hl : lv_has ls 2 [(0, .ref h0)] := hl
  have hP : va_P D vwCl [(h0, .inr (1, [.ref a1, .ref a2, .ref a3, .ref a4, .ref a5, .int (bI of), .int (bI mk), .int (nI la), .int (lfI lf), .int (nI sh)])), (a1, .inl (k1, 384, .inl gw)), (a2, .inl (k2, 384, .inl gd)), (a3, .inl (k3, 384, .inl gl)), (a4, .inl (k4, 24, .inl (fun j => bI (dz j)))), (a5, .inl (k5, 24, .inl (fun j => bI (lg j))))] s.heap := hP
  have hD : va_D A [(h0, .inr (1, [.ref a1, .ref a2, .ref a3, .ref a4, .ref a5, .int (bI of), .int (bI mk), .int (nI la), .int (lfI lf), .int (nI sh)])), (a1, .inl (k1, 384, .inl gw)), (a2, .inl (k2, 384, .inl gd)), (a3, .inl (k3, 384, .inl gl)), (a4, .inl (k4, 24, .inl (fun j => bI (dz j)))), (a5, .inl (k5, 24, .inl (fun j => bI (lg j))))] := hD
  refine lv_iconst (v := 0) hx hb dX1_note_0 (by decide) ?_
  refine lv_istore_n (lv' := [(1, .int 0), (0, .ref h0)]) hx hb dX1_note_1 rfl hl (by decide) rfl (fun ls hl => ?_)
  have loop : ∀ (n k : Nat), k + n = 24 → ∀ (ls : Array Slot) (H : Heap) (locs : List Loc), lv_has ls 2 [(1, .int (nI k)), (0, .ref h0)] → va_P D vwCl [(h0, .inr (1, [.ref a1, .ref a2, .ref a3, .ref a4, .ref a5, .int (bI of), .int (bI mk), .int (nI la), .int (lfI lf), .int (nI sh)])), (a1, .inl (k1, 384, .inl gw)), (a2, .inl (k2, 384, .inl gd)), (a3, .inl (k3, 384, .inl (ntK gw dz gl k))), (a4, .inl (k4, 24, .inl (fun j => bI (dz j)))), (a5, .inl (k5, 24, .inl (fun j => bI (lgK dz lg k j))))] H → va_D A [(h0, .inr (1, [.ref a1, .ref a2, .ref a3, .ref a4, .ref a5, .int (bI of), .int (bI mk), .int (nI la), .int (lfI lf), .int (nI sh)])), (a1, .inl (k1, 384, .inl gw)), (a2, .inl (k2, 384, .inl gd)), (a3, .inl (k3, 384, .inl (ntK gw dz gl k))), (a4, .inl (k4, 24, .inl (fun j => bI (dz j)))), (a5, .inl (k5, 24, .inl (fun j => bI (lgK dz lg k j))))] → va_S A s.heap H locs → W p l e ({ frames := 1, cells := 0, slots := 0, locals := 23 }) s m args below meth c H locs 0 0 Q (F0 m 2 ls []) := by
    intro n
    induction n with
    | zero =>
      intro k hk ls H locs hl hP hD hS
      obtain rfl : k = 24 := by omega
      refine lv_iload_n hx hb dX1_note_2 rfl (lv_at hl 0 rfl) ?_
      refine lv_bipush (v := 24) hx hb dX1_note_3 (by decide) ?_
      refine lv_icmp_ge (tgt := 47) hx hb dX1_note_5 (by decide) (fun c_1 => ?_) (fun c_1 => ?_)
      · -- T of pc 5
        refine lv_aload_n hx hb dX1_note_47 rfl (lv_at hl 1 rfl) ?_
        refine lv_iconst (v := 1) hx hb dX1_note_48 (by decide) ?_
        refine va_put (ci := 1) (v := .int 1) (ty := .boolean) (C := RX1) (T := TX1) (N := 10) hx hb hts (by decide +kernel) tyX1 tyX1_ok nmX1 hown hK hP hD hS 0 rfl rfl 6 (by decide) (hts (.fieldLink RX1 42 "CommitLogModel" "mark" "Z") (by decide +kernel)) (fun _ h9 => h9) rfl (by decide +kernel) rfl rfl (Nat.le_of_ble_eq_true rfl) dX1_note_49 (fun H locs hP hD hS => ?_)
        have hP : va_P D vwCl [(h0, .inr (1, [.ref a1, .ref a2, .ref a3, .ref a4, .ref a5, .int (bI of), .int 1, .int (nI la), .int (lfI lf), .int (nI sh)])), (a1, .inl (k1, 384, .inl gw)), (a2, .inl (k2, 384, .inl gd)), (a3, .inl (k3, 384, .inl (ntK gw dz gl 24))), (a4, .inl (k4, 24, .inl (fun j => bI (dz j)))), (a5, .inl (k5, 24, .inl (fun j => bI (lgK dz lg 24 j))))] H := hP
        have hD : va_D _ [(h0, .inr (1, [.ref a1, .ref a2, .ref a3, .ref a4, .ref a5, .int (bI of), .int 1, .int (nI la), .int (lfI lf), .int (nI sh)])), (a1, .inl (k1, 384, .inl gw)), (a2, .inl (k2, 384, .inl gd)), (a3, .inl (k3, 384, .inl (ntK gw dz gl 24))), (a4, .inl (k4, 24, .inl (fun j => bI (dz j)))), (a5, .inl (k5, 24, .inl (fun j => bI (lgK dz lg 24 j))))] := hD
        exact hret _ _ _ _ hP hD hS dX1_note_52
      · -- F of pc 5
        exact absurd (by decide) c_1
    | succ n ih =>
      intro k hk ls H locs hl hP hD hS
      cases hz : dz k with
      | false =>
        refine lv_iload_n hx hb dX1_note_2 rfl (lv_at hl 0 rfl) ?_
        refine lv_bipush (v := 24) hx hb dX1_note_3 (by decide) ?_
        refine lv_icmp_ge (tgt := 47) hx hb dX1_note_5 (by decide) (fun c_2 => ?_) (fun c_2 => ?_)
        · -- T of pc 5
          exact absurd c_2 (show ¬ nI 24 ≤ nI k from nI_ge (by omega) (by decide))
        · -- F of pc 5
          refine lv_aload_n hx hb dX1_note_8 rfl (lv_at hl 1 rfl) ?_
          refine va_get (ci := 1) (v := .ref a5) (C := RX1) (T := TX1) (N := 10) hx hb hts (by decide +kernel) hown hK hP 0 rfl rfl 4 (by decide) (hts (.fieldLink RX1 23 "CommitLogModel" "logged" "[Z") (by decide +kernel)) (fun _ h9 => h9) rfl dX1_note_9 ?_
          refine lv_iload_n hx hb dX1_note_12 rfl (lv_at hl 0 rfl) ?_
          refine lv_aload_n hx hb dX1_note_13 rfl (lv_at hl 1 rfl) ?_
          refine va_get (ci := 1) (v := .ref a4) (C := RX1) (T := TX1) (N := 10) hx hb hts (by decide +kernel) hown hK hP 0 rfl rfl 3 (by decide) (hts (.fieldLink RX1 19 "CommitLogModel" "dirty" "[Z") (by decide +kernel)) (fun _ h9 => h9) rfl dX1_note_14 ?_
          refine lv_iload_n hx hb dX1_note_17 rfl (lv_at hl 0 rfl) ?_
          refine va_zald hx hb hK hP 4 3 rfl rfl (vp_in_nI (by omega) (by decide)) dX1_note_18 ?_
          refine tp_as (z := bI  (dz k)) (by show bI (dz (nI k).toNatClampNeg) = _; rw [cl_nI (by omega)]) ?_
          refine va_zast hx hb hK hP hD hS 5 4 rfl rfl (vp_in_nI (by omega) (by decide)) dX1_note_19 (fun H locs hP hD hS => ?_)
          rw [cl_nI (show k < 2 ^ 31 by omega), vn_bI, up_bI, lgK_s] at hP hD
          have hP : va_P D vwCl [(h0, .inr (1, [.ref a1, .ref a2, .ref a3, .ref a4, .ref a5, .int (bI of), .int (bI mk), .int (nI la), .int (lfI lf), .int (nI sh)])), (a1, .inl (k1, 384, .inl gw)), (a2, .inl (k2, 384, .inl gd)), (a3, .inl (k3, 384, .inl (ntK gw dz gl k))), (a4, .inl (k4, 24, .inl (fun j => bI (dz j)))), (a5, .inl (k5, 24, .inl (fun j => bI (lgK dz lg (k + 1) j))))] H := hP
          have hD : va_D _ [(h0, .inr (1, [.ref a1, .ref a2, .ref a3, .ref a4, .ref a5, .int (bI of), .int (bI mk), .int (nI la), .int (lfI lf), .int (nI sh)])), (a1, .inl (k1, 384, .inl gw)), (a2, .inl (k2, 384, .inl gd)), (a3, .inl (k3, 384, .inl (ntK gw dz gl k))), (a4, .inl (k4, 24, .inl (fun j => bI (dz j)))), (a5, .inl (k5, 24, .inl (fun j => bI (lgK dz lg (k + 1) j))))] := hD
          refine lv_aload_n hx hb dX1_note_20 rfl (lv_at hl 1 rfl) ?_
          refine va_get (ci := 1) (v := .ref a4) (C := RX1) (T := TX1) (N := 10) hx hb hts (by decide +kernel) hown hK hP 0 rfl rfl 3 (by decide) (hts (.fieldLink RX1 19 "CommitLogModel" "dirty" "[Z") (by decide +kernel)) (fun _ h9 => h9) rfl dX1_note_21 ?_
          refine lv_iload_n hx hb dX1_note_24 rfl (lv_at hl 0 rfl) ?_
          refine va_zald hx hb hK hP 4 3 rfl rfl (vp_in_nI (by omega) (by decide)) dX1_note_25 ?_
          refine tp_as (z := 0) (by rw [cl_nI (by omega)]; exact (by rw [hz]; rfl)) ?_
          refine lv_if_eq (tgt := 41) hx hb dX1_note_26 (by decide) (fun c_3 => ?_) (fun c_3 => ?_)
          · -- T of pc 26
            have hP : va_P D vwCl [(h0, .inr (1, [.ref a1, .ref a2, .ref a3, .ref a4, .ref a5, .int (bI of), .int (bI mk), .int (nI la), .int (lfI lf), .int (nI sh)])), (a1, .inl (k1, 384, .inl gw)), (a2, .inl (k2, 384, .inl gd)), (a3, .inl (k3, 384, .inl (ntK gw dz gl (k + 1)))), (a4, .inl (k4, 24, .inl (fun j => bI (dz j)))), (a5, .inl (k5, 24, .inl (fun j => bI (lgK dz lg (k + 1) j))))] H := by simp only [ntK, hz, cond_true, cond_false]; exact hP
            have hD : va_D A [(h0, .inr (1, [.ref a1, .ref a2, .ref a3, .ref a4, .ref a5, .int (bI of), .int (bI mk), .int (nI la), .int (lfI lf), .int (nI sh)])), (a1, .inl (k1, 384, .inl gw)), (a2, .inl (k2, 384, .inl gd)), (a3, .inl (k3, 384, .inl (ntK gw dz gl (k + 1)))), (a4, .inl (k4, 24, .inl (fun j => bI (dz j)))), (a5, .inl (k5, 24, .inl (fun j => bI (lgK dz lg (k + 1) j))))] := by simp only [ntK, hz, cond_true, cond_false]; exact hD
            refine lv_iinc (v := (nI (k + 1))) (lv' := [(1, .int (nI (k + 1))), (0, .ref h0)]) hx hb dX1_note_41 hl (k := 0) rfl (nI_1 _) (by decide) rfl (fun ls hl => ?_)
            refine lv_goto (tgt := 2) hx hb dX1_note_44 (by decide) ?_
            exact ih (k + 1) (by omega) ls H locs (lv_sub hl [0, 1] rfl) hP hD hS
          · -- F of pc 26
            exact absurd (by decide) c_3
      | true =>
        refine lv_iload_n hx hb dX1_note_2 rfl (lv_at hl 0 rfl) ?_
        refine lv_bipush (v := 24) hx hb dX1_note_3 (by decide) ?_
        refine lv_icmp_ge (tgt := 47) hx hb dX1_note_5 (by decide) (fun c_4 => ?_) (fun c_4 => ?_)
        · -- T of pc 5
          exact absurd c_4 (show ¬ nI 24 ≤ nI k from nI_ge (by omega) (by decide))
        · -- F of pc 5
          refine lv_aload_n hx hb dX1_note_8 rfl (lv_at hl 1 rfl) ?_
          refine va_get (ci := 1) (v := .ref a5) (C := RX1) (T := TX1) (N := 10) hx hb hts (by decide +kernel) hown hK hP 0 rfl rfl 4 (by decide) (hts (.fieldLink RX1 23 "CommitLogModel" "logged" "[Z") (by decide +kernel)) (fun _ h9 => h9) rfl dX1_note_9 ?_
          refine lv_iload_n hx hb dX1_note_12 rfl (lv_at hl 0 rfl) ?_
          refine lv_aload_n hx hb dX1_note_13 rfl (lv_at hl 1 rfl) ?_
          refine va_get (ci := 1) (v := .ref a4) (C := RX1) (T := TX1) (N := 10) hx hb hts (by decide +kernel) hown hK hP 0 rfl rfl 3 (by decide) (hts (.fieldLink RX1 19 "CommitLogModel" "dirty" "[Z") (by decide +kernel)) (fun _ h9 => h9) rfl dX1_note_14 ?_
          refine lv_iload_n hx hb dX1_note_17 rfl (lv_at hl 0 rfl) ?_
          refine va_zald hx hb hK hP 4 3 rfl rfl (vp_in_nI (by omega) (by decide)) dX1_note_18 ?_
          refine tp_as (z := bI  (dz k)) (by show bI (dz (nI k).toNatClampNeg) = _; rw [cl_nI (by omega)]) ?_
          refine va_zast hx hb hK hP hD hS 5 4 rfl rfl (vp_in_nI (by omega) (by decide)) dX1_note_19 (fun H locs hP hD hS => ?_)
          rw [cl_nI (show k < 2 ^ 31 by omega), vn_bI, up_bI, lgK_s] at hP hD
          have hP : va_P D vwCl [(h0, .inr (1, [.ref a1, .ref a2, .ref a3, .ref a4, .ref a5, .int (bI of), .int (bI mk), .int (nI la), .int (lfI lf), .int (nI sh)])), (a1, .inl (k1, 384, .inl gw)), (a2, .inl (k2, 384, .inl gd)), (a3, .inl (k3, 384, .inl (ntK gw dz gl k))), (a4, .inl (k4, 24, .inl (fun j => bI (dz j)))), (a5, .inl (k5, 24, .inl (fun j => bI (lgK dz lg (k + 1) j))))] H := hP
          have hD : va_D _ [(h0, .inr (1, [.ref a1, .ref a2, .ref a3, .ref a4, .ref a5, .int (bI of), .int (bI mk), .int (nI la), .int (lfI lf), .int (nI sh)])), (a1, .inl (k1, 384, .inl gw)), (a2, .inl (k2, 384, .inl gd)), (a3, .inl (k3, 384, .inl (ntK gw dz gl k))), (a4, .inl (k4, 24, .inl (fun j => bI (dz j)))), (a5, .inl (k5, 24, .inl (fun j => bI (lgK dz lg (k + 1) j))))] := hD
          refine lv_aload_n hx hb dX1_note_20 rfl (lv_at hl 1 rfl) ?_
          refine va_get (ci := 1) (v := .ref a4) (C := RX1) (T := TX1) (N := 10) hx hb hts (by decide +kernel) hown hK hP 0 rfl rfl 3 (by decide) (hts (.fieldLink RX1 19 "CommitLogModel" "dirty" "[Z") (by decide +kernel)) (fun _ h9 => h9) rfl dX1_note_21 ?_
          refine lv_iload_n hx hb dX1_note_24 rfl (lv_at hl 0 rfl) ?_
          refine va_zald hx hb hK hP 4 3 rfl rfl (vp_in_nI (by omega) (by decide)) dX1_note_25 ?_
          refine tp_as (z := 1) (by rw [cl_nI (by omega)]; exact (by rw [hz]; rfl)) ?_
          refine lv_if_eq (tgt := 41) hx hb dX1_note_26 (by decide) (fun c_5 => ?_) (fun c_5 => ?_)
          · -- T of pc 26
            exact absurd c_5 (by decide)
          · -- F of pc 26
            refine lv_aload_n hx hb dX1_note_29 rfl (lv_at hl 1 rfl) ?_
            refine va_get (ci := 1) (v := .ref a1) (C := RX1) (T := TX1) (N := 10) hx hb hts (by decide +kernel) hown hK hP 0 rfl rfl 0 (by decide) (hts (.fieldLink RX1 7 "CommitLogModel" "work" "[B") (by decide +kernel)) (fun _ h9 => h9) rfl dX1_note_30 ?_
            refine lv_aload_n hx hb dX1_note_33 rfl (lv_at hl 1 rfl) ?_
            refine va_get (ci := 1) (v := .ref a3) (C := RX1) (T := TX1) (N := 10) hx hb hts (by decide +kernel) hown hK hP 0 rfl rfl 2 (by decide) (hts (.fieldLink RX1 16 "CommitLogModel" "log" "[B") (by decide +kernel)) (fun _ h9 => h9) rfl dX1_note_34 ?_
            refine lv_iload_n hx hb dX1_note_37 rfl (lv_at hl 0 rfl) ?_
            refine ct_Sv (As := [.ref a1, .ref a3, .int (nI k)]) (rest := []) (wr := [(h0, .inr (1, [.ref a1, .ref a2, .ref a3, .ref a4, .ref a5, .int (bI of), .int (bI mk), .int (nI la), .int (lfI lf), .int (nI sh)])), (a2, .inl (k2, 384, .inl gd)), (a4, .inl (k4, 24, .inl (fun j => bI (dz j)))), (a5, .inl (k5, 24, .inl (fun j => bI (lgK dz lg (k + 1) j))))]) (wn := [(h0, .inr (1, [.ref a1, .ref a2, .ref a3, .ref a4, .ref a5, .int (bI of), .int (bI mk), .int (nI la), .int (lfI lf), .int (nI sh)])), (a1, .inl (k1, 384, .inl gw)), (a2, .inl (k2, 384, .inl gd)), (a3, .inl (k3, 384, .inl (cpK gw (ntK gw dz gl k) k 16))), (a4, .inl (k4, 24, .inl (fun j => bI (dz j)))), (a5, .inl (k5, 24, .inl (fun j => bI (lgK dz lg (k + 1) j))))]) ⟨hx, hb, hml, hown, hts⟩ (c1_copy l D a1 a3 k1 k3 gw (ntK gw dz gl k) k (by omega)) (va_cwS 3 hts gX1_note_X1_copy rfl rfl rfl (by decide +kernel) ⟨Nat.le_of_ble_eq_true rfl, Nat.le_of_ble_eq_true rfl⟩) hK hP hD hS hA [1, 3] [0, 2, 4, 5] [0, 2] [0, 4, 1, 5, 2, 3] rfl rfl (by decide) rfl (by decide) (by decide) rfl (by decide) rfl hl.1 rfl (Nat.le_of_ble_eq_true rfl) dX1_note_38 ⟨Nat.zero_le _, Nat.zero_le _⟩ (fun H locs hP hD hS => ?_)
            have hP : va_P D vwCl [(h0, .inr (1, [.ref a1, .ref a2, .ref a3, .ref a4, .ref a5, .int (bI of), .int (bI mk), .int (nI la), .int (lfI lf), .int (nI sh)])), (a1, .inl (k1, 384, .inl gw)), (a2, .inl (k2, 384, .inl gd)), (a3, .inl (k3, 384, .inl (ntK gw dz gl (k + 1)))), (a4, .inl (k4, 24, .inl (fun j => bI (dz j)))), (a5, .inl (k5, 24, .inl (fun j => bI (lgK dz lg (k + 1) j))))] H := by simp only [ntK, hz, cond_true, cond_false]; exact hP
            have hD : va_D A [(h0, .inr (1, [.ref a1, .ref a2, .ref a3, .ref a4, .ref a5, .int (bI of), .int (bI mk), .int (nI la), .int (lfI lf), .int (nI sh)])), (a1, .inl (k1, 384, .inl gw)), (a2, .inl (k2, 384, .inl gd)), (a3, .inl (k3, 384, .inl (ntK gw dz gl (k + 1)))), (a4, .inl (k4, 24, .inl (fun j => bI (dz j)))), (a5, .inl (k5, 24, .inl (fun j => bI (lgK dz lg (k + 1) j))))] := by simp only [ntK, hz, cond_true, cond_false]; exact hD
            refine lv_iinc (v := (nI (k + 1))) (lv' := [(1, .int (nI (k + 1))), (0, .ref h0)]) hx hb dX1_note_41 hl (k := 0) rfl (nI_1 _) (by decide) rfl (fun ls hl => ?_)
            refine lv_goto (tgt := 2) hx hb dX1_note_44 (by decide) ?_
            exact ih (k + 1) (by omega) ls H locs (lv_sub hl [0, 1] rfl) hP hD hS
  exact loop 24 0 rfl ls _ _ (lv_sub hl [0, 1] rfl) (by rw [lgK_0]; exact hP) (by rw [lgK_0]; exact hD) hS
set_option maxHeartbeats 4000000 in
set_option maxRecDepth 100000 in
theorem c1_lay (l : Launch) (D : va_G) (h0 a1 a2 a3 a4 a5 : Nat) (k1 k2 k3 k4 k5 : ClassId) (gw gd gl : Nat → Int32) (dz lg : Nat → Bool) (of mk : Bool) (la : Nat) (lf : Option Nat) (sh : Nat) (mo : Nat) (hmo : mo ≤ 24) : ct_v l yX1_lay wsX1_lay ({ frames := 1, cells := 0, slots := 0, locals := 23 }) D vwCl (MT k1 k2 k3 k4 k5) [.ref h0, .int (nI mo)] (MW h0 a1 a2 a3 a4 a5 k1 k2 k3 k4 k5 gw gd gl dz lg of mk la lf sh) (MW h0 a1 a2 a3 a4 a5 k1 k2 k3 k4 k5 gw (lyK gl lg mo gd 24) gl dz lg of mk la lf sh) := by
  refine ct_v.of (cc := cX1_lay) (maxL := 4) (by decide) rfl (Nat.le_of_ble_eq_true rfl) ?_
  intro p e s m args below meth c ls A Q hx hb hml hts hown hK hP hD hA hS hl hret
  have hown : s.vm.findClass RX1 = some m.cls := hown
  have hl : lv_has ls 4 [(0, .ref h0), (1, .int (nI mo))] := hl
  have hP : va_P D vwCl [(h0, .inr (1, [.ref a1, .ref a2, .ref a3, .ref a4, .ref a5, .int (bI of), .int (bI mk), .int (nI la), .int (lfI lf), .int (nI sh)])), (a1, .inl (k1, 384, .inl gw)), (a2, .inl (k2, 384, .inl gd)), (a3, .inl (k3, 384, .inl gl)), (a4, .inl (k4, 24, .inl (fun j => bI (dz j)))), (a5, .inl (k5, 24, .inl (fun j => bI (lg j))))] s.heap := hP
  have hD : va_D A [(h0, .inr (1, [.ref a1, .ref a2, .ref a3, .ref a4, .ref a5, .int (bI of), .int (bI mk), .int (nI la), .int (lfI lf), .int (nI sh)])), (a1, .inl (k1, 384, .inl gw)), (a2, .inl (k2, 384, .inl gd)), (a3, .inl (k3, 384, .inl gl)), (a4, .inl (k4, 24, .inl (fun j => bI (dz j)))), (a5, .inl (k5, 24, .inl (fun j => bI (lg j))))] := hD
  refine lv_iconst (v := 0) hx hb dX1_lay_0 (by decide) ?_
  refine lv_istore_n (lv' := [(2, .int 0), (0, .ref h0), (1, .int (nI mo))]) hx hb dX1_lay_1 rfl hl (by decide) rfl (fun ls hl => ?_)
  refine lv_iconst (v := 0) hx hb dX1_lay_2 (by decide) ?_
  refine lv_istore_n (lv' := [(3, .int 0), (2, .int 0), (0, .ref h0), (1, .int (nI mo))]) hx hb dX1_lay_3 rfl hl (by decide) rfl (fun ls hl => ?_)
  have loop : ∀ (n k : Nat), k + n = 24 → ∀ (ls : Array Slot) (H : Heap) (locs : List Loc), lv_has ls 4 [(3, .int (nI k)), (2, .int (nI (cnt lg k))), (1, .int (nI mo)), (0, .ref h0)] → va_P D vwCl [(h0, .inr (1, [.ref a1, .ref a2, .ref a3, .ref a4, .ref a5, .int (bI of), .int (bI mk), .int (nI la), .int (lfI lf), .int (nI sh)])), (a1, .inl (k1, 384, .inl gw)), (a2, .inl (k2, 384, .inl (lyK gl lg mo gd k))), (a3, .inl (k3, 384, .inl gl)), (a4, .inl (k4, 24, .inl (fun j => bI (dz j)))), (a5, .inl (k5, 24, .inl (fun j => bI (lg j))))] H → va_D A [(h0, .inr (1, [.ref a1, .ref a2, .ref a3, .ref a4, .ref a5, .int (bI of), .int (bI mk), .int (nI la), .int (lfI lf), .int (nI sh)])), (a1, .inl (k1, 384, .inl gw)), (a2, .inl (k2, 384, .inl (lyK gl lg mo gd k))), (a3, .inl (k3, 384, .inl gl)), (a4, .inl (k4, 24, .inl (fun j => bI (dz j)))), (a5, .inl (k5, 24, .inl (fun j => bI (lg j))))] → va_S A s.heap H locs → W p l e ({ frames := 1, cells := 0, slots := 0, locals := 23 }) s m args below meth c H locs 0 0 Q (F0 m 4 ls []) := by
    intro n
    induction n with
    | zero =>
      intro k hk ls H locs hl hP hD hS
      obtain rfl : k = 24 := by omega
      refine lv_iload_n hx hb dX1_lay_4 rfl (lv_at hl 0 rfl) ?_
      refine lv_bipush (v := 24) hx hb dX1_lay_5 (by decide) ?_
      refine lv_icmp_ge (tgt := 59) hx hb dX1_lay_7 (by decide) (fun c_1 => ?_) (fun c_1 => ?_)
      · -- T of pc 7
        exact hret _ _ _ _ hP hD hS dX1_lay_59
      · -- F of pc 7
        exact absurd (by decide) c_1
    | succ n ih =>
      intro k hk ls H locs hl hP hD hS
      have hcn := cnt_le lg k
      cases hz : lg k with
      | false =>
        refine lv_iload_n hx hb dX1_lay_4 rfl (lv_at hl 0 rfl) ?_
        refine lv_bipush (v := 24) hx hb dX1_lay_5 (by decide) ?_
        refine lv_icmp_ge (tgt := 59) hx hb dX1_lay_7 (by decide) (fun c_2 => ?_) (fun c_2 => ?_)
        · -- T of pc 7
          exact absurd c_2 (show ¬ nI 24 ≤ nI k from nI_ge (by omega) (by decide))
        · -- F of pc 7
          refine lv_aload_n hx hb dX1_lay_10 rfl (lv_at hl 3 rfl) ?_
          refine va_get (ci := 1) (v := .ref a5) (C := RX1) (T := TX1) (N := 10) hx hb hts (by decide +kernel) hown hK hP 0 rfl rfl 4 (by decide) (hts (.fieldLink RX1 23 "CommitLogModel" "logged" "[Z") (by decide +kernel)) (fun _ h9 => h9) rfl dX1_lay_11 ?_
          refine lv_iload_n hx hb dX1_lay_14 rfl (lv_at hl 0 rfl) ?_
          refine va_zald hx hb hK hP 5 4 rfl rfl (vp_in_nI (by omega) (by decide)) dX1_lay_15 ?_
          refine tp_as (z := 0) (by rw [cl_nI (by omega)]; exact (by rw [hz]; rfl)) ?_
          refine lv_if_eq (tgt := 36) hx hb dX1_lay_16 (by decide) (fun c_3 => ?_) (fun c_3 => ?_)
          · -- T of pc 16
            have hno : ¬ (lg k = true ∧ cnt lg k < mo) := fun q => absurd (hz.symm.trans q.1) (by decide)
            have e1 : lyK gl lg mo gd (k + 1) = lyK gl lg mo gd k := by
              simp only [lyK]; rw [if_neg hno]
            rw [← e1] at hP hD
            have hP : va_P D vwCl [(h0, .inr (1, [.ref a1, .ref a2, .ref a3, .ref a4, .ref a5, .int (bI of), .int (bI mk), .int (nI la), .int (lfI lf), .int (nI sh)])), (a1, .inl (k1, 384, .inl gw)), (a2, .inl (k2, 384, .inl (lyK gl lg mo gd (k + 1)))), (a3, .inl (k3, 384, .inl gl)), (a4, .inl (k4, 24, .inl (fun j => bI (dz j)))), (a5, .inl (k5, 24, .inl (fun j => bI (lg j))))] H := hP
            have hD : va_D _ [(h0, .inr (1, [.ref a1, .ref a2, .ref a3, .ref a4, .ref a5, .int (bI of), .int (bI mk), .int (nI la), .int (lfI lf), .int (nI sh)])), (a1, .inl (k1, 384, .inl gw)), (a2, .inl (k2, 384, .inl (lyK gl lg mo gd (k + 1)))), (a3, .inl (k3, 384, .inl gl)), (a4, .inl (k4, 24, .inl (fun j => bI (dz j)))), (a5, .inl (k5, 24, .inl (fun j => bI (lg j))))] := hD
            refine lv_iload_n hx hb dX1_lay_36 rfl (lv_at hl 1 rfl) ?_
            refine lv_aload_n hx hb dX1_lay_37 rfl (lv_at hl 3 rfl) ?_
            refine va_get (ci := 1) (v := .ref a5) (C := RX1) (T := TX1) (N := 10) hx hb hts (by decide +kernel) hown hK hP 0 rfl rfl 4 (by decide) (hts (.fieldLink RX1 23 "CommitLogModel" "logged" "[Z") (by decide +kernel)) (fun _ h9 => h9) rfl dX1_lay_38 ?_
            refine lv_iload_n hx hb dX1_lay_41 rfl (lv_at hl 0 rfl) ?_
            refine va_zald hx hb hK hP 5 4 rfl rfl (vp_in_nI (by omega) (by decide)) dX1_lay_42 ?_
            refine tp_as (z := 0) (by rw [cl_nI (by omega)]; exact (by rw [hz]; rfl)) ?_
            refine lv_if_eq (tgt := 50) hx hb dX1_lay_43 (by decide) (fun c_4 => ?_) (fun c_4 => ?_)
            · -- T of pc 43
              refine lv_iconst (v := 0) hx hb dX1_lay_50 (by decide) ?_
              refine lv_iadd hx hb dX1_lay_51 ?_
              refine tp_as (z := nI (cnt lg (k + 1))) (by rw [cnt_f hz]; exact Int32.add_zero _) ?_
              refine lv_istore_n (lv' := [(2, .int (nI (cnt lg (k + 1)))), (3, .int (nI k)), (1, .int (nI mo)), (0, .ref h0)]) hx hb dX1_lay_52 rfl hl (by decide) rfl (fun ls hl => ?_)
              refine lv_iinc (v := (nI (k + 1))) (lv' := [(3, .int (nI (k + 1))), (2, .int (nI (cnt lg (k + 1)))), (1, .int (nI mo)), (0, .ref h0)]) hx hb dX1_lay_53 hl (k := 1) rfl (nI_1 _) (by decide) rfl (fun ls hl => ?_)
              refine lv_goto (tgt := 4) hx hb dX1_lay_56 (by decide) ?_
              exact ih (k + 1) (by omega) ls H locs (lv_sub hl [0, 1, 2, 3] rfl) hP hD hS
            · -- F of pc 43
              exact absurd (by decide) c_4
          · -- F of pc 16
            exact absurd rfl c_3
      | true =>
        refine lv_iload_n hx hb dX1_lay_4 rfl (lv_at hl 0 rfl) ?_
        refine lv_bipush (v := 24) hx hb dX1_lay_5 (by decide) ?_
        refine lv_icmp_ge (tgt := 59) hx hb dX1_lay_7 (by decide) (fun c_5 => ?_) (fun c_5 => ?_)
        · -- T of pc 7
          exact absurd c_5 (show ¬ nI 24 ≤ nI k from nI_ge (by omega) (by decide))
        · -- F of pc 7
          refine lv_aload_n hx hb dX1_lay_10 rfl (lv_at hl 3 rfl) ?_
          refine va_get (ci := 1) (v := .ref a5) (C := RX1) (T := TX1) (N := 10) hx hb hts (by decide +kernel) hown hK hP 0 rfl rfl 4 (by decide) (hts (.fieldLink RX1 23 "CommitLogModel" "logged" "[Z") (by decide +kernel)) (fun _ h9 => h9) rfl dX1_lay_11 ?_
          refine lv_iload_n hx hb dX1_lay_14 rfl (lv_at hl 0 rfl) ?_
          refine va_zald hx hb hK hP 5 4 rfl rfl (vp_in_nI (by omega) (by decide)) dX1_lay_15 ?_
          refine tp_as (z := 1) (by rw [cl_nI (by omega)]; exact (by rw [hz]; rfl)) ?_
          refine lv_if_eq (tgt := 36) hx hb dX1_lay_16 (by decide) (fun c_6 => ?_) (fun c_6 => ?_)
          · -- T of pc 16
            exact absurd c_6 (by decide)
          · -- F of pc 16
            refine lv_iload_n hx hb dX1_lay_19 rfl (lv_at hl 1 rfl) ?_
            refine lv_iload_n hx hb dX1_lay_20 rfl (lv_at hl 2 rfl) ?_
            refine lv_icmp_ge (tgt := 36) hx hb dX1_lay_21 (by decide) (fun c_7 => ?_) (fun c_7 => ?_)
            · -- T of pc 21
              have hno : ¬ (lg k = true ∧ cnt lg k < mo) := fun q => absurd ((nI_leI (by omega) (by omega)).mp c_7) (by omega)
              have e1 : lyK gl lg mo gd (k + 1) = lyK gl lg mo gd k := by
                simp only [lyK]; rw [if_neg hno]
              rw [← e1] at hP hD
              have hP : va_P D vwCl [(h0, .inr (1, [.ref a1, .ref a2, .ref a3, .ref a4, .ref a5, .int (bI of), .int (bI mk), .int (nI la), .int (lfI lf), .int (nI sh)])), (a1, .inl (k1, 384, .inl gw)), (a2, .inl (k2, 384, .inl (lyK gl lg mo gd (k + 1)))), (a3, .inl (k3, 384, .inl gl)), (a4, .inl (k4, 24, .inl (fun j => bI (dz j)))), (a5, .inl (k5, 24, .inl (fun j => bI (lg j))))] H := hP
              have hD : va_D _ [(h0, .inr (1, [.ref a1, .ref a2, .ref a3, .ref a4, .ref a5, .int (bI of), .int (bI mk), .int (nI la), .int (lfI lf), .int (nI sh)])), (a1, .inl (k1, 384, .inl gw)), (a2, .inl (k2, 384, .inl (lyK gl lg mo gd (k + 1)))), (a3, .inl (k3, 384, .inl gl)), (a4, .inl (k4, 24, .inl (fun j => bI (dz j)))), (a5, .inl (k5, 24, .inl (fun j => bI (lg j))))] := hD
              refine lv_iload_n hx hb dX1_lay_36 rfl (lv_at hl 1 rfl) ?_
              refine lv_aload_n hx hb dX1_lay_37 rfl (lv_at hl 3 rfl) ?_
              refine va_get (ci := 1) (v := .ref a5) (C := RX1) (T := TX1) (N := 10) hx hb hts (by decide +kernel) hown hK hP 0 rfl rfl 4 (by decide) (hts (.fieldLink RX1 23 "CommitLogModel" "logged" "[Z") (by decide +kernel)) (fun _ h9 => h9) rfl dX1_lay_38 ?_
              refine lv_iload_n hx hb dX1_lay_41 rfl (lv_at hl 0 rfl) ?_
              refine va_zald hx hb hK hP 5 4 rfl rfl (vp_in_nI (by omega) (by decide)) dX1_lay_42 ?_
              refine tp_as (z := 1) (by rw [cl_nI (by omega)]; exact (by rw [hz]; rfl)) ?_
              refine lv_if_eq (tgt := 50) hx hb dX1_lay_43 (by decide) (fun c_8 => ?_) (fun c_8 => ?_)
              · -- T of pc 43
                exact absurd c_8 (by decide)
              · -- F of pc 43
                refine lv_iconst (v := 1) hx hb dX1_lay_46 (by decide) ?_
                refine lv_goto (tgt := 51) hx hb dX1_lay_47 (by decide) ?_
                refine lv_iadd hx hb dX1_lay_51 ?_
                refine tp_as (z := nI (cnt lg (k + 1))) (by rw [cnt_t hz]; exact nI_1 _) ?_
                refine lv_istore_n (lv' := [(2, .int (nI (cnt lg (k + 1)))), (3, .int (nI k)), (1, .int (nI mo)), (0, .ref h0)]) hx hb dX1_lay_52 rfl hl (by decide) rfl (fun ls hl => ?_)
                refine lv_iinc (v := (nI (k + 1))) (lv' := [(3, .int (nI (k + 1))), (2, .int (nI (cnt lg (k + 1)))), (1, .int (nI mo)), (0, .ref h0)]) hx hb dX1_lay_53 hl (k := 1) rfl (nI_1 _) (by decide) rfl (fun ls hl => ?_)
                refine lv_goto (tgt := 4) hx hb dX1_lay_56 (by decide) ?_
                exact ih (k + 1) (by omega) ls H locs (lv_sub hl [0, 1, 2, 3] rfl) hP hD hS
            · -- F of pc 21
              have hlt : cnt lg k < mo := by
                rcases Nat.lt_or_ge (cnt lg k) mo with q | q
                · exact q
                · exact absurd (nI_le q (by omega)) c_7
              refine lv_aload_n hx hb dX1_lay_24 rfl (lv_at hl 3 rfl) ?_
              refine va_get (ci := 1) (v := .ref a3) (C := RX1) (T := TX1) (N := 10) hx hb hts (by decide +kernel) hown hK hP 0 rfl rfl 2 (by decide) (hts (.fieldLink RX1 16 "CommitLogModel" "log" "[B") (by decide +kernel)) (fun _ h9 => h9) rfl dX1_lay_25 ?_
              refine lv_aload_n hx hb dX1_lay_28 rfl (lv_at hl 3 rfl) ?_
              refine va_get (ci := 1) (v := .ref a2) (C := RX1) (T := TX1) (N := 10) hx hb hts (by decide +kernel) hown hK hP 0 rfl rfl 1 (by decide) (hts (.fieldLink RX1 13 "CommitLogModel" "disk" "[B") (by decide +kernel)) (fun _ h9 => h9) rfl dX1_lay_29 ?_
              refine lv_iload_n hx hb dX1_lay_32 rfl (lv_at hl 0 rfl) ?_
              refine ct_Sv (As := [.ref a3, .ref a2, .int (nI k)]) (rest := []) (wr := [(h0, .inr (1, [.ref a1, .ref a2, .ref a3, .ref a4, .ref a5, .int (bI of), .int (bI mk), .int (nI la), .int (lfI lf), .int (nI sh)])), (a1, .inl (k1, 384, .inl gw)), (a4, .inl (k4, 24, .inl (fun j => bI (dz j)))), (a5, .inl (k5, 24, .inl (fun j => bI (lg j))))]) (wn := [(h0, .inr (1, [.ref a1, .ref a2, .ref a3, .ref a4, .ref a5, .int (bI of), .int (bI mk), .int (nI la), .int (lfI lf), .int (nI sh)])), (a1, .inl (k1, 384, .inl gw)), (a2, .inl (k2, 384, .inl (cpK gl (lyK gl lg mo gd k) k 16))), (a3, .inl (k3, 384, .inl gl)), (a4, .inl (k4, 24, .inl (fun j => bI (dz j)))), (a5, .inl (k5, 24, .inl (fun j => bI (lg j))))]) ⟨hx, hb, hml, hown, hts⟩ (c1_copy l D a3 a2 k3 k2 gl (lyK gl lg mo gd k) k (by omega)) (va_cwS 3 hts gX1_lay_X1_copy rfl rfl rfl (by decide +kernel) ⟨Nat.le_of_ble_eq_true rfl, Nat.le_of_ble_eq_true rfl⟩) hK hP hD hS hA [3, 2] [0, 1, 4, 5] [2, 1] [0, 1, 5, 4, 2, 3] rfl rfl (by decide) rfl (by decide) (by decide) rfl (by decide) rfl hl.1 rfl (Nat.le_of_ble_eq_true rfl) dX1_lay_33 ⟨Nat.zero_le _, Nat.zero_le _⟩ (fun H locs hP hD hS => ?_)
              have e1 : lyK gl lg mo gd (k + 1) = cpK gl (lyK gl lg mo gd k) k 16 := by
                simp only [lyK]; rw [if_pos ⟨hz, hlt⟩]
              rw [← e1] at hP hD
              have hP : va_P D vwCl [(h0, .inr (1, [.ref a1, .ref a2, .ref a3, .ref a4, .ref a5, .int (bI of), .int (bI mk), .int (nI la), .int (lfI lf), .int (nI sh)])), (a1, .inl (k1, 384, .inl gw)), (a2, .inl (k2, 384, .inl (lyK gl lg mo gd (k + 1)))), (a3, .inl (k3, 384, .inl gl)), (a4, .inl (k4, 24, .inl (fun j => bI (dz j)))), (a5, .inl (k5, 24, .inl (fun j => bI (lg j))))] H := hP
              have hD : va_D _ [(h0, .inr (1, [.ref a1, .ref a2, .ref a3, .ref a4, .ref a5, .int (bI of), .int (bI mk), .int (nI la), .int (lfI lf), .int (nI sh)])), (a1, .inl (k1, 384, .inl gw)), (a2, .inl (k2, 384, .inl (lyK gl lg mo gd (k + 1)))), (a3, .inl (k3, 384, .inl gl)), (a4, .inl (k4, 24, .inl (fun j => bI (dz j)))), (a5, .inl (k5, 24, .inl (fun j => bI (lg j))))] := hD
              refine lv_iload_n hx hb dX1_lay_36 rfl (lv_at hl 1 rfl) ?_
              refine lv_aload_n hx hb dX1_lay_37 rfl (lv_at hl 3 rfl) ?_
              refine va_get (ci := 1) (v := .ref a5) (C := RX1) (T := TX1) (N := 10) hx hb hts (by decide +kernel) hown hK hP 0 rfl rfl 4 (by decide) (hts (.fieldLink RX1 23 "CommitLogModel" "logged" "[Z") (by decide +kernel)) (fun _ h9 => h9) rfl dX1_lay_38 ?_
              refine lv_iload_n hx hb dX1_lay_41 rfl (lv_at hl 0 rfl) ?_
              refine va_zald hx hb hK hP 5 4 rfl rfl (vp_in_nI (by omega) (by decide)) dX1_lay_42 ?_
              refine tp_as (z := 1) (by rw [cl_nI (by omega)]; exact (by rw [hz]; rfl)) ?_
              refine lv_if_eq (tgt := 50) hx hb dX1_lay_43 (by decide) (fun c_9 => ?_) (fun c_9 => ?_)
              · -- T of pc 43
                exact absurd c_9 (by decide)
              · -- F of pc 43
                refine lv_iconst (v := 1) hx hb dX1_lay_46 (by decide) ?_
                refine lv_goto (tgt := 51) hx hb dX1_lay_47 (by decide) ?_
                refine lv_iadd hx hb dX1_lay_51 ?_
                refine tp_as (z := nI (cnt lg (k + 1))) (by rw [cnt_t hz]; exact nI_1 _) ?_
                refine lv_istore_n (lv' := [(2, .int (nI (cnt lg (k + 1)))), (3, .int (nI k)), (1, .int (nI mo)), (0, .ref h0)]) hx hb dX1_lay_52 rfl hl (by decide) rfl (fun ls hl => ?_)
                refine lv_iinc (v := (nI (k + 1))) (lv' := [(3, .int (nI (k + 1))), (2, .int (nI (cnt lg (k + 1)))), (1, .int (nI mo)), (0, .ref h0)]) hx hb dX1_lay_53 hl (k := 1) rfl (nI_1 _) (by decide) rfl (fun ls hl => ?_)
                refine lv_goto (tgt := 4) hx hb dX1_lay_56 (by decide) ?_
                exact ih (k + 1) (by omega) ls H locs (lv_sub hl [0, 1, 2, 3] rfl) hP hD hS
  exact loop 24 0 rfl ls _ _ (lv_sub hl [0, 1, 3, 2] rfl) hP hD hS
set_option maxHeartbeats 4000000 in
set_option maxRecDepth 100000 in
theorem c1_fresh (l : Launch) (D : va_G) (h0 a1 a2 a3 a4 a5 : Nat) (k1 k2 k3 k4 k5 : ClassId) (gw gd gl : Nat → Int32) (dz lg : Nat → Bool) (of mk : Bool) (la : Nat) (lf : Option Nat) (sh : Nat) : ct_v l yX1_fresh wsX1_fresh ({ frames := 1, cells := 0, slots := 0, locals := 23 }) D vwCl (MT k1 k2 k3 k4 k5) [.ref h0] (MW h0 a1 a2 a3 a4 a5 k1 k2 k3 k4 k5 gw gd gl dz lg of mk la lf sh) (MW h0 a1 a2 a3 a4 a5 k1 k2 k3 k4 k5 (frK gd gw 24) gd gl (clr dz 24) lg of mk la lf sh) := by
  refine ct_v.of (cc := cX1_fresh) (maxL := 2) (by decide) rfl (Nat.le_of_ble_eq_true rfl) ?_
  intro p e s m args below meth c ls A Q hx hb hml hts hown hK hP hD hA hS hl hret
  have hown : s.vm.findClass RX1 = some m.cls := hown
  have hl : lv_has ls 2 [(0, .ref h0)] := hl
  have hP : va_P D vwCl [(h0, .inr (1, [.ref a1, .ref a2, .ref a3, .ref a4, .ref a5, .int (bI of), .int (bI mk), .int (nI la), .int (lfI lf), .int (nI sh)])), (a1, .inl (k1, 384, .inl gw)), (a2, .inl (k2, 384, .inl gd)), (a3, .inl (k3, 384, .inl gl)), (a4, .inl (k4, 24, .inl (fun j => bI (dz j)))), (a5, .inl (k5, 24, .inl (fun j => bI (lg j))))] s.heap := hP
  have hD : va_D A [(h0, .inr (1, [.ref a1, .ref a2, .ref a3, .ref a4, .ref a5, .int (bI of), .int (bI mk), .int (nI la), .int (lfI lf), .int (nI sh)])), (a1, .inl (k1, 384, .inl gw)), (a2, .inl (k2, 384, .inl gd)), (a3, .inl (k3, 384, .inl gl)), (a4, .inl (k4, 24, .inl (fun j => bI (dz j)))), (a5, .inl (k5, 24, .inl (fun j => bI (lg j))))] := hD
  refine lv_iconst (v := 0) hx hb dX1_fresh_0 (by decide) ?_
  refine lv_istore_n (lv' := [(1, .int 0), (0, .ref h0)]) hx hb dX1_fresh_1 rfl hl (by decide) rfl (fun ls hl => ?_)
  have loop : ∀ (n k : Nat), k + n = 24 → ∀ (ls : Array Slot) (H : Heap) (locs : List Loc), lv_has ls 2 [(1, .int (nI k)), (0, .ref h0)] → va_P D vwCl [(h0, .inr (1, [.ref a1, .ref a2, .ref a3, .ref a4, .ref a5, .int (bI of), .int (bI mk), .int (nI la), .int (lfI lf), .int (nI sh)])), (a1, .inl (k1, 384, .inl (frK gd gw k))), (a2, .inl (k2, 384, .inl gd)), (a3, .inl (k3, 384, .inl gl)), (a4, .inl (k4, 24, .inl (fun j => bI (clr dz k j)))), (a5, .inl (k5, 24, .inl (fun j => bI (lg j))))] H → va_D A [(h0, .inr (1, [.ref a1, .ref a2, .ref a3, .ref a4, .ref a5, .int (bI of), .int (bI mk), .int (nI la), .int (lfI lf), .int (nI sh)])), (a1, .inl (k1, 384, .inl (frK gd gw k))), (a2, .inl (k2, 384, .inl gd)), (a3, .inl (k3, 384, .inl gl)), (a4, .inl (k4, 24, .inl (fun j => bI (clr dz k j)))), (a5, .inl (k5, 24, .inl (fun j => bI (lg j))))] → va_S A s.heap H locs → W p l e ({ frames := 1, cells := 0, slots := 0, locals := 23 }) s m args below meth c H locs 0 0 Q (F0 m 2 ls []) := by
    intro n
    induction n with
    | zero =>
      intro k hk ls H locs hl hP hD hS
      obtain rfl : k = 24 := by omega
      refine lv_iload_n hx hb dX1_fresh_2 rfl (lv_at hl 0 rfl) ?_
      refine lv_bipush (v := 24) hx hb dX1_fresh_3 (by decide) ?_
      refine lv_icmp_ge (tgt := 33) hx hb dX1_fresh_5 (by decide) (fun c_1 => ?_) (fun c_1 => ?_)
      · -- T of pc 5
        exact hret _ _ _ _ hP hD hS dX1_fresh_33
      · -- F of pc 5
        exact absurd (by decide) c_1
    | succ n ih =>
      intro k hk ls H locs hl hP hD hS
      refine lv_iload_n hx hb dX1_fresh_2 rfl (lv_at hl 0 rfl) ?_
      refine lv_bipush (v := 24) hx hb dX1_fresh_3 (by decide) ?_
      refine lv_icmp_ge (tgt := 33) hx hb dX1_fresh_5 (by decide) (fun c_2 => ?_) (fun c_2 => ?_)
      · -- T of pc 5
        exact absurd c_2 (show ¬ nI 24 ≤ nI k from nI_ge (by omega) (by decide))
      · -- F of pc 5
        refine lv_aload_n hx hb dX1_fresh_8 rfl (lv_at hl 1 rfl) ?_
        refine va_get (ci := 1) (v := .ref a2) (C := RX1) (T := TX1) (N := 10) hx hb hts (by decide +kernel) hown hK hP 0 rfl rfl 1 (by decide) (hts (.fieldLink RX1 13 "CommitLogModel" "disk" "[B") (by decide +kernel)) (fun _ h9 => h9) rfl dX1_fresh_9 ?_
        refine lv_aload_n hx hb dX1_fresh_12 rfl (lv_at hl 1 rfl) ?_
        refine va_get (ci := 1) (v := .ref a1) (C := RX1) (T := TX1) (N := 10) hx hb hts (by decide +kernel) hown hK hP 0 rfl rfl 0 (by decide) (hts (.fieldLink RX1 7 "CommitLogModel" "work" "[B") (by decide +kernel)) (fun _ h9 => h9) rfl dX1_fresh_13 ?_
        refine lv_iload_n hx hb dX1_fresh_16 rfl (lv_at hl 0 rfl) ?_
        refine ct_Sv (As := [.ref a2, .ref a1, .int (nI k)]) (rest := []) (wr := [(h0, .inr (1, [.ref a1, .ref a2, .ref a3, .ref a4, .ref a5, .int (bI of), .int (bI mk), .int (nI la), .int (lfI lf), .int (nI sh)])), (a3, .inl (k3, 384, .inl gl)), (a4, .inl (k4, 24, .inl (fun j => bI (clr dz k j)))), (a5, .inl (k5, 24, .inl (fun j => bI (lg j))))]) (wn := [(h0, .inr (1, [.ref a1, .ref a2, .ref a3, .ref a4, .ref a5, .int (bI of), .int (bI mk), .int (nI la), .int (lfI lf), .int (nI sh)])), (a1, .inl (k1, 384, .inl (cpK gd (frK gd gw k) k 16))), (a2, .inl (k2, 384, .inl gd)), (a3, .inl (k3, 384, .inl gl)), (a4, .inl (k4, 24, .inl (fun j => bI (clr dz k j)))), (a5, .inl (k5, 24, .inl (fun j => bI (lg j))))]) ⟨hx, hb, hml, hown, hts⟩ (c1_copy l D a2 a1 k2 k1 gd (frK gd gw k) k (by omega)) (va_cwS 3 hts gX1_fresh_X1_copy rfl rfl rfl (by decide +kernel) ⟨Nat.le_of_ble_eq_true rfl, Nat.le_of_ble_eq_true rfl⟩) hK hP hD hS hA [2, 1] [0, 3, 4, 5] [1, 0] [0, 5, 4, 1, 2, 3] rfl rfl (by decide) rfl (by decide) (by decide) rfl (by decide) rfl hl.1 rfl (Nat.le_of_ble_eq_true rfl) dX1_fresh_17 ⟨Nat.zero_le _, Nat.zero_le _⟩ (fun H locs hP hD hS => ?_)
        have hP : va_P D vwCl [(h0, .inr (1, [.ref a1, .ref a2, .ref a3, .ref a4, .ref a5, .int (bI of), .int (bI mk), .int (nI la), .int (lfI lf), .int (nI sh)])), (a1, .inl (k1, 384, .inl (frK gd gw (k + 1)))), (a2, .inl (k2, 384, .inl gd)), (a3, .inl (k3, 384, .inl gl)), (a4, .inl (k4, 24, .inl (fun j => bI (clr dz k j)))), (a5, .inl (k5, 24, .inl (fun j => bI (lg j))))] H := hP
        have hD : va_D _ [(h0, .inr (1, [.ref a1, .ref a2, .ref a3, .ref a4, .ref a5, .int (bI of), .int (bI mk), .int (nI la), .int (lfI lf), .int (nI sh)])), (a1, .inl (k1, 384, .inl (frK gd gw (k + 1)))), (a2, .inl (k2, 384, .inl gd)), (a3, .inl (k3, 384, .inl gl)), (a4, .inl (k4, 24, .inl (fun j => bI (clr dz k j)))), (a5, .inl (k5, 24, .inl (fun j => bI (lg j))))] := hD
        refine lv_aload_n hx hb dX1_fresh_20 rfl (lv_at hl 1 rfl) ?_
        refine va_get (ci := 1) (v := .ref a4) (C := RX1) (T := TX1) (N := 10) hx hb hts (by decide +kernel) hown hK hP 0 rfl rfl 3 (by decide) (hts (.fieldLink RX1 19 "CommitLogModel" "dirty" "[Z") (by decide +kernel)) (fun _ h9 => h9) rfl dX1_fresh_21 ?_
        refine lv_iload_n hx hb dX1_fresh_24 rfl (lv_at hl 0 rfl) ?_
        refine lv_iconst (v := 0) hx hb dX1_fresh_25 (by decide) ?_
        refine va_zast hx hb hK hP hD hS 4 3 rfl rfl (vp_in_nI (by omega) (by decide)) dX1_fresh_26 (fun H locs hP hD hS => ?_)
        rw [cl_nI (show k < 2 ^ 31 by omega), show vp_nar .boolean 0 = bI false from rfl, up_bI, clr_s] at hP hD
        have hP : va_P D vwCl [(h0, .inr (1, [.ref a1, .ref a2, .ref a3, .ref a4, .ref a5, .int (bI of), .int (bI mk), .int (nI la), .int (lfI lf), .int (nI sh)])), (a1, .inl (k1, 384, .inl (frK gd gw (k + 1)))), (a2, .inl (k2, 384, .inl gd)), (a3, .inl (k3, 384, .inl gl)), (a4, .inl (k4, 24, .inl (fun j => bI (clr dz (k + 1) j)))), (a5, .inl (k5, 24, .inl (fun j => bI (lg j))))] H := hP
        have hD : va_D _ [(h0, .inr (1, [.ref a1, .ref a2, .ref a3, .ref a4, .ref a5, .int (bI of), .int (bI mk), .int (nI la), .int (lfI lf), .int (nI sh)])), (a1, .inl (k1, 384, .inl (frK gd gw (k + 1)))), (a2, .inl (k2, 384, .inl gd)), (a3, .inl (k3, 384, .inl gl)), (a4, .inl (k4, 24, .inl (fun j => bI (clr dz (k + 1) j)))), (a5, .inl (k5, 24, .inl (fun j => bI (lg j))))] := hD
        refine lv_iinc (v := (nI (k + 1))) (lv' := [(1, .int (nI (k + 1))), (0, .ref h0)]) hx hb dX1_fresh_27 hl (k := 0) rfl (nI_1 _) (by decide) rfl (fun ls hl => ?_)
        refine lv_goto (tgt := 2) hx hb dX1_fresh_30 (by decide) ?_
        exact ih (k + 1) (by omega) ls H locs (lv_sub hl [0, 1] rfl) hP hD hS
  exact loop 24 0 rfl ls _ _ (lv_sub hl [0, 1] rfl) (by rw [clr_0]; exact hP) (by rw [clr_0]; exact hD) hS
