/-! The two constructors. -/
theorem na_n384 : (384 : Int32).toNatClampNeg = 384 := rfl
theorem na_384i (cA : ClassId) : vp_cell cA (384, .inl (fun _ => 0)) = arrV cA 384 (fun _ => defaultValue .int) := vp_cell_i cA 384 (fun _ => 0)
theorem na_b384i : 384 * componentBytes .int ≤ 536870912 := Nat.le_of_ble_eq_true rfl
theorem na_384b (cA : ClassId) : vp_cell cA (384, .inl (fun _ => 0)) = arrV cA 384 (fun _ => defaultValue .byte) := vp_cell_i cA 384 (fun _ => 0)
theorem na_b384b : 384 * componentBytes .byte ≤ 536870912 := Nat.le_of_ble_eq_true rfl
theorem na_n24 : (24 : Int32).toNatClampNeg = 24 := rfl
theorem na_24i (cA : ClassId) : vp_cell cA (24, .inl (fun _ => 0)) = arrV cA 24 (fun _ => defaultValue .int) := vp_cell_i cA 24 (fun _ => 0)
theorem na_b24i : 24 * componentBytes .int ≤ 536870912 := Nat.le_of_ble_eq_true rfl
theorem na_24z (cA : ClassId) : vp_cell cA (24, .inl (fun _ => 0)) = arrV cA 24 (fun _ => defaultValue .boolean) := vp_cell_i cA 24 (fun _ => 0)
theorem na_b24z : 24 * componentBytes .boolean ≤ 536870912 := Nat.le_of_ble_eq_true rfl
abbrev U10 : Type := Nat × Nat × Nat × Nat × Nat × ClassId × ClassId × ClassId × ClassId × ClassId
abbrev XW_init0 (h0 : Nat) : va_W := [(h0, .inr (0, [.null, .null, .null, .null, .null, .int 0, .int 0, .int 0, .int 0, .int 0]))]
abbrev XW_at (D : va_G) (A : Nat → Prop) (h0 : Nat) (u : U10) (t : State) : Prop := match u with
  | (a1, a2, a3, a4, a5, k1, k2, k3, k4, k5) => va_P D vwCl (XW h0 a1 a2 a3 a4 a5 k1 k2 k3 k4 k5 (fun _ => 0) (fun _ => 0) (fun _ => 0) (fun _ => false) (fun _ => false) true false 0 0 0) t.heap ∧ va_K D vwCl (XT k1 k2 k3 k4 k5) t ∧ va_D A (XW h0 a1 a2 a3 a4 a5 k1 k2 k3 k4 k5 (fun _ => 0) (fun _ => 0) (fun _ => 0) (fun _ => false) (fun _ => false) true false 0 0 0)
set_option maxHeartbeats 4000000 in
set_option maxRecDepth 100000 in
theorem c0_init (l : Launch) (D : va_G) (h0 sz : Nat) : Met l yX0_init wsX0_init ({ frames := 1, cells := 5, slots := 1200, locals := 12 }) (sp_P D vwCl [] [.ref h0] (XW_init0 h0) sz) (va_Qv (fun (_ : U10) => True) (XW_at D (va_A (XW_init0 h0) sz) h0) (va_A (XW_init0 h0) sz)) 5 1200 (va_A (XW_init0 h0) sz) := by
  refine Met.ofW (cc := cX0_init) (maxL := 1) (ret := none) (by decide) rfl ?_
  intro p e s m args below meth c s₁ B hml hv
  obtain ⟨rfl, hsz, hP, hK, hD0⟩ := hv
  have hx := B.exec
  have hb := B.bytes
  have hr := B.returns
  have hts := atoms_spec (ws := wsX0_init) B.pre
  have hown : s.vm.findClass RX0 = some m.cls := findClass_of_methodNamed B.named
  have hlk := B.notSynchronized
  have hin : meth.name = "<init>" := (name_of_methodNamed B.named B.method).1
  subst hsz
  have hD := hD0.self (sz := s.heap.size)
  have hA : ∀ q : Nat, s.heap.size ≤ q → va_A [(h0, .inr (0, [.null, .null, .null, .null, .null, .int 0, .int 0, .int 0, .int 0, .int 0]))] s.heap.size q := fun q h => Or.inr h
  have hS : va_S (va_A [(h0, .inr (0, [.null, .null, .null, .null, .null, .int 0, .int 0, .int 0, .int 0, .int 0]))] s.heap.size) s.heap s.heap [] := va_S.rf
  have hP : va_P D vwCl [(h0, .inr (0, [.null, .null, .null, .null, .null, .int 0, .int 0, .int 0, .int 0, .int 0]))] s.heap := hP
  have hl := lv_entry ([.ref h0]) (n := 1) (Nat.le_of_ble_eq_true rfl)
  rw [lg_entry_eq]
  generalize (lg_sl ([.ref h0]) ++ List.replicate (1 - (lg_sl ([.ref h0])).length) Slot.unset).toArray = ls at hl ⊢
  have hl : lv_has ls 1 [(0, .ref h0)] := hl
  refine lv_aload_n hx hb dX0_init_0 rfl (lv_at hl 0 rfl) ?_
  refine W.objInit hx hb hown (hts (.methodLink RX0 3 objectInit) (by decide +kernel)) (hts (.instanceMethod objectInit) (by decide +kernel)) (hts _ (List.mem_cons_of_mem _ (List.mem_append_left _ (List.mem_of_getElem? (i := 2) rfl)))) rfl (by rw [hml]; exact hl.1) rfl dX0_init_1 (Nat.le_of_ble_eq_true rfl) (Nat.le_of_ble_eq_true rfl) ?_
  refine W.eq (g2 := F0 m 4 ls []) rfl ?_
  refine lv_aload_n hx hb dX0_init_4 rfl (lv_at hl 0 rfl) ?_
  refine lv_sipush (v := 384) hx hb dX0_init_5 (by decide) ?_
  refine va_newa (atype := .int) (ty := .int) (N' := 384) (a0 := (384, .inl (fun _ => 0))) hx hb (hts (.arrayClass .int) (by decide +kernel)) rfl hK hP hD hS hA (fun cA => na_384i cA) (by decide) na_n384 na_b384i (Nat.le_of_ble_eq_true rfl) (Nat.le_of_ble_eq_true rfl) dX0_init_8 (fun a1 k1 H hK hP hD hS => ?_)
  have hP : va_P D vwCl [(h0, .inr (0, [.null, .null, .null, .null, .null, .int 0, .int 0, .int 0, .int 0, .int 0])), (a1, .inl (k1, 384, .inl (fun _ => 0)))] H := hP
  have hD : va_D _ [(h0, .inr (0, [.null, .null, .null, .null, .null, .int 0, .int 0, .int 0, .int 0, .int 0])), (a1, .inl (k1, 384, .inl (fun _ => 0)))] := hD
  have hK : va_K D vwCl [(k1, .int)] s := hK
  refine va_putF (ci := 0) (v := .ref a1) (ty := .array .int) (C := RX0) (T := TX0) (N := 10) hx hb hts (by decide +kernel) tyX0 tyX0_ok nmX0 hown hK hP hD hS 0 rfl rfl 0 (by decide) (hts (.fieldLink RX0 9 "CommitLog" "work" "[I") (by decide +kernel)) (fun _ h9 => h9) rfl hin rfl (by decide +kernel) rfl rfl (Nat.le_of_ble_eq_true rfl) dX0_init_10 (fun H locs hP hD hS => ?_)
  have hP : va_P D vwCl [(h0, .inr (0, [.ref a1, .null, .null, .null, .null, .int 0, .int 0, .int 0, .int 0, .int 0])), (a1, .inl (k1, 384, .inl (fun _ => 0)))] H := hP
  have hD : va_D _ [(h0, .inr (0, [.ref a1, .null, .null, .null, .null, .int 0, .int 0, .int 0, .int 0, .int 0])), (a1, .inl (k1, 384, .inl (fun _ => 0)))] := hD
  refine lv_aload_n hx hb dX0_init_13 rfl (lv_at hl 0 rfl) ?_
  refine lv_sipush (v := 384) hx hb dX0_init_14 (by decide) ?_
  refine va_newa (atype := .int) (ty := .int) (N' := 384) (a0 := (384, .inl (fun _ => 0))) hx hb (hts (.arrayClass .int) (by decide +kernel)) rfl hK hP hD hS hA (fun cA => na_384i cA) (by decide) na_n384 na_b384i (Nat.le_of_ble_eq_true rfl) (Nat.le_of_ble_eq_true rfl) dX0_init_17 (fun a2 k2 H hK hP hD hS => ?_)
  have hP : va_P D vwCl [(h0, .inr (0, [.ref a1, .null, .null, .null, .null, .int 0, .int 0, .int 0, .int 0, .int 0])), (a1, .inl (k1, 384, .inl (fun _ => 0))), (a2, .inl (k2, 384, .inl (fun _ => 0)))] H := hP
  have hD : va_D _ [(h0, .inr (0, [.ref a1, .null, .null, .null, .null, .int 0, .int 0, .int 0, .int 0, .int 0])), (a1, .inl (k1, 384, .inl (fun _ => 0))), (a2, .inl (k2, 384, .inl (fun _ => 0)))] := hD
  have hK : va_K D vwCl [(k1, .int), (k2, .int)] s := hK
  refine va_putF (ci := 0) (v := .ref a2) (ty := .array .int) (C := RX0) (T := TX0) (N := 10) hx hb hts (by decide +kernel) tyX0 tyX0_ok nmX0 hown hK hP hD hS 0 rfl rfl 1 (by decide) (hts (.fieldLink RX0 13 "CommitLog" "onDisk" "[I") (by decide +kernel)) (fun _ h9 => h9) rfl hin rfl (by decide +kernel) rfl rfl (Nat.le_of_ble_eq_true rfl) dX0_init_19 (fun H locs hP hD hS => ?_)
  have hP : va_P D vwCl [(h0, .inr (0, [.ref a1, .ref a2, .null, .null, .null, .int 0, .int 0, .int 0, .int 0, .int 0])), (a1, .inl (k1, 384, .inl (fun _ => 0))), (a2, .inl (k2, 384, .inl (fun _ => 0)))] H := hP
  have hD : va_D _ [(h0, .inr (0, [.ref a1, .ref a2, .null, .null, .null, .int 0, .int 0, .int 0, .int 0, .int 0])), (a1, .inl (k1, 384, .inl (fun _ => 0))), (a2, .inl (k2, 384, .inl (fun _ => 0)))] := hD
  refine lv_aload_n hx hb dX0_init_22 rfl (lv_at hl 0 rfl) ?_
  refine lv_sipush (v := 384) hx hb dX0_init_23 (by decide) ?_
  refine va_newa (atype := .int) (ty := .int) (N' := 384) (a0 := (384, .inl (fun _ => 0))) hx hb (hts (.arrayClass .int) (by decide +kernel)) rfl hK hP hD hS hA (fun cA => na_384i cA) (by decide) na_n384 na_b384i (Nat.le_of_ble_eq_true rfl) (Nat.le_of_ble_eq_true rfl) dX0_init_26 (fun a3 k3 H hK hP hD hS => ?_)
  have hP : va_P D vwCl [(h0, .inr (0, [.ref a1, .ref a2, .null, .null, .null, .int 0, .int 0, .int 0, .int 0, .int 0])), (a1, .inl (k1, 384, .inl (fun _ => 0))), (a2, .inl (k2, 384, .inl (fun _ => 0))), (a3, .inl (k3, 384, .inl (fun _ => 0)))] H := hP
  have hD : va_D _ [(h0, .inr (0, [.ref a1, .ref a2, .null, .null, .null, .int 0, .int 0, .int 0, .int 0, .int 0])), (a1, .inl (k1, 384, .inl (fun _ => 0))), (a2, .inl (k2, 384, .inl (fun _ => 0))), (a3, .inl (k3, 384, .inl (fun _ => 0)))] := hD
  have hK : va_K D vwCl [(k1, .int), (k2, .int), (k3, .int)] s := hK
  refine va_putF (ci := 0) (v := .ref a3) (ty := .array .int) (C := RX0) (T := TX0) (N := 10) hx hb hts (by decide +kernel) tyX0 tyX0_ok nmX0 hown hK hP hD hS 0 rfl rfl 2 (by decide) (hts (.fieldLink RX0 16 "CommitLog" "logBytes" "[I") (by decide +kernel)) (fun _ h9 => h9) rfl hin rfl (by decide +kernel) rfl rfl (Nat.le_of_ble_eq_true rfl) dX0_init_28 (fun H locs hP hD hS => ?_)
  have hP : va_P D vwCl [(h0, .inr (0, [.ref a1, .ref a2, .ref a3, .null, .null, .int 0, .int 0, .int 0, .int 0, .int 0])), (a1, .inl (k1, 384, .inl (fun _ => 0))), (a2, .inl (k2, 384, .inl (fun _ => 0))), (a3, .inl (k3, 384, .inl (fun _ => 0)))] H := hP
  have hD : va_D _ [(h0, .inr (0, [.ref a1, .ref a2, .ref a3, .null, .null, .int 0, .int 0, .int 0, .int 0, .int 0])), (a1, .inl (k1, 384, .inl (fun _ => 0))), (a2, .inl (k2, 384, .inl (fun _ => 0))), (a3, .inl (k3, 384, .inl (fun _ => 0)))] := hD
  refine lv_aload_n hx hb dX0_init_31 rfl (lv_at hl 0 rfl) ?_
  refine lv_bipush (v := 24) hx hb dX0_init_32 (by decide) ?_
  refine va_newa (atype := .boolean) (ty := .boolean) (N' := 24) (a0 := (24, .inl (fun _ => 0))) hx hb (hts (.arrayClass .boolean) (by decide +kernel)) rfl hK hP hD hS hA (fun cA => na_24z cA) (by decide) na_n24 na_b24z (Nat.le_of_ble_eq_true rfl) (Nat.le_of_ble_eq_true rfl) dX0_init_34 (fun a4 k4 H hK hP hD hS => ?_)
  have hP : va_P D vwCl [(h0, .inr (0, [.ref a1, .ref a2, .ref a3, .null, .null, .int 0, .int 0, .int 0, .int 0, .int 0])), (a1, .inl (k1, 384, .inl (fun _ => 0))), (a2, .inl (k2, 384, .inl (fun _ => 0))), (a3, .inl (k3, 384, .inl (fun _ => 0))), (a4, .inl (k4, 24, .inl (fun _ => 0)))] H := hP
  have hD : va_D _ [(h0, .inr (0, [.ref a1, .ref a2, .ref a3, .null, .null, .int 0, .int 0, .int 0, .int 0, .int 0])), (a1, .inl (k1, 384, .inl (fun _ => 0))), (a2, .inl (k2, 384, .inl (fun _ => 0))), (a3, .inl (k3, 384, .inl (fun _ => 0))), (a4, .inl (k4, 24, .inl (fun _ => 0)))] := hD
  have hK : va_K D vwCl [(k1, .int), (k2, .int), (k3, .int), (k4, .boolean)] s := hK
  refine va_putF (ci := 0) (v := .ref a4) (ty := .array .boolean) (C := RX0) (T := TX0) (N := 10) hx hb hts (by decide +kernel) tyX0 tyX0_ok nmX0 hown hK hP hD hS 0 rfl rfl 3 (by decide) (hts (.fieldLink RX0 19 "CommitLog" "written" "[Z") (by decide +kernel)) (fun _ h9 => h9) rfl hin rfl (by decide +kernel) rfl rfl (Nat.le_of_ble_eq_true rfl) dX0_init_36 (fun H locs hP hD hS => ?_)
  have hP : va_P D vwCl [(h0, .inr (0, [.ref a1, .ref a2, .ref a3, .ref a4, .null, .int 0, .int 0, .int 0, .int 0, .int 0])), (a1, .inl (k1, 384, .inl (fun _ => 0))), (a2, .inl (k2, 384, .inl (fun _ => 0))), (a3, .inl (k3, 384, .inl (fun _ => 0))), (a4, .inl (k4, 24, .inl (fun _ => 0)))] H := hP
  have hD : va_D _ [(h0, .inr (0, [.ref a1, .ref a2, .ref a3, .ref a4, .null, .int 0, .int 0, .int 0, .int 0, .int 0])), (a1, .inl (k1, 384, .inl (fun _ => 0))), (a2, .inl (k2, 384, .inl (fun _ => 0))), (a3, .inl (k3, 384, .inl (fun _ => 0))), (a4, .inl (k4, 24, .inl (fun _ => 0)))] := hD
  refine lv_aload_n hx hb dX0_init_39 rfl (lv_at hl 0 rfl) ?_
  refine lv_bipush (v := 24) hx hb dX0_init_40 (by decide) ?_
  refine va_newa (atype := .boolean) (ty := .boolean) (N' := 24) (a0 := (24, .inl (fun _ => 0))) hx hb (hts (.arrayClass .boolean) (by decide +kernel)) rfl hK hP hD hS hA (fun cA => na_24z cA) (by decide) na_n24 na_b24z (Nat.le_of_ble_eq_true rfl) (Nat.le_of_ble_eq_true rfl) dX0_init_42 (fun a5 k5 H hK hP hD hS => ?_)
  have hP : va_P D vwCl [(h0, .inr (0, [.ref a1, .ref a2, .ref a3, .ref a4, .null, .int 0, .int 0, .int 0, .int 0, .int 0])), (a1, .inl (k1, 384, .inl (fun _ => 0))), (a2, .inl (k2, 384, .inl (fun _ => 0))), (a3, .inl (k3, 384, .inl (fun _ => 0))), (a4, .inl (k4, 24, .inl (fun _ => 0))), (a5, .inl (k5, 24, .inl (fun _ => 0)))] H := hP
  have hD : va_D _ [(h0, .inr (0, [.ref a1, .ref a2, .ref a3, .ref a4, .null, .int 0, .int 0, .int 0, .int 0, .int 0])), (a1, .inl (k1, 384, .inl (fun _ => 0))), (a2, .inl (k2, 384, .inl (fun _ => 0))), (a3, .inl (k3, 384, .inl (fun _ => 0))), (a4, .inl (k4, 24, .inl (fun _ => 0))), (a5, .inl (k5, 24, .inl (fun _ => 0)))] := hD
  have hK : va_K D vwCl [(k1, .int), (k2, .int), (k3, .int), (k4, .boolean), (k5, .boolean)] s := hK
  refine va_putF (ci := 0) (v := .ref a5) (ty := .array .boolean) (C := RX0) (T := TX0) (N := 10) hx hb hts (by decide +kernel) tyX0 tyX0_ok nmX0 hown hK hP hD hS 0 rfl rfl 4 (by decide) (hts (.fieldLink RX0 23 "CommitLog" "logged" "[Z") (by decide +kernel)) (fun _ h9 => h9) rfl hin rfl (by decide +kernel) rfl rfl (Nat.le_of_ble_eq_true rfl) dX0_init_44 (fun H locs hP hD hS => ?_)
  have hP : va_P D vwCl [(h0, .inr (0, [.ref a1, .ref a2, .ref a3, .ref a4, .ref a5, .int 0, .int 0, .int 0, .int 0, .int 0])), (a1, .inl (k1, 384, .inl (fun _ => 0))), (a2, .inl (k2, 384, .inl (fun _ => 0))), (a3, .inl (k3, 384, .inl (fun _ => 0))), (a4, .inl (k4, 24, .inl (fun _ => 0))), (a5, .inl (k5, 24, .inl (fun _ => 0)))] H := hP
  have hD : va_D _ [(h0, .inr (0, [.ref a1, .ref a2, .ref a3, .ref a4, .ref a5, .int 0, .int 0, .int 0, .int 0, .int 0])), (a1, .inl (k1, 384, .inl (fun _ => 0))), (a2, .inl (k2, 384, .inl (fun _ => 0))), (a3, .inl (k3, 384, .inl (fun _ => 0))), (a4, .inl (k4, 24, .inl (fun _ => 0))), (a5, .inl (k5, 24, .inl (fun _ => 0)))] := hD
  refine lv_aload_n hx hb dX0_init_47 rfl (lv_at hl 0 rfl) ?_
  refine lv_iconst (v := 1) hx hb dX0_init_48 (by decide) ?_
  refine va_put (ci := 0) (v := .int 1) (ty := .boolean) (C := RX0) (T := TX0) (N := 10) hx hb hts (by decide +kernel) tyX0 tyX0_ok nmX0 hown hK hP hD hS 0 rfl rfl 5 (by decide) (hts (.fieldLink RX0 26 "CommitLog" "powered" "Z") (by decide +kernel)) (fun _ h9 => h9) rfl (by decide +kernel) rfl rfl (Nat.le_of_ble_eq_true rfl) dX0_init_49 (fun H locs hP hD hS => ?_)
  have hP : va_P D vwCl [(h0, .inr (0, [.ref a1, .ref a2, .ref a3, .ref a4, .ref a5, .int 1, .int 0, .int 0, .int 0, .int 0])), (a1, .inl (k1, 384, .inl (fun _ => 0))), (a2, .inl (k2, 384, .inl (fun _ => 0))), (a3, .inl (k3, 384, .inl (fun _ => 0))), (a4, .inl (k4, 24, .inl (fun _ => 0))), (a5, .inl (k5, 24, .inl (fun _ => 0)))] H := hP
  have hD : va_D _ [(h0, .inr (0, [.ref a1, .ref a2, .ref a3, .ref a4, .ref a5, .int 1, .int 0, .int 0, .int 0, .int 0])), (a1, .inl (k1, 384, .inl (fun _ => 0))), (a2, .inl (k2, 384, .inl (fun _ => 0))), (a3, .inl (k3, 384, .inl (fun _ => 0))), (a4, .inl (k4, 24, .inl (fun _ => 0))), (a5, .inl (k5, 24, .inl (fun _ => 0)))] := hD
  refine lv_aload_n hx hb dX0_init_52 rfl (lv_at hl 0 rfl) ?_
  refine lv_iconst (v := 0) hx hb dX0_init_53 (by decide) ?_
  refine va_put (ci := 0) (v := .int 0) (ty := .boolean) (C := RX0) (T := TX0) (N := 10) hx hb hts (by decide +kernel) tyX0 tyX0_ok nmX0 hown hK hP hD hS 0 rfl rfl 6 (by decide) (hts (.fieldLink RX0 30 "CommitLog" "marked" "Z") (by decide +kernel)) (fun _ h9 => h9) rfl (by decide +kernel) rfl rfl (Nat.le_of_ble_eq_true rfl) dX0_init_54 (fun H locs hP hD hS => ?_)
  have hP : va_P D vwCl [(h0, .inr (0, [.ref a1, .ref a2, .ref a3, .ref a4, .ref a5, .int 1, .int 0, .int 0, .int 0, .int 0])), (a1, .inl (k1, 384, .inl (fun _ => 0))), (a2, .inl (k2, 384, .inl (fun _ => 0))), (a3, .inl (k3, 384, .inl (fun _ => 0))), (a4, .inl (k4, 24, .inl (fun _ => 0))), (a5, .inl (k5, 24, .inl (fun _ => 0)))] H := hP
  have hD : va_D _ [(h0, .inr (0, [.ref a1, .ref a2, .ref a3, .ref a4, .ref a5, .int 1, .int 0, .int 0, .int 0, .int 0])), (a1, .inl (k1, 384, .inl (fun _ => 0))), (a2, .inl (k2, 384, .inl (fun _ => 0))), (a3, .inl (k3, 384, .inl (fun _ => 0))), (a4, .inl (k4, 24, .inl (fun _ => 0))), (a5, .inl (k5, 24, .inl (fun _ => 0)))] := hD
  refine lv_aload_n hx hb dX0_init_57 rfl (lv_at hl 0 rfl) ?_
  refine lv_iconst (v := 0) hx hb dX0_init_58 (by decide) ?_
  refine va_put (ci := 0) (v := .int 0) (ty := .int) (C := RX0) (T := TX0) (N := 10) hx hb hts (by decide +kernel) tyX0 tyX0_ok nmX0 hown hK hP hD hS 0 rfl rfl 7 (by decide) (hts (.fieldLink RX0 33 "CommitLog" "latestCount" "I") (by decide +kernel)) (fun _ h9 => h9) rfl (by decide +kernel) rfl rfl (Nat.le_of_ble_eq_true rfl) dX0_init_59 (fun H locs hP hD hS => ?_)
  have hP : va_P D vwCl [(h0, .inr (0, [.ref a1, .ref a2, .ref a3, .ref a4, .ref a5, .int 1, .int 0, .int 0, .int 0, .int 0])), (a1, .inl (k1, 384, .inl (fun _ => 0))), (a2, .inl (k2, 384, .inl (fun _ => 0))), (a3, .inl (k3, 384, .inl (fun _ => 0))), (a4, .inl (k4, 24, .inl (fun _ => 0))), (a5, .inl (k5, 24, .inl (fun _ => 0)))] H := hP
  have hD : va_D _ [(h0, .inr (0, [.ref a1, .ref a2, .ref a3, .ref a4, .ref a5, .int 1, .int 0, .int 0, .int 0, .int 0])), (a1, .inl (k1, 384, .inl (fun _ => 0))), (a2, .inl (k2, 384, .inl (fun _ => 0))), (a3, .inl (k3, 384, .inl (fun _ => 0))), (a4, .inl (k4, 24, .inl (fun _ => 0))), (a5, .inl (k5, 24, .inl (fun _ => 0)))] := hD
  refine lv_aload_n hx hb dX0_init_62 rfl (lv_at hl 0 rfl) ?_
  refine lv_iconst (v := 0) hx hb dX0_init_63 (by decide) ?_
  refine va_put (ci := 0) (v := .int 0) (ty := .int) (C := RX0) (T := TX0) (N := 10) hx hb hts (by decide +kernel) tyX0 tyX0_ok nmX0 hown hK hP hD hS 0 rfl rfl 8 (by decide) (hts (.fieldLink RX0 37 "CommitLog" "commitsUntilCut" "I") (by decide +kernel)) (fun _ h9 => h9) rfl (by decide +kernel) rfl rfl (Nat.le_of_ble_eq_true rfl) dX0_init_64 (fun H locs hP hD hS => ?_)
  have hP : va_P D vwCl [(h0, .inr (0, [.ref a1, .ref a2, .ref a3, .ref a4, .ref a5, .int 1, .int 0, .int 0, .int 0, .int 0])), (a1, .inl (k1, 384, .inl (fun _ => 0))), (a2, .inl (k2, 384, .inl (fun _ => 0))), (a3, .inl (k3, 384, .inl (fun _ => 0))), (a4, .inl (k4, 24, .inl (fun _ => 0))), (a5, .inl (k5, 24, .inl (fun _ => 0)))] H := hP
  have hD : va_D _ [(h0, .inr (0, [.ref a1, .ref a2, .ref a3, .ref a4, .ref a5, .int 1, .int 0, .int 0, .int 0, .int 0])), (a1, .inl (k1, 384, .inl (fun _ => 0))), (a2, .inl (k2, 384, .inl (fun _ => 0))), (a3, .inl (k3, 384, .inl (fun _ => 0))), (a4, .inl (k4, 24, .inl (fun _ => 0))), (a5, .inl (k5, 24, .inl (fun _ => 0)))] := hD
  refine lv_aload_n hx hb dX0_init_67 rfl (lv_at hl 0 rfl) ?_
  refine lv_iconst (v := 0) hx hb dX0_init_68 (by decide) ?_
  refine va_put (ci := 0) (v := .int 0) (ty := .int) (C := RX0) (T := TX0) (N := 10) hx hb hts (by decide +kernel) tyX0 tyX0_ok nmX0 hown hK hP hD hS 0 rfl rfl 9 (by decide) (hts (.fieldLink RX0 40 "CommitLog" "cutShare" "I") (by decide +kernel)) (fun _ h9 => h9) rfl (by decide +kernel) rfl rfl (Nat.le_of_ble_eq_true rfl) dX0_init_69 (fun H locs hP hD hS => ?_)
  have hP : va_P D vwCl [(h0, .inr (0, [.ref a1, .ref a2, .ref a3, .ref a4, .ref a5, .int 1, .int 0, .int 0, .int 0, .int 0])), (a1, .inl (k1, 384, .inl (fun _ => 0))), (a2, .inl (k2, 384, .inl (fun _ => 0))), (a3, .inl (k3, 384, .inl (fun _ => 0))), (a4, .inl (k4, 24, .inl (fun _ => 0))), (a5, .inl (k5, 24, .inl (fun _ => 0)))] H := hP
  have hD : va_D _ [(h0, .inr (0, [.ref a1, .ref a2, .ref a3, .ref a4, .ref a5, .int 1, .int 0, .int 0, .int 0, .int 0])), (a1, .inl (k1, 384, .inl (fun _ => 0))), (a2, .inl (k2, 384, .inl (fun _ => 0))), (a3, .inl (k3, 384, .inl (fun _ => 0))), (a4, .inl (k4, 24, .inl (fun _ => 0))), (a5, .inl (k5, 24, .inl (fun _ => 0)))] := hD
  refine W.widen (k := 5) (n := 1200) (by decide) (by decide) ?_
  exact W.vret hx hb hr (fun t ht hW => ⟨⟨(a1, a2, a3, a4, a5, k1, k2, k3, k4, k5), rfl, trivial, by rw [ht]; exact hP, va_K.moved hW.alike hK, hD⟩, hS.F ht⟩) hS.2.2 dX0_init_72 hlk
abbrev MW_init0 (h0 : Nat) : va_W := [(h0, .inr (1, [.null, .null, .null, .null, .null, .int 0, .int 0, .int 0, .int 0, .int 0]))]
abbrev MW_at (D : va_G) (A : Nat → Prop) (h0 : Nat) (u : U10) (t : State) : Prop := match u with
  | (a1, a2, a3, a4, a5, k1, k2, k3, k4, k5) => va_P D vwCl (MW h0 a1 a2 a3 a4 a5 k1 k2 k3 k4 k5 (fun _ => 0) (fun _ => 0) (fun _ => 0) (fun _ => false) (fun _ => false) false false 0 (some 0) 0) t.heap ∧ va_K D vwCl (MT k1 k2 k3 k4 k5) t ∧ va_D A (MW h0 a1 a2 a3 a4 a5 k1 k2 k3 k4 k5 (fun _ => 0) (fun _ => 0) (fun _ => 0) (fun _ => false) (fun _ => false) false false 0 (some 0) 0)
set_option maxHeartbeats 4000000 in
set_option maxRecDepth 100000 in
theorem c1_init (l : Launch) (D : va_G) (h0 sz : Nat) : Met l yX1_init wsX1_init ({ frames := 1, cells := 5, slots := 1200, locals := 12 }) (sp_P D vwCl [] [.ref h0] (MW_init0 h0) sz) (va_Qv (fun (_ : U10) => True) (MW_at D (va_A (MW_init0 h0) sz) h0) (va_A (MW_init0 h0) sz)) 5 1200 (va_A (MW_init0 h0) sz) := by
  refine Met.ofW (cc := cX1_init) (maxL := 1) (ret := none) (by decide) rfl ?_
  intro p e s m args below meth c s₁ B hml hv
  obtain ⟨rfl, hsz, hP, hK, hD0⟩ := hv
  have hx := B.exec
  have hb := B.bytes
  have hr := B.returns
  have hts := atoms_spec (ws := wsX1_init) B.pre
  have hown : s.vm.findClass RX1 = some m.cls := findClass_of_methodNamed B.named
  have hlk := B.notSynchronized
  have hin : meth.name = "<init>" := (name_of_methodNamed B.named B.method).1
  subst hsz
  have hD := hD0.self (sz := s.heap.size)
  have hA : ∀ q : Nat, s.heap.size ≤ q → va_A [(h0, .inr (1, [.null, .null, .null, .null, .null, .int 0, .int 0, .int 0, .int 0, .int 0]))] s.heap.size q := fun q h => Or.inr h
  have hS : va_S (va_A [(h0, .inr (1, [.null, .null, .null, .null, .null, .int 0, .int 0, .int 0, .int 0, .int 0]))] s.heap.size) s.heap s.heap [] := va_S.rf
  have hP : va_P D vwCl [(h0, .inr (1, [.null, .null, .null, .null, .null, .int 0, .int 0, .int 0, .int 0, .int 0]))] s.heap := hP
  have hl := lv_entry ([.ref h0]) (n := 1) (Nat.le_of_ble_eq_true rfl)
  rw [lg_entry_eq]
  generalize (lg_sl ([.ref h0]) ++ List.replicate (1 - (lg_sl ([.ref h0])).length) Slot.unset).toArray = ls at hl ⊢
  have hl : lv_has ls 1 [(0, .ref h0)] := hl
  refine lv_aload_n hx hb dX1_init_0 rfl (lv_at hl 0 rfl) ?_
  refine W.objInit hx hb hown (hts (.methodLink RX1 1 objectInit) (by decide +kernel)) (hts (.instanceMethod objectInit) (by decide +kernel)) (hts _ (List.mem_cons_of_mem _ (List.mem_append_left _ (List.mem_of_getElem? (i := 2) rfl)))) rfl (by rw [hml]; exact hl.1) rfl dX1_init_1 (Nat.le_of_ble_eq_true rfl) (Nat.le_of_ble_eq_true rfl) ?_
  refine W.eq (g2 := F0 m 4 ls []) rfl ?_
  refine lv_aload_n hx hb dX1_init_4 rfl (lv_at hl 0 rfl) ?_
  refine lv_sipush (v := 384) hx hb dX1_init_5 (by decide) ?_
  refine va_newa (atype := .byte) (ty := .byte) (N' := 384) (a0 := (384, .inl (fun _ => 0))) hx hb (hts (.arrayClass .byte) (by decide +kernel)) rfl hK hP hD hS hA (fun cA => na_384b cA) (by decide) na_n384 na_b384b (Nat.le_of_ble_eq_true rfl) (Nat.le_of_ble_eq_true rfl) dX1_init_8 (fun a1 k1 H hK hP hD hS => ?_)
  have hP : va_P D vwCl [(h0, .inr (1, [.null, .null, .null, .null, .null, .int 0, .int 0, .int 0, .int 0, .int 0])), (a1, .inl (k1, 384, .inl (fun _ => 0)))] H := hP
  have hD : va_D _ [(h0, .inr (1, [.null, .null, .null, .null, .null, .int 0, .int 0, .int 0, .int 0, .int 0])), (a1, .inl (k1, 384, .inl (fun _ => 0)))] := hD
  have hK : va_K D vwCl [(k1, .byte)] s := hK
  refine va_putF (ci := 1) (v := .ref a1) (ty := .array .byte) (C := RX1) (T := TX1) (N := 10) hx hb hts (by decide +kernel) tyX1 tyX1_ok nmX1 hown hK hP hD hS 0 rfl rfl 0 (by decide) (hts (.fieldLink RX1 7 "CommitLogModel" "work" "[B") (by decide +kernel)) (fun _ h9 => h9) rfl hin rfl (by decide +kernel) rfl rfl (Nat.le_of_ble_eq_true rfl) dX1_init_10 (fun H locs hP hD hS => ?_)
  have hP : va_P D vwCl [(h0, .inr (1, [.ref a1, .null, .null, .null, .null, .int 0, .int 0, .int 0, .int 0, .int 0])), (a1, .inl (k1, 384, .inl (fun _ => 0)))] H := hP
  have hD : va_D _ [(h0, .inr (1, [.ref a1, .null, .null, .null, .null, .int 0, .int 0, .int 0, .int 0, .int 0])), (a1, .inl (k1, 384, .inl (fun _ => 0)))] := hD
  refine lv_aload_n hx hb dX1_init_13 rfl (lv_at hl 0 rfl) ?_
  refine lv_sipush (v := 384) hx hb dX1_init_14 (by decide) ?_
  refine va_newa (atype := .byte) (ty := .byte) (N' := 384) (a0 := (384, .inl (fun _ => 0))) hx hb (hts (.arrayClass .byte) (by decide +kernel)) rfl hK hP hD hS hA (fun cA => na_384b cA) (by decide) na_n384 na_b384b (Nat.le_of_ble_eq_true rfl) (Nat.le_of_ble_eq_true rfl) dX1_init_17 (fun a2 k2 H hK hP hD hS => ?_)
  have hP : va_P D vwCl [(h0, .inr (1, [.ref a1, .null, .null, .null, .null, .int 0, .int 0, .int 0, .int 0, .int 0])), (a1, .inl (k1, 384, .inl (fun _ => 0))), (a2, .inl (k2, 384, .inl (fun _ => 0)))] H := hP
  have hD : va_D _ [(h0, .inr (1, [.ref a1, .null, .null, .null, .null, .int 0, .int 0, .int 0, .int 0, .int 0])), (a1, .inl (k1, 384, .inl (fun _ => 0))), (a2, .inl (k2, 384, .inl (fun _ => 0)))] := hD
  have hK : va_K D vwCl [(k1, .byte), (k2, .byte)] s := hK
  refine va_putF (ci := 1) (v := .ref a2) (ty := .array .byte) (C := RX1) (T := TX1) (N := 10) hx hb hts (by decide +kernel) tyX1 tyX1_ok nmX1 hown hK hP hD hS 0 rfl rfl 1 (by decide) (hts (.fieldLink RX1 13 "CommitLogModel" "disk" "[B") (by decide +kernel)) (fun _ h9 => h9) rfl hin rfl (by decide +kernel) rfl rfl (Nat.le_of_ble_eq_true rfl) dX1_init_19 (fun H locs hP hD hS => ?_)
  have hP : va_P D vwCl [(h0, .inr (1, [.ref a1, .ref a2, .null, .null, .null, .int 0, .int 0, .int 0, .int 0, .int 0])), (a1, .inl (k1, 384, .inl (fun _ => 0))), (a2, .inl (k2, 384, .inl (fun _ => 0)))] H := hP
  have hD : va_D _ [(h0, .inr (1, [.ref a1, .ref a2, .null, .null, .null, .int 0, .int 0, .int 0, .int 0, .int 0])), (a1, .inl (k1, 384, .inl (fun _ => 0))), (a2, .inl (k2, 384, .inl (fun _ => 0)))] := hD
  refine lv_aload_n hx hb dX1_init_22 rfl (lv_at hl 0 rfl) ?_
  refine lv_sipush (v := 384) hx hb dX1_init_23 (by decide) ?_
  refine va_newa (atype := .byte) (ty := .byte) (N' := 384) (a0 := (384, .inl (fun _ => 0))) hx hb (hts (.arrayClass .byte) (by decide +kernel)) rfl hK hP hD hS hA (fun cA => na_384b cA) (by decide) na_n384 na_b384b (Nat.le_of_ble_eq_true rfl) (Nat.le_of_ble_eq_true rfl) dX1_init_26 (fun a3 k3 H hK hP hD hS => ?_)
  have hP : va_P D vwCl [(h0, .inr (1, [.ref a1, .ref a2, .null, .null, .null, .int 0, .int 0, .int 0, .int 0, .int 0])), (a1, .inl (k1, 384, .inl (fun _ => 0))), (a2, .inl (k2, 384, .inl (fun _ => 0))), (a3, .inl (k3, 384, .inl (fun _ => 0)))] H := hP
  have hD : va_D _ [(h0, .inr (1, [.ref a1, .ref a2, .null, .null, .null, .int 0, .int 0, .int 0, .int 0, .int 0])), (a1, .inl (k1, 384, .inl (fun _ => 0))), (a2, .inl (k2, 384, .inl (fun _ => 0))), (a3, .inl (k3, 384, .inl (fun _ => 0)))] := hD
  have hK : va_K D vwCl [(k1, .byte), (k2, .byte), (k3, .byte)] s := hK
  refine va_putF (ci := 1) (v := .ref a3) (ty := .array .byte) (C := RX1) (T := TX1) (N := 10) hx hb hts (by decide +kernel) tyX1 tyX1_ok nmX1 hown hK hP hD hS 0 rfl rfl 2 (by decide) (hts (.fieldLink RX1 16 "CommitLogModel" "log" "[B") (by decide +kernel)) (fun _ h9 => h9) rfl hin rfl (by decide +kernel) rfl rfl (Nat.le_of_ble_eq_true rfl) dX1_init_28 (fun H locs hP hD hS => ?_)
  have hP : va_P D vwCl [(h0, .inr (1, [.ref a1, .ref a2, .ref a3, .null, .null, .int 0, .int 0, .int 0, .int 0, .int 0])), (a1, .inl (k1, 384, .inl (fun _ => 0))), (a2, .inl (k2, 384, .inl (fun _ => 0))), (a3, .inl (k3, 384, .inl (fun _ => 0)))] H := hP
  have hD : va_D _ [(h0, .inr (1, [.ref a1, .ref a2, .ref a3, .null, .null, .int 0, .int 0, .int 0, .int 0, .int 0])), (a1, .inl (k1, 384, .inl (fun _ => 0))), (a2, .inl (k2, 384, .inl (fun _ => 0))), (a3, .inl (k3, 384, .inl (fun _ => 0)))] := hD
  refine lv_aload_n hx hb dX1_init_31 rfl (lv_at hl 0 rfl) ?_
  refine lv_bipush (v := 24) hx hb dX1_init_32 (by decide) ?_
  refine va_newa (atype := .boolean) (ty := .boolean) (N' := 24) (a0 := (24, .inl (fun _ => 0))) hx hb (hts (.arrayClass .boolean) (by decide +kernel)) rfl hK hP hD hS hA (fun cA => na_24z cA) (by decide) na_n24 na_b24z (Nat.le_of_ble_eq_true rfl) (Nat.le_of_ble_eq_true rfl) dX1_init_34 (fun a4 k4 H hK hP hD hS => ?_)
  have hP : va_P D vwCl [(h0, .inr (1, [.ref a1, .ref a2, .ref a3, .null, .null, .int 0, .int 0, .int 0, .int 0, .int 0])), (a1, .inl (k1, 384, .inl (fun _ => 0))), (a2, .inl (k2, 384, .inl (fun _ => 0))), (a3, .inl (k3, 384, .inl (fun _ => 0))), (a4, .inl (k4, 24, .inl (fun _ => 0)))] H := hP
  have hD : va_D _ [(h0, .inr (1, [.ref a1, .ref a2, .ref a3, .null, .null, .int 0, .int 0, .int 0, .int 0, .int 0])), (a1, .inl (k1, 384, .inl (fun _ => 0))), (a2, .inl (k2, 384, .inl (fun _ => 0))), (a3, .inl (k3, 384, .inl (fun _ => 0))), (a4, .inl (k4, 24, .inl (fun _ => 0)))] := hD
  have hK : va_K D vwCl [(k1, .byte), (k2, .byte), (k3, .byte), (k4, .boolean)] s := hK
  refine va_putF (ci := 1) (v := .ref a4) (ty := .array .boolean) (C := RX1) (T := TX1) (N := 10) hx hb hts (by decide +kernel) tyX1 tyX1_ok nmX1 hown hK hP hD hS 0 rfl rfl 3 (by decide) (hts (.fieldLink RX1 19 "CommitLogModel" "dirty" "[Z") (by decide +kernel)) (fun _ h9 => h9) rfl hin rfl (by decide +kernel) rfl rfl (Nat.le_of_ble_eq_true rfl) dX1_init_36 (fun H locs hP hD hS => ?_)
  have hP : va_P D vwCl [(h0, .inr (1, [.ref a1, .ref a2, .ref a3, .ref a4, .null, .int 0, .int 0, .int 0, .int 0, .int 0])), (a1, .inl (k1, 384, .inl (fun _ => 0))), (a2, .inl (k2, 384, .inl (fun _ => 0))), (a3, .inl (k3, 384, .inl (fun _ => 0))), (a4, .inl (k4, 24, .inl (fun _ => 0)))] H := hP
  have hD : va_D _ [(h0, .inr (1, [.ref a1, .ref a2, .ref a3, .ref a4, .null, .int 0, .int 0, .int 0, .int 0, .int 0])), (a1, .inl (k1, 384, .inl (fun _ => 0))), (a2, .inl (k2, 384, .inl (fun _ => 0))), (a3, .inl (k3, 384, .inl (fun _ => 0))), (a4, .inl (k4, 24, .inl (fun _ => 0)))] := hD
  refine lv_aload_n hx hb dX1_init_39 rfl (lv_at hl 0 rfl) ?_
  refine lv_bipush (v := 24) hx hb dX1_init_40 (by decide) ?_
  refine va_newa (atype := .boolean) (ty := .boolean) (N' := 24) (a0 := (24, .inl (fun _ => 0))) hx hb (hts (.arrayClass .boolean) (by decide +kernel)) rfl hK hP hD hS hA (fun cA => na_24z cA) (by decide) na_n24 na_b24z (Nat.le_of_ble_eq_true rfl) (Nat.le_of_ble_eq_true rfl) dX1_init_42 (fun a5 k5 H hK hP hD hS => ?_)
  have hP : va_P D vwCl [(h0, .inr (1, [.ref a1, .ref a2, .ref a3, .ref a4, .null, .int 0, .int 0, .int 0, .int 0, .int 0])), (a1, .inl (k1, 384, .inl (fun _ => 0))), (a2, .inl (k2, 384, .inl (fun _ => 0))), (a3, .inl (k3, 384, .inl (fun _ => 0))), (a4, .inl (k4, 24, .inl (fun _ => 0))), (a5, .inl (k5, 24, .inl (fun _ => 0)))] H := hP
  have hD : va_D _ [(h0, .inr (1, [.ref a1, .ref a2, .ref a3, .ref a4, .null, .int 0, .int 0, .int 0, .int 0, .int 0])), (a1, .inl (k1, 384, .inl (fun _ => 0))), (a2, .inl (k2, 384, .inl (fun _ => 0))), (a3, .inl (k3, 384, .inl (fun _ => 0))), (a4, .inl (k4, 24, .inl (fun _ => 0))), (a5, .inl (k5, 24, .inl (fun _ => 0)))] := hD
  have hK : va_K D vwCl [(k1, .byte), (k2, .byte), (k3, .byte), (k4, .boolean), (k5, .boolean)] s := hK
  refine va_putF (ci := 1) (v := .ref a5) (ty := .array .boolean) (C := RX1) (T := TX1) (N := 10) hx hb hts (by decide +kernel) tyX1 tyX1_ok nmX1 hown hK hP hD hS 0 rfl rfl 4 (by decide) (hts (.fieldLink RX1 23 "CommitLogModel" "logged" "[Z") (by decide +kernel)) (fun _ h9 => h9) rfl hin rfl (by decide +kernel) rfl rfl (Nat.le_of_ble_eq_true rfl) dX1_init_44 (fun H locs hP hD hS => ?_)
  have hP : va_P D vwCl [(h0, .inr (1, [.ref a1, .ref a2, .ref a3, .ref a4, .ref a5, .int 0, .int 0, .int 0, .int 0, .int 0])), (a1, .inl (k1, 384, .inl (fun _ => 0))), (a2, .inl (k2, 384, .inl (fun _ => 0))), (a3, .inl (k3, 384, .inl (fun _ => 0))), (a4, .inl (k4, 24, .inl (fun _ => 0))), (a5, .inl (k5, 24, .inl (fun _ => 0)))] H := hP
  have hD : va_D _ [(h0, .inr (1, [.ref a1, .ref a2, .ref a3, .ref a4, .ref a5, .int 0, .int 0, .int 0, .int 0, .int 0])), (a1, .inl (k1, 384, .inl (fun _ => 0))), (a2, .inl (k2, 384, .inl (fun _ => 0))), (a3, .inl (k3, 384, .inl (fun _ => 0))), (a4, .inl (k4, 24, .inl (fun _ => 0))), (a5, .inl (k5, 24, .inl (fun _ => 0)))] := hD
  refine W.widen (k := 5) (n := 1200) (by decide) (by decide) ?_
  exact W.vret hx hb hr (fun t ht hW => ⟨⟨(a1, a2, a3, a4, a5, k1, k2, k3, k4, k5), rfl, trivial, by rw [ht]; exact hP, va_K.moved hW.alike hK, hD⟩, hS.F ht⟩) hS.2.2 dX1_init_47 hlk
