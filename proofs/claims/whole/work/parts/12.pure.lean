/-! The class and the reference as functions: what ties them, and that each call keeps it. -/
theorem bp_b (x : Int32) : x.toInt8.toInt32 &&& 255 = x &&& 255 := by
  apply Int32.toBitVec_inj.mp
  rw [Int32.toBitVec_and, Int32.toBitVec_and, Int8.toBitVec_toInt32, Int32.toBitVec_toInt8]
  apply BitVec.eq_of_getLsbD_eq
  intro i hi
  rw [BitVec.getLsbD_and, BitVec.getLsbD_and]
  have hm : ∀ i < 32, 8 ≤ i → (255 : Int32).toBitVec.getLsbD i = false := by decide
  rcases Nat.lt_or_ge i 8 with z | z
  · rw [BitVec.getLsbD_signExtend, BitVec.getLsbD_signExtend, if_pos z, if_pos hi]
    simp only [z, hi, decide_true, Bool.true_and]
  · rw [hm i hi z]; simp
theorem nr_b (x : Int32) : vp_nar .byte x &&& 255 = x &&& 255 := by rw [vp_nar_byte]; exact bp_b x
theorem cpK_in {f g : Nat → Int32} {i j : Nat} (h : i * 16 ≤ j) (h2 : j < i * 16 + 16) : cpK f g i 16 j = vp_nar .byte (f j) := by
  simp only [cpK]; rw [if_pos ⟨h, h2⟩]
theorem cpK_out {f g : Nat → Int32} {i j : Nat} (h : ¬ (i * 16 ≤ j ∧ j < i * 16 + 16)) : cpK f g i 16 j = g j := by
  simp only [cpK]; rw [if_neg h]
theorem cnt_lt {dz : Nat → Bool} {a b : Nat} (h : dz a = true) (hab : a < b) : cnt dz a < cnt dz b := by
  have h1 := cnt_mono dz (a := a + 1) (b - (a + 1))
  rw [show a + 1 + (b - (a + 1)) = b by omega, cnt_t h] at h1
  omega
theorem cnt_congr {dz dy : Nat → Bool} : ∀ k, (∀ b, b < k → dz b = dy b) → cnt dz k = cnt dy k
  | 0, _ => rfl
  | k + 1, h => by
    have h1 := cnt_congr k (fun b hb => h b (by omega))
    simp only [cnt]
    rw [h1, h k (by omega)]
theorem lx_at {f g : Nat → Int32} {z : Nat → Bool} {mo : Nat} : ∀ k b i, i < 16 → lx f z mo g k (b * 16 + i) = if b < k ∧ z b = true ∧ cnt z b < mo then f (b * 16 + i) else g (b * 16 + i)
  | 0, b, i, hi => by rw [if_neg (by omega)]; rfl
  | k + 1, b, i, hi => by
    have ih := lx_at (f := f) (g := g) (z := z) (mo := mo) k b i hi
    by_cases hbk : b = k
    · subst hbk
      rw [if_neg (fun q => absurd q.1 (Nat.lt_irrefl b))] at ih
      by_cases hc : z b = true ∧ cnt z b < mo
      · rw [lx_y hc, pk_cpy_in (by omega) (by omega), if_pos ⟨by omega, hc⟩]
        congr 1
        omega
      · rw [lx_n hc, if_neg (fun q => hc q.2), ih]
    · have e : lx f z mo g (k + 1) (b * 16 + i) = lx f z mo g k (b * 16 + i) := by
        by_cases hc : z k = true ∧ cnt z k < mo
        · rw [lx_y hc]
          exact pk_cpy_out (by omega)
        · rw [lx_n hc]
      rw [e, ih]
      by_cases hc : b < k ∧ z b = true ∧ cnt z b < mo
      · rw [if_pos hc, if_pos ⟨by omega, hc.2⟩]
      · rw [if_neg hc, if_neg (fun q => hc ⟨by omega, q.2⟩)]
theorem lyK_at {gl gd : Nat → Int32} {lg : Nat → Bool} {mo : Nat} : ∀ k b i, i < 16 → lyK gl lg mo gd k (b * 16 + i) = if b < k ∧ lg b = true ∧ cnt lg b < mo then vp_nar .byte (gl (b * 16 + i)) else gd (b * 16 + i)
  | 0, b, i, hi => by rw [if_neg (by omega)]; rfl
  | k + 1, b, i, hi => by
    have ih := lyK_at (gl := gl) (gd := gd) (lg := lg) (mo := mo) k b i hi
    simp only [lyK]
    by_cases hbk : b = k
    · subst hbk
      rw [if_neg (fun q => absurd q.1 (Nat.lt_irrefl b))] at ih
      by_cases hc : lg b = true ∧ cnt lg b < mo
      · rw [if_pos hc, cpK_in (by omega) (by omega), if_pos ⟨by omega, hc⟩]
      · rw [if_neg hc, if_neg (fun q => hc q.2), ih]
    · have e : (if lg k = true ∧ cnt lg k < mo then cpK gl (lyK gl lg mo gd k) k 16 else lyK gl lg mo gd k) (b * 16 + i) = lyK gl lg mo gd k (b * 16 + i) := by
        split
        · exact cpK_out (by omega)
        · rfl
      rw [e, ih]
      by_cases hc : b < k ∧ lg b = true ∧ cnt lg b < mo
      · rw [if_pos hc, if_pos ⟨by omega, hc.2⟩]
      · rw [if_neg hc, if_neg (fun q => hc ⟨by omega, q.2⟩)]
theorem ntK_at {gw gl : Nat → Int32} {dz : Nat → Bool} : ∀ k b i, i < 16 → ntK gw dz gl k (b * 16 + i) = if b < k ∧ dz b = true then vp_nar .byte (gw (b * 16 + i)) else gl (b * 16 + i)
  | 0, b, i, hi => by rw [if_neg (by omega)]; rfl
  | k + 1, b, i, hi => by
    have ih := ntK_at (gw := gw) (gl := gl) (dz := dz) k b i hi
    simp only [ntK]
    by_cases hbk : b = k
    · subst hbk
      rw [if_neg (fun q => absurd q.1 (Nat.lt_irrefl b))] at ih
      cases hz : dz b with
      | true => rw [cond_true, cpK_in (by omega) (by omega), if_pos ⟨by omega, rfl⟩]
      | false => rw [cond_false, if_neg (fun q => absurd q.2 (by decide)), ih]
    · have e : (bif dz k then cpK gw (ntK gw dz gl k) k 16 else ntK gw dz gl k) (b * 16 + i) = ntK gw dz gl k (b * 16 + i) := by
        cases dz k with
        | true => rw [cond_true]; exact cpK_out (by omega)
        | false => rfl
      rw [e, ih]
      by_cases hc : b < k ∧ dz b = true
      · rw [if_pos hc, if_pos ⟨by omega, hc.2⟩]
      · rw [if_neg hc, if_neg (fun q => hc ⟨by omega, q.2⟩)]
theorem frK_at {gd gw : Nat → Int32} : ∀ k b i, i < 16 → frK gd gw k (b * 16 + i) = if b < k then vp_nar .byte (gd (b * 16 + i)) else gw (b * 16 + i)
  | 0, b, i, hi => by rw [if_neg (by omega)]; rfl
  | k + 1, b, i, hi => by
    have ih := frK_at (gd := gd) (gw := gw) k b i hi
    simp only [frK]
    by_cases hbk : b = k
    · subst hbk
      rw [cpK_in (by omega) (by omega), if_pos (by omega)]
    · rw [cpK_out (by omega), ih]
      by_cases hc : b < k
      · rw [if_pos hc, if_pos (by omega)]
      · rw [if_neg hc, if_neg (by omega)]
def EQ (f g : Nat → Int32) : Prop := ∀ b i, b < 24 → i < 16 → f (b * 16 + i) = g (b * 16 + i) &&& 255
def LR (fb : Nat → Int32) (lq : Nat → Bool) (gl : Nat → Int32) (lg : Nat → Bool) : Prop := ∀ b, b < 24 → lq b = lg b ∧ (lg b = true → ∀ i, i < 16 → fb (b * 16 + i) = gl (b * 16 + i) &&& 255)
theorem disk_rel {fb fd gl gd : Nat → Int32} {lq lg : Nat → Bool} (m : Nat) (hL : LR fb lq gl lg) (hE : EQ fd gd) : EQ (lx fb lq m fd 24) (lyK gl lg m gd 24) := by
  intro b i hb hi
  have hc : cnt lq b = cnt lg b := cnt_congr b (fun a ha => (hL a (by omega)).1)
  obtain ⟨h1, h2⟩ := hL b hb
  rw [lx_at 24 b i hi, lyK_at 24 b i hi, hc, h1]
  by_cases h : b < 24 ∧ lg b = true ∧ cnt lg b < m
  · rw [if_pos h, if_pos h, nr_b]
    exact h2 h.2.1 i hi
  · rw [if_neg h, if_neg h]
    exact hE b i hb hi
theorem lgK_at {dy lg : Nat → Bool} {b : Nat} (h : b < 24) : lgK dy lg 24 b = dy b := by simp [lgK, h]
theorem log_rel {fw fb gw gl : Nat → Int32} {lq dz dy lg : Nat → Bool} (hE : EQ fw gw) (hz : ∀ b, b < 24 → dz b = dy b) : LR (lx fw dz (cnt dz 24) fb 24) (lqK dz (cnt dz 24) lq 24) (ntK gw dy gl 24) (lgK dy lg 24) := by
  intro b hb
  rw [lgK_at hb, ← hz b hb]
  refine ⟨?_, fun h i hi => ?_⟩
  · simp only [lqK]
    rw [if_pos hb]
    cases h : dz b with
    | false => rfl
    | true => rw [Bool.true_and]; exact decide_eq_true (cnt_lt h hb)
  · rw [lx_at 24 b i hi, if_pos ⟨hb, h, cnt_lt h hb⟩, ntK_at 24 b i hi, if_pos ⟨hb, by rw [← hz b hb]; exact h⟩, nr_b]
    exact hE b i hb hi
theorem lgK_cnt {dz dy lg : Nat → Bool} (hz : ∀ b, b < 24 → dz b = dy b) : cnt (lgK dy lg 24) 24 = cnt dz 24 := cnt_congr 24 (fun a ha => by rw [lgK_at ha, hz a ha])
theorem fresh_rel {fd gd : Nat → Int32} (fw gw : Nat → Int32) (hE : EQ fd gd) : EQ (va_cpy fd fw 0 0 384) (frK gd gw 24) := by
  intro b i hb hi
  rw [frK_at 24 b i hi, if_pos hb, nr_b, pk_cpy_in (by omega) (by omega)]
  rw [show 0 + (b * 16 + i - 0) = b * 16 + i by omega]
  exact hE b i hb hi
theorem clr_rel (dz dy : Nat → Bool) : ∀ b, b < 24 → clr dz 24 b = clr dy 24 b := fun b hb => by simp [clr, hb]
def Rel (fw fd fb : Nat → Int32) (lq dz : Nat → Bool) (pw mk : Bool) (lc : Nat) (lf : Option Nat) (cs : Nat) (gw gd gl : Nat → Int32) (dy lg : Nat → Bool) : Prop :=
  lc ≤ 24 ∧ (∀ j, lf = some j → j ≤ 1000) ∧ cs < 1000 ∧ EQ fd gd ∧ (pw = true → mk = false ∧ EQ fw gw ∧ ∀ b, b < 24 → dz b = dy b) ∧ (mk = true → lc = cnt lg 24 ∧ LR fb lq gl lg)
section PR
variable {fw fd fb gw gd gl : Nat → Int32} {lq dz dy lg : Nat → Bool} {pw mk : Bool} {lc cs : Nat} {lf : Option Nat}
theorem st_write (h : Rel fw fd fb lq dz pw mk lc lf cs gw gd gl dy lg) (b q v : Int32) : ∃ fw' dz' gw' dy' r, xwr fw dz pw b q v = (fw', dz', r) ∧ mwr gw dy (!pw) b q v = (gw', dy', r) ∧ Rel fw' fd fb lq dz' pw mk lc lf cs gw' gd gl dy' lg := by
  cases pw with
  | false => exact ⟨fw, dz, gw, dy, false, by simp [xwr], by simp [mwr], h⟩
  | true =>
    rcases ix_cases 24 (by decide) b with ⟨e1, -⟩ | ⟨i, hi, rfl, e1⟩
    · exact ⟨fw, dz, gw, dy, false, by simp [xwr, e1], by simp [mwr, e1], h⟩
    · rcases ix_cases 16 (by decide) q with ⟨e2, -⟩ | ⟨j, hj, rfl, e2⟩
      · exact ⟨fw, dz, gw, dy, false, by simp [xwr, e1, e2], by simp [mwr, e1, e2], h⟩
      · refine ⟨upd fw (i * 16 + j) (v &&& 255), va_up dz i true, upd gw (i * 16 + j) v.toInt8.toInt32, va_up dy i true, true, by simp [xwr, e1, e2], by simp [mwr, e1, e2], ?_⟩
        obtain ⟨h1, h2, h3, h5, h6, h7⟩ := h
        obtain ⟨g1, g2, g3⟩ := h6 rfl
        refine ⟨h1, h2, h3, h5, fun _ => ⟨g1, fun b i2 hb hi2 => ?_, fun b hb => ?_⟩, h7⟩
        · simp only [upd]
          split
          · exact (bp_b v).symm
          · exact g2 b i2 hb hi2
        · simp only [va_up]
          split
          · rfl
          · exact g3 b hb
theorem rd_eq {f g : Nat → Int32} (on : Bool) (h : on = true → EQ f g) (b q : Int32) : xrd on f b q = mrd (!on) g b q := by
  cases on with
  | false => simp [xrd, mrd]
  | true =>
    rcases ix_cases 24 (by decide) b with ⟨e1, -⟩ | ⟨i, hi, rfl, e1⟩
    · simp [xrd, mrd, e1]
    · rcases ix_cases 16 (by decide) q with ⟨e2, -⟩ | ⟨j, hj, rfl, e2⟩
      · simp [xrd, mrd, e1, e2]
      · simp [xrd, mrd, e1, e2, h rfl i j hi hj]
theorem dt_eq (h : Rel fw fd fb lq dz pw mk lc lf cs gw gd gl dy lg) (b : Int32) : xdt pw dz b = mdt (!pw) dy b := by
  cases pw with
  | false => simp [xdt, mdt]
  | true =>
    rcases ix_cases 24 (by decide) b with ⟨e1, -⟩ | ⟨i, hi, rfl, e1⟩
    · simp [xdt, mdt, e1]
    · simp [xdt, mdt, e1, (h.2.2.2.2.1 rfl).2.2 i hi]
theorem st_cut (h : Rel fw fd fb lq dz pw mk lc lf cs gw gd gl dy lg) (n t : Int32) : ∃ lf' cs' r, xct pw (lf.getD 0) cs n t = (lf'.getD 0, cs', r) ∧ mct (!pw) lf cs n t = (lf', cs', r) ∧ Rel fw fd fb lq dz pw mk lc lf' cs' gw gd gl dy lg := by
  cases pw with
  | false => exact ⟨lf, cs, false, by simp [xct], by simp [mct], h⟩
  | true =>
    rcases ix_cases 1001 (by decide) n with ⟨e1, -⟩ | ⟨k, hk, rfl, e1⟩
    · exact ⟨lf, cs, false, by simp [xct, e1], by simp [mct, e1], h⟩
    · match k, hk, e1 with
      | 0, _, e1 => exact ⟨lf, cs, false, by simp [xct, e1], by simp [mct, e1], h⟩
      | k + 1, hk, e1 =>
        rcases ix_cases 1000 (by decide) t with ⟨e2, -⟩ | ⟨j, hj, rfl, e2⟩
        · exact ⟨lf, cs, false, by simp [xct, e1, e2], by simp [mct, e1, e2], h⟩
        · obtain ⟨h1, h2, h3, h5, h6, h7⟩ := h
          exact ⟨some (k + 1), j, true, by simp [xct, e1, e2], by simp [mct, e1, e2], h1, fun z hz => by cases hz; omega, hj, h5, h6, h7⟩
theorem st_state (x : Int32) : xst pw mk lc x = mst (!pw) mk lc x := by
  rcases ix_cases 3 (by decide) x with ⟨e, -⟩ | ⟨j, hj, rfl, e⟩
  · simp only [xst, mst, e]
  · match j, hj, e with
    | 0, _, e => simp [xst, mst, e]
    | 1, _, e => simp [xst, mst, e]
    | 2, _, e => simp [xst, mst, e]
theorem st_revert (h : Rel fw fd fb lq dz pw mk lc lf cs gw gd gl dy lg) : Rel (bif pw then va_cpy fd fw 0 0 384 else fw) fd fb lq (bif pw then clr dz 24 else dz) pw mk lc lf cs (bif (!pw) then gw else frK gd gw 24) gd gl (bif (!pw) then dy else clr dy 24) lg := by
  cases pw with
  | false => exact h
  | true =>
    obtain ⟨h1, h2, h3, h5, h6, h7⟩ := h
    exact ⟨h1, h2, h3, h5, fun _ => ⟨(h6 rfl).1, fresh_rel fw gw h5, clr_rel dz dy⟩, h7⟩
theorem lfD_getD (lf : Option Nat) : (lfD lf).getD 0 = lf.getD 0 - 1 := by
  match lf with
  | none => rfl
  | some 0 => rfl
  | some (k + 1) => rfl
theorem lfD_le (h : ∀ j, lf = some j → j ≤ 1000) : ∀ j, lfD lf = some j → j ≤ 1000 := by
  intro j hj
  match lf, h with
  | none, _ => cases hj
  | some 0, _ => cases hj
  | some (k + 1), h =>
    have e : k = j := Option.some.inj hj
    have := h (k + 1) rfl
    omega
theorem getD_le (h : ∀ j, lf = some j → j ≤ 1000) : lf.getD 0 ≤ 1000 := by
  cases lf with
  | none => decide
  | some j => exact h j rfl
theorem tkS_go (h : lf ≠ some 1) : tkS (lf.getD 0) cs = 1000 := by
  match lf, h with
  | none, _ => rfl
  | some 0, _ => rfl
  | some 1, h => exact absurd rfl h
  | some (k + 2), _ => simp [tkS]
theorem st_go (h : Rel fw fd fb lq dz true mk lc lf cs gw gd gl dy lg) : Rel fw (lx (lx fw dz (cnt dz 24) fb 24) (lqK dz (cnt dz 24) lq 24) (cnt dz 24) fd 24) (lx fw dz (cnt dz 24) fb 24) (lqK dz (cnt dz 24) lq 24) (clr dz 24) true false (cnt dz 24) (lfD lf) cs gw (lyK (ntK gw dy gl 24) (lgK dy lg 24) (cnt dz 24) gd 24) (ntK gw dy gl 24) (clr dy 24) (lgK dy lg 24) := by
  obtain ⟨h1, h2, h3, h5, h6, h7⟩ := h
  obtain ⟨g1, g2, g3⟩ := h6 rfl
  exact ⟨cnt_le dz 24, lfD_le h2, h3, disk_rel _ (log_rel g2 g3) h5, fun _ => ⟨rfl, g2, clr_rel dz dy⟩, fun q => absurd q (by decide)⟩
theorem st_low (h : Rel fw fd fb lq dz true mk lc lf cs gw gd gl dy lg) (mo : Nat) (lf' : Option Nat) (hlf : ∀ j, lf' = some j → j ≤ 1000) : Rel fw fd (lx fw dz mo fb 24) (lqK dz mo lq 24) (clr dz 24) false false (cnt dz 24) lf' cs gw gd gl dy lg := by
  obtain ⟨h1, h2, h3, h5, h6, h7⟩ := h
  exact ⟨cnt_le dz 24, hlf, h3, h5, fun q => absurd q (by decide), fun q => absurd q (by decide)⟩
theorem st_mid (h : Rel fw fd fb lq dz true mk lc lf cs gw gd gl dy lg) (mo : Nat) (lf' : Option Nat) (hlf : ∀ j, lf' = some j → j ≤ 1000) : Rel fw (lx (lx fw dz (cnt dz 24) fb 24) (lqK dz (cnt dz 24) lq 24) mo fd 24) (lx fw dz (cnt dz 24) fb 24) (lqK dz (cnt dz 24) lq 24) (clr dz 24) false true (cnt dz 24) lf' cs gw (lyK (ntK gw dy gl 24) (lgK dy lg 24) mo gd 24) (ntK gw dy gl 24) (clr dy 24) (lgK dy lg 24) := by
  obtain ⟨h1, h2, h3, h5, h6, h7⟩ := h
  obtain ⟨g1, g2, g3⟩ := h6 rfl
  exact ⟨cnt_le dz 24, hlf, h3, disk_rel _ (log_rel g2 g3) h5, fun q => absurd q (by decide), fun _ => ⟨(lgK_cnt g3).symm, log_rel g2 g3⟩⟩
theorem sd_rel (h : Rel fw fd fb lq dz pw mk lc lf cs gw gd gl dy lg) {t : Nat} (ht : t ≤ 1000) : EQ (xsd mk fb lq fd lc t) (msd mk gl lg gd t) := by
  obtain ⟨h1, h2, h3, h5, h6, h7⟩ := h
  cases mk with
  | false => exact h5
  | true =>
    obtain ⟨g1, g2⟩ := h7 rfl
    simp only [xsd, msd, cond_true]
    rw [g1]
    exact disk_rel _ g2 h5
theorem st_scut (h : Rel fw fd fb lq dz false mk lc lf cs gw gd gl dy lg) {t : Nat} (ht : t ≤ 1000) : Rel fw (xsd mk fb lq fd lc t) fb lq dz false mk lc lf cs gw (msd mk gl lg gd t) gl dy lg := by
  have h0 := sd_rel h ht
  obtain ⟨h1, h2, h3, h5, h6, h7⟩ := h
  exact ⟨h1, h2, h3, h0, h6, h7⟩
theorem st_son (h : Rel fw fd fb lq dz false mk lc lf cs gw gd gl dy lg) : Rel (va_cpy (xsd mk fb lq fd lc 1000) fw 0 0 384) (xsd mk fb lq fd lc 1000) fb lq (clr dz 24) true false lc lf cs (frK (msd mk gl lg gd 1000) gw 24) (msd mk gl lg gd 1000) gl (clr dy 24) lg := by
  have h0 := sd_rel h (Nat.le_refl 1000)
  obtain ⟨h1, h2, h3, h5, h6, h7⟩ := h
  exact ⟨h1, h2, h3, h0, fun _ => ⟨rfl, fresh_rel fw gw h0, clr_rel dz dy⟩, fun q => absurd q (by decide)⟩
end PR
