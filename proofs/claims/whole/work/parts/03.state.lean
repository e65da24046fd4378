/-! The class's words: counting, the log, the disk, as functions. -/
def ix (n : Nat) (x : Int32) : Option Nat := if x < 0 then none else if nI n ≤ x then none else some x.toNatClampNeg
theorem ix_nI {n j : Nat} (h : j < n) (hn : n < 2 ^ 31) : ix n (nI j) = some j := by
  have h1 : ¬ nI j < 0 := nI_pos (by omega)
  have h2 : ¬ nI n ≤ nI j := nI_ge h hn
  simp [ix, h1, h2, nI_clamp (show j < 2 ^ 31 by omega)]
theorem ix_cases (n : Nat) (hn : n < 2 ^ 31) (x : Int32) : (ix n x = none ∧ (x < 0 ∨ nI n ≤ x)) ∨ ∃ j : Nat, j < n ∧ x = nI j ∧ ix n x = some j := by
  rcases pk_ix x hn with h | h | ⟨j, hj, rfl⟩
  · exact Or.inl ⟨by simp [ix, h], Or.inl h⟩
  · refine Or.inl ⟨?_, Or.inr h⟩
    by_cases h0 : x < 0
    · simp [ix, h0]
    · simp [ix, h0, h]
  · exact Or.inr ⟨j, hj, rfl, ix_nI hj hn⟩
def cnt (dz : Nat → Bool) : Nat → Nat
  | 0 => 0
  | k + 1 => cnt dz k + (if dz k = true then 1 else 0)
theorem cnt_le (dz : Nat → Bool) : ∀ k, cnt dz k ≤ k
  | 0 => Nat.le_refl 0
  | k + 1 => by
    have h := cnt_le dz k
    simp only [cnt]
    split <;> omega
theorem cnt_t {dz : Nat → Bool} {k : Nat} (h : dz k = true) : cnt dz (k + 1) = cnt dz k + 1 := by simp [cnt, h]
theorem cnt_f {dz : Nat → Bool} {k : Nat} (h : dz k = false) : cnt dz (k + 1) = cnt dz k := by simp [cnt, h]
theorem cnt_mono (dz : Nat → Bool) {a : Nat} : ∀ n, cnt dz a ≤ cnt dz (a + n)
  | 0 => Nat.le_refl _
  | n + 1 => by
    have h := cnt_mono dz (a := a) n
    show cnt dz a ≤ cnt dz (a + n + 1)
    simp only [cnt]
    omega
/-- the first mo of the blocks of z, of the first k, copied from f over g -/
def lx (f : Nat → Int32) (z : Nat → Bool) (mo : Nat) (g : Nat → Int32) : Nat → Nat → Int32
  | 0 => g
  | k + 1 => if z k = true ∧ cnt z k < mo then va_cpy f (lx f z mo g k) (k * 16) (k * 16) 16 else lx f z mo g k
/-- how many of them -/
def cm (z : Nat → Bool) (mo : Nat) : Nat → Nat
  | 0 => 0
  | k + 1 => if z k = true ∧ cnt z k < mo then cm z mo k + 1 else cm z mo k
/-- which of them -/
def lqK (z : Nat → Bool) (mo : Nat) (lq : Nat → Bool) (k : Nat) : Nat → Bool := fun j => if j < k then z j && decide (cnt z j < mo) else lq j
section LX
variable {f g : Nat → Int32} {z lq : Nat → Bool} {mo k : Nat}
theorem lx_y (h : z k = true ∧ cnt z k < mo) : lx f z mo g (k + 1) = va_cpy f (lx f z mo g k) (k * 16) (k * 16) 16 := by
  simp only [lx]; rw [if_pos h]
theorem lx_n (h : ¬ (z k = true ∧ cnt z k < mo)) : lx f z mo g (k + 1) = lx f z mo g k := by
  simp only [lx]; rw [if_neg h]
theorem lx_stop (h : mo ≤ cnt z k) : ∀ n, lx f z mo g (k + n) = lx f z mo g k
  | 0 => rfl
  | n + 1 => by
    have e := lx_stop h n
    have h2 := cnt_mono z (a := k) n
    show lx f z mo g (k + n + 1) = _
    rw [lx_n (fun q => absurd q.2 (by omega)), e]
theorem cm_y (h : z k = true ∧ cnt z k < mo) : cm z mo (k + 1) = cm z mo k + 1 := by
  simp only [cm]; rw [if_pos h]
theorem cm_n (h : ¬ (z k = true ∧ cnt z k < mo)) : cm z mo (k + 1) = cm z mo k := by
  simp only [cm]; rw [if_neg h]
theorem cm_is (z : Nat → Bool) (mo : Nat) : ∀ k, (cnt z k < mo → cm z mo k = cnt z k) ∧ (mo ≤ cnt z k → cm z mo k = mo)
  | 0 => ⟨fun _ => rfl, fun h => by simp only [cnt] at h; simp only [cm]; omega⟩
  | k + 1 => by
    obtain ⟨h1, h2⟩ := cm_is z mo k
    cases hz : z k with
    | false =>
      rw [cm_n (fun q => absurd (hz.symm.trans q.1) (by decide)), cnt_f hz]
      exact ⟨h1, h2⟩
    | true =>
      rw [cnt_t hz]
      by_cases hc : cnt z k < mo
      · rw [cm_y ⟨hz, hc⟩, h1 hc]
        exact ⟨fun _ => rfl, fun _ => by omega⟩
      · rw [cm_n (fun q => hc q.2), h2 (by omega)]
        exact ⟨fun _ => by omega, fun _ => rfl⟩
theorem cm_le (z : Nat → Bool) (mo k : Nat) : cm z mo k ≤ k := by
  obtain ⟨h1, h2⟩ := cm_is z mo k
  have h3 := cnt_le z k
  rcases Nat.lt_or_ge (cnt z k) mo with h | h
  · rw [h1 h]; exact h3
  · rw [h2 h]; omega
theorem cm_lt : cm z mo k < mo ↔ cnt z k < mo := by
  obtain ⟨h1, h2⟩ := cm_is z mo k
  rcases Nat.lt_or_ge (cnt z k) mo with h | h
  · rw [h1 h]
  · rw [h2 h]; omega
theorem lqK_0 (z : Nat → Bool) (mo : Nat) (lq : Nat → Bool) : lqK z mo lq 0 = lq := by funext j; simp [lqK]
theorem lqK_y (h : z k = true ∧ cnt z k < mo) : va_up (lqK z mo lq k) k true = lqK z mo lq (k + 1) := by
  funext j
  simp only [va_up, lqK]
  by_cases h1 : j = k
  · subst h1; simp [h.1, h.2]
  · by_cases h2 : j < k
    · simp [h1, h2, show j < k + 1 by omega]
    · simp [h1, h2, show ¬ j < k + 1 by omega]
theorem lqK_n (h : ¬ (z k = true ∧ cnt z k < mo)) : va_up (lqK z mo lq k) k false = lqK z mo lq (k + 1) := by
  have e : (z k && decide (cnt z k < mo)) = false := by
    cases hz : z k with
    | false => rfl
    | true => rw [Bool.true_and]; exact decide_eq_false (fun q => h ⟨hz, q⟩)
  funext j
  simp only [va_up, lqK]
  by_cases h1 : j = k
  · subst h1; rw [if_pos rfl, if_pos (Nat.lt_succ_self j), e]
  · by_cases h2 : j < k
    · simp [h1, h2, show j < k + 1 by omega]
    · simp [h1, h2, show ¬ j < k + 1 by omega]
theorem lqK_ay (h : z k = true ∧ cnt z k < mo) : lqK z mo lq (k + 1) k = true := by rw [← lqK_y h]; simp [va_up]
theorem lqK_an (h : ¬ (z k = true ∧ cnt z k < mo)) : lqK z mo lq (k + 1) k = false := by rw [← lqK_n h]; simp [va_up]
end LX
def clr (dz : Nat → Bool) (n : Nat) : Nat → Bool := fun j => if j < n then false else dz j
theorem clr_0 (dz : Nat → Bool) : clr dz 0 = dz := by funext j; simp [clr]
theorem clr_s (dz : Nat → Bool) (k : Nat) : va_up (clr dz k) k false = clr dz (k + 1) := by
  funext j
  simp only [va_up, clr]
  by_cases h : j = k
  · subst h; simp
  · by_cases h2 : j < k
    · simp [h, h2, show j < k + 1 by omega]
    · simp [h, h2, show ¬ j < k + 1 by omega]
theorem up_bI (dz : Nat → Bool) (k : Nat) (b : Bool) : upd (fun j => bI (dz j)) k (bI b) = fun j => bI (va_up dz k b j) := by
  funext j
  simp only [upd, va_up]
  split <;> rfl
def tkS (cu cs : Nat) : Nat := if cu = 0 then 1000 else if cu = 1 then cs else 1000
