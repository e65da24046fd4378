/-! The class's words: counting, the log, the disk, as functions. -/
def ix (n : Nat) (x : Int32) : Option Nat := if x < 0 then none else if nI n ≤ x then none else some x.toNatClampNeg
theorem ix_nI {n j : Nat} (h : j < n) (hn : n < 2 ^ 31) : ix n (nI j) = some j := by
  have h1 : ¬ nI j < 0 := nI_pos (by omega)
  have h2 : ¬ nI n ≤ nI j := nI_ge h hn
  simp [ix, h1, h2, nI_clamp (show j < 2 ^ 31 by omega)]
theorem ix_cases (n : Nat) (hn : n < 2 ^ 31) (x : Int32) : (ix n x = none ∧ (x < 0 ∨ nI n ≤ x)) ∨ ∃ j : Nat, j < n ∧ x = nI j ∧ ix n x = some j := by
  rcases pk_ix x hn with h | h | ⟨j, hj, rfl⟩
  · exact Or.inl ⟨by simp [ix, h], Or.inl h⟩
  · refine Or.inl ⟨?_, Or.inr h⟩
    by_cases h0 : x < 0
    · simp [ix, h0]
    · simp [ix, h0, h]
  · exact Or.inr ⟨j, hj, rfl, ix_nI hj hn⟩
def cnt (dz : Nat → Bool) : Nat → Nat
  | 0 => 0
  | k + 1 => cnt dz k + (if dz k = true then 1 else 0)
theorem cnt_le (dz : Nat → Bool) : ∀ k, cnt dz k ≤ k
  | 0 => Nat.le_refl 0
  | k + 1 => by
    have h := cnt_le dz k
    simp only [cnt]
    split <;> omega
def bl (fw : Nat → Int32) (dz : Nat → Bool) (mo : Nat) (gn : Nat → Nat) (fb : Nat → Int32) : Nat → Nat × (Nat → Nat) × (Nat → Int32)
  | 0 => (0, gn, fb)
  | k + 1 => if dz k = true ∧ (bl fw dz mo gn fb k).1 < mo then ((bl fw dz mo gn fb k).1 + 1, va_up (bl fw dz mo gn fb k).2.1 (bl fw dz mo gn fb k).1 k, va_cpy fw (bl fw dz mo gn fb k).2.2 (k * 16) ((bl fw dz mo gn fb k).1 * 16) 16) else bl fw dz mo gn fb k
theorem bl_le (fw : Nat → Int32) (dz : Nat → Bool) (mo : Nat) (gn : Nat → Nat) (fb : Nat → Int32) : ∀ k, (bl fw dz mo gn fb k).1 ≤ k
  | 0 => Nat.le_refl 0
  | k + 1 => by
    have h := bl_le fw dz mo gn fb k
    simp only [bl]
    split <;> simp <;> omega
theorem bl_stop {fw : Nat → Int32} {dz : Nat → Bool} {mo : Nat} {gn : Nat → Nat} {fb : Nat → Int32} {k : Nat} (h : mo ≤ (bl fw dz mo gn fb k).1) : ∀ n, bl fw dz mo gn fb (k + n) = bl fw dz mo gn fb k
  | 0 => rfl
  | n + 1 => by
    have e := bl_stop h n
    show bl fw dz mo gn fb (k + n + 1) = _
    simp only [bl, e]
    rw [if_neg (fun q => absurd q.2 (Nat.not_lt.mpr h))]
theorem bl_skip {fw : Nat → Int32} {dz : Nat → Bool} {mo : Nat} {gn : Nat → Nat} {fb : Nat → Int32} {k : Nat} (h : dz k = false) : bl fw dz mo gn fb (k + 1) = bl fw dz mo gn fb k := by
  simp [bl, h]
theorem bl_take {fw : Nat → Int32} {dz : Nat → Bool} {mo : Nat} {gn : Nat → Nat} {fb : Nat → Int32} {k : Nat} (h : dz k = true) (h2 : (bl fw dz mo gn fb k).1 < mo) : bl fw dz mo gn fb (k + 1) = ((bl fw dz mo gn fb k).1 + 1, va_up (bl fw dz mo gn fb k).2.1 (bl fw dz mo gn fb k).1 k, va_cpy fw (bl fw dz mo gn fb k).2.2 (k * 16) ((bl fw dz mo gn fb k).1 * 16) 16) := by
  simp [bl, h, h2]
theorem bl_gn {fw : Nat → Int32} {dz : Nat → Bool} {mo : Nat} {gn : Nat → Nat} {fb : Nat → Int32} (h : ∀ j, gn j < 24) : ∀ k, k ≤ 24 → ∀ j, (bl fw dz mo gn fb k).2.1 j < 24
  | 0, _ => h
  | k + 1, hk => by
    have ih := bl_gn (fw := fw) (dz := dz) (mo := mo) (fb := fb) h k (by omega)
    intro j
    simp only [bl]
    split
    · simp only [va_up]
      split
      · omega
      · exact ih j
    · exact ih j
def dk (fb : Nat → Int32) (gn : Nat → Nat) (fd : Nat → Int32) : Nat → Nat → Int32
  | 0 => fd
  | k + 1 => va_cpy fb (dk fb gn fd k) (k * 16) (gn k * 16) 16
def clr (dz : Nat → Bool) (n : Nat) : Nat → Bool := fun j => if j < n then false else dz j
theorem clr_0 (dz : Nat → Bool) : clr dz 0 = dz := by funext j; simp [clr]
theorem clr_s (dz : Nat → Bool) (k : Nat) : va_up (clr dz k) k false = clr dz (k + 1) := by
  funext j
  simp only [va_up, clr]
  by_cases h : j = k
  · subst h; simp
  · by_cases h2 : j < k
    · simp [h, h2, show j < k + 1 by omega]
    · simp [h, h2, show ¬ j < k + 1 by omega]
theorem up_bI (dz : Nat → Bool) (k : Nat) (b : Bool) : upd (fun j => bI (dz j)) k (bI b) = fun j => bI (va_up dz k b j) := by
  funext j
  simp only [upd, va_up]
  split <;> rfl
theorem up_nI (g : Nat → Nat) (k : Nat) (x : Nat) : upd (fun j => nI (g j)) k (nI x) = fun j => nI (va_up g k x j) := by
  funext j
  simp only [upd, va_up]
  split <;> rfl
def tkS (cu cs : Nat) : Nat := if cu = 0 then 1000 else if cu = 1 then cs else 1000
