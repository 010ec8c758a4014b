/-! ===== one item, the whole text: purely, and the class ===== -/
/-- where the i-th token after p begins to be looked for -/
def pN (l : Nat → Nat) (L p : Nat) : Nat → Nat
  | 0 => p
  | i + 1 => tN l L (pN l L p i)
theorem pN_le (l : Nat → Nat) {L p : Nat} (h : p ≤ L) : ∀ i, pN l L p i ≤ L := by
  intro i
  induction i with
  | zero => exact h
  | succ i ih => exact (tN_le l ih).2.1
def nmO (l : Nat → Nat) (L : Nat) (D : Nat → Nat → Nat) (p i : Nat) : Bool := decide (tC l L (pN l L p (i + 1)) = 2) && numOk D (tV l L p) i (tV l L (pN l L p (i + 1))) (tV l L (pN l L p 1))
/-- the token that can't stand, counted from p; 5: none -/
def stI (l : Nat → Nat) (L : Nat) (D : Nat → Nat → Nat) (p : Nat) : Nat := if begOk D (tC l L p) (tV l L p) = false then 0 else if nmO l L D p 0 = false then 1 else if nmO l L D p 1 = false then 2 else if nmO l L D p 2 = false then 3 else if tC l L (pN l L p 4) ≠ 3 then 4 else 5
def stD (l : Nat → Nat) (L : Nat) (D : Nat → Nat → Nat) (p : Nat) : Nat → Nat → Nat := adD D (tV l L p) (tV l L (pN l L p 1)) (tV l L (pN l L p 2)) (tV l L (pN l L p 3))
/-- fault (none: it went well), items, what is told -/
def prs (l : Nat → Nat) (L : Nat) : Nat → (Nat → Nat → Nat) → Nat → Nat → Option Nat × Nat × (Nat → Nat → Nat)
  | 0, D, _, n => (none, n, D)
  | f + 1, D, p, n => if tC l L p = 0 then (none, n, D) else if stI l L D p = 5 then prs l L f (stD l L D p) (pN l L p 5) (n + 1) else (some (tS l L (pN l L p (stI l L D p))), n, D)
def d0 : Nat → Nat → Nat := fun _ _ => 0
theorem ok_d0 : OkD d0 := ⟨Nat.zero_le _, Nat.zero_le _, fun t h => absurd h (Nat.not_lt_zero _), fun _ _ => Nat.zero_le _, fun a b _ _ => ⟨rfl, fun h => absurd h (Nat.lt_irrefl _)⟩, fun i h => absurd h (Nat.not_lt_zero _)⟩
theorem tV_1 (l : Nat → Nat) {L p : Nat} (h : tC l L p = 1) : tV l L p = 116 ∨ tV l L p = 100 ∨ tV l L p = 111 := by
  simp only [tC] at h
  simp only [tV]
  split at h
  · omega
  · split at h
    · split at h <;> omega
    · rename_i hd
      rw [if_neg hd]
      split at h
      · omega
      · split at h
        · assumption
        · omega
theorem tV_2 (l : Nat → Nat) {L p : Nat} (h : tC l L p = 2) : tV l L p ≤ 99 := by
  simp only [tC] at h
  simp only [tV]
  split at h
  · omega
  · split at h
    · rename_i hd
      rw [if_pos hd]
      split at h <;> omega
    · split at h
      · omega
      · split at h <;> omega
theorem nmO_num {l : Nat → Nat} {L p i : Nat} {D : Nat → Nat → Nat} (h : nmO l L D p i = true) : tC l L (pN l L p (i + 1)) = 2 ∧ numOk D (tV l L p) i (tV l L (pN l L p (i + 1))) (tV l L (pN l L p 1)) = true := by
  simpa [nmO] using h
theorem st_5 {l : Nat → Nat} {L p : Nat} {D : Nat → Nat → Nat} (h : stI l L D p = 5) : begOk D (tC l L p) (tV l L p) = true ∧ nmO l L D p 0 = true ∧ nmO l L D p 1 = true ∧ nmO l L D p 2 = true ∧ tC l L (pN l L p 4) = 3 := by
  simp only [stI] at h
  split at h
  · omega
  · split at h
    · omega
    · split at h
      · omega
      · split at h
        · omega
        · split at h
          · omega
          · rename_i h1 h2 h3 h4 h5
            refine ⟨?_, ?_, ?_, ?_, ?_⟩
            · simpa using h1
            · simpa using h2
            · simpa using h3
            · simpa using h4
            · simpa using h5
theorem ok_st {l : Nat → Nat} {L p : Nat} {D : Nat → Nat → Nat} (hO : OkD D) (h : stI l L D p = 5) : OkD (stD l L D p) := by
  obtain ⟨h1, h2, h3, h4, h5⟩ := st_5 h
  have hc : tC l L p = 1 := by
    simp only [begOk, Bool.and_eq_true, decide_eq_true_eq] at h1
    exact h1.1
  rw [hc] at h1
  have q2 := (nmO_num h2).2
  have q3 := (nmO_num h3).2
  have q4 := (nmO_num h4).2
  refine okD_ad hO h1 ?_ q3 q4
  simpa [numOk] using q2
