/-! ===== reading the text, purely ===== -/
def dgt (x : Nat) : Bool := decide (48 ≤ x) && decide (x ≤ 57)
theorem dgt_t {x : Nat} (h : dgt x = true) : 48 ≤ x ∧ x ≤ 57 := by simpa [dgt] using h
theorem dgt_f {x : Nat} (h : dgt x = false) : x < 48 ∨ 57 < x := by
  simp only [dgt, Bool.and_eq_false_iff, decide_eq_false_iff_not] at h
  omega
theorem dgt_in {x lo hi : Nat} (hx : x < 2147483648) (h1 : lo = 48) (h2 : hi = 57) : inR (nI x) (nI lo) (nI hi) = dgt x := by
  subst h1 h2
  simp only [inR, dgt]
  rw [nI_toInt hx, nI_toInt (by decide), nI_toInt (by decide)]
  congr 1 <;> (congr 1; apply propext; constructor <;> intro h <;> omega)
def spF (l : Nat → Nat) : Nat → Nat → Nat
  | 0, q => q
  | f + 1, q => if l q = 32 then spF l f (q + 1) else q
theorem spF_le (l : Nat → Nat) : ∀ f q, q ≤ spF l f q ∧ spF l f q ≤ q + f ∧ (spF l f q < q + f → l (spF l f q) ≠ 32) := by
  intro f
  induction f with
  | zero => intro q; exact ⟨Nat.le_refl _, Nat.le_refl _, fun h => absurd h (Nat.lt_irrefl _)⟩
  | succ f ih =>
    intro q
    simp only [spF]
    by_cases h : l q = 32
    · rw [if_pos h]
      obtain ⟨h1, h2, h3⟩ := ih (q + 1)
      exact ⟨by omega, by omega, fun h => h3 (by omega)⟩
    · rw [if_neg h]
      exact ⟨by omega, by omega, fun _ => h⟩
def nmF (l : Nat → Nat) : Nat → Nat → Nat → Nat × Nat
  | 0, r, v => (r, v)
  | f + 1, r, v => if dgt (l r) = true then nmF l f (r + 1) (if 99 < v then v else 10 * v + l r - 48) else (r, v)
theorem nmF_le (l : Nat → Nat) : ∀ f r v, v ≤ 999 → r ≤ (nmF l f r v).1 ∧ (nmF l f r v).1 ≤ r + f ∧ (nmF l f r v).2 ≤ 999 := by
  intro f
  induction f with
  | zero => intro r v h; exact ⟨Nat.le_refl _, Nat.le_refl _, h⟩
  | succ f ih =>
    intro r v h
    simp only [nmF]
    by_cases hd : dgt (l r) = true
    · rw [if_pos hd]
      have := dgt_t hd
      obtain ⟨h1, h2, h3⟩ := ih (r + 1) (if 99 < v then v else 10 * v + l r - 48) (by split <;> omega)
      exact ⟨by omega, by omega, h3⟩
    · rw [if_neg hd]
      exact ⟨Nat.le_refl _, by omega, h⟩
theorem nmF_st (l : Nat → Nat) {f r v : Nat} (hd : dgt (l r) = true) (hv : v ≤ 999) : r < (nmF l (f + 1) r v).1 := by
  have := dgt_t hd
  simp only [nmF]
  rw [if_pos hd]
  have := (nmF_le l f (r + 1) (if 99 < v then v else 10 * v + l r - 48) (by split <;> omega)).1
  omega
def tS (l : Nat → Nat) (L p : Nat) : Nat := spF l (L - p) p
def tR (l : Nat → Nat) (L p : Nat) : Nat × Nat := nmF l (L - tS l L p) (tS l L p) 0
def tC (l : Nat → Nat) (L p : Nat) : Nat := if tS l L p = L then 0 else if dgt (l (tS l L p)) = true then (if 99 < (tR l L p).2 ∨ l (tS l L p) = 48 ∧ 1 < (tR l L p).1 - tS l L p then 4 else 2) else if l (tS l L p) = 59 then 3 else if l (tS l L p) = 116 ∨ l (tS l L p) = 100 ∨ l (tS l L p) = 111 then 1 else 4
def tN (l : Nat → Nat) (L p : Nat) : Nat := if tS l L p = L then L else if dgt (l (tS l L p)) = true then (tR l L p).1 else tS l L p + 1
def tV (l : Nat → Nat) (L p : Nat) : Nat := if dgt (l (tS l L p)) = true then (tR l L p).2 else l (tS l L p)
theorem tS_le (l : Nat → Nat) {L p : Nat} (h : p ≤ L) : p ≤ tS l L p ∧ tS l L p ≤ L ∧ (tS l L p < L → l (tS l L p) ≠ 32) := by
  obtain ⟨h1, h2, h3⟩ := spF_le l (L - p) p
  rw [show p + (L - p) = L by omega] at h2 h3
  exact ⟨h1, h2, h3⟩
theorem tR_le (l : Nat → Nat) {L p : Nat} (h : p ≤ L) : tS l L p ≤ (tR l L p).1 ∧ (tR l L p).1 ≤ L ∧ (tR l L p).2 ≤ 999 := by
  obtain ⟨h1, h2, h3⟩ := nmF_le l (L - tS l L p) (tS l L p) 0 (by omega)
  have := (tS_le l h).2.1
  exact ⟨h1, by simp only [tR]; omega, h3⟩
theorem tN_le (l : Nat → Nat) {L p : Nat} (h : p ≤ L) : tS l L p ≤ tN l L p ∧ tN l L p ≤ L ∧ (tS l L p < L → tS l L p < tN l L p) := by
  obtain ⟨h1, h2, h3⟩ := tS_le l h
  obtain ⟨r1, r2, r3⟩ := tR_le l h
  simp only [tN]
  by_cases e : tS l L p = L
  · rw [if_pos e]; omega
  · rw [if_neg e]
    by_cases hd : dgt (l (tS l L p)) = true
    · rw [if_pos hd]
      refine ⟨r1, r2, fun hl => ?_⟩
      obtain ⟨f, hf⟩ : ∃ f, L - tS l L p = f + 1 := ⟨L - tS l L p - 1, by omega⟩
      simp only [tR, hf]
      exact nmF_st l hd (by omega)
    · rw [if_neg hd]; omega
theorem tC_0 (l : Nat → Nat) {L p : Nat} : tC l L p = 0 ↔ tS l L p = L := by
  simp only [tC]
  by_cases e : tS l L p = L
  · rw [if_pos e]; exact ⟨fun _ => e, fun _ => rfl⟩
  · rw [if_neg e]
    refine ⟨fun h => ?_, fun h => absurd h e⟩
    split at h
    · split at h <;> omega
    · split at h
      · omega
      · split at h <;> omega
section P41
variable {d : Nat} {I A : Nat → Nat → Int32} {J : Nat → Nat → Int64} {ρ m no : Nat} {T : Int64} {k : Int32 → vS → Prop} {kl : Int64 → vS → Prop} {kv : vS → Prop}
/-- the reference's text against l, L -/
def MT (I : Nat → Nat → Int32) (l : Nat → Nat) (L : Nat) : Prop := L ≤ 200 ∧ I 103 3 = nI L ∧ ∀ j, j < L → I 104 j = nI (l j) ∧ l j < 256
set_option maxHeartbeats 4000000 in
set_option maxRecDepth 100000 in
theorem s_letter {l : Nat → Nat} {L j : Nat} {kk : Int32 → vS → Prop} (hT : MT I l L) (hj : j ≤ L) (h : kk (if j = L then -1 else nI (l j)) (I, J, vRR ρ)) : V d 123 123 mX8_letterAt 0 [.ref 103, .int (nI j)] [] (I, J, vRR ρ) (Ki kk) := by
  obtain ⟨h1, h2, h3⟩ := hT
  by_cases e : j = L
  · rw [if_pos e] at h
    refine st_iload rX8_letterAt_0 rfl ?_
    refine st_aload rX8_letterAt_1 rfl ?_
    refine st_getI rX8_letterAt_2 (by first | assumption | decide | exact ⟨by decide, rfl, by decide⟩) rfl ?_
    refine st_top h2 ?_
    first | with_reducible refine st_icmp_geN rX8_letterAt_5 (by omega) (by omega) (fun _ => ?_) (fun h => absurd h (by first | decide | omega | (simp; done) | simp_all)) | refine st_icmp_ge rX8_letterAt_5 (fun _ => ?_) (fun h => absurd h (by first | decide | omega | (simp; done) | simp_all))
    refine st_c rX8_letterAt_17 ?_
    refine st_iret rX8_letterAt_18 rfl ?_
    exact h
  · rw [if_neg e] at h
    refine st_iload rX8_letterAt_0 rfl ?_
    refine st_aload rX8_letterAt_1 rfl ?_
    refine st_getI rX8_letterAt_2 (by first | assumption | decide | exact ⟨by decide, rfl, by decide⟩) rfl ?_
    refine st_top h2 ?_
    first | with_reducible refine st_icmp_geN rX8_letterAt_5 (by omega) (by omega) (fun h => absurd h (by first | decide | omega | (simp; done) | simp_all)) (fun _ => ?_) | refine st_icmp_ge rX8_letterAt_5 (fun h => absurd h (by first | decide | omega | (simp; done) | simp_all)) (fun _ => ?_)
    refine st_aload rX8_letterAt_8 rfl ?_
    refine st_getR rX8_letterAt_9 (by first | assumption | decide | exact ⟨by decide, rfl, by decide⟩) (by first | rfl | assumption) rfl ?_
    refine st_iload rX8_letterAt_12 rfl ?_
    refine st_ialdN rX8_letterAt_13 (by first | assumption | decide | exact ⟨by decide, rfl, by decide⟩) (by omega) ?_
    refine st_top (h3 j (by omega)).1 ?_
    refine st_goto rX8_letterAt_14 ?_
    refine st_iret rX8_letterAt_18 rfl ?_
    exact h
set_option maxHeartbeats 4000000 in
set_option maxRecDepth 100000 in
theorem s_advances {l : Nat → Nat} {L p : Nat} (hT : MT I l L) (hp : p ≤ L) (h4 : I 103 4 = nI p)
    (hk : ∀ I', (∀ a, a ≠ 103 → I' a = I a) → (∀ q, q < 4 ∨ 7 < q → I' 103 q = I 103 q) → I' 103 4 = nI (tN l L p) → I' 103 5 = nI (tC l L p) → I' 103 6 = nI (tS l L p) → (tC l L p = 1 ∨ tC l L p = 2 → I' 103 7 = nI (tV l L p)) → kv (I', J, vRR ρ)) : V (d + 1) 123 123 mX8_advances 0 [.ref 103, vJ] [] (I, J, vRR ρ) (Kv kv) := by
  have hMT : ∀ I2 : Nat → Nat → Int32, (∀ a, a ≠ 103 → I2 a = I a) → (∀ q, q < 4 ∨ 7 < q → I2 103 q = I 103 q) → MT I2 l L := fun I2 g g3 => ⟨hT.1, by rw [g3 3 (by omega)]; exact hT.2.1, fun j hj => by rw [g 104 (by decide)]; exact hT.2.2 j hj⟩
  have hL := hT.1
  have rest : ∀ (I2 : Nat → Nat → Int32), (∀ a, a ≠ 103 → I2 a = I a) → (∀ q, q < 4 ∨ 7 < q → I2 103 q = I 103 q) → I2 103 4 = nI (tS l L p) → V (d + 1) 123 123 mX8_advances 26 [.ref 103, vJ] [] (I2, J, vRR ρ) (Kv kv) := by
    intro I2 g g3 g4
    obtain ⟨s1, s2, s3⟩ := tS_le l hp
    obtain ⟨r1, r2, r3⟩ := tR_le l hp
    have hkk := hk
    simp only [tN, tC, tV] at hkk
    generalize hs : tS l L p = s at *
    generalize hrr : tR l L p = rr at *
    refine st_aload rX8_advances_26 rfl ?_
    refine st_aload rX8_advances_27 rfl ?_
    refine st_getI rX8_advances_28 (by first | assumption | decide | exact ⟨by decide, rfl, by decide⟩) rfl ?_
    refine st_top g4 ?_
    refine st_putI rfl rX8_advances_31 (by first | assumption | decide | exact ⟨by decide, rfl, by decide⟩) ?_
    skip
    have g5' : ∀ a, a ≠ 103 → (up I2 103 (va_up (I2 103) 6 (nI s))) a = I a := fun a ha => by rw [up_n ha, g a ha]
    generalize hI3 : up I2 103 (va_up (I2 103) 6 (nI s)) = I3 at g5'
    have a3 : ∀ q, q < 4 ∨ 7 < q → I3 103 q = I 103 q := fun q hq => by rw [← hI3, up_s, va_up_n (by omega)]; exact g3 q hq
    have a4 : I3 103 4 = nI s := by rw [← hI3, up_s, va_up_n (by omega)]; exact g4
    have a6 : I3 103 6 = nI s := by rw [← hI3, up_s, va_up_s]
    have hT2 := hMT I3 g5' a3
    by_cases e : s = L
    · refine st_aload rX8_advances_34 rfl ?_
      refine st_aload rX8_advances_35 rfl ?_
      refine st_getI rX8_advances_36 (by first | assumption | decide | exact ⟨by decide, rfl, by decide⟩) rfl ?_
      refine st_top a4 ?_
      refine cV2i rX8_advances_39 (by first | assumption | decide | exact ⟨by decide, rfl, by decide⟩) (s_letter hT2 (by omega) ?_) rfl (by decide)
      rw [if_pos e]
      refine st_istore1 rX8_advances_42 rfl ?_
      refine st_iload rX8_advances_43 rfl ?_
      refine st_if_ge rX8_advances_44 (fun h => absurd h (by decide)) (fun _ => ?_)
      refine st_aload rX8_advances_47 rfl ?_
      refine st_c rX8_advances_48 ?_
      refine st_putI rfl rX8_advances_49 (by first | assumption | decide | exact ⟨by decide, rfl, by decide⟩) ?_
      refine st_goto rX8_advances_52 ?_
      refine st_vret rX8_advances_233 rfl ?_
      refine hkk _ (fun a ha => by rw [up_n ha, g5' a ha]) (fun q hq => by rw [up_s, va_up_n (by omega)]; exact a3 q hq) ?_ ?_ ?_ ?_
      · rw [up_s, va_up_n (by omega), a4, if_pos e, e]
      · rw [up_s, va_up_s, if_pos e]
      · rw [up_s, va_up_n (by omega), a6]
      · rw [if_pos e]; intro h; omega
    · simp only [if_neg e] at hkk
      have hls := hT.2.2 s (by omega)
      have hin : inR (nI (l s)) (nI 48) (nI 57) = dgt (l s) := dgt_in (by omega) rfl rfl
      cases hd : dgt (l s) with
      | false =>
        simp only [hd, Bool.false_eq_true, if_false] at hkk
        refine st_aload rX8_advances_34 rfl ?_
        refine st_aload rX8_advances_35 rfl ?_
        refine st_getI rX8_advances_36 (by first | assumption | decide | exact ⟨by decide, rfl, by decide⟩) rfl ?_
        refine st_top a4 ?_
        refine cV2i rX8_advances_39 (by first | assumption | decide | exact ⟨by decide, rfl, by decide⟩) (s_letter hT2 (by omega) ?_) rfl (by decide)
        rw [if_neg e]
        refine st_istore1 rX8_advances_42 rfl ?_
        refine st_iload rX8_advances_43 rfl ?_
        first | with_reducible refine st_if_geN rX8_advances_44 (by omega) (fun _ => ?_) (fun h => absurd h (by first | decide | omega | (simp; done) | simp_all)) | refine st_if_ge rX8_advances_44 (fun _ => ?_) (fun h => absurd h (by first | decide | omega | (simp; done) | simp_all))
        refine st_iload rX8_advances_55 rfl ?_
        refine st_c rX8_advances_56 ?_
        refine st_c rX8_advances_58 ?_
        refine cS3i rX8_advances_60 (s_in ?_) rfl
        rw [hin, hd]
        first | with_reducible refine st_if_eqN rX8_advances_63 (by omega) (fun _ => ?_) (fun h => absurd h (by first | decide | omega | (simp; done) | simp_all)) | refine st_if_eq rX8_advances_63 (fun _ => ?_) (fun h => absurd h (by first | decide | omega | (simp; done) | simp_all))
        refine st_aload rX8_advances_181 rfl ?_
        refine st_dup rX8_advances_182 rfl ?_
        refine st_getI rX8_advances_183 (by first | assumption | decide | exact ⟨by decide, rfl, by decide⟩) rfl ?_
        refine st_top a4 ?_
        refine st_c rX8_advances_186 ?_
        first | with_reducible refine st_iaddN rX8_advances_187 ?_ | refine st_iadd rX8_advances_187 ?_
        refine st_putI rfl rX8_advances_188 (by first | assumption | decide | exact ⟨by decide, rfl, by decide⟩) ?_
        refine st_aload rX8_advances_191 rfl ?_
        refine st_iload rX8_advances_192 rfl ?_
        refine st_putI rfl rX8_advances_193 (by first | assumption | decide | exact ⟨by decide, rfl, by decide⟩) ?_
        refine st_aload rX8_advances_196 rfl ?_
        refine st_iload rX8_advances_197 rfl ?_
        refine st_c rX8_advances_198 ?_
        first | with_reducible refine st_icmp_neN rX8_advances_200 (by omega) (by omega) (fun h200 => ?_) (fun h200 => ?_) | refine st_icmp_ne rX8_advances_200 (fun h200 => ?_) (fun h200 => ?_)
        · refine st_iload rX8_advances_207 rfl ?_
          refine st_c rX8_advances_208 ?_
          first | with_reducible refine st_icmp_eqN rX8_advances_210 (by omega) (by omega) (fun h210 => ?_) (fun h210 => ?_) | refine st_icmp_eq rX8_advances_210 (fun h210 => ?_) (fun h210 => ?_)
          · refine st_c rX8_advances_225 ?_
            refine st_goto rX8_advances_226 ?_
            refine st_putI rfl rX8_advances_230 (by first | assumption | decide | exact ⟨by decide, rfl, by decide⟩) ?_
            refine st_vret rX8_advances_233 rfl ?_
            refine hkk _ (fun a ha => by rw [up_n ha, up_n ha, up_n ha, g5' a ha]) (fun q hq => by rw [up_s, va_up_n (by omega), up_s, va_up_n (by omega), up_s, va_up_n (by omega)]; exact a3 q hq) ?_ ?_ ?_ ?_
            · rw [up_s, va_up_n (by decide), up_s, va_up_n (by decide), up_s, va_up_s]
            · rw [up_s, va_up_s]
              congr 1
              split <;> (try split) <;> omega
            · rw [up_s, va_up_n (by decide), up_s, va_up_n (by decide), up_s, va_up_n (by decide)]; exact a6
            · intro _
              rw [up_s, va_up_n (by decide), up_s, va_up_s]
          · refine st_iload rX8_advances_213 rfl ?_
            refine st_c rX8_advances_214 ?_
            first | with_reducible refine st_icmp_eqN rX8_advances_216 (by omega) (by omega) (fun h216 => ?_) (fun h216 => ?_) | refine st_icmp_eq rX8_advances_216 (fun h216 => ?_) (fun h216 => ?_)
            · refine st_c rX8_advances_225 ?_
              refine st_goto rX8_advances_226 ?_
              refine st_putI rfl rX8_advances_230 (by first | assumption | decide | exact ⟨by decide, rfl, by decide⟩) ?_
              refine st_vret rX8_advances_233 rfl ?_
              refine hkk _ (fun a ha => by rw [up_n ha, up_n ha, up_n ha, g5' a ha]) (fun q hq => by rw [up_s, va_up_n (by omega), up_s, va_up_n (by omega), up_s, va_up_n (by omega)]; exact a3 q hq) ?_ ?_ ?_ ?_
              · rw [up_s, va_up_n (by decide), up_s, va_up_n (by decide), up_s, va_up_s]
              · rw [up_s, va_up_s]
                congr 1
                split <;> (try split) <;> omega
              · rw [up_s, va_up_n (by decide), up_s, va_up_n (by decide), up_s, va_up_n (by decide)]; exact a6
              · intro _
                rw [up_s, va_up_n (by decide), up_s, va_up_s]
            · refine st_iload rX8_advances_219 rfl ?_
              refine st_c rX8_advances_220 ?_
              first | with_reducible refine st_icmp_neN rX8_advances_222 (by omega) (by omega) (fun h222 => ?_) (fun h222 => ?_) | refine st_icmp_ne rX8_advances_222 (fun h222 => ?_) (fun h222 => ?_)
              · refine st_c rX8_advances_229 ?_
                refine st_putI rfl rX8_advances_230 (by first | assumption | decide | exact ⟨by decide, rfl, by decide⟩) ?_
                refine st_vret rX8_advances_233 rfl ?_
                refine hkk _ (fun a ha => by rw [up_n ha, up_n ha, up_n ha, g5' a ha]) (fun q hq => by rw [up_s, va_up_n (by omega), up_s, va_up_n (by omega), up_s, va_up_n (by omega)]; exact a3 q hq) ?_ ?_ ?_ ?_
                · rw [up_s, va_up_n (by decide), up_s, va_up_n (by decide), up_s, va_up_s]
                · rw [up_s, va_up_s]
                  congr 1
                  split <;> (try split) <;> omega
                · rw [up_s, va_up_n (by decide), up_s, va_up_n (by decide), up_s, va_up_n (by decide)]; exact a6
                · intro _
                  rw [up_s, va_up_n (by decide), up_s, va_up_s]
              · refine st_c rX8_advances_225 ?_
                refine st_goto rX8_advances_226 ?_
                refine st_putI rfl rX8_advances_230 (by first | assumption | decide | exact ⟨by decide, rfl, by decide⟩) ?_
                refine st_vret rX8_advances_233 rfl ?_
                refine hkk _ (fun a ha => by rw [up_n ha, up_n ha, up_n ha, g5' a ha]) (fun q hq => by rw [up_s, va_up_n (by omega), up_s, va_up_n (by omega), up_s, va_up_n (by omega)]; exact a3 q hq) ?_ ?_ ?_ ?_
                · rw [up_s, va_up_n (by decide), up_s, va_up_n (by decide), up_s, va_up_s]
                · rw [up_s, va_up_s]
                  congr 1
                  split <;> (try split) <;> omega
                · rw [up_s, va_up_n (by decide), up_s, va_up_n (by decide), up_s, va_up_n (by decide)]; exact a6
                · intro _
                  rw [up_s, va_up_n (by decide), up_s, va_up_s]
        · refine st_c rX8_advances_203 ?_
          refine st_goto rX8_advances_204 ?_
          refine st_putI rfl rX8_advances_230 (by first | assumption | decide | exact ⟨by decide, rfl, by decide⟩) ?_
          refine st_vret rX8_advances_233 rfl ?_
          refine hkk _ (fun a ha => by rw [up_n ha, up_n ha, up_n ha, g5' a ha]) (fun q hq => by rw [up_s, va_up_n (by omega), up_s, va_up_n (by omega), up_s, va_up_n (by omega)]; exact a3 q hq) ?_ ?_ ?_ ?_
          · rw [up_s, va_up_n (by decide), up_s, va_up_n (by decide), up_s, va_up_s]
          · rw [up_s, va_up_s]
            congr 1
            split <;> (try split) <;> omega
          · rw [up_s, va_up_n (by decide), up_s, va_up_n (by decide), up_s, va_up_n (by decide)]; exact a6
          · intro _
            rw [up_s, va_up_n (by decide), up_s, va_up_s]
      | true =>
        simp only [hd, if_true] at hkk
        have fin : ∀ (I4 : Nat → Nat → Int32), (∀ a, a ≠ 103 → I4 a = I a) → (∀ q, q < 4 ∨ 7 < q → I4 103 q = I 103 q) → I4 103 4 = nI rr.1 → I4 103 6 = nI s → I4 103 7 = nI rr.2 → V (d + 1) 123 123 mX8_advances 141 [.ref 103, .int (nI (l s))] [] (I4, J, vRR ρ) (Kv kv) := by
          intro I4 b1 b3 b4 b6 b7
          refine st_aload rX8_advances_141 rfl ?_
          refine st_aload rX8_advances_142 rfl ?_
          refine st_getI rX8_advances_143 (by first | assumption | decide | exact ⟨by decide, rfl, by decide⟩) rfl ?_
          refine st_top b7 ?_
          refine st_c rX8_advances_146 ?_
          first | with_reducible refine st_icmp_gtN rX8_advances_148 (by omega) (by omega) (fun h148 => ?_) (fun h148 => ?_) | refine st_icmp_gt rX8_advances_148 (fun h148 => ?_) (fun h148 => ?_)
          · refine st_c rX8_advances_170 ?_
            refine st_goto rX8_advances_171 ?_
            refine st_putI rfl rX8_advances_175 (by first | assumption | decide | exact ⟨by decide, rfl, by decide⟩) ?_
            refine st_goto rX8_advances_178 ?_
            refine st_vret rX8_advances_233 rfl ?_
            refine hkk _ (fun a ha => by rw [up_n ha, b1 a ha]) (fun q hq => by rw [up_s, va_up_n (by omega)]; exact b3 q hq) ?_ ?_ ?_ ?_
            · rw [up_s, va_up_n (by decide)]; exact b4
            · rw [up_s, va_up_s]
              congr 1
              split <;> omega
            · rw [up_s, va_up_n (by decide)]; exact b6
            · intro _
              rw [up_s, va_up_n (by decide)]; exact b7
          · refine st_iload rX8_advances_151 rfl ?_
            refine st_c rX8_advances_152 ?_
            first | with_reducible refine st_icmp_neN rX8_advances_154 (by omega) (by omega) (fun h154 => ?_) (fun h154 => ?_) | refine st_icmp_ne rX8_advances_154 (fun h154 => ?_) (fun h154 => ?_)
            · refine st_c rX8_advances_174 ?_
              refine st_putI rfl rX8_advances_175 (by first | assumption | decide | exact ⟨by decide, rfl, by decide⟩) ?_
              refine st_goto rX8_advances_178 ?_
              refine st_vret rX8_advances_233 rfl ?_
              refine hkk _ (fun a ha => by rw [up_n ha, b1 a ha]) (fun q hq => by rw [up_s, va_up_n (by omega)]; exact b3 q hq) ?_ ?_ ?_ ?_
              · rw [up_s, va_up_n (by decide)]; exact b4
              · rw [up_s, va_up_s]
                congr 1
                split <;> omega
              · rw [up_s, va_up_n (by decide)]; exact b6
              · intro _
                rw [up_s, va_up_n (by decide)]; exact b7
            · refine st_aload rX8_advances_157 rfl ?_
              refine st_getI rX8_advances_158 (by first | assumption | decide | exact ⟨by decide, rfl, by decide⟩) rfl ?_
              refine st_top b4 ?_
              refine st_aload rX8_advances_161 rfl ?_
              refine st_getI rX8_advances_162 (by first | assumption | decide | exact ⟨by decide, rfl, by decide⟩) rfl ?_
              refine st_top b6 ?_
              first | with_reducible refine st_isubN rX8_advances_165 (by omega) ?_ | refine st_isub rX8_advances_165 ?_
              refine st_c rX8_advances_166 ?_
              first | with_reducible refine st_icmp_leN rX8_advances_167 (by omega) (by omega) (fun h167 => ?_) (fun h167 => ?_) | refine st_icmp_le rX8_advances_167 (fun h167 => ?_) (fun h167 => ?_)
              · refine st_c rX8_advances_174 ?_
                refine st_putI rfl rX8_advances_175 (by first | assumption | decide | exact ⟨by decide, rfl, by decide⟩) ?_
                refine st_goto rX8_advances_178 ?_
                refine st_vret rX8_advances_233 rfl ?_
                refine hkk _ (fun a ha => by rw [up_n ha, b1 a ha]) (fun q hq => by rw [up_s, va_up_n (by omega)]; exact b3 q hq) ?_ ?_ ?_ ?_
                · rw [up_s, va_up_n (by decide)]; exact b4
                · rw [up_s, va_up_s]
                  congr 1
                  split <;> omega
                · rw [up_s, va_up_n (by decide)]; exact b6
                · intro _
                  rw [up_s, va_up_n (by decide)]; exact b7
              · refine st_c rX8_advances_170 ?_
                refine st_goto rX8_advances_171 ?_
                refine st_putI rfl rX8_advances_175 (by first | assumption | decide | exact ⟨by decide, rfl, by decide⟩) ?_
                refine st_goto rX8_advances_178 ?_
                refine st_vret rX8_advances_233 rfl ?_
                refine hkk _ (fun a ha => by rw [up_n ha, b1 a ha]) (fun q hq => by rw [up_s, va_up_n (by omega)]; exact b3 q hq) ?_ ?_ ?_ ?_
                · rw [up_s, va_up_n (by decide)]; exact b4
                · rw [up_s, va_up_s]
                  congr 1
                  split <;> omega
                · rw [up_s, va_up_n (by decide)]; exact b6
                · intro _
                  rw [up_s, va_up_n (by decide)]; exact b7
        have key2 : ∀ (f r v : Nat) (I4 : Nat → Nat → Int32), r + f = L → nmF l f r v = rr → v ≤ 999 → (∀ a, a ≠ 103 → I4 a = I a) → (∀ q, q < 4 ∨ 7 < q → I4 103 q = I 103 q) → I4 103 4 = nI r → I4 103 6 = nI s → I4 103 7 = nI v → V (d + 1) 123 123 mX8_advances 71 [.ref 103, .int (nI (l s))] [] (I4, J, vRR ρ) (Kv kv) := by
          intro f
          induction f with
          | zero =>
            intro r v I4 hf hn hv b1 b3 b4 b6 b7
            have hf : r = L := by omega
            simp only [nmF] at hn
            subst hn
            have hT2 := hMT I4 b1 b3
            have hm1 : inR (-1) (nI 48) (nI 57) = false := by decide
            refine st_aload rX8_advances_71 rfl ?_
            refine st_aload rX8_advances_72 rfl ?_
            refine st_getI rX8_advances_73 (by first | assumption | decide | exact ⟨by decide, rfl, by decide⟩) rfl ?_
            refine st_top b4 ?_
            refine cV2i rX8_advances_76 (by first | assumption | decide | exact ⟨by decide, rfl, by decide⟩) (s_letter hT2 (by omega) ?_) rfl (by decide)
            rw [if_pos hf]
            refine st_c rX8_advances_79 ?_
            refine st_c rX8_advances_81 ?_
            refine cS3i rX8_advances_83 (s_in ?_) rfl
            rw [hm1]
            first | with_reducible refine st_if_eqN rX8_advances_86 (by omega) (fun _ => ?_) (fun h => absurd h (by first | decide | omega | (simp; done) | simp_all)) | refine st_if_eq rX8_advances_86 (fun _ => ?_) (fun h => absurd h (by first | decide | omega | (simp; done) | simp_all))
            exact fin I4 b1 b3 b4 b6 b7
          | succ f ih =>
            intro r v I4 hf hn hv b1 b3 b4 b6 b7
            simp only [nmF] at hn
            have hT2 := hMT I4 b1 b3
            have hrl := hT.2.2 r (by omega)
            have hir : inR (nI (l r)) (nI 48) (nI 57) = dgt (l r) := dgt_in (by omega) rfl rfl
            have hne : ¬ r = L := by omega
            cases hdr : dgt (l r) with
            | false =>
              rw [hdr, if_neg (by decide)] at hn
              subst hn
              refine st_aload rX8_advances_71 rfl ?_
              refine st_aload rX8_advances_72 rfl ?_
              refine st_getI rX8_advances_73 (by first | assumption | decide | exact ⟨by decide, rfl, by decide⟩) rfl ?_
              refine st_top b4 ?_
              refine cV2i rX8_advances_76 (by first | assumption | decide | exact ⟨by decide, rfl, by decide⟩) (s_letter hT2 (by omega) ?_) rfl (by decide)
              rw [if_neg hne]
              refine st_c rX8_advances_79 ?_
              refine st_c rX8_advances_81 ?_
              refine cS3i rX8_advances_83 (s_in ?_) rfl
              rw [hir, hdr]
              first | with_reducible refine st_if_eqN rX8_advances_86 (by omega) (fun _ => ?_) (fun h => absurd h (by first | decide | omega | (simp; done) | simp_all)) | refine st_if_eq rX8_advances_86 (fun _ => ?_) (fun h => absurd h (by first | decide | omega | (simp; done) | simp_all))
              exact fin I4 b1 b3 b4 b6 b7
            | true =>
              rw [hdr, if_pos rfl] at hn
              have hd9 := dgt_t hdr
              by_cases h99 : 99 < v
              · rw [if_pos h99] at hn
                refine st_aload rX8_advances_71 rfl ?_
                refine st_aload rX8_advances_72 rfl ?_
                refine st_getI rX8_advances_73 (by first | assumption | decide | exact ⟨by decide, rfl, by decide⟩) rfl ?_
                refine st_top b4 ?_
                refine cV2i rX8_advances_76 (by first | assumption | decide | exact ⟨by decide, rfl, by decide⟩) (s_letter hT2 (by omega) ?_) rfl (by decide)
                rw [if_neg hne]
                refine st_c rX8_advances_79 ?_
                refine st_c rX8_advances_81 ?_
                refine cS3i rX8_advances_83 (s_in ?_) rfl
                rw [hir, hdr]
                first | with_reducible refine st_if_eqN rX8_advances_86 (by omega) (fun h => absurd h (by first | decide | omega | (simp; done) | simp_all)) (fun _ => ?_) | refine st_if_eq rX8_advances_86 (fun h => absurd h (by first | decide | omega | (simp; done) | simp_all)) (fun _ => ?_)
                refine st_aload rX8_advances_89 rfl ?_
                refine st_aload rX8_advances_90 rfl ?_
                refine st_getI rX8_advances_91 (by first | assumption | decide | exact ⟨by decide, rfl, by decide⟩) rfl ?_
                refine st_top b7 ?_
                refine st_c rX8_advances_94 ?_
                first | with_reducible refine st_icmp_leN rX8_advances_96 (by omega) (by omega) (fun h => absurd h (by first | decide | omega | (simp; done) | simp_all)) (fun _ => ?_) | refine st_icmp_le rX8_advances_96 (fun h => absurd h (by first | decide | omega | (simp; done) | simp_all)) (fun _ => ?_)
                refine st_aload rX8_advances_99 rfl ?_
                refine st_getI rX8_advances_100 (by first | assumption | decide | exact ⟨by decide, rfl, by decide⟩) rfl ?_
                refine st_top b7 ?_
                refine st_goto rX8_advances_103 ?_
                refine st_putI rfl rX8_advances_125 (by first | assumption | decide | exact ⟨by decide, rfl, by decide⟩) ?_
                refine st_aload rX8_advances_128 rfl ?_
                refine st_dup rX8_advances_129 rfl ?_
                refine st_getI rX8_advances_130 (by first | assumption | decide | exact ⟨by decide, rfl, by decide⟩) rfl ?_
                refine st_top (show _ = nI r by rw [up_s, va_up_n (by decide)]; exact b4) ?_
                refine st_c rX8_advances_133 ?_
                first | with_reducible refine st_iaddN rX8_advances_134 ?_ | refine st_iadd rX8_advances_134 ?_
                refine st_putI rfl rX8_advances_135 (by first | assumption | decide | exact ⟨by decide, rfl, by decide⟩) ?_
                refine st_goto rX8_advances_138 ?_
                refine ih (r + 1) v _ (by omega) hn hv (fun a ha => by rw [up_n ha, up_n ha, b1 a ha]) (fun q hq => by rw [up_s, va_up_n (by omega), up_s, va_up_n (by omega)]; exact b3 q hq) ?_ ?_ ?_
                · rw [up_s, va_up_s]
                · rw [up_s, va_up_n (by decide), up_s, va_up_n (by decide)]; exact b6
                · rw [up_s, va_up_n (by decide), up_s, va_up_s]
              · rw [if_neg h99] at hn
                refine st_aload rX8_advances_71 rfl ?_
                refine st_aload rX8_advances_72 rfl ?_
                refine st_getI rX8_advances_73 (by first | assumption | decide | exact ⟨by decide, rfl, by decide⟩) rfl ?_
                refine st_top b4 ?_
                refine cV2i rX8_advances_76 (by first | assumption | decide | exact ⟨by decide, rfl, by decide⟩) (s_letter hT2 (by omega) ?_) rfl (by decide)
                rw [if_neg hne]
                refine st_c rX8_advances_79 ?_
                refine st_c rX8_advances_81 ?_
                refine cS3i rX8_advances_83 (s_in ?_) rfl
                rw [hir, hdr]
                first | with_reducible refine st_if_eqN rX8_advances_86 (by omega) (fun h => absurd h (by first | decide | omega | (simp; done) | simp_all)) (fun _ => ?_) | refine st_if_eq rX8_advances_86 (fun h => absurd h (by first | decide | omega | (simp; done) | simp_all)) (fun _ => ?_)
                refine st_aload rX8_advances_89 rfl ?_
                refine st_aload rX8_advances_90 rfl ?_
                refine st_getI rX8_advances_91 (by first | assumption | decide | exact ⟨by decide, rfl, by decide⟩) rfl ?_
                refine st_top b7 ?_
                refine st_c rX8_advances_94 ?_
                first | with_reducible refine st_icmp_leN rX8_advances_96 (by omega) (by omega) (fun _ => ?_) (fun h => absurd h (by first | decide | omega | (simp; done) | simp_all)) | refine st_icmp_le rX8_advances_96 (fun _ => ?_) (fun h => absurd h (by first | decide | omega | (simp; done) | simp_all))
                refine st_c rX8_advances_106 ?_
                refine st_aload rX8_advances_108 rfl ?_
                refine st_getI rX8_advances_109 (by first | assumption | decide | exact ⟨by decide, rfl, by decide⟩) rfl ?_
                refine st_top b7 ?_
                first | with_reducible refine st_imulN rX8_advances_112 ?_ | refine st_imul rX8_advances_112 ?_
                refine st_aload rX8_advances_113 rfl ?_
                refine st_aload rX8_advances_114 rfl ?_
                refine st_getI rX8_advances_115 (by first | assumption | decide | exact ⟨by decide, rfl, by decide⟩) rfl ?_
                refine st_top b4 ?_
                refine cV2i rX8_advances_118 (by first | assumption | decide | exact ⟨by decide, rfl, by decide⟩) (s_letter hT2 (by omega) ?_) rfl (by decide)
                rw [if_neg hne]
                first | with_reducible refine st_iaddN rX8_advances_121 ?_ | refine st_iadd rX8_advances_121 ?_
                refine st_c rX8_advances_122 ?_
                first | with_reducible refine st_isubN rX8_advances_124 (by omega) ?_ | refine st_isub rX8_advances_124 ?_
                refine st_putI rfl rX8_advances_125 (by first | assumption | decide | exact ⟨by decide, rfl, by decide⟩) ?_
                refine st_aload rX8_advances_128 rfl ?_
                refine st_dup rX8_advances_129 rfl ?_
                refine st_getI rX8_advances_130 (by first | assumption | decide | exact ⟨by decide, rfl, by decide⟩) rfl ?_
                refine st_top (show _ = nI r by rw [up_s, va_up_n (by decide)]; exact b4) ?_
                refine st_c rX8_advances_133 ?_
                first | with_reducible refine st_iaddN rX8_advances_134 ?_ | refine st_iadd rX8_advances_134 ?_
                refine st_putI rfl rX8_advances_135 (by first | assumption | decide | exact ⟨by decide, rfl, by decide⟩) ?_
                refine st_goto rX8_advances_138 ?_
                refine ih (r + 1) _ _ (by omega) hn (by omega) (fun a ha => by rw [up_n ha, up_n ha, b1 a ha]) (fun q hq => by rw [up_s, va_up_n (by omega), up_s, va_up_n (by omega)]; exact b3 q hq) ?_ ?_ ?_
                · rw [up_s, va_up_s]
                · rw [up_s, va_up_n (by decide), up_s, va_up_n (by decide)]; exact b6
                · rw [up_s, va_up_n (by decide), up_s, va_up_s]
        refine st_aload rX8_advances_34 rfl ?_
        refine st_aload rX8_advances_35 rfl ?_
        refine st_getI rX8_advances_36 (by first | assumption | decide | exact ⟨by decide, rfl, by decide⟩) rfl ?_
        refine st_top a4 ?_
        refine cV2i rX8_advances_39 (by first | assumption | decide | exact ⟨by decide, rfl, by decide⟩) (s_letter hT2 (by omega) ?_) rfl (by decide)
        rw [if_neg e]
        refine st_istore1 rX8_advances_42 rfl ?_
        refine st_iload rX8_advances_43 rfl ?_
        first | with_reducible refine st_if_geN rX8_advances_44 (by omega) (fun _ => ?_) (fun h => absurd h (by first | decide | omega | (simp; done) | simp_all)) | refine st_if_ge rX8_advances_44 (fun _ => ?_) (fun h => absurd h (by first | decide | omega | (simp; done) | simp_all))
        refine st_iload rX8_advances_55 rfl ?_
        refine st_c rX8_advances_56 ?_
        refine st_c rX8_advances_58 ?_
        refine cS3i rX8_advances_60 (s_in ?_) rfl
        rw [hin, hd]
        first | with_reducible refine st_if_eqN rX8_advances_63 (by omega) (fun h => absurd h (by first | decide | omega | (simp; done) | simp_all)) (fun _ => ?_) | refine st_if_eq rX8_advances_63 (fun h => absurd h (by first | decide | omega | (simp; done) | simp_all)) (fun _ => ?_)
        refine st_aload rX8_advances_66 rfl ?_
        refine st_c rX8_advances_67 ?_
        refine st_putI rfl rX8_advances_68 (by first | assumption | decide | exact ⟨by decide, rfl, by decide⟩) ?_
        refine key2 (L - s) s 0 _ (by omega) (by rw [← hrr, tR, hs]) (by omega) (fun a ha => by rw [up_n ha, g5' a ha]) (fun q hq => by rw [up_s, va_up_n (by omega)]; exact a3 q hq) ?_ ?_ ?_
        · rw [up_s, va_up_n (by decide)]; exact a4
        · rw [up_s, va_up_n (by decide)]; exact a6
        · rw [up_s, va_up_s]
  have key : ∀ (f q : Nat) (I2 : Nat → Nat → Int32), q + f = L → spF l f q = tS l L p → (∀ a, a ≠ 103 → I2 a = I a) → (∀ q, q < 4 ∨ 7 < q → I2 103 q = I 103 q) → I2 103 4 = nI q → V (d + 1) 123 123 mX8_advances 0 [.ref 103, vJ] [] (I2, J, vRR ρ) (Kv kv) := by
    intro f
    induction f with
    | zero =>
      intro q I2 hf hsp g g3 g4
      have hT2 := hMT I2 g g3
      have hf : q = L := by omega
      simp only [spF] at hsp
      refine st_aload rX8_advances_0 rfl ?_
      refine st_aload rX8_advances_1 rfl ?_
      refine st_getI rX8_advances_2 (by first | assumption | decide | exact ⟨by decide, rfl, by decide⟩) rfl ?_
      refine st_top g4 ?_
      refine cV2i rX8_advances_5 (by first | assumption | decide | exact ⟨by decide, rfl, by decide⟩) (s_letter hT2 (by omega) ?_) rfl (by decide)
      rw [if_pos hf]
      refine st_c rX8_advances_8 ?_
      refine st_icmp_ne rX8_advances_10 (fun _ => ?_) (fun h => absurd h (by decide))
      exact rest I2 g g3 (by rw [← hsp]; exact g4)
    | succ f ih =>
      intro q I2 hf hsp g g3 g4
      have hT2 := hMT I2 g g3
      have hne : ¬ q = L := by omega
      have hql := hT.2.2 q (by omega)
      simp only [spF] at hsp
      by_cases h32 : l q = 32
      · rw [if_pos h32] at hsp
        refine st_aload rX8_advances_0 rfl ?_
        refine st_aload rX8_advances_1 rfl ?_
        refine st_getI rX8_advances_2 (by first | assumption | decide | exact ⟨by decide, rfl, by decide⟩) rfl ?_
        refine st_top g4 ?_
        refine cV2i rX8_advances_5 (by first | assumption | decide | exact ⟨by decide, rfl, by decide⟩) (s_letter hT2 (by omega) ?_) rfl (by decide)
        rw [if_neg hne]
        refine st_c rX8_advances_8 ?_
        first | with_reducible refine st_icmp_neN rX8_advances_10 (by omega) (by omega) (fun h => absurd h (by first | decide | omega | (simp; done) | simp_all)) (fun _ => ?_) | refine st_icmp_ne rX8_advances_10 (fun h => absurd h (by first | decide | omega | (simp; done) | simp_all)) (fun _ => ?_)
        refine st_aload rX8_advances_13 rfl ?_
        refine st_dup rX8_advances_14 rfl ?_
        refine st_getI rX8_advances_15 (by first | assumption | decide | exact ⟨by decide, rfl, by decide⟩) rfl ?_
        refine st_top g4 ?_
        refine st_c rX8_advances_18 ?_
        first | with_reducible refine st_iaddN rX8_advances_19 ?_ | refine st_iadd rX8_advances_19 ?_
        refine st_putI rfl rX8_advances_20 (by first | assumption | decide | exact ⟨by decide, rfl, by decide⟩) ?_
        refine st_goto rX8_advances_23 ?_
        refine ih (q + 1) _ (by omega) hsp (fun a ha => by rw [up_n ha, g a ha]) (fun q hq => by rw [up_s, va_up_n (by omega)]; exact g3 q hq) (by rw [up_s, va_up_s])
      · rw [if_neg h32] at hsp
        refine st_aload rX8_advances_0 rfl ?_
        refine st_aload rX8_advances_1 rfl ?_
        refine st_getI rX8_advances_2 (by first | assumption | decide | exact ⟨by decide, rfl, by decide⟩) rfl ?_
        refine st_top g4 ?_
        refine cV2i rX8_advances_5 (by first | assumption | decide | exact ⟨by decide, rfl, by decide⟩) (s_letter hT2 (by omega) ?_) rfl (by decide)
        rw [if_neg hne]
        refine st_c rX8_advances_8 ?_
        first | with_reducible refine st_icmp_neN rX8_advances_10 (by omega) (by omega) (fun _ => ?_) (fun h => absurd h (by first | decide | omega | (simp; done) | simp_all)) | refine st_icmp_ne rX8_advances_10 (fun _ => ?_) (fun h => absurd h (by first | decide | omega | (simp; done) | simp_all))
        exact rest I2 g g3 (by rw [← hsp]; exact g4)
  exact key (L - p) p I (by omega) rfl (fun a _ => rfl) (fun q _ => rfl) h4
end P41
