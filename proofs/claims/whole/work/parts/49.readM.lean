/-! ===== the reference reads: takes, number ===== -/
def fN (f : Option Nat) (b : Bool) (s : Nat) : Option Nat := match f with
  | some x => some x
  | none => if b = true then none else some s
theorem fN_some (x : Nat) (b : Bool) (s : Nat) : fN (some x) b s = some x := rfl
theorem fN_t (s : Nat) : fN none true s = none := rfl
theorem fN_f (s : Nat) : fN none false s = some s := rfl
theorem tC_le (l : Nat → Nat) (L p : Nat) : tC l L p ≤ 4 := by
  have := tK_c l L p
  omega
/-- only the reference's reader changed -/
def FrM (I I' : Nat → Nat → Int32) : Prop := (∀ a, a ≠ 103 → I' a = I a) ∧ ∀ q, q < 4 ∨ 8 < q → I' 103 q = I 103 q
theorem FrM_r (I : Nat → Nat → Int32) : FrM I I := ⟨fun _ _ => rfl, fun _ _ => rfl⟩
def TkM (I : Nat → Nat → Int32) (l : Nat → Nat) (L p : Nat) : Prop := I 103 4 = nI (tN l L p) ∧ I 103 5 = nI (tC l L p) ∧ I 103 6 = nI (tS l L p) ∧ (tC l L p = 1 ∨ tC l L p = 2 → I 103 7 = nI (tV l L p))
/-- no fault, and the token from p stands; or the fault -/
def PS (I : Nat → Nat → Int32) (l : Nat → Nat) (L p : Nat) (f : Option Nat) : Prop := match f with
  | none => I 103 8 = -1 ∧ TkM I l L p
  | some s => s ≤ 200 ∧ I 103 8 = nI s
theorem PS_c {I I' : Nat → Nat → Int32} {l : Nat → Nat} {L p : Nat} {f : Option Nat} (h : PS I l L p f) (e : I' 103 = I 103) : PS I' l L p f := by
  cases f <;> simp only [PS, TkM, e] at h ⊢ <;> exact h
theorem MT_f {I I' : Nat → Nat → Int32} {l : Nat → Nat} {L : Nat} (hT : MT I l L) (g : I' 104 = I 104) (g3 : I' 103 3 = I 103 3) : MT I' l L := ⟨hT.1, by rw [g3]; exact hT.2.1, fun j hj => by rw [g]; exact hT.2.2 j hj⟩
theorem MT_M {I I' : Nat → Nat → Int32} {l : Nat → Nat} {L : Nat} (hT : MT I l L) (g : FrM I I') : MT I' l L := MT_f hT (g.1 104 (by decide)) (g.2 3 (by omega))
section P49
variable {d : Nat} {I A : Nat → Nat → Int32} {J : Nat → Nat → Int64} {ρ m no : Nat} {T : Int64} {k : Int32 → vS → Prop} {kl : Int64 → vS → Prop} {kv : vS → Prop}
variable {l : Nat → Nat} {L p : Nat} {f : Option Nat} {kk : Int32 → vS → Prop}
set_option maxHeartbeats 4000000 in
set_option maxRecDepth 100000 in
theorem s_isWell (h : PS I l L p f) (hk : kk (vb f.isNone) (I, J, vRR ρ)) : V d 123 123 mX8_isWell 0 [.ref 103] [] (I, J, vRR ρ) (Ki kk) := by
  cases f with
  | none =>
    obtain ⟨h8, -⟩ := h
    refine st_aload rX8_isWell_0 rfl ?_
    refine st_getI rX8_isWell_1 (by first | assumption | decide | exact ⟨by decide, rfl, by decide⟩) rfl ?_
    refine st_top h8 ?_
    first | with_reducible refine st_if_geN rX8_isWell_4 (by omega) (fun h => absurd h (by first | decide | omega | (simp; done) | simp_all)) (fun _ => ?_) | refine st_if_ge rX8_isWell_4 (fun h => absurd h (by first | decide | omega | (simp; done) | simp_all)) (fun _ => ?_)
    refine st_c rX8_isWell_7 ?_
    refine st_goto rX8_isWell_8 ?_
    refine st_zret rX8_isWell_12 rfl (by first | rfl | exact vb_nar _) ?_
    exact hk
  | some s =>
    obtain ⟨hs, h8⟩ := h
    refine st_aload rX8_isWell_0 rfl ?_
    refine st_getI rX8_isWell_1 (by first | assumption | decide | exact ⟨by decide, rfl, by decide⟩) rfl ?_
    refine st_top h8 ?_
    first | with_reducible refine st_if_geN rX8_isWell_4 (by omega) (fun _ => ?_) (fun h => absurd h (by first | decide | omega | (simp; done) | simp_all)) | refine st_if_ge rX8_isWell_4 (fun _ => ?_) (fun h => absurd h (by first | decide | omega | (simp; done) | simp_all))
    refine st_c rX8_isWell_11 ?_
    refine st_zret rX8_isWell_12 rfl (by first | rfl | exact vb_nar _) ?_
    exact hk
set_option maxHeartbeats 4000000 in
set_option maxRecDepth 100000 in
theorem s_takes {b : Bool} (hT : MT I l L) (hp : p ≤ L) (h : PS I l L p f) (hk : ∀ I', FrM I I' → PS I' l L (tN l L p) (fN f b (tS l L p)) → kk (if (fN f b (tS l L p)).isNone = true then I 103 7 else nI 0) (I', J, vRR ρ)) : V (d + 2) 123 123 mX8_takes 0 [.ref 103, .int (vb b), vJ] [] (I, J, vRR ρ) (Ki kk) := by
  have h200 : tS l L p ≤ 200 := by
    have h1 := (tS_le l hp).2.1
    have h2 := hT.1
    omega
  cases f with
  | some s =>
    rw [fN_some] at hk
    refine st_aload rX8_takes_0 rfl ?_
    refine cV1i rX8_takes_1 (by first | assumption | decide | exact ⟨by decide, rfl, by decide⟩) (s_isWell h ?_) rfl (by decide)
    rw [show (some s).isNone = false from rfl]
    first | with_reducible refine st_if_neN rX8_takes_4 (by omega) (fun h => absurd h (by first | decide | omega | (simp; done) | simp_all)) (fun _ => ?_) | refine st_if_ne rX8_takes_4 (fun h => absurd h (by first | decide | omega | (simp; done) | simp_all)) (fun _ => ?_)
    refine st_c rX8_takes_7 ?_
    refine st_iret rX8_takes_8 rfl ?_
    exact hk I (FrM_r I) h
  | none =>
    cases b with
    | false =>
      rw [fN_f] at hk
      have hh := h
      obtain ⟨h8, -, -, h6, -⟩ := hh
      refine st_aload rX8_takes_0 rfl ?_
      refine cV1i rX8_takes_1 (by first | assumption | decide | exact ⟨by decide, rfl, by decide⟩) (s_isWell h ?_) rfl (by decide)
      first | with_reducible refine st_if_neN rX8_takes_4 (by omega) (fun _ => ?_) (fun h => absurd h (by first | decide | omega | (simp; done) | simp_all)) | refine st_if_ne rX8_takes_4 (fun _ => ?_) (fun h => absurd h (by first | decide | omega | (simp; done) | simp_all))
      refine st_iload rX8_takes_9 rfl ?_
      first | with_reducible refine st_if_neN rX8_takes_10 (by omega) (fun h => absurd h (by first | decide | omega | (simp; done) | simp_all)) (fun _ => ?_) | refine st_if_ne rX8_takes_10 (fun h => absurd h (by first | decide | omega | (simp; done) | simp_all)) (fun _ => ?_)
      refine st_aload rX8_takes_13 rfl ?_
      refine st_aload rX8_takes_14 rfl ?_
      refine st_getI rX8_takes_15 (by first | assumption | decide | exact ⟨by decide, rfl, by decide⟩) rfl ?_
      refine st_top h6 ?_
      refine st_putI rfl rX8_takes_18 (by first | assumption | decide | exact ⟨by decide, rfl, by decide⟩) ?_
      refine st_c rX8_takes_21 ?_
      refine st_iret rX8_takes_22 rfl ?_
      exact hk _ ⟨fun a ha => up_n ha, fun q hq => by rw [up_s, va_up_n (by omega)]⟩ ⟨h200, by rw [up_s, va_up_s]⟩
    | true =>
      rw [fN_t] at hk
      have hh := h
      obtain ⟨h8, h4, -, -, -⟩ := hh
      refine st_aload rX8_takes_0 rfl ?_
      refine cV1i rX8_takes_1 (by first | assumption | decide | exact ⟨by decide, rfl, by decide⟩) (s_isWell h ?_) rfl (by decide)
      first | with_reducible refine st_if_neN rX8_takes_4 (by omega) (fun _ => ?_) (fun h => absurd h (by first | decide | omega | (simp; done) | simp_all)) | refine st_if_ne rX8_takes_4 (fun _ => ?_) (fun h => absurd h (by first | decide | omega | (simp; done) | simp_all))
      refine st_iload rX8_takes_9 rfl ?_
      first | with_reducible refine st_if_neN rX8_takes_10 (by omega) (fun _ => ?_) (fun h => absurd h (by first | decide | omega | (simp; done) | simp_all)) | refine st_if_ne rX8_takes_10 (fun _ => ?_) (fun h => absurd h (by first | decide | omega | (simp; done) | simp_all))
      refine st_aload rX8_takes_23 rfl ?_
      refine st_getI rX8_takes_24 (by first | assumption | decide | exact ⟨by decide, rfl, by decide⟩) rfl ?_
      refine st_istore2 rX8_takes_27 rfl ?_
      refine st_aload rX8_takes_28 rfl ?_
      refine cV1v rX8_takes_29 (by first | assumption | decide | exact ⟨by decide, rfl, by decide⟩) (s_advances hT (tN_le l hp).2.1 h4 (fun I2 e1 e2 e3 e4 e5 e6 => ?_)) rfl (by decide)
      refine st_iload rX8_takes_32 rfl ?_
      refine st_iret rX8_takes_33 rfl ?_
      exact hk I2 ⟨e1, fun q hq => e2 q (by omega)⟩ ⟨by rw [e2 8 (by omega)]; exact h8, e3, e4, e5, e6⟩
set_option maxHeartbeats 4000000 in
set_option maxRecDepth 100000 in
theorem s_nmb {lo hi : Int32} (hT : MT I l L) (hp : p ≤ L) (h : PS I l L p f) (hk : ∀ I', FrM I I' → PS I' l L (tN l L p) (fN f (decide (tC l L p = 2) && inR (nI (tV l L p)) lo hi) (tS l L p)) → kk (if (fN f (decide (tC l L p = 2) && inR (nI (tV l L p)) lo hi) (tS l L p)).isNone = true then nI (tV l L p) else nI 0) (I', J, vRR ρ)) : V (d + 3) 123 123 mX8_number 0 [.ref 103, .int lo, .int hi] [] (I, J, vRR ρ) (Ki kk) := by
  have htc := tC_le l L p
  have tail : ∀ b : Bool, (f = none → b = (decide (tC l L p = 2) && inR (nI (tV l L p)) lo hi)) → V (d + 3) 123 123 mX8_number 26 [.ref 103, .int lo, .int hi] [.int (vb b), .ref 103] (I, J, vRR ρ) (Ki kk) := by
    intro b hb
    refine cV2i rX8_number_26 (by first | assumption | decide | exact ⟨by decide, rfl, by decide⟩) (s_takes hT hp h (fun I2 g hP => ?_)) rfl (by decide)
    refine st_iret rX8_number_29 rfl ?_
    skip
    have e : fN f b (tS l L p) = fN f (decide (tC l L p = 2) && inR (nI (tV l L p)) lo hi) (tS l L p) := by
      cases f with
      | none => rw [hb rfl]
      | some s => rfl
    have e2 : (if (fN f b (tS l L p)).isNone = true then I 103 7 else nI 0) = (if (fN f b (tS l L p)).isNone = true then nI (tV l L p) else nI 0) := by
      split
      · rename_i hn
        cases f with
        | some s => rw [fN_some] at hn; cases hn
        | none =>
          cases b with
          | false => rw [fN_f] at hn; cases hn
          | true =>
            have h2 := (hb rfl).symm
            rw [Bool.and_eq_true, decide_eq_true_eq] at h2
            obtain ⟨-, -, -, -, h7⟩ := h
            exact h7 (Or.inr h2.1)
      · rfl
    rw [e2, e]
    rw [e] at hP
    exact hk I2 g hP
  cases f with
  | some s =>
    refine st_aload rX8_number_0 rfl ?_
    refine st_aload rX8_number_1 rfl ?_
    refine st_getI rX8_number_2 (by first | assumption | decide | exact ⟨by decide, rfl, by decide⟩) rfl ?_
    refine st_c rX8_number_5 ?_
    first | with_reducible refine st_icmp_neN rX8_number_6 (by omega) (by omega) (fun h6 => ?_) (fun h6 => ?_) | refine st_icmp_ne rX8_number_6 (fun h6 => ?_) (fun h6 => ?_)
    · refine st_c rX8_number_25 ?_
      first | exact tail true (fun h => nomatch h) | exact tail false (fun h => nomatch h)
    · refine st_aload rX8_number_9 rfl ?_
      refine st_getI rX8_number_10 (by first | assumption | decide | exact ⟨by decide, rfl, by decide⟩) rfl ?_
      refine st_iload rX8_number_13 rfl ?_
      refine st_iload rX8_number_14 rfl ?_
      refine cS3i rX8_number_15 (s_in ?_) rfl
      first | with_reducible refine st_if_eqN rX8_number_18 (by omega) (fun h18 => ?_) (fun h18 => ?_) | refine st_if_eq rX8_number_18 (fun h18 => ?_) (fun h18 => ?_)
      · refine st_c rX8_number_25 ?_
        first | exact tail true (fun h => nomatch h) | exact tail false (fun h => nomatch h)
      · refine st_c rX8_number_21 ?_
        refine st_goto rX8_number_22 ?_
        first | exact tail true (fun h => nomatch h) | exact tail false (fun h => nomatch h)
  | none =>
    have hh := h
    obtain ⟨-, -, h5, -, h7⟩ := hh
    by_cases h2 : tC l L p = 2
    · have h7 := h7 (Or.inr h2)
      rw [h2] at h5
      cases hin : inR (nI (tV l L p)) lo hi with
      | true =>
        refine st_aload rX8_number_0 rfl ?_
        refine st_aload rX8_number_1 rfl ?_
        refine st_getI rX8_number_2 (by first | assumption | decide | exact ⟨by decide, rfl, by decide⟩) rfl ?_
        refine st_top h5 ?_
        refine st_c rX8_number_5 ?_
        first | with_reducible refine st_icmp_neN rX8_number_6 (by omega) (by omega) (fun h => absurd h (by first | decide | omega | (simp; done) | simp_all)) (fun _ => ?_) | refine st_icmp_ne rX8_number_6 (fun h => absurd h (by first | decide | omega | (simp; done) | simp_all)) (fun _ => ?_)
        refine st_aload rX8_number_9 rfl ?_
        refine st_getI rX8_number_10 (by first | assumption | decide | exact ⟨by decide, rfl, by decide⟩) rfl ?_
        refine st_top h7 ?_
        refine st_iload rX8_number_13 rfl ?_
        refine st_iload rX8_number_14 rfl ?_
        refine cS3i rX8_number_15 (s_in ?_) rfl
        rw [hin]
        first | with_reducible refine st_if_eqN rX8_number_18 (by omega) (fun h => absurd h (by first | decide | omega | (simp; done) | simp_all)) (fun _ => ?_) | refine st_if_eq rX8_number_18 (fun h => absurd h (by first | decide | omega | (simp; done) | simp_all)) (fun _ => ?_)
        refine st_c rX8_number_21 ?_
        refine st_goto rX8_number_22 ?_
        exact tail true (fun _ => by rw [decide_eq_true h2, hin]; rfl)
      | false =>
        refine st_aload rX8_number_0 rfl ?_
        refine st_aload rX8_number_1 rfl ?_
        refine st_getI rX8_number_2 (by first | assumption | decide | exact ⟨by decide, rfl, by decide⟩) rfl ?_
        refine st_top h5 ?_
        refine st_c rX8_number_5 ?_
        first | with_reducible refine st_icmp_neN rX8_number_6 (by omega) (by omega) (fun h => absurd h (by first | decide | omega | (simp; done) | simp_all)) (fun _ => ?_) | refine st_icmp_ne rX8_number_6 (fun h => absurd h (by first | decide | omega | (simp; done) | simp_all)) (fun _ => ?_)
        refine st_aload rX8_number_9 rfl ?_
        refine st_getI rX8_number_10 (by first | assumption | decide | exact ⟨by decide, rfl, by decide⟩) rfl ?_
        refine st_top h7 ?_
        refine st_iload rX8_number_13 rfl ?_
        refine st_iload rX8_number_14 rfl ?_
        refine cS3i rX8_number_15 (s_in ?_) rfl
        rw [hin]
        first | with_reducible refine st_if_eqN rX8_number_18 (by omega) (fun _ => ?_) (fun h => absurd h (by first | decide | omega | (simp; done) | simp_all)) | refine st_if_eq rX8_number_18 (fun _ => ?_) (fun h => absurd h (by first | decide | omega | (simp; done) | simp_all))
        refine st_c rX8_number_25 ?_
        exact tail false (fun _ => by rw [hin, Bool.and_false])
    · refine st_aload rX8_number_0 rfl ?_
      refine st_aload rX8_number_1 rfl ?_
      refine st_getI rX8_number_2 (by first | assumption | decide | exact ⟨by decide, rfl, by decide⟩) rfl ?_
      refine st_top h5 ?_
      refine st_c rX8_number_5 ?_
      first | with_reducible refine st_icmp_neN rX8_number_6 (by omega) (by omega) (fun _ => ?_) (fun h => absurd h (by first | decide | omega | (simp; done) | simp_all)) | refine st_icmp_ne rX8_number_6 (fun _ => ?_) (fun h => absurd h (by first | decide | omega | (simp; done) | simp_all))
      refine st_c rX8_number_25 ?_
      exact tail false (fun _ => by rw [decide_eq_false h2, Bool.false_and])
end P49
