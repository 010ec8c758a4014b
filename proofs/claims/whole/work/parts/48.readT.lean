/-! ===== the class reads the text ===== -/
theorem tC_lt {l : Nat → Nat} {L p : Nat} (hp : p ≤ L) (h : tC l L p ≠ 0) : p < pN l L p 1 ∧ p < L := by
  have h1 := tS_le l hp
  have h2 := tN_le l hp
  have h3 : tS l L p ≠ L := fun e => h ((tC_0 l).mpr e)
  have h4 := h2.2.2 (by omega)
  simp only [pN]
  omega
theorem pN_mono {l : Nat → Nat} {L p : Nat} (hp : p ≤ L) : ∀ i, pN l L p i ≤ pN l L p (i + 1) := by
  intro i
  have h := pN_le l hp i
  have h1 := tS_le l h
  have h2 := tN_le l h
  simp only [pN]
  omega
section P48
variable {d : Nat} {I A : Nat → Nat → Int32} {J : Nat → Nat → Int64} {ρ m no : Nat} {T : Int64} {k : Int32 → vS → Prop} {kl : Int64 → vS → Prop} {kv : vS → Prop}
variable {σ : Nat} {D : Nat → Nat → Nat}
set_option maxHeartbeats 4000000 in
set_option maxRecDepth 100000 in
theorem s_readInto {l : Nat → Nat} {L : Nat} {kk : Int32 → vS → Prop} (hT : CX I l L) (hσ : vTo σ)
    (hbad : ∀ I' s n E, FrR I I' σ → prs l L (L + 1) d0 0 0 = (some s, n, E) → s ≤ L → kk (-10 - nI s) (I', J, vRR ρ))
    (hgood : ∀ I' n E, FrR I I' σ → prs l L (L + 1) d0 0 0 = (none, n, E) → n ≤ L → CD I' σ E → OkD E → kk (nI n) (I', J, vRR ρ)) : V (d + 4) 123 123 mX5_readInto 0 [.ref 1, .ref σ, vJ] [] (I, J, vRR ρ) (Ki kk) := by
  have hσ4 : 4 ≤ σ ∧ σ ≤ 13 := by rcases hσ with h | h <;> omega
  obtain ⟨hto, -⟩ := toldF hσ
  have hL := hT.1
  have hcx : ∀ I2 : Nat → Nat → Int32, FrR I I2 σ → CX I2 l L := fun I2 g => ⟨hT.1, by rw [g.2 1 (by omega)]; exact hT.2.1, fun j hj => by rw [g.1 2 (by decide) (by decide) (by omega)]; exact hT.2.2 j hj⟩
  have key : ∀ (f p n : Nat) (D : Nat → Nat → Nat) (I2 : Nat → Nat → Int32), p + f = L + 1 ∨ (p ≤ L ∧ L + 1 ≤ p + f) → p ≤ L → n ≤ p → FrR I I2 σ → CD I2 σ D → OkD D → prs l L f D p n = prs l L (L + 1) d0 0 0 → I2 1 3 = nI (pN l L p 1) → I2 1 4 = nI (tS l L p) → I2 1 5 = nI (tK l L p) → V (d + 4) 123 123 mX5_readInto 15 [.ref 1, .ref σ, .int (nI n)] [] (I2, J, vRR ρ) (Ki kk) := by
    intro f
    induction f with
    | zero => intro p n D I2 hf hp; omega
    | succ f ih =>
      intro p n D I2 hf hp hn g hD hO hpr g3 g4 g5
      simp only [prs] at hpr
      have hkc := tK_c l L p
      have hv1 := tV_1 l (L := L) (p := p)
      by_cases h0 : tC l L p = 0
      · rw [if_pos h0] at hpr
        have hk0 : tK l L p = 0 := by omega
        rw [hk0] at g5
        refine st_aload rX5_readInto_15 rfl ?_
        refine st_getI rX5_readInto_16 (by first | assumption | decide | exact ⟨by decide, rfl, by decide⟩) rfl ?_
        refine st_top g5 ?_
        first | with_reducible refine st_if_eqN rX5_readInto_19 (by omega) (fun _ => ?_) (fun h => absurd h (by first | decide | omega | (simp; done) | simp_all)) | refine st_if_eq rX5_readInto_19 (fun _ => ?_) (fun h => absurd h (by first | decide | omega | (simp; done) | simp_all))
        refine st_iload rX5_readInto_55 rfl ?_
        refine st_iret rX5_readInto_56 rfl ?_
        exact hgood I2 n D g hpr.symm (by omega) hD hO
      · rw [if_neg h0] at hpr
        have hlt := tC_lt hp h0
        have hk0 : tK l L p ≠ 0 ∧ tK l L p < 200 := by omega
        have bad : ∀ I3, FrR I2 I3 σ → stI l L D p ≠ 5 → I3 1 4 = nI (tS l L (pN l L p (stI l L D p))) → V (d + 4) 123 123 mX5_readInto 34 [.ref 1, .ref σ, .int (nI n)] [.int (nI 0)] (I3, J, vRR ρ) (Ki kk) := by
          intro I3 b hne b4
          rw [if_neg hne] at hpr
          first | with_reducible refine st_if_neN rX5_readInto_34 (by omega) (fun h => absurd h (by first | decide | omega | (simp; done) | simp_all)) (fun _ => ?_) | refine st_if_ne rX5_readInto_34 (fun h => absurd h (by first | decide | omega | (simp; done) | simp_all)) (fun _ => ?_)
          refine st_c rX5_readInto_37 ?_
          refine st_aload rX5_readInto_39 rfl ?_
          refine st_getI rX5_readInto_40 (by first | assumption | decide | exact ⟨by decide, rfl, by decide⟩) rfl ?_
          refine st_top b4 ?_
          refine st_isub rX5_readInto_43 ?_
          refine st_iret rX5_readInto_44 rfl ?_
          exact hbad I3 _ n D ⟨fun a h1 h2 h3 => by rw [b.1 a h1 h2 h3, g.1 a h1 h2 h3], fun q hq => by rw [b.2 q hq, g.2 q hq]⟩ hpr.symm (tS_le l (pN_le l hp _)).2.1
        have good : ∀ I3, FrR I2 I3 σ → stI l L D p = 5 → CD I3 σ (stD l L D p) → I3 1 3 = nI (pN l L p 5) → V (d + 4) 123 123 mX5_readInto 34 [.ref 1, .ref σ, .int (nI n)] [.int (nI 1)] (I3, J, vRR ρ) (Ki kk) := by
          intro I3 b h5 b4 b3
          rw [if_pos h5] at hpr
          have g9 : FrR I I3 σ := ⟨fun a h1 h2 h3 => by rw [b.1 a h1 h2 h3, g.1 a h1 h2 h3], fun q hq => by rw [b.2 q hq, g.2 q hq]⟩
          have m1 : pN l L p 1 ≤ pN l L p 2 := pN_mono (l := l) hp 1
          have m2 : pN l L p 2 ≤ pN l L p 3 := pN_mono (l := l) hp 2
          have m3 : pN l L p 3 ≤ pN l L p 4 := pN_mono (l := l) hp 3
          have m4 : pN l L p 4 ≤ pN l L p 5 := pN_mono (l := l) hp 4
          have hp5 := pN_le l hp 5
          first | with_reducible refine st_if_neN rX5_readInto_34 (by omega) (fun _ => ?_) (fun h => absurd h (by first | decide | omega | (simp; done) | simp_all)) | refine st_if_ne rX5_readInto_34 (fun _ => ?_) (fun h => absurd h (by first | decide | omega | (simp; done) | simp_all))
          first | with_reducible refine st_iincN2 rX5_readInto_45 rfl ?_ | refine st_iinc2 rX5_readInto_45 rfl ?_
          refine st_aload rX5_readInto_48 rfl ?_
          refine cV1v rX5_readInto_49 (by first | assumption | decide | exact ⟨by decide, rfl, by decide⟩) (s_nextToken (hcx I3 g9) hp5 b3 (fun I4 e1 e2 e3 e4 e5 e6 => ?_)) rfl (by decide)
          refine st_goto rX5_readInto_52 ?_
          exact ih (pN l L p 5) (n + 1) (stD l L D p) I4 (by omega) hp5 (by omega) ⟨fun a h1 h2 h3 => by rw [e1 a h1, g9.1 a h1 h2 h3], fun q hq => by rw [e2 q hq, g9.2 q hq]⟩ (CD_c b4 (fun a h1 h2 => e1 a (by omega))) (ok_st hO h5) hpr e3 e4 e5
        refine st_aload rX5_readInto_15 rfl ?_
        refine st_getI rX5_readInto_16 (by first | assumption | decide | exact ⟨by decide, rfl, by decide⟩) rfl ?_
        refine st_top g5 ?_
        first | with_reducible refine st_if_eqN rX5_readInto_19 (by omega) (fun h => absurd h (by first | decide | omega | (simp; done) | simp_all)) (fun _ => ?_) | refine st_if_eq rX5_readInto_19 (fun h => absurd h (by first | decide | omega | (simp; done) | simp_all)) (fun _ => ?_)
        refine st_iload rX5_readInto_22 rfl ?_
        refine st_c rX5_readInto_23 ?_
        first | with_reducible refine st_icmp_geN rX5_readInto_26 (by omega) (by omega) (fun h => absurd h (by first | decide | omega | (simp; done) | simp_all)) (fun _ => ?_) | refine st_icmp_ge rX5_readInto_26 (fun h => absurd h (by first | decide | omega | (simp; done) | simp_all)) (fun _ => ?_)
        refine st_aload rX5_readInto_29 rfl ?_
        refine st_aload rX5_readInto_30 rfl ?_
        refine cV2i rX5_readInto_31 (by first | assumption | decide | exact ⟨by decide, rfl, by decide⟩) (s_readItem (hcx I2 g) hp hσ hD hO g3 g4 g5 bad good) rfl (by decide)
        skip
  refine st_aload rX5_readInto_0 rfl ?_
  refine cV1v rX5_readInto_1 (by first | assumption | decide | exact ⟨by decide, rfl, by decide⟩) (s_temp hσ (fun I2 a1 a2 => ?_)) rfl (by decide)
  refine st_aload rX5_readInto_4 rfl ?_
  refine st_c rX5_readInto_5 ?_
  refine st_putI rfl rX5_readInto_6 (by first | assumption | decide | exact ⟨by decide, rfl, by decide⟩) ?_
  refine st_c rX5_readInto_9 ?_
  refine st_istore2 rX5_readInto_10 rfl ?_
  refine st_aload rX5_readInto_11 rfl ?_
  refine cV1v rX5_readInto_12 (by first | assumption | decide | exact ⟨by decide, rfl, by decide⟩) (s_nextToken (p := 0) (hcx _ ⟨fun a h1 h2 h3 => by rw [up_n h1, a1 a (by omega) (by omega)], fun q hq => by rw [up_s, va_up_n (by omega), a1 1 (by omega) (by omega)]⟩) (Nat.zero_le _) (by rw [up_s, va_up_s]) (fun I4 e1 e2 e3 e4 e5 e6 => ?_)) rfl (by decide)
  refine key (L + 1) 0 0 d0 I4 (by omega) (by omega) (by omega) ⟨fun a h1 h2 h3 => by rw [e1 a h1, up_n h1, a1 a (by omega) (by omega)], fun q hq => by rw [e2 q hq, up_s, va_up_n (by omega), a1 1 (by omega) (by omega)]⟩ ?_ ok_d0 rfl e3 e4 e5
  exact CD_c a2 (fun a h1 h2 => by rw [e1 a (by omega), up_n (by omega)])
end P48
