/-! ===== the class reads an item, the text: readItem, readInto ===== -/
section P47
variable {d : Nat} {I A : Nat → Nat → Int32} {J : Nat → Nat → Int64} {ρ m no : Nat} {T : Int64} {k : Int32 → vS → Prop} {kl : Int64 → vS → Prop} {kv : vS → Prop}
variable {σ : Nat} {D : Nat → Nat → Nat}
/-- nothing but the reader's own cells changed -/
def FrR (I I' : Nat → Nat → Int32) (σ : Nat) : Prop := (∀ a, a ≠ 1 → a ≠ 3 → a < σ ∨ σ + 8 < a → I' a = I a) ∧ ∀ q, q < 3 ∨ 6 < q → I' 1 q = I 1 q
theorem CD_c {I I' : Nat → Nat → Int32} (h : CD I σ D) (g : ∀ a, σ ≤ a → a ≤ σ + 8 → I' a = I a) : CD I' σ D := by
  obtain ⟨c1, c2, c3, c4, c5, c6⟩ := h
  simp (disch := omega) only [CD, g]
  exact ⟨c1, c2, c3, c4, c5, c6⟩
set_option maxHeartbeats 4000000 in
set_option maxRecDepth 100000 in
theorem s_readItem {l : Nat → Nat} {L p : Nat} {kk : Int32 → vS → Prop} (hT : CX I l L) (hp : p ≤ L) (hσ : vTo σ) (hD : CD I σ D) (hO : OkD D) (h3 : I 1 3 = nI (pN l L p 1)) (h4 : I 1 4 = nI (tS l L p)) (h5 : I 1 5 = nI (tK l L p))
    (hbad : ∀ I', FrR I I' σ → stI l L D p ≠ 5 → I' 1 4 = nI (tS l L (pN l L p (stI l L D p))) → kk (nI 0) (I', J, vRR ρ))
    (hgood : ∀ I', FrR I I' σ → stI l L D p = 5 → CD I' σ (stD l L D p) → I' 1 3 = nI (pN l L p 5) → kk (nI 1) (I', J, vRR ρ)) : V (d + 3) 123 123 mX5_readItem 0 [.ref 1, .ref σ, vJ, vJ] [] (I, J, vRR ρ) (Ki kk) := by
  have hσ4 : 4 ≤ σ ∧ σ ≤ 13 := by rcases hσ with h | h <;> omega
  obtain ⟨hto, -⟩ := toldF hσ
  have hple := pN_le l hp
  have hcx : ∀ I2 : Nat → Nat → Int32, FrR I I2 σ → CX I2 l L := fun I2 g => ⟨hT.1, by rw [g.2 1 (by omega)]; exact hT.2.1, fun j hj => by rw [g.1 2 (by decide) (by decide) (by omega)]; exact hT.2.2 j hj⟩
  have hL := hT.1
  have hkc : tC l L p = 1 ∧ tK l L p = tV l L p ∧ (tV l L p = 116 ∨ tV l L p = 100 ∨ tV l L p = 111) ∨ tC l L p ≠ 1 ∧ (tK l L p = 0 ∨ tK l L p = 1 ∨ tK l L p = 2 ∨ tK l L p = 59) := by
    rcases tK_c l L p with h | h | h | h | h
    · right; omega
    · left; exact ⟨h.1, h.2, tV_1 l h.1⟩
    · right; omega
    · right; omega
    · right; omega
  cases hbeg : begOk D (tC l L p) (tV l L p) with
  | false =>
    have hst := stI_b hbeg
    refine st_aload rX5_readItem_0 rfl ?_
    refine st_getI rX5_readItem_1 (by first | assumption | decide | exact ⟨by decide, rfl, by decide⟩) rfl ?_
    refine st_top h5 ?_
    refine st_istore2 rX5_readItem_4 rfl ?_
    refine st_aload rX5_readItem_5 rfl ?_
    refine st_iload rX5_readItem_6 rfl ?_
    refine cS2i rX5_readItem_7 (s_mayBegin hσ hD hO hkc ?_) rfl
    rw [hbeg]
    first | with_reducible refine st_if_neN rX5_readItem_10 (by omega) (fun h => absurd h (by first | decide | omega | (simp; done) | simp_all)) (fun _ => ?_) | refine st_if_ne rX5_readItem_10 (fun h => absurd h (by first | decide | omega | (simp; done) | simp_all)) (fun _ => ?_)
    refine st_c rX5_readItem_13 ?_
    refine st_zret rX5_readItem_14 rfl (by first | rfl | exact vb_nar _) ?_
    exact hbad I ⟨fun _ _ _ _ => rfl, fun _ _ => rfl⟩ (by omega) (by rw [hst]; exact h4)
  | true =>
    have hc1 : tC l L p = 1 := by
      simp only [begOk, Bool.and_eq_true, decide_eq_true_eq] at hbeg
      exact hbeg.1
    have hx := tV_1 l hc1
    have hkx : tK l L p = tV l L p := by rcases hkc with h | h <;> omega
    refine st_aload rX5_readItem_0 rfl ?_
    refine st_getI rX5_readItem_1 (by first | assumption | decide | exact ⟨by decide, rfl, by decide⟩) rfl ?_
    refine st_top h5 ?_
    refine st_istore2 rX5_readItem_4 rfl ?_
    refine st_aload rX5_readItem_5 rfl ?_
    refine st_iload rX5_readItem_6 rfl ?_
    refine cS2i rX5_readItem_7 (s_mayBegin hσ hD hO hkc ?_) rfl
    rw [hbeg]
    first | with_reducible refine st_if_neN rX5_readItem_10 (by omega) (fun _ => ?_) (fun h => absurd h (by first | decide | omega | (simp; done) | simp_all)) | refine st_if_ne rX5_readItem_10 (fun _ => ?_) (fun h => absurd h (by first | decide | omega | (simp; done) | simp_all))
    refine st_c rX5_readItem_15 ?_
    refine st_istore3 rX5_readItem_16 rfl ?_
    skip
    have key : ∀ (r i : Nat) (I2 : Nat → Nat → Int32), i + r = 3 → FrR I I2 σ → (∀ a, σ ≤ a → a ≤ σ + 8 → I2 a = I a) → I2 1 3 = nI (pN l L p (i + 1)) → (∀ j, j < i → nmO l L D p j = true ∧ I2 3 j = nI (tV l L (pN l L p (j + 1)))) → V (d + 3) 123 123 mX5_readItem 17 [.ref 1, .ref σ, .int (nI (tK l L p)), .int (nI i)] [] (I2, J, vRR ρ) (Ki kk) := by
      intro r
      induction r with
      | zero =>
        intro i I2 he g gs g3 gn
        have he : i = 3 := by omega
        subst he
        have hst := stI_e hbeg (fun j hj => (gn j hj).1)
        refine st_iload rX5_readItem_17 rfl ?_
        refine st_c rX5_readItem_18 ?_
        first | with_reducible refine st_icmp_geN rX5_readItem_19 (by omega) (by omega) (fun _ => ?_) (fun h => absurd h (by first | decide | omega | (simp; done) | simp_all)) | refine st_icmp_ge rX5_readItem_19 (fun _ => ?_) (fun h => absurd h (by first | decide | omega | (simp; done) | simp_all))
        refine st_aload rX5_readItem_62 rfl ?_
        refine cV1v rX5_readItem_63 (by first | assumption | decide | exact ⟨by decide, rfl, by decide⟩) (s_nextToken (hcx I2 g) (hple 4) g3 (fun I3 b1 b2 b3 b4 b5 b6 => ?_)) rfl (by decide)
        skip
        have g9 : FrR I I3 σ := ⟨fun a h1 h2 h3 => by rw [b1 a h1, g.1 a h1 h2 h3], fun q hq => by rw [b2 q hq, g.2 q hq]⟩
        have gs9 : ∀ a, σ ≤ a → a ≤ σ + 8 → I3 a = I a := fun a h1 h2 => by rw [b1 a (by omega), gs a h1 h2]
        have n9 : ∀ j, j < 3 → I3 3 j = nI (tV l L (pN l L p (j + 1))) := fun j hj => by rw [b1 3 (by decide)]; exact (gn j hj).2
        by_cases h59 : tC l L (pN l L p 4) = 3
        · rw [if_neg (fun h => h h59)] at hst
          have hk9 : tK l L (pN l L p 4) = 59 := by have := tK_c l L (pN l L p 4); omega
          obtain ⟨-, s2, s3, s4, -⟩ := st_5 hst
          rw [hk9] at b5
          rw [hc1] at hbeg
          refine st_aload rX5_readItem_66 rfl ?_
          refine st_getI rX5_readItem_67 (by first | assumption | decide | exact ⟨by decide, rfl, by decide⟩) rfl ?_
          refine st_top b5 ?_
          refine st_c rX5_readItem_70 ?_
          first | with_reducible refine st_icmp_eqN rX5_readItem_72 (by omega) (by omega) (fun _ => ?_) (fun h => absurd h (by first | decide | omega | (simp; done) | simp_all)) | refine st_icmp_eq rX5_readItem_72 (fun _ => ?_) (fun h => absurd h (by first | decide | omega | (simp; done) | simp_all))
          refine st_aload rX5_readItem_77 rfl ?_
          refine st_iload rX5_readItem_78 rfl ?_
          rw [hkx]
          refine st_aload rX5_readItem_79 rfl ?_
          refine st_getR rX5_readItem_80 (by first | assumption | decide | exact ⟨by decide, rfl, by decide⟩) (by first | rfl | assumption) rfl ?_
          refine st_c rX5_readItem_83 ?_
          refine st_ialdN rX5_readItem_84 (by first | assumption | decide | exact ⟨by decide, rfl, by decide⟩) (by omega) ?_
          refine st_top (n9 0 (by decide)) ?_
          refine st_aload rX5_readItem_85 rfl ?_
          refine st_getR rX5_readItem_86 (by first | assumption | decide | exact ⟨by decide, rfl, by decide⟩) (by first | rfl | assumption) rfl ?_
          refine st_c rX5_readItem_89 ?_
          refine st_ialdN rX5_readItem_90 (by first | assumption | decide | exact ⟨by decide, rfl, by decide⟩) (by omega) ?_
          refine st_top (n9 1 (by decide)) ?_
          refine st_aload rX5_readItem_91 rfl ?_
          refine st_getR rX5_readItem_92 (by first | assumption | decide | exact ⟨by decide, rfl, by decide⟩) (by first | rfl | assumption) rfl ?_
          refine st_c rX5_readItem_95 ?_
          refine st_ialdN rX5_readItem_96 (by first | assumption | decide | exact ⟨by decide, rfl, by decide⟩) (by omega) ?_
          refine st_top (n9 2 (by decide)) ?_
          refine cV5v rX5_readItem_97 (by first | assumption | decide | exact ⟨by decide, rfl, by decide⟩) (s_add hσ (CD_c hD gs9) hO hx hbeg (nmO_num s2).2 (nmO_num s3).2 (nmO_num s4).2 (fun I4 e1 e2 => ?_)) rfl (by decide)
          refine st_c rX5_readItem_100 ?_
          refine st_zret rX5_readItem_101 rfl (by first | rfl | exact vb_nar _) ?_
          refine hgood I4 ⟨fun a h1 h2 h3 => by rw [e1 a h3, g9.1 a h1 h2 h3], fun q hq => by rw [e1 1 (by omega), g9.2 q hq]⟩ hst e2 ?_
          rw [e1 1 (by omega)]; exact b3
        · rw [if_pos h59] at hst
          have hk9 : tK l L (pN l L p 4) ≠ 59 ∧ tK l L (pN l L p 4) < 200 := by
            have := tK_c l L (pN l L p 4)
            have h1 := tV_1 l (L := L) (p := pN l L p 4)
            omega
          refine st_aload rX5_readItem_66 rfl ?_
          refine st_getI rX5_readItem_67 (by first | assumption | decide | exact ⟨by decide, rfl, by decide⟩) rfl ?_
          refine st_top b5 ?_
          refine st_c rX5_readItem_70 ?_
          first | with_reducible refine st_icmp_eqN rX5_readItem_72 (by omega) (by omega) (fun h => absurd h (by first | decide | omega | (simp; done) | simp_all)) (fun _ => ?_) | refine st_icmp_eq rX5_readItem_72 (fun h => absurd h (by first | decide | omega | (simp; done) | simp_all)) (fun _ => ?_)
          refine st_c rX5_readItem_75 ?_
          refine st_zret rX5_readItem_76 rfl (by first | rfl | exact vb_nar _) ?_
          exact hbad I3 g9 (by omega) (by rw [hst]; exact b4)
      | succ r ih =>
        intro i I2 he g gs g3 gn
        have hi : i < 3 := by omega
        refine st_iload rX5_readItem_17 rfl ?_
        refine st_c rX5_readItem_18 ?_
        first | with_reducible refine st_icmp_geN rX5_readItem_19 (by omega) (by omega) (fun h => absurd h (by first | decide | omega | (simp; done) | simp_all)) (fun _ => ?_) | refine st_icmp_ge rX5_readItem_19 (fun h => absurd h (by first | decide | omega | (simp; done) | simp_all)) (fun _ => ?_)
        refine st_aload rX5_readItem_22 rfl ?_
        refine cV1v rX5_readItem_23 (by first | assumption | decide | exact ⟨by decide, rfl, by decide⟩) (s_nextToken (hcx I2 g) (hple (i + 1)) g3 (fun I3 b1 b2 b3 b4 b5 b6 => ?_)) rfl (by decide)
        skip
        have g9 : FrR I I3 σ := ⟨fun a h1 h2 h3 => by rw [b1 a h1, g.1 a h1 h2 h3], fun q hq => by rw [b2 q hq, g.2 q hq]⟩
        have gs9 : ∀ a, σ ≤ a → a ≤ σ + 8 → I3 a = I a := fun a h1 h2 => by rw [b1 a (by omega), gs a h1 h2]
        by_cases h2 : tC l L (pN l L p (i + 1)) = 2
        · have hk9 : tK l L (pN l L p (i + 1)) = 1 := by have := tK_c l L (pN l L p (i + 1)); omega
          have hv9 := tV_2 l h2
          have c6 := b6 h2
          rw [hk9] at b5
          have hv1 : tV l L (pN l L p 1) ≤ 99 := by
            by_cases hi0 : i = 0
            · subst hi0; exact hv9
            · exact tV_2 l (nmO_num (gn 0 (by omega)).1).1
          have hn : nmO l L D p i = numOk D (tV l L p) i (tV l L (pN l L p (i + 1))) (tV l L (pN l L p 1)) := by simp only [nmO]; rw [decide_eq_true h2, Bool.true_and]
          cases hnn : nmO l L D p i with
          | false =>
            have hst := stI_f hbeg (fun j hj => (gn j hj).1) hnn hi
            rw [hn] at hnn
            refine st_aload rX5_readItem_26 rfl ?_
            refine st_getI rX5_readItem_27 (by first | assumption | decide | exact ⟨by decide, rfl, by decide⟩) rfl ?_
            refine st_top b5 ?_
            refine st_c rX5_readItem_30 ?_
            first | with_reducible refine st_icmp_neN rX5_readItem_31 (by omega) (by omega) (fun h => absurd h (by first | decide | omega | (simp; done) | simp_all)) (fun _ => ?_) | refine st_icmp_ne rX5_readItem_31 (fun h => absurd h (by first | decide | omega | (simp; done) | simp_all)) (fun _ => ?_)
            refine st_aload rX5_readItem_34 rfl ?_
            refine st_aload rX5_readItem_35 rfl ?_
            refine st_iload rX5_readItem_36 rfl ?_
            rw [hkx]
            refine st_iload rX5_readItem_37 rfl ?_
            refine cV4i rX5_readItem_38 (by first | assumption | decide | exact ⟨by decide, rfl, by decide⟩) (s_mayStand (v1 := tV l L (pN l L p 1)) hσ (CD_c hD gs9) hO hx hi hv9 c6 (fun h => by rw [b1 3 (by decide)]; exact (gn 0 (by omega)).2) hv1 ?_) rfl (by decide)
            rw [hnn]
            first | with_reducible refine st_if_neN rX5_readItem_41 (by omega) (fun h => absurd h (by first | decide | omega | (simp; done) | simp_all)) (fun _ => ?_) | refine st_if_ne rX5_readItem_41 (fun h => absurd h (by first | decide | omega | (simp; done) | simp_all)) (fun _ => ?_)
            refine st_c rX5_readItem_44 ?_
            refine st_zret rX5_readItem_45 rfl (by first | rfl | exact vb_nar _) ?_
            exact hbad I3 g9 (by omega) (by rw [hst]; exact b4)
          | true =>
            have hnt := hnn
            rw [hn] at hnn
            refine st_aload rX5_readItem_26 rfl ?_
            refine st_getI rX5_readItem_27 (by first | assumption | decide | exact ⟨by decide, rfl, by decide⟩) rfl ?_
            refine st_top b5 ?_
            refine st_c rX5_readItem_30 ?_
            first | with_reducible refine st_icmp_neN rX5_readItem_31 (by omega) (by omega) (fun h => absurd h (by first | decide | omega | (simp; done) | simp_all)) (fun _ => ?_) | refine st_icmp_ne rX5_readItem_31 (fun h => absurd h (by first | decide | omega | (simp; done) | simp_all)) (fun _ => ?_)
            refine st_aload rX5_readItem_34 rfl ?_
            refine st_aload rX5_readItem_35 rfl ?_
            refine st_iload rX5_readItem_36 rfl ?_
            rw [hkx]
            refine st_iload rX5_readItem_37 rfl ?_
            refine cV4i rX5_readItem_38 (by first | assumption | decide | exact ⟨by decide, rfl, by decide⟩) (s_mayStand (v1 := tV l L (pN l L p 1)) hσ (CD_c hD gs9) hO hx hi hv9 c6 (fun h => by rw [b1 3 (by decide)]; exact (gn 0 (by omega)).2) hv1 ?_) rfl (by decide)
            rw [hnn]
            first | with_reducible refine st_if_neN rX5_readItem_41 (by omega) (fun _ => ?_) (fun h => absurd h (by first | decide | omega | (simp; done) | simp_all)) | refine st_if_ne rX5_readItem_41 (fun _ => ?_) (fun h => absurd h (by first | decide | omega | (simp; done) | simp_all))
            refine st_aload rX5_readItem_46 rfl ?_
            refine st_getR rX5_readItem_47 (by first | assumption | decide | exact ⟨by decide, rfl, by decide⟩) (by first | rfl | assumption) rfl ?_
            refine st_iload rX5_readItem_50 rfl ?_
            refine st_aload rX5_readItem_51 rfl ?_
            refine st_getI rX5_readItem_52 (by first | assumption | decide | exact ⟨by decide, rfl, by decide⟩) rfl ?_
            refine st_top c6 ?_
            refine st_iastN rX5_readItem_55 (by first | assumption | decide | exact ⟨by decide, rfl, by decide⟩) (by omega) ?_
            first | with_reducible refine st_iincN3 rX5_readItem_56 rfl ?_ | refine st_iinc3 rX5_readItem_56 rfl ?_
            refine st_goto rX5_readItem_59 ?_
            rw [← hkx]
            refine ih (i + 1) _ (by omega) ⟨fun a h1 h2 h3 => by rw [up_n h2, g9.1 a h1 h2 h3], fun q hq => by rw [up_n (by decide), g9.2 q hq]⟩ (fun a h1 h2 => by rw [up_n (by omega), gs9 a h1 h2]) (by rw [up_n (by decide)]; exact b3) (fun j hj => ?_)
            by_cases e : j = i
            · subst e; exact ⟨hnt, by rw [up_s, va_up_s]⟩
            · exact ⟨(gn j (by omega)).1, by rw [up_s, va_up_n e, b1 3 (by decide)]; exact (gn j (by omega)).2⟩
        · have hnn : nmO l L D p i = false := by simp only [nmO]; rw [decide_eq_false h2, Bool.false_and]
          have hst := stI_f hbeg (fun j hj => (gn j hj).1) hnn hi
          have hk9 : tK l L (pN l L p (i + 1)) ≠ 1 ∧ tK l L (pN l L p (i + 1)) < 200 := by
            have := tK_c l L (pN l L p (i + 1))
            have h1 := tV_1 l (L := L) (p := pN l L p (i + 1))
            omega
          refine st_aload rX5_readItem_26 rfl ?_
          refine st_getI rX5_readItem_27 (by first | assumption | decide | exact ⟨by decide, rfl, by decide⟩) rfl ?_
          refine st_top b5 ?_
          refine st_c rX5_readItem_30 ?_
          first | with_reducible refine st_icmp_neN rX5_readItem_31 (by omega) (by omega) (fun _ => ?_) (fun h => absurd h (by first | decide | omega | (simp; done) | simp_all)) | refine st_icmp_ne rX5_readItem_31 (fun _ => ?_) (fun h => absurd h (by first | decide | omega | (simp; done) | simp_all))
          refine st_c rX5_readItem_44 ?_
          refine st_zret rX5_readItem_45 rfl (by first | rfl | exact vb_nar _) ?_
          exact hbad I3 g9 (by omega) (by rw [hst]; exact b4)
    exact key 3 0 I (by omega) ⟨fun _ _ _ _ => rfl, fun _ _ => rfl⟩ (fun _ _ _ => rfl) h3 (fun j hj => absurd hj (by omega))
end P47
