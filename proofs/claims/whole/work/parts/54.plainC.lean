/-! ===== plain, the class ===== -/
theorem swp {ρ : Nat} (h : vTo ρ) : up (up (vRR ρ) 0 (va_up (vRR ρ 0) 2 (some ρ))) 0 (va_up (up (vRR ρ) 0 (va_up (vRR ρ 0) 2 (some ρ)) 0) 1 (some (17 - ρ))) = vRR (17 - ρ) := by
  funext a k
  by_cases ha : a = 0
  · subst ha
    rw [up_s, up_s]
    by_cases h1 : k = 1
    · subst h1; rw [va_up_s]; rfl
    · rw [va_up_n h1]
      by_cases h2 : k = 2
      · subst h2
        rw [va_up_s]
        rcases h with rfl | rfl <;> rfl
      · rw [va_up_n h2]
        match k, h1, h2 with
        | 0, _, _ => rfl
        | 1, h1, _ => exact absurd rfl h1
        | 2, _, h2 => exact absurd rfl h2
        | k + 3, _, _ => rfl
  · rw [up_n ha, up_n ha]
    simp only [vRR, if_neg ha]
theorem neg10 : ∀ s, s < 201 → ¬ (0 : Int32) ≤ -10 - nI s := by decide +kernel
theorem nI_u0 {u : Nat} (hu : u < 2147483648) (h : nI 0 = nI u) : u = 0 := ((nI_eq (by decide) hu).mp h).symm
section P54
variable {d : Nat} {I A : Nat → Nat → Int32} {J : Nat → Nat → Int64} {ρ m no : Nat} {T : Int64} {k : Int32 → vS → Prop} {kl : Int64 → vS → Prop} {kv : vS → Prop}
variable {σ : Nat} {D : Nat → Nat → Nat} {l : Nat → Nat} {L : Nat} {K : Option Value → vS → Prop}
set_option maxHeartbeats 4000000 in
set_option maxRecDepth 100000 in
theorem s_begin (hσ : vTo σ) (hk : ∀ I', (∀ a, a < 22 ∨ 26 < a → I' a = I a) → I' 22 0 = nI 0 → I' 22 1 = nI 0 → (∀ t, t < 6 → I' 23 t = nI t) → (∀ t, t < 6 → I' 24 t = I (σ + 1) t) → (∀ t, t < 6 → I' 25 t = nI 0) → (∀ t, t < 36 → I' 26 t = nI 0) → kv (I', J, vRR ρ)) : V (d + 1) 123 123 mX1_begin 0 [.ref 22, .ref σ, vJ] [] (I, J, vRR ρ) (Kv kv) := by
  obtain ⟨hto, o1, o2, o3, o4, o5, o6, o7, o8⟩ := toldF hσ
  have hσ13 : σ ≤ 13 := by rcases hσ with h | h <;> omega
  have hg : vHg 22 := ⟨by decide, rfl⟩
  have key : ∀ (r t : Nat) (I2 : Nat → Nat → Int32), t + r = 6 → (∀ a, a < 22 ∨ 23 < a → I2 a = I a) → I2 22 0 = nI 0 → I2 22 1 = nI 0 → (∀ j, j < t → I2 23 j = nI j) → V (d + 1) 123 123 mX1_begin 12 [.ref 22, .ref σ, .int (nI t)] [] (I2, J, vRR ρ) (Kv kv) := by
    intro r
    induction r with
    | zero =>
      intro t I2 he g z0 z1 g2
      have he : t = 6 := by omega
      subst he
      refine st_iload rX1_begin_12 rfl ?_
      refine st_c rX1_begin_13 ?_
      first | with_reducible refine st_icmp_geN rX1_begin_15 (by omega) (by omega) (fun _ => ?_) (fun h => absurd h (by first | decide | omega | (simp; done) | simp_all)) | refine st_icmp_ge rX1_begin_15 (fun _ => ?_) (fun h => absurd h (by first | decide | omega | (simp; done) | simp_all))
      refine st_aload rX1_begin_31 rfl ?_
      refine st_getR rX1_begin_32 (by assumption) (tR3 (by assumption)) rfl ?_
      refine st_c rX1_begin_35 ?_
      refine st_aload rX1_begin_36 rfl ?_
      refine st_getR rX1_begin_37 (by first | assumption | decide) (by first | rfl | exact hR3 (by assumption)) rfl ?_
      refine st_c rX1_begin_40 ?_
      refine st_c rX1_begin_41 ?_
      refine st_copy rX1_begin_43 (by first | assumption | decide | exact ⟨by decide, rfl, by decide⟩) (by first | assumption | decide | exact ⟨by decide, rfl, by decide⟩) (by omega) (by omega) (Nat.le_of_ble_eq_true rfl) ?_
      refine st_aload rX1_begin_46 rfl ?_
      refine st_getR rX1_begin_47 (by first | assumption | decide) (by first | rfl | exact hR4 (by assumption)) rfl ?_
      refine st_c rX1_begin_50 ?_
      refine cS2v rX1_begin_51 (s_fill (a := 25) (len := 6) ⟨by decide, rfl, by decide⟩ (by decide) (fun I3 a1 a2 => ?_)) rfl
      refine st_aload rX1_begin_54 rfl ?_
      refine st_getR rX1_begin_55 (by first | assumption | decide) (by first | rfl | exact hR5 (by assumption)) rfl ?_
      refine st_c rX1_begin_58 ?_
      refine cS2v rX1_begin_59 (s_fill (a := 26) (len := 36) ⟨by decide, rfl, by decide⟩ (by decide) (fun I4 b1 b2 => ?_)) rfl
      refine st_vret rX1_begin_62 rfl ?_
      refine hk I4 (fun a ha => ?_) ?_ ?_ (fun t ht => ?_) (fun t ht => ?_) (fun t ht => ?_) b2
      · rw [b1 a (by omega), a1 a (by omega), up_n (by omega)]; exact g a (by omega)
      · rw [b1 22 (by omega), a1 22 (by omega), up_n (by omega)]; exact z0
      · rw [b1 22 (by omega), a1 22 (by omega), up_n (by omega)]; exact z1
      · rw [b1 23 (by omega), a1 23 (by omega), up_n (by omega)]; exact g2 t ht
      · rw [b1 24 (by omega), a1 24 (by omega), up_s, if_pos ht, g (σ + 1) (by omega)]
      · rw [b1 25 (by omega)]; exact a2 t ht
    | succ r ih =>
      intro t I2 he g z0 z1 g2
      refine st_iload rX1_begin_12 rfl ?_
      refine st_c rX1_begin_13 ?_
      first | with_reducible refine st_icmp_geN rX1_begin_15 (by omega) (by omega) (fun h => absurd h (by first | decide | omega | (simp; done) | simp_all)) (fun _ => ?_) | refine st_icmp_ge rX1_begin_15 (fun h => absurd h (by first | decide | omega | (simp; done) | simp_all)) (fun _ => ?_)
      refine st_aload rX1_begin_18 rfl ?_
      refine st_getR rX1_begin_19 (by first | assumption | decide) (by first | rfl | exact hR2 (by assumption)) rfl ?_
      refine st_iload rX1_begin_22 rfl ?_
      refine st_iload rX1_begin_23 rfl ?_
      refine st_iastN rX1_begin_24 (by first | assumption | decide | exact ⟨by decide, rfl, by decide⟩) (by omega) ?_
      first | with_reducible refine st_iincN2 rX1_begin_25 rfl ?_ | refine st_iinc2 rX1_begin_25 rfl ?_
      refine st_goto rX1_begin_28 ?_
      refine ih (t + 1) _ (by omega) (fun a ha => by rw [up_n (by omega)]; exact g a ha) (by rw [up_n (by decide)]; exact z0) (by rw [up_n (by decide)]; exact z1) (fun j hj => ?_)
      rw [up_s]
      by_cases e : j = t
      · subst e; rw [va_up_s]
      · rw [va_up_n e]; exact g2 j (by omega)
  refine st_aload rX1_begin_0 rfl ?_
  refine st_c rX1_begin_1 ?_
  refine st_putI rfl rX1_begin_2 (by first | assumption | decide | exact ⟨by decide, rfl, by decide⟩) ?_
  refine st_aload rX1_begin_5 rfl ?_
  refine st_c rX1_begin_6 ?_
  refine st_putI rfl rX1_begin_7 (by first | assumption | decide | exact ⟨by decide, rfl, by decide⟩) ?_
  refine st_c rX1_begin_10 ?_
  refine st_istore2 rX1_begin_11 rfl ?_
  refine key 6 0 _ (by omega) (fun a ha => by rw [up_n (by omega), up_n (by omega)]) ?_ ?_ (fun j hj => absurd hj (by omega))
  · simp (disch := omega) only [up_s, va_up_s, va_up_n]
  · simp (disch := omega) only [up_s, va_up_s, va_up_n]
set_option maxHeartbeats 4000000 in
set_option maxRecDepth 100000 in
theorem s_imEmpty (hk : ∀ I', (∀ a, a ≠ 86 → I' a = I a) → (∀ i, i < 2 → I' 86 i = nI 0) → kv (I', J, vRR ρ)) : V d 123 123 mX2_empty 0 [.ref 84, vJ] [] (I, J, vRR ρ) (Kv kv) := by
  have key : ∀ (r t : Nat) (I2 : Nat → Nat → Int32), t + r = 2 → (∀ a, a ≠ 86 → I2 a = I a) → (∀ j, j < t → I2 86 j = nI 0) → V d 123 123 mX2_empty 2 [.ref 84, .int (nI t)] [] (I2, J, vRR ρ) (Kv kv) := by
    intro r
    induction r with
    | zero =>
      intro t I2 he g g2
      have he : t = 2 := by omega
      subst he
      refine st_iload rX2_empty_2 rfl ?_
      refine st_c rX2_empty_3 ?_
      first | with_reducible refine st_icmp_geN rX2_empty_4 (by omega) (by omega) (fun _ => ?_) (fun h => absurd h (by first | decide | omega | (simp; done) | simp_all)) | refine st_icmp_ge rX2_empty_4 (fun _ => ?_) (fun h => absurd h (by first | decide | omega | (simp; done) | simp_all))
      refine st_vret rX2_empty_20 rfl ?_
      exact hk I2 g g2
    | succ r ih =>
      intro t I2 he g g2
      refine st_iload rX2_empty_2 rfl ?_
      refine st_c rX2_empty_3 ?_
      first | with_reducible refine st_icmp_geN rX2_empty_4 (by omega) (by omega) (fun h => absurd h (by first | decide | omega | (simp; done) | simp_all)) (fun _ => ?_) | refine st_icmp_ge rX2_empty_4 (fun h => absurd h (by first | decide | omega | (simp; done) | simp_all)) (fun _ => ?_)
      refine st_aload rX2_empty_7 rfl ?_
      refine st_getR rX2_empty_8 (by first | assumption | decide | exact ⟨by decide, rfl, by decide⟩) (by first | rfl | assumption) rfl ?_
      refine st_iload rX2_empty_11 rfl ?_
      refine st_c rX2_empty_12 ?_
      refine st_bastN rX2_empty_13 (by first | assumption | decide | exact ⟨by decide, rfl, by decide⟩) (by omega) rfl ?_
      first | with_reducible refine st_iincN1 rX2_empty_14 rfl ?_ | refine st_iinc1 rX2_empty_14 rfl ?_
      refine st_goto rX2_empty_17 ?_
      refine ih (t + 1) _ (by omega) (fun a ha => by rw [up_n ha]; exact g a ha) (fun j hj => ?_)
      rw [up_s]
      by_cases e : j = t
      · subst e; rw [va_up_s]
      · rw [va_up_n e]; exact g2 j (by omega)
  refine st_c rX2_empty_0 ?_
  refine st_istore1 rX2_empty_1 rfl ?_
  exact key 2 0 I (by omega) (fun _ _ => rfl) (fun j hj => absurd hj (by omega))
theorem CT_D {A' : Nat → Nat → Int32} (hσ : vTo σ) (hD : CD I σ D) (hO : OkD D) (hw : ∀ a b, a < D 0 0 → b < D 0 0 → I (σ + 5) (a * 6 + b) = farC (nI (fwn D (D 0 0) (a * 6 + b)))) (hP : PlA A' D) : CT I σ A' (D 0 0) (D 0 1) := by
  obtain ⟨c1, c2, c3, c4, c5, c6⟩ := hD
  obtain ⟨d1, d2, d3, d4, d5, d6⟩ := hO
  obtain ⟨p1, p2, p3, p4, p5, p6, -⟩ := hP
  refine ⟨hσ, c1, ?_, c3, fun t ht => ?_, fun t ht => ?_, fun a b ha hb => ?_, fun a b ha hb => ?_, fun i hi => ?_, fun i hi => ?_, fun i hi => ?_⟩
  · rw [c2, cp_c 36 (fun k hk => ⟨p4 k hk, d4 k hk⟩)]
  · rw [(c4 t ht).2.1, (p3 t ht).1]
  · rw [(c4 t ht).2.2, (p3 t ht).2]
  · rw [c5 _ (by omega), p4 _ (by omega), show a * 6 + b = 6 * a + b by omega]
  · rw [hw a b ha hb, p5 _ (by omega), show a * 6 + b = 6 * a + b by omega]
  · rw [(c6 i hi).1, (p6 i hi).1]
  · rw [(c6 i hi).2.1, (p6 i hi).2.1]
  · rw [(c6 i hi).2.2, (p6 i hi).2.2]
set_option maxHeartbeats 4000000 in
set_option maxRecDepth 100000 in
theorem c_plain (hT : CX I l L) (hC : InvC I J ρ A T m no)
    (hbad : ∀ I' s n E, (∀ a, 103 ≤ a → I' a = I a) → InvC I' J ρ A T m no → prs l L (L + 1) d0 0 0 = (some s, n, E) → s ≤ L → k (-10 - nI s) (I', J, vRR ρ))
    (hgood : ∀ I' n E, (∀ a, 103 ≤ a → I' a = I a) → prs l L (L + 1) d0 0 0 = (none, n, E) → n ≤ L → OkD E → (∀ A', PlA A' E → InvC I' J (17 - ρ) A' T (E 0 0) (E 0 1)) → k (nI n) (I', J, vRR (17 - ρ))) : V (d + 5) 123 123 mX7_plain 0 [.ref 0, vJ, vJ] [] (I, J, vRR ρ) (Ki k) := by
  have hρ := hC.1.1
  have hσ : vTo (17 - ρ) := by rcases hρ with h | h <;> simp only [vTo] <;> omega
  have hρ2 : (ρ = 4 ∧ 17 - ρ = 13) ∨ (ρ = 13 ∧ 17 - ρ = 4) := by rcases hρ with h | h <;> omega
  have hto := (toldF hσ).1
  have hL := hT.1
  have bad : ∀ I' s n E, FrR I I' (17 - ρ) → prs l L (L + 1) d0 0 0 = (some s, n, E) → s ≤ L → V (d + 5) 123 123 mX7_plain 11 [.ref 0, vJ, vJ] [.int (-10 - nI s)] (I', J, vRR ρ) (Ki k) := by
    intro I' s n E g hpr hs
    have hng := neg10 s (by omega)
    refine st_istore1 rX7_plain_11 rfl ?_
    refine st_iload rX7_plain_12 rfl ?_
    refine st_if_ge rX7_plain_13 (fun h => absurd h hng) (fun _ => ?_)
    refine st_iload rX7_plain_16 rfl ?_
    refine st_iret rX7_plain_17 rfl ?_
    refine hbad I' s n E (fun a ha => g.1 a (by omega) (by omega) (by omega)) ?_ hpr hs
    obtain ⟨i1, i2, i3, i4, i5, i6, i7⟩ := hC
    exact ⟨CT_c i1 (fun a h1 h2 => g.1 a (by omega) (by omega) (by omega)) (fun _ _ _ => rfl), CL_c i2 (g.2 1 (by omega)) (g.1 2 (by omega) (by omega) (by omega)) rfl rfl, HV_cong i3 (fun a h1 h2 => g.1 a (by omega) (by omega) (by omega)), CU_c i4 (fun a h => g.1 a (by omega) (by omega) (by omega)) rfl rfl, CI_c i5 (fun a h => g.1 a (by omega) (by omega) (by omega)) rfl rfl, CF_c i6 (fun a h1 h2 => g.1 a (by omega) (by omega) (by omega)) rfl rfl rfl, i7⟩
  have good : ∀ I' n E, FrR I I' (17 - ρ) → prs l L (L + 1) d0 0 0 = (none, n, E) → n ≤ L → CD I' (17 - ρ) E → OkD E → V (d + 5) 123 123 mX7_plain 11 [.ref 0, vJ, vJ] [.int (nI n)] (I', J, vRR ρ) (Ki k) := by
    intro I1 n E g hpr hn hD hO
    refine st_istore1 rX7_plain_11 rfl ?_
    refine st_iload rX7_plain_12 rfl ?_
    first | with_reducible refine st_if_geN rX7_plain_13 (by omega) (fun _ => ?_) (fun h => absurd h (by first | decide | omega | (simp; done) | simp_all)) | refine st_if_ge rX7_plain_13 (fun _ => ?_) (fun h => absurd h (by first | decide | omega | (simp; done) | simp_all))
    refine st_aload rX7_plain_18 rfl ?_
    refine st_getR rX7_plain_19 (by first | assumption | decide | exact ⟨by decide, rfl, by decide⟩) (by first | rfl | assumption) rfl ?_
    refine st_astore2 rX7_plain_22 rfl ?_
    refine st_aload rX7_plain_23 rfl ?_
    refine st_aload rX7_plain_24 rfl ?_
    refine st_getR rX7_plain_25 (by first | assumption | decide | exact ⟨by decide, rfl, by decide⟩) (by first | rfl | assumption) rfl ?_
    refine st_putR rfl rX7_plain_28 (by first | assumption | decide | exact ⟨by decide, rfl, by decide⟩) ?_
    refine st_aload rX7_plain_31 rfl ?_
    refine st_aload rX7_plain_32 rfl ?_
    refine st_putR rfl rX7_plain_33 (by first | assumption | decide | exact ⟨by decide, rfl, by decide⟩) ?_
    skip
    rw [swp hρ]
    generalize hs : 17 - ρ = σ at *
    refine st_aload rX7_plain_36 rfl ?_
    refine st_getR rX7_plain_37 (by first | assumption | decide | exact ⟨by decide, rfl, by decide⟩) (by first | rfl | assumption) rfl ?_
    refine cV1v rX7_plain_40 (by first | assumption | decide | exact ⟨by decide, rfl, by decide⟩) (s_measure hσ hD hO (fun I2 a1 a2 => ?_)) rfl (by decide)
    refine st_aload rX7_plain_43 rfl ?_
    refine st_getR rX7_plain_44 (by first | assumption | decide | exact ⟨by decide, rfl, by decide⟩) (by first | rfl | assumption) rfl ?_
    refine st_aload rX7_plain_47 rfl ?_
    refine st_getR rX7_plain_48 (by first | assumption | decide | exact ⟨by decide, rfl, by decide⟩) (by first | rfl | assumption) rfl ?_
    refine cV2v rX7_plain_51 (by first | assumption | decide | exact ⟨by decide, rfl, by decide⟩) (s_begin hσ (fun I3 b1 b2 b3 b4 b5 b6 b7 => ?_)) rfl (by decide)
    refine st_aload rX7_plain_54 rfl ?_
    refine st_getR rX7_plain_55 (by first | assumption | decide | exact ⟨by decide, rfl, by decide⟩) (by first | rfl | assumption) rfl ?_
    refine cV1v rX7_plain_58 (by first | assumption | decide | exact ⟨by decide, rfl, by decide⟩) (s_pastEmpty ?_) rfl (by decide)
    refine st_aload rX7_plain_61 rfl ?_
    refine st_getR rX7_plain_62 (by first | assumption | decide | exact ⟨by decide, rfl, by decide⟩) (by first | rfl | assumption) rfl ?_
    refine cV1v rX7_plain_65 (by first | assumption | decide | exact ⟨by decide, rfl, by decide⟩) (s_imEmpty (fun I5 c1 c2 => ?_)) rfl (by decide)
    refine st_aload rX7_plain_68 rfl ?_
    refine st_getR rX7_plain_69 (by first | assumption | decide | exact ⟨by decide, rfl, by decide⟩) (by first | rfl | assumption) rfl ?_
    refine cV1i rX7_plain_72 (by first | assumption | decide | exact ⟨by decide, rfl, by decide⟩) (s_findsEmpty ?_) rfl (by decide)
    refine st_pop rX7_plain_75 rfl ?_
    refine st_aload rX7_plain_76 rfl ?_
    refine st_getR rX7_plain_77 (by first | assumption | decide | exact ⟨by decide, rfl, by decide⟩) (by first | rfl | assumption) rfl ?_
    refine cV1i rX7_plain_80 (by first | assumption | decide | exact ⟨by decide, rfl, by decide⟩) (s_textEmpty ?_) rfl (by decide)
    refine st_pop rX7_plain_83 rfl ?_
    refine st_iload rX7_plain_84 rfl ?_
    refine st_iret rX7_plain_85 rfl ?_
    refine hgood _ n E (fun a ha => ?_) hpr hn hO (fun A' hP => ?_)
    · simp (disch := omega) only [up_n]
      rw [c1 a (by omega), up_n (by omega), b1 a (by omega), a1 a (by omega)]
      exact g.1 a (by omega) (by omega) (by omega)
    · obtain ⟨i1, i2, i3, ⟨q, u0, u1, u2, u3⟩, i5, i6, i7⟩ := hC
      have hP2 := hP
      obtain ⟨-, -, -, -, -, -, ⟨h1, h2, h3, h4, h5⟩, h6, h7, h8, h9⟩ := hP2
      have fa : ∀ a, a ≠ 1 → a ≠ 32 → a ≠ 86 → a ≠ 97 → a < 22 ∨ 26 < a → a ≠ σ + 5 → up (up I5 97 (va_up (I5 97) 2 (nI 0))) 1 (va_up (up I5 97 (va_up (I5 97) 2 (nI 0)) 1) 1 (nI 0)) a = I1 a := fun a q1 q2 q3 q4 q5 q6 => by
        rw [up_n q1, up_n q4, c1 a q3, up_n q2, b1 a q5, a1 a q6]
      have fb : ∀ a, 22 ≤ a → a ≤ 26 → up (up I5 97 (va_up (I5 97) 2 (nI 0))) 1 (va_up (up I5 97 (va_up (I5 97) 2 (nI 0)) 1) 1 (nI 0)) a = I3 a := fun a q1 q2 => by
        rw [up_n (by omega), up_n (by omega), c1 a (by omega), up_n (by omega)]
      refine ⟨CT_D hσ ?_ hO ?_ hP, ⟨?_, ?_⟩, ⟨?_, ?_, fun t ht => ?_, fun t ht => ?_, fun t ht => ?_, fun t ht => ?_⟩, ⟨q, u0, ?_, ?_, ?_⟩, fun i hi => ⟨?_, ?_⟩, ⟨?_, ?_⟩, i7⟩
      · obtain ⟨k1, k2, k3, k4, k5, k6⟩ := hD
        simp (disch := omega) only [CD, fa]
        exact ⟨k1, k2, k3, k4, k5, k6⟩
      · intro a b ha hb
        rw [up_n (by omega), up_n (by omega), c1 _ (by omega), up_n (by omega), b1 _ (by omega)]
        exact a2 a b ha hb
      · rw [up_s, va_up_s, h6]
      · intro L2 e _ j hj
        rw [h6] at e
        have := nI_u0 (by omega) e
        omega
      · rw [fb 22 (by omega) (by omega), b2, h1]
      · rw [fb 22 (by omega) (by omega), b3, h2]
      · rw [fb 23 (by omega) (by omega), b4 t ht, h3 t ht]
      · have := hO.1
        rw [fb 24 (by omega) (by omega), b5 t (by omega), h4 t ht, a1 _ (by omega), (hD.2.2.2.1 t ht).1]
      · rw [fb 25 (by omega) (by omega), b6 t ht, h5 _ (by omega) (by omega)]
      · rw [fb 26 (by omega) (by omega), b7 t ht, h5 _ (by omega) (by omega)]
      · rw [up_n (by decide), up_n (by decide), c1 32 (by decide), up_s, va_up_n (by decide), b1 32 (by omega), a1 32 (by omega), g.1 32 (by omega) (by omega) (by omega)]
        exact u1
      · rw [up_n (by decide), up_n (by decide), c1 32 (by decide), up_s, va_up_s, h7]
      · intro u _ e j hj
        rw [h7] at e
        have := nI_u0 (by omega) e
        omega
      · rw [up_n (by decide), up_n (by decide), c2 i hi, h9 i hi]
      · intro e
        rw [h9 i hi] at e
        exact absurd e (by decide)
      · rw [up_n (by decide), up_s, va_up_s, h8]
      · intro f _ e j hj
        rw [h8] at e
        have := nI_u0 (by omega) e
        omega
  refine st_aload rX7_plain_0 rfl ?_
  refine st_getR rX7_plain_1 (by first | assumption | decide | exact ⟨by decide, rfl, by decide⟩) (by first | rfl | assumption) rfl ?_
  refine st_aload rX7_plain_4 rfl ?_
  refine st_getR rX7_plain_5 (by first | assumption | decide | exact ⟨by decide, rfl, by decide⟩) (by first | rfl | assumption) rfl ?_
  refine cV2i rX7_plain_8 (by first | assumption | decide | exact ⟨by decide, rfl, by decide⟩) (s_readInto hT hσ bad good) rfl (by decide)
  skip
end P54
