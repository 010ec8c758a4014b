/-! ===== plain, the reference ===== -/
theorem InvM_S {I I' A : Nat → Nat → Int32} {J : Nat → Nat → Int64} {T : Int64} (h : InvM I J A T) (g : FrS I I') : InvM I' J A T := by
  obtain ⟨m1, m2, m3, m4, m5, m6, m7, m8, m9, m10, m11, m12, m13, m14, m15, m16⟩ := h
  obtain ⟨g1, g2, g3, g4, g5⟩ := g
  refine ⟨?_, ?_, ?_, ?_, ?_, ?_, ?_, ?_, fun k hk => ?_, fun k hk => ?_, ?_, ?_, ?_, ?_, ?_, m16⟩
  · rw [g1 104 (by omega) (by omega) (by omega)]; exact m1
  · rw [g1 113 (by omega) (by omega) (by omega)]; exact m2
  · rw [g1 114 (by omega) (by omega) (by omega)]; exact m3
  · rw [g1 116 (by omega) (by omega) (by omega)]; exact m4
  · rw [g1 117 (by omega) (by omega) (by omega)]; exact m5
  · rw [g1 118 (by omega) (by omega) (by omega)]; exact m6
  · rw [g1 119 (by omega) (by omega) (by omega)]; exact m7
  · rw [g1 120 (by omega) (by omega) (by omega)]; exact m8
  · rw [g4 107 k (by omega) (by omega) (by omega) hk, g4 108 k (by omega) (by omega) (by omega) hk, g4 110 k (by omega) (by omega) (by omega) hk, g4 111 k (by omega) (by omega) (by omega) hk, g4 112 k (by omega) (by omega) (by omega) hk]; exact m9 k hk
  · rw [g5 k hk]; exact m10 k hk
  · rw [g3 0 (by omega)]; exact m11
  · rw [g3 1 (by omega)]; exact m12
  · rw [g2 3 (by omega)]; exact m13
  · rw [g2 23 (by omega)]; exact m14
  · rw [g2 26 (by omega)]; exact m15
theorem itF_st {l : Nat → Nat} {L p : Nat} {D : Nat → Nat → Nat} (h0 : begOk D (tC l L p) (tV l L p) = true) : fN (itF l L D p) (decide (tC l L (pN l L p 4) = 3)) (tS l L (pN l L p 4)) = if stI l L D p = 5 then none else some (tS l L (pN l L p (stI l L D p))) := by
  simp only [itF]
  cases q0 : nmO l L D p 0 with
  | false =>
    have hs : stI l L D p = 1 := stI_f (i := 0) h0 (fun j hj => absurd hj (by omega)) q0 (by omega)
    rw [fN_f, fN_some, fN_some, fN_some, hs, if_neg (by omega)]
  | true =>
    rw [fN_t]
    cases q1 : nmO l L D p 1 with
    | false =>
      have hs : stI l L D p = 2 := stI_f (i := 1) h0 (fun j hj => by have : j = 0 := by omega
                                                                     rw [this]; exact q0) q1 (by omega)
      rw [fN_f, fN_some, fN_some, hs, if_neg (by omega)]
    | true =>
      rw [fN_t]
      cases q2 : nmO l L D p 2 with
      | false =>
        have hs : stI l L D p = 3 := stI_f (i := 2) h0 (fun j hj => by
          have hj : j = 0 ∨ j = 1 := by omega
          rcases hj with hj | hj
          · rw [hj]; exact q0
          · rw [hj]; exact q1) q2 (by omega)
        rw [fN_f, fN_some, hs, if_neg (by omega)]
      | true =>
        have hs := stI_e h0 (fun j hj => by
          have hj : j = 0 ∨ j = 1 ∨ j = 2 := by omega
          rcases hj with hj | hj | hj
          · rw [hj]; exact q0
          · rw [hj]; exact q1
          · rw [hj]; exact q2)
        rw [fN_t]
        by_cases h3 : tC l L (pN l L p 4) = 3
        · rw [if_neg (fun h => h h3)] at hs
          rw [decide_eq_true h3, fN_t, hs, if_pos rfl]
        · rw [if_pos h3] at hs
          rw [decide_eq_false h3, fN_f, hs, if_neg (by omega)]
theorem itF_5 {l : Nat → Nat} {L p : Nat} {D : Nat → Nat → Nat} (h : stI l L D p = 5) : itF l L D p = none := by
  obtain ⟨-, h1, h2, h3, -⟩ := st_5 h
  simp only [itF]
  rw [h1, h2, h3, fN_t, fN_t, fN_t]
section P52
variable {d : Nat} {I A : Nat → Nat → Int32} {J : Nat → Nat → Int64} {ρ m no : Nat} {T : Int64} {k : Int32 → vS → Prop} {kl : Int64 → vS → Prop} {kv : vS → Prop}
variable {l : Nat → Nat} {L : Nat} {K : Option Value → vS → Prop}
set_option maxHeartbeats 4000000 in
set_option maxRecDepth 100000 in
theorem s_mp1 (hk : ∀ I', (∀ a, a ≠ 109 → I' a = I a) → (∀ j, j < 36 → I' 109 j = I 109 j) → (∀ j, j < 36 → I' 109 (36 + j) = nI 0) → V d 123 123 mX8_plain 53 [.ref 103, .int (nI 0), .int (nI 72)] [] (I', J, vRR ρ) K) : V d 123 123 mX8_plain 34 [.ref 103, .int (nI 0), .int (nI 36)] [] (I, J, vRR ρ) K := by
  have key : ∀ (r t : Nat) (I2 : Nat → Nat → Int32), t + r = 36 → (∀ a, a ≠ 109 → I2 a = I a) → (∀ j, j < 36 → I2 109 j = I 109 j) → (∀ j, j < t → I2 109 (36 + j) = nI 0) → V d 123 123 mX8_plain 34 [.ref 103, .int (nI 0), .int (nI (36 + t))] [] (I2, J, vRR ρ) K := by
    intro r
    induction r with
    | zero =>
      intro t I2 he g g1 g2
      have he : t = 36 := by omega
      subst he
      refine st_iload rX8_plain_34 rfl ?_
      refine st_c rX8_plain_35 ?_
      first | with_reducible refine st_icmp_geN rX8_plain_37 (by omega) (by omega) (fun _ => ?_) (fun h => absurd h (by first | decide | omega | (simp; done) | simp_all)) | refine st_icmp_ge rX8_plain_37 (fun _ => ?_) (fun h => absurd h (by first | decide | omega | (simp; done) | simp_all))
      exact hk I2 g g1 g2
    | succ r ih =>
      intro t I2 he g g1 g2
      refine st_iload rX8_plain_34 rfl ?_
      refine st_c rX8_plain_35 ?_
      first | with_reducible refine st_icmp_geN rX8_plain_37 (by omega) (by omega) (fun h => absurd h (by first | decide | omega | (simp; done) | simp_all)) (fun _ => ?_) | refine st_icmp_ge rX8_plain_37 (fun h => absurd h (by first | decide | omega | (simp; done) | simp_all)) (fun _ => ?_)
      refine st_aload rX8_plain_40 rfl ?_
      refine st_getR rX8_plain_41 (by first | assumption | decide | exact ⟨by decide, rfl, by decide⟩) (by first | rfl | assumption) rfl ?_
      refine st_iload rX8_plain_44 rfl ?_
      refine st_c rX8_plain_45 ?_
      refine st_iastN rX8_plain_46 (by first | assumption | decide | exact ⟨by decide, rfl, by decide⟩) (by omega) ?_
      first | with_reducible refine st_iincN2 rX8_plain_47 rfl ?_ | refine st_iinc2 rX8_plain_47 rfl ?_
      refine st_goto rX8_plain_50 ?_
      refine ih (t + 1) _ (by omega) (fun a ha => by rw [up_n ha, g a ha]) (fun j hj => by rw [up_s, va_up_n (by omega)]; exact g1 j hj) (fun j hj => ?_)
      rw [up_s]
      by_cases e : j = t
      · subst e; rw [va_up_s]
      · rw [va_up_n (by omega)]; exact g2 j (by omega)
  exact key 36 0 I (by omega) (fun _ _ => rfl) (fun _ _ => rfl) (fun j hj => absurd hj (by omega))
set_option maxHeartbeats 4000000 in
set_option maxRecDepth 100000 in
theorem m_plain (hT : MT I l L) (hM : InvM I J A T)
    (hbad : ∀ I' s n E, (∀ a, a < 103 ∨ 123 ≤ a → I' a = I a) → InvM I' J A T → prs l L (L + 1) d0 0 0 = (some s, n, E) → s ≤ L → k (-10 - nI s) (I', J, vRR ρ))
    (hgood : ∀ I' n E, (∀ a, a < 103 ∨ 123 ≤ a → I' a = I a) → prs l L (L + 1) d0 0 0 = (none, n, E) → n ≤ L → OkD E → PlA I' E → InvM I' J I' T → k (nI n) (I', J, vRR ρ)) : V (d + 5) 123 123 mX8_plain 0 [.ref 103, vJ, vJ] [] (I, J, vRR ρ) (Ki k) := by
  refine s_thr rX8_plain_0 rX8_plain_1 rX8_plain_2 hM (fun I1 e1 e2 hM1 => ?_)
  have hT1 : MT I1 l L := MT_f hT (e1 104 (by decide)) (e2 3 (by decide))
  have hL := hT1.1
  have fr1 : ∀ I', FrS I1 I' → (∀ a, a < 103 ∨ 123 ≤ a → I' a = I a) := fun I' g a ha => by rw [g.1 a (by omega) (by omega) (by omega), e1 a (by omega)]
  have mt1 : ∀ I', FrS I1 I' → MT I' l L := fun I' g => MT_f hT1 (g.1 104 (by omega) (by omega) (by omega)) (g.2.1 3 (by omega))
  have ill : ∀ (s n q : Nat) (E : Nat → Nat → Nat) (x : Int32) (v : Value) (I2 : Nat → Nat → Int32), FrS I1 I2 → PS I2 l L q (some s) → s ≤ L → prs l L (L + 1) d0 0 0 = (some s, n, E) → V (d + 5) 123 123 mX8_plain 57 [.ref 103, .int x, v] [] (I2, J, vRR ρ) (Ki k) := by
    intro s n q E x v I2 g hP hs hpr
    have h8 : I2 103 8 = nI s := hP.2
    refine st_aload rX8_plain_57 rfl ?_
    refine cV1i rX8_plain_58 (by first | assumption | decide | exact ⟨by decide, rfl, by decide⟩) (s_isWell hP ?_) rfl (by decide)
    rw [show (some s).isNone = false from rfl]
    first | with_reducible refine st_if_eqN rX8_plain_61 (by omega) (fun _ => ?_) (fun h => absurd h (by first | decide | omega | (simp; done) | simp_all)) | refine st_if_eq rX8_plain_61 (fun _ => ?_) (fun h => absurd h (by first | decide | omega | (simp; done) | simp_all))
    refine st_aload rX8_plain_168 rfl ?_
    refine cV1i rX8_plain_169 (by first | assumption | decide | exact ⟨by decide, rfl, by decide⟩) (s_isWell hP ?_) rfl (by decide)
    rw [show (some s).isNone = false from rfl]
    first | with_reducible refine st_if_neN rX8_plain_172 (by omega) (fun h => absurd h (by first | decide | omega | (simp; done) | simp_all)) (fun _ => ?_) | refine st_if_ne rX8_plain_172 (fun h => absurd h (by first | decide | omega | (simp; done) | simp_all)) (fun _ => ?_)
    refine st_c rX8_plain_175 ?_
    refine st_aload rX8_plain_177 rfl ?_
    refine st_getI rX8_plain_178 (by first | assumption | decide | exact ⟨by decide, rfl, by decide⟩) rfl ?_
    refine st_top h8 ?_
    refine st_isub rX8_plain_181 ?_
    refine st_iret rX8_plain_182 rfl ?_
    exact hbad I2 s n E (fr1 I2 g) (InvM_S hM1 g) hpr hs
  have fin : ∀ (f : Option Nat) (q n : Nat) (v : Value) (I3 : Nat → Nat → Int32), FrS I1 I3 → q ≤ L → PS I3 l L q f → (∀ I5, FrM I3 I5 → PS I5 l L (tN l L q) (fN f (decide (tC l L q = 3)) (tS l L q)) → V (d + 5) 123 123 mX8_plain 57 [.ref 103, .int (nI (n + 1)), v] [] (I5, J, vRR ρ) (Ki k)) → V (d + 5) 123 123 mX8_plain 144 [.ref 103, .int (nI n), v] [] (I3, J, vRR ρ) (Ki k) := by
    intro f q n v I3 g hq hP hc
    have tk : ∀ b : Bool, (f = none → b = decide (tC l L q = 3)) → V (d + 5) 123 123 mX8_plain 158 [.ref 103, .int (nI n), v] [.int (vb b), .ref 103] (I3, J, vRR ρ) (Ki k) := by
      intro b hb
      have eb : fN f b (tS l L q) = fN f (decide (tC l L q = 3)) (tS l L q) := by
        cases f with
        | none => rw [hb rfl]
        | some s => rfl
      refine cV2i rX8_plain_158 (by first | assumption | decide | exact ⟨by decide, rfl, by decide⟩) (s_takes (mt1 I3 g) hq hP (fun I5 g5 P5 => ?_)) rfl (by decide)
      refine st_pop rX8_plain_161 rfl ?_
      first | with_reducible refine st_iincN1 rX8_plain_162 rfl ?_ | refine st_iinc1 rX8_plain_162 rfl ?_
      refine st_goto rX8_plain_165 ?_
      rw [eb] at P5
      exact hc I5 g5 P5
    cases f with
    | some s =>
      refine st_aload rX8_plain_144 rfl ?_
      refine st_aload rX8_plain_145 rfl ?_
      refine st_getI rX8_plain_146 (by first | assumption | decide | exact ⟨by decide, rfl, by decide⟩) rfl ?_
      refine st_c rX8_plain_149 ?_
      first | with_reducible refine st_icmp_neN rX8_plain_150 (by omega) (by omega) (fun h150 => ?_) (fun h150 => ?_) | refine st_icmp_ne rX8_plain_150 (fun h150 => ?_) (fun h150 => ?_)
      · refine st_c rX8_plain_157 ?_
        first | exact tk true (fun h => nomatch h) | exact tk false (fun h => nomatch h)
      · refine st_c rX8_plain_153 ?_
        refine st_goto rX8_plain_154 ?_
        first | exact tk true (fun h => nomatch h) | exact tk false (fun h => nomatch h)
    | none =>
      have h5 : I3 103 5 = nI (tC l L q) := hP.2.2.1
      have htc := tC_le l L q
      by_cases h3 : tC l L q = 3
      · rw [h3] at h5
        refine st_aload rX8_plain_144 rfl ?_
        refine st_aload rX8_plain_145 rfl ?_
        refine st_getI rX8_plain_146 (by first | assumption | decide | exact ⟨by decide, rfl, by decide⟩) rfl ?_
        refine st_top h5 ?_
        refine st_c rX8_plain_149 ?_
        first | with_reducible refine st_icmp_neN rX8_plain_150 (by omega) (by omega) (fun h => absurd h (by first | decide | omega | (simp; done) | simp_all)) (fun _ => ?_) | refine st_icmp_ne rX8_plain_150 (fun h => absurd h (by first | decide | omega | (simp; done) | simp_all)) (fun _ => ?_)
        refine st_c rX8_plain_153 ?_
        refine st_goto rX8_plain_154 ?_
        exact tk true (fun _ => (decide_eq_true h3).symm)
      · refine st_aload rX8_plain_144 rfl ?_
        refine st_aload rX8_plain_145 rfl ?_
        refine st_getI rX8_plain_146 (by first | assumption | decide | exact ⟨by decide, rfl, by decide⟩) rfl ?_
        refine st_top h5 ?_
        refine st_c rX8_plain_149 ?_
        first | with_reducible refine st_icmp_neN rX8_plain_150 (by omega) (by omega) (fun _ => ?_) (fun h => absurd h (by first | decide | omega | (simp; done) | simp_all)) | refine st_icmp_ne rX8_plain_150 (fun _ => ?_) (fun h => absurd h (by first | decide | omega | (simp; done) | simp_all))
        refine st_c rX8_plain_157 ?_
        exact tk false (fun _ => (decide_eq_false h3).symm)
  have key : ∀ (f p n : Nat) (D : Nat → Nat → Nat) (v : Value) (I2 : Nat → Nat → Int32), p ≤ L ∧ L + 1 ≤ p + f → n ≤ p → FrS I1 I2 → PS I2 l L p none → SD I2 D → OkD D → prs l L f D p n = prs l L (L + 1) d0 0 0 → V (d + 5) 123 123 mX8_plain 57 [.ref 103, .int (nI n), v] [] (I2, J, vRR ρ) (Ki k) := by
    intro f
    induction f with
    | zero => intro p n D v I2 hf; omega
    | succ f ih =>
      intro p n D v I2 hf hn g hP hS hO hpr
      have hp := hf.1
      simp only [prs] at hpr
      have hP' := hP
      obtain ⟨-, -, h5, -, h7⟩ := hP'
      have hS' := hS
      obtain ⟨s1, s2, -⟩ := hS'
      have htc := tC_le l L p
      have d1 := hO.1
      have d2 := hO.2.1
      by_cases h0 : tC l L p = 0
      · rw [if_pos h0] at hpr
        rw [h0] at h5
        refine st_aload rX8_plain_57 rfl ?_
        refine cV1i rX8_plain_58 (by first | assumption | decide | exact ⟨by decide, rfl, by decide⟩) (s_isWell hP ?_) rfl (by decide)
        first | with_reducible refine st_if_eqN rX8_plain_61 (by omega) (fun h => absurd h (by first | decide | omega | (simp; done) | simp_all)) (fun _ => ?_) | refine st_if_eq rX8_plain_61 (fun h => absurd h (by first | decide | omega | (simp; done) | simp_all)) (fun _ => ?_)
        refine st_aload rX8_plain_64 rfl ?_
        refine st_getI rX8_plain_65 (by first | assumption | decide | exact ⟨by decide, rfl, by decide⟩) rfl ?_
        refine st_top h5 ?_
        first | with_reducible refine st_if_eqN rX8_plain_68 (by omega) (fun _ => ?_) (fun h => absurd h (by first | decide | omega | (simp; done) | simp_all)) | refine st_if_eq rX8_plain_68 (fun _ => ?_) (fun h => absurd h (by first | decide | omega | (simp; done) | simp_all))
        refine st_aload rX8_plain_168 rfl ?_
        refine cV1i rX8_plain_169 (by first | assumption | decide | exact ⟨by decide, rfl, by decide⟩) (s_isWell hP ?_) rfl (by decide)
        first | with_reducible refine st_if_neN rX8_plain_172 (by omega) (fun _ => ?_) (fun h => absurd h (by first | decide | omega | (simp; done) | simp_all)) | refine st_if_ne rX8_plain_172 (fun _ => ?_) (fun h => absurd h (by first | decide | omega | (simp; done) | simp_all))
        refine st_aload rX8_plain_183 rfl ?_
        refine cV1v rX8_plain_184 (by first | assumption | decide | exact ⟨by decide, rfl, by decide⟩) (s_settles hS hO (fun I3 e1 e2 => ?_)) rfl (by decide)
        refine st_iload rX8_plain_187 rfl ?_
        refine st_iret rX8_plain_188 rfl ?_
        refine hgood I3 n D (fun a ha => by rw [e1 a ha, fr1 I2 g a ha]) hpr.symm (by omega) hO e2 ?_
        exact ⟨rfl, rfl, rfl, rfl, rfl, rfl, rfl, rfl, fun _ _ => ⟨rfl, rfl, rfl, rfl, rfl⟩, fun _ _ => rfl, rfl, rfl, rfl, rfl, rfl, hM1.2.2.2.2.2.2.2.2.2.2.2.2.2.2.2⟩
      · rw [if_neg h0] at hpr
        have hlt := tC_lt hp h0
        have tail : ∀ b : Bool, begOk D (tC l L p) (tV l L p) = b → V (d + 5) 123 123 mX8_plain 128 [.ref 103, .int (nI n), v] [.int (vb b), .ref 103] (I2, J, vRR ρ) (Ki k) := by
          intro b hb
          refine cV2i rX8_plain_128 (by first | assumption | decide | exact ⟨by decide, rfl, by decide⟩) (s_takes (mt1 I2 g) hp hP (fun I3 g3 P3 => ?_)) rfl (by decide)
          refine st_istore2 rX8_plain_131 rfl ?_
          skip
          have g9 : FrS I1 I3 := FrS_t g (FrS_M g3)
          cases b with
          | false =>
            rw [fN_f] at P3
            have hst := stI_b hb
            rw [if_neg (by omega), hst] at hpr
            have hsL := (tS_le l hp).2.1
            refine st_aload rX8_plain_132 rfl ?_
            refine cV1i rX8_plain_133 (by first | assumption | decide | exact ⟨by decide, rfl, by decide⟩) (s_isWell P3 ?_) rfl (by decide)
            rw [show (some (tS l L p)).isNone = false from rfl]
            first | with_reducible refine st_if_eqN rX8_plain_136 (by omega) (fun _ => ?_) (fun h => absurd h (by first | decide | omega | (simp; done) | simp_all)) | refine st_if_eq rX8_plain_136 (fun _ => ?_) (fun h => absurd h (by first | decide | omega | (simp; done) | simp_all))
            refine fin (some (tS l L p)) (pN l L p 1) n _ I3 g9 (pN_le l hp 1) P3 (fun I5 g5 P5 => ?_)
            rw [fN_some] at P5
            exact ill (tS l L p) n _ D _ _ I5 (FrS_t g9 (FrS_M g5)) P5 hsL hpr.symm
          | true =>
            rw [fN_t] at P3
            have P3 : PS I3 l L (pN l L p 1) none := P3
            have hc1 : tC l L p = 1 := by
              have hb2 := hb
              simp only [begOk, Bool.and_eq_true, decide_eq_true_eq] at hb2
              exact hb2.1
            have hx := tV_1 l hc1
            have hb1 := hb
            rw [hc1] at hb1
            have h7 := h7 (Or.inl hc1)
            rw [show (if (fN none true (tS l L p)).isNone = true then I2 103 7 else nI 0) = nI (tV l L p) from h7]
            have hst := itF_st hb
            refine st_aload rX8_plain_132 rfl ?_
            refine cV1i rX8_plain_133 (by first | assumption | decide | exact ⟨by decide, rfl, by decide⟩) (s_isWell P3 ?_) rfl (by decide)
            first | with_reducible refine st_if_eqN rX8_plain_136 (by omega) (fun h => absurd h (by first | decide | omega | (simp; done) | simp_all)) (fun _ => ?_) | refine st_if_eq rX8_plain_136 (fun h => absurd h (by first | decide | omega | (simp; done) | simp_all)) (fun _ => ?_)
            refine st_aload rX8_plain_139 rfl ?_
            refine st_iload rX8_plain_140 rfl ?_
            refine cV2v rX8_plain_141 (by first | assumption | decide | exact ⟨by decide, rfl, by decide⟩) (s_readsItem (mt1 I3 g9) hp P3 (SD_c hS (fun a _ _ => g3.1 a (by omega))) hO hb1 hx (fun I4 e1 P4 e2 => ?_)) rfl (by decide)
            have g10 : FrS I1 I4 := FrS_t g9 e1
            refine fin _ (pN l L p 4) n _ I4 g10 (pN_le l hp 4) P4 (fun I5 g5 P5 => ?_)
            rw [hst] at P5
            have P5 : PS I5 l L (pN l L p 5) (if stI l L D p = 5 then none else some (tS l L (pN l L p (stI l L D p)))) := P5
            by_cases h55 : stI l L D p = 5
            · rw [if_pos h55] at hpr P5
              have m1 : pN l L p 1 ≤ pN l L p 2 := pN_mono (l := l) hp 1
              have m2 : pN l L p 2 ≤ pN l L p 3 := pN_mono (l := l) hp 2
              have m3 : pN l L p 3 ≤ pN l L p 4 := pN_mono (l := l) hp 3
              have m4 : pN l L p 4 ≤ pN l L p 5 := pN_mono (l := l) hp 4
              have hp5 := pN_le l hp 5
              exact ih (pN l L p 5) (n + 1) (stD l L D p) _ I5 (by omega) (by omega) (FrS_t g10 (FrS_M g5)) P5 (SD_c (e2 (itF_5 h55)) (fun a _ _ => g5.1 a (by omega))) (ok_st hO h55) hpr
            · rw [if_neg h55] at hpr P5
              exact ill _ n _ D _ _ I5 (FrS_t g10 (FrS_M g5)) P5 (tS_le l (pN_le l hp _)).2.1 hpr.symm
        by_cases h1 : tC l L p = 1
        · have hx := tV_1 l h1
          have h7 := h7 (Or.inl h1)
          rw [h1] at h5
          rcases hx with hx | hx | hx
          · rw [hx] at h7
            by_cases h6 : D 0 0 < 6
            · have tl := tail true (by simp [begOk, h1, hx, h6])
              refine st_aload rX8_plain_57 rfl ?_
              refine cV1i rX8_plain_58 (by first | assumption | decide | exact ⟨by decide, rfl, by decide⟩) (s_isWell hP ?_) rfl (by decide)
              first | with_reducible refine st_if_eqN rX8_plain_61 (by omega) (fun h => absurd h (by first | decide | omega | (simp; done) | simp_all)) (fun _ => ?_) | refine st_if_eq rX8_plain_61 (fun h => absurd h (by first | decide | omega | (simp; done) | simp_all)) (fun _ => ?_)
              refine st_aload rX8_plain_64 rfl ?_
              refine st_getI rX8_plain_65 (by first | assumption | decide | exact ⟨by decide, rfl, by decide⟩) rfl ?_
              refine st_top h5 ?_
              first | with_reducible refine st_if_eqN rX8_plain_68 (by omega) (fun h => absurd h (by first | decide | omega | (simp; done) | simp_all)) (fun _ => ?_) | refine st_if_eq rX8_plain_68 (fun h => absurd h (by first | decide | omega | (simp; done) | simp_all)) (fun _ => ?_)
              refine st_aload rX8_plain_71 rfl ?_
              refine st_aload rX8_plain_72 rfl ?_
              refine st_getI rX8_plain_73 (by first | assumption | decide | exact ⟨by decide, rfl, by decide⟩) rfl ?_
              refine st_top h5 ?_
              refine st_c rX8_plain_76 ?_
              first | with_reducible refine st_icmp_neN rX8_plain_77 (by omega) (by omega) (fun h => absurd h (by first | decide | omega | (simp; done) | simp_all)) (fun _ => ?_) | refine st_icmp_ne rX8_plain_77 (fun h => absurd h (by first | decide | omega | (simp; done) | simp_all)) (fun _ => ?_)
              refine st_aload rX8_plain_80 rfl ?_
              refine st_getI rX8_plain_81 (by first | assumption | decide | exact ⟨by decide, rfl, by decide⟩) rfl ?_
              refine st_top h7 ?_
              refine st_c rX8_plain_84 ?_
              first | with_reducible refine st_icmp_neN rX8_plain_86 (by omega) (by omega) (fun h => absurd h (by first | decide | omega | (simp; done) | simp_all)) (fun _ => ?_) | refine st_icmp_ne rX8_plain_86 (fun h => absurd h (by first | decide | omega | (simp; done) | simp_all)) (fun _ => ?_)
              refine st_aload rX8_plain_89 rfl ?_
              refine st_getR rX8_plain_90 (by first | assumption | decide | exact ⟨by decide, rfl, by decide⟩) (by first | rfl | assumption) rfl ?_
              refine st_c rX8_plain_93 ?_
              refine st_ialdN rX8_plain_94 (by first | assumption | decide | exact ⟨by decide, rfl, by decide⟩) (by omega) ?_
              refine st_top s1 ?_
              refine st_c rX8_plain_95 ?_
              first | with_reducible refine st_icmp_geN rX8_plain_97 (by omega) (by omega) (fun h => absurd h (by first | decide | omega | (simp; done) | simp_all)) (fun _ => ?_) | refine st_icmp_ge rX8_plain_97 (fun h => absurd h (by first | decide | omega | (simp; done) | simp_all)) (fun _ => ?_)
              refine st_goto rX8_plain_100 ?_
              refine st_c rX8_plain_123 ?_
              refine st_goto rX8_plain_124 ?_
              exact tl
            · have tl := tail false (by simp [begOk, h1, hx, h6])
              refine st_aload rX8_plain_57 rfl ?_
              refine cV1i rX8_plain_58 (by first | assumption | decide | exact ⟨by decide, rfl, by decide⟩) (s_isWell hP ?_) rfl (by decide)
              first | with_reducible refine st_if_eqN rX8_plain_61 (by omega) (fun h => absurd h (by first | decide | omega | (simp; done) | simp_all)) (fun _ => ?_) | refine st_if_eq rX8_plain_61 (fun h => absurd h (by first | decide | omega | (simp; done) | simp_all)) (fun _ => ?_)
              refine st_aload rX8_plain_64 rfl ?_
              refine st_getI rX8_plain_65 (by first | assumption | decide | exact ⟨by decide, rfl, by decide⟩) rfl ?_
              refine st_top h5 ?_
              first | with_reducible refine st_if_eqN rX8_plain_68 (by omega) (fun h => absurd h (by first | decide | omega | (simp; done) | simp_all)) (fun _ => ?_) | refine st_if_eq rX8_plain_68 (fun h => absurd h (by first | decide | omega | (simp; done) | simp_all)) (fun _ => ?_)
              refine st_aload rX8_plain_71 rfl ?_
              refine st_aload rX8_plain_72 rfl ?_
              refine st_getI rX8_plain_73 (by first | assumption | decide | exact ⟨by decide, rfl, by decide⟩) rfl ?_
              refine st_top h5 ?_
              refine st_c rX8_plain_76 ?_
              first | with_reducible refine st_icmp_neN rX8_plain_77 (by omega) (by omega) (fun h => absurd h (by first | decide | omega | (simp; done) | simp_all)) (fun _ => ?_) | refine st_icmp_ne rX8_plain_77 (fun h => absurd h (by first | decide | omega | (simp; done) | simp_all)) (fun _ => ?_)
              refine st_aload rX8_plain_80 rfl ?_
              refine st_getI rX8_plain_81 (by first | assumption | decide | exact ⟨by decide, rfl, by decide⟩) rfl ?_
              refine st_top h7 ?_
              refine st_c rX8_plain_84 ?_
              first | with_reducible refine st_icmp_neN rX8_plain_86 (by omega) (by omega) (fun h => absurd h (by first | decide | omega | (simp; done) | simp_all)) (fun _ => ?_) | refine st_icmp_ne rX8_plain_86 (fun h => absurd h (by first | decide | omega | (simp; done) | simp_all)) (fun _ => ?_)
              refine st_aload rX8_plain_89 rfl ?_
              refine st_getR rX8_plain_90 (by first | assumption | decide | exact ⟨by decide, rfl, by decide⟩) (by first | rfl | assumption) rfl ?_
              refine st_c rX8_plain_93 ?_
              refine st_ialdN rX8_plain_94 (by first | assumption | decide | exact ⟨by decide, rfl, by decide⟩) (by omega) ?_
              refine st_top s1 ?_
              refine st_c rX8_plain_95 ?_
              first | with_reducible refine st_icmp_geN rX8_plain_97 (by omega) (by omega) (fun _ => ?_) (fun h => absurd h (by first | decide | omega | (simp; done) | simp_all)) | refine st_icmp_ge rX8_plain_97 (fun _ => ?_) (fun h => absurd h (by first | decide | omega | (simp; done) | simp_all))
              refine st_c rX8_plain_127 ?_
              exact tl
          · rw [hx] at h7
            have tl := tail true (by simp [begOk, h1, hx])
            refine st_aload rX8_plain_57 rfl ?_
            refine cV1i rX8_plain_58 (by first | assumption | decide | exact ⟨by decide, rfl, by decide⟩) (s_isWell hP ?_) rfl (by decide)
            first | with_reducible refine st_if_eqN rX8_plain_61 (by omega) (fun h => absurd h (by first | decide | omega | (simp; done) | simp_all)) (fun _ => ?_) | refine st_if_eq rX8_plain_61 (fun h => absurd h (by first | decide | omega | (simp; done) | simp_all)) (fun _ => ?_)
            refine st_aload rX8_plain_64 rfl ?_
            refine st_getI rX8_plain_65 (by first | assumption | decide | exact ⟨by decide, rfl, by decide⟩) rfl ?_
            refine st_top h5 ?_
            first | with_reducible refine st_if_eqN rX8_plain_68 (by omega) (fun h => absurd h (by first | decide | omega | (simp; done) | simp_all)) (fun _ => ?_) | refine st_if_eq rX8_plain_68 (fun h => absurd h (by first | decide | omega | (simp; done) | simp_all)) (fun _ => ?_)
            refine st_aload rX8_plain_71 rfl ?_
            refine st_aload rX8_plain_72 rfl ?_
            refine st_getI rX8_plain_73 (by first | assumption | decide | exact ⟨by decide, rfl, by decide⟩) rfl ?_
            refine st_top h5 ?_
            refine st_c rX8_plain_76 ?_
            first | with_reducible refine st_icmp_neN rX8_plain_77 (by omega) (by omega) (fun h => absurd h (by first | decide | omega | (simp; done) | simp_all)) (fun _ => ?_) | refine st_icmp_ne rX8_plain_77 (fun h => absurd h (by first | decide | omega | (simp; done) | simp_all)) (fun _ => ?_)
            refine st_aload rX8_plain_80 rfl ?_
            refine st_getI rX8_plain_81 (by first | assumption | decide | exact ⟨by decide, rfl, by decide⟩) rfl ?_
            refine st_top h7 ?_
            refine st_c rX8_plain_84 ?_
            first | with_reducible refine st_icmp_neN rX8_plain_86 (by omega) (by omega) (fun _ => ?_) (fun h => absurd h (by first | decide | omega | (simp; done) | simp_all)) | refine st_icmp_ne rX8_plain_86 (fun _ => ?_) (fun h => absurd h (by first | decide | omega | (simp; done) | simp_all))
            refine st_aload rX8_plain_103 rfl ?_
            refine st_getI rX8_plain_104 (by first | assumption | decide | exact ⟨by decide, rfl, by decide⟩) rfl ?_
            refine st_top h7 ?_
            refine st_c rX8_plain_107 ?_
            first | with_reducible refine st_icmp_eqN rX8_plain_109 (by omega) (by omega) (fun _ => ?_) (fun h => absurd h (by first | decide | omega | (simp; done) | simp_all)) | refine st_icmp_eq rX8_plain_109 (fun _ => ?_) (fun h => absurd h (by first | decide | omega | (simp; done) | simp_all))
            refine st_c rX8_plain_123 ?_
            refine st_goto rX8_plain_124 ?_
            exact tl
          · rw [hx] at h7
            by_cases h6 : D 0 1 < 6
            · have tl := tail true (by simp [begOk, h1, hx, h6])
              refine st_aload rX8_plain_57 rfl ?_
              refine cV1i rX8_plain_58 (by first | assumption | decide | exact ⟨by decide, rfl, by decide⟩) (s_isWell hP ?_) rfl (by decide)
              first | with_reducible refine st_if_eqN rX8_plain_61 (by omega) (fun h => absurd h (by first | decide | omega | (simp; done) | simp_all)) (fun _ => ?_) | refine st_if_eq rX8_plain_61 (fun h => absurd h (by first | decide | omega | (simp; done) | simp_all)) (fun _ => ?_)
              refine st_aload rX8_plain_64 rfl ?_
              refine st_getI rX8_plain_65 (by first | assumption | decide | exact ⟨by decide, rfl, by decide⟩) rfl ?_
              refine st_top h5 ?_
              first | with_reducible refine st_if_eqN rX8_plain_68 (by omega) (fun h => absurd h (by first | decide | omega | (simp; done) | simp_all)) (fun _ => ?_) | refine st_if_eq rX8_plain_68 (fun h => absurd h (by first | decide | omega | (simp; done) | simp_all)) (fun _ => ?_)
              refine st_aload rX8_plain_71 rfl ?_
              refine st_aload rX8_plain_72 rfl ?_
              refine st_getI rX8_plain_73 (by first | assumption | decide | exact ⟨by decide, rfl, by decide⟩) rfl ?_
              refine st_top h5 ?_
              refine st_c rX8_plain_76 ?_
              first | with_reducible refine st_icmp_neN rX8_plain_77 (by omega) (by omega) (fun h => absurd h (by first | decide | omega | (simp; done) | simp_all)) (fun _ => ?_) | refine st_icmp_ne rX8_plain_77 (fun h => absurd h (by first | decide | omega | (simp; done) | simp_all)) (fun _ => ?_)
              refine st_aload rX8_plain_80 rfl ?_
              refine st_getI rX8_plain_81 (by first | assumption | decide | exact ⟨by decide, rfl, by decide⟩) rfl ?_
              refine st_top h7 ?_
              refine st_c rX8_plain_84 ?_
              first | with_reducible refine st_icmp_neN rX8_plain_86 (by omega) (by omega) (fun _ => ?_) (fun h => absurd h (by first | decide | omega | (simp; done) | simp_all)) | refine st_icmp_ne rX8_plain_86 (fun _ => ?_) (fun h => absurd h (by first | decide | omega | (simp; done) | simp_all))
              refine st_aload rX8_plain_103 rfl ?_
              refine st_getI rX8_plain_104 (by first | assumption | decide | exact ⟨by decide, rfl, by decide⟩) rfl ?_
              refine st_top h7 ?_
              refine st_c rX8_plain_107 ?_
              first | with_reducible refine st_icmp_eqN rX8_plain_109 (by omega) (by omega) (fun h => absurd h (by first | decide | omega | (simp; done) | simp_all)) (fun _ => ?_) | refine st_icmp_eq rX8_plain_109 (fun h => absurd h (by first | decide | omega | (simp; done) | simp_all)) (fun _ => ?_)
              refine st_aload rX8_plain_112 rfl ?_
              refine st_getR rX8_plain_113 (by first | assumption | decide | exact ⟨by decide, rfl, by decide⟩) (by first | rfl | assumption) rfl ?_
              refine st_c rX8_plain_116 ?_
              refine st_ialdN rX8_plain_117 (by first | assumption | decide | exact ⟨by decide, rfl, by decide⟩) (by omega) ?_
              refine st_top s2 ?_
              refine st_c rX8_plain_118 ?_
              first | with_reducible refine st_icmp_geN rX8_plain_120 (by omega) (by omega) (fun h => absurd h (by first | decide | omega | (simp; done) | simp_all)) (fun _ => ?_) | refine st_icmp_ge rX8_plain_120 (fun h => absurd h (by first | decide | omega | (simp; done) | simp_all)) (fun _ => ?_)
              refine st_c rX8_plain_123 ?_
              refine st_goto rX8_plain_124 ?_
              exact tl
            · have tl := tail false (by simp [begOk, h1, hx, h6])
              refine st_aload rX8_plain_57 rfl ?_
              refine cV1i rX8_plain_58 (by first | assumption | decide | exact ⟨by decide, rfl, by decide⟩) (s_isWell hP ?_) rfl (by decide)
              first | with_reducible refine st_if_eqN rX8_plain_61 (by omega) (fun h => absurd h (by first | decide | omega | (simp; done) | simp_all)) (fun _ => ?_) | refine st_if_eq rX8_plain_61 (fun h => absurd h (by first | decide | omega | (simp; done) | simp_all)) (fun _ => ?_)
              refine st_aload rX8_plain_64 rfl ?_
              refine st_getI rX8_plain_65 (by first | assumption | decide | exact ⟨by decide, rfl, by decide⟩) rfl ?_
              refine st_top h5 ?_
              first | with_reducible refine st_if_eqN rX8_plain_68 (by omega) (fun h => absurd h (by first | decide | omega | (simp; done) | simp_all)) (fun _ => ?_) | refine st_if_eq rX8_plain_68 (fun h => absurd h (by first | decide | omega | (simp; done) | simp_all)) (fun _ => ?_)
              refine st_aload rX8_plain_71 rfl ?_
              refine st_aload rX8_plain_72 rfl ?_
              refine st_getI rX8_plain_73 (by first | assumption | decide | exact ⟨by decide, rfl, by decide⟩) rfl ?_
              refine st_top h5 ?_
              refine st_c rX8_plain_76 ?_
              first | with_reducible refine st_icmp_neN rX8_plain_77 (by omega) (by omega) (fun h => absurd h (by first | decide | omega | (simp; done) | simp_all)) (fun _ => ?_) | refine st_icmp_ne rX8_plain_77 (fun h => absurd h (by first | decide | omega | (simp; done) | simp_all)) (fun _ => ?_)
              refine st_aload rX8_plain_80 rfl ?_
              refine st_getI rX8_plain_81 (by first | assumption | decide | exact ⟨by decide, rfl, by decide⟩) rfl ?_
              refine st_top h7 ?_
              refine st_c rX8_plain_84 ?_
              first | with_reducible refine st_icmp_neN rX8_plain_86 (by omega) (by omega) (fun _ => ?_) (fun h => absurd h (by first | decide | omega | (simp; done) | simp_all)) | refine st_icmp_ne rX8_plain_86 (fun _ => ?_) (fun h => absurd h (by first | decide | omega | (simp; done) | simp_all))
              refine st_aload rX8_plain_103 rfl ?_
              refine st_getI rX8_plain_104 (by first | assumption | decide | exact ⟨by decide, rfl, by decide⟩) rfl ?_
              refine st_top h7 ?_
              refine st_c rX8_plain_107 ?_
              first | with_reducible refine st_icmp_eqN rX8_plain_109 (by omega) (by omega) (fun h => absurd h (by first | decide | omega | (simp; done) | simp_all)) (fun _ => ?_) | refine st_icmp_eq rX8_plain_109 (fun h => absurd h (by first | decide | omega | (simp; done) | simp_all)) (fun _ => ?_)
              refine st_aload rX8_plain_112 rfl ?_
              refine st_getR rX8_plain_113 (by first | assumption | decide | exact ⟨by decide, rfl, by decide⟩) (by first | rfl | assumption) rfl ?_
              refine st_c rX8_plain_116 ?_
              refine st_ialdN rX8_plain_117 (by first | assumption | decide | exact ⟨by decide, rfl, by decide⟩) (by omega) ?_
              refine st_top s2 ?_
              refine st_c rX8_plain_118 ?_
              first | with_reducible refine st_icmp_geN rX8_plain_120 (by omega) (by omega) (fun _ => ?_) (fun h => absurd h (by first | decide | omega | (simp; done) | simp_all)) | refine st_icmp_ge rX8_plain_120 (fun _ => ?_) (fun h => absurd h (by first | decide | omega | (simp; done) | simp_all))
              refine st_c rX8_plain_127 ?_
              exact tl
        · have tl := tail false (by simp [begOk, h1])
          refine st_aload rX8_plain_57 rfl ?_
          refine cV1i rX8_plain_58 (by first | assumption | decide | exact ⟨by decide, rfl, by decide⟩) (s_isWell hP ?_) rfl (by decide)
          first | with_reducible refine st_if_eqN rX8_plain_61 (by omega) (fun h => absurd h (by first | decide | omega | (simp; done) | simp_all)) (fun _ => ?_) | refine st_if_eq rX8_plain_61 (fun h => absurd h (by first | decide | omega | (simp; done) | simp_all)) (fun _ => ?_)
          refine st_aload rX8_plain_64 rfl ?_
          refine st_getI rX8_plain_65 (by first | assumption | decide | exact ⟨by decide, rfl, by decide⟩) rfl ?_
          refine st_top h5 ?_
          first | with_reducible refine st_if_eqN rX8_plain_68 (by omega) (fun h => absurd h (by first | decide | omega | (simp; done) | simp_all)) (fun _ => ?_) | refine st_if_eq rX8_plain_68 (fun h => absurd h (by first | decide | omega | (simp; done) | simp_all)) (fun _ => ?_)
          refine st_aload rX8_plain_71 rfl ?_
          refine st_aload rX8_plain_72 rfl ?_
          refine st_getI rX8_plain_73 (by first | assumption | decide | exact ⟨by decide, rfl, by decide⟩) rfl ?_
          refine st_top h5 ?_
          refine st_c rX8_plain_76 ?_
          first | with_reducible refine st_icmp_neN rX8_plain_77 (by omega) (by omega) (fun _ => ?_) (fun h => absurd h (by first | decide | omega | (simp; done) | simp_all)) | refine st_icmp_ne rX8_plain_77 (fun _ => ?_) (fun h => absurd h (by first | decide | omega | (simp; done) | simp_all))
          refine st_c rX8_plain_127 ?_
          exact tl
  refine st_aload rX8_plain_5 rfl ?_
  refine st_c rX8_plain_6 ?_
  refine st_putI rfl rX8_plain_7 (by first | assumption | decide | exact ⟨by decide, rfl, by decide⟩) ?_
  refine st_aload rX8_plain_10 rfl ?_
  refine st_c rX8_plain_11 ?_
  refine st_putI rfl rX8_plain_12 (by first | assumption | decide | exact ⟨by decide, rfl, by decide⟩) ?_
  refine st_c rX8_plain_15 ?_
  refine st_istore1 rX8_plain_16 rfl ?_
  refine st_aload rX8_plain_17 rfl ?_
  refine st_getR rX8_plain_18 (by first | assumption | decide | exact ⟨by decide, rfl, by decide⟩) (by first | rfl | assumption) rfl ?_
  refine st_c rX8_plain_21 ?_
  refine st_c rX8_plain_22 ?_
  refine st_iastN rX8_plain_23 (by first | assumption | decide | exact ⟨by decide, rfl, by decide⟩) (by omega) ?_
  refine st_aload rX8_plain_24 rfl ?_
  refine st_getR rX8_plain_25 (by first | assumption | decide | exact ⟨by decide, rfl, by decide⟩) (by first | rfl | assumption) rfl ?_
  refine st_c rX8_plain_28 ?_
  refine st_c rX8_plain_29 ?_
  refine st_iastN rX8_plain_30 (by first | assumption | decide | exact ⟨by decide, rfl, by decide⟩) (by omega) ?_
  refine st_c rX8_plain_31 ?_
  refine st_istore2 rX8_plain_33 rfl ?_
  skip
  generalize hI2 : up _ 105 _ = I2
  have a1 : ∀ a, a ≠ 103 → a ≠ 105 → I2 a = I1 a := fun a h1 h2 => by rw [← hI2]; simp (disch := omega) only [up_n]
  have a2 : ∀ q, q < 4 ∨ 8 < q → I2 103 q = I1 103 q := fun q hq => by rw [← hI2]; simp (disch := omega) only [up_n, up_s, va_up_n]
  have a3 : ∀ q, q < 2 → I2 105 q = I1 105 q := fun q hq => by rw [← hI2]; simp (disch := omega) only [up_n, up_s, va_up_n]
  have a4 : I2 103 8 = -1 := by rw [← hI2]; simp (disch := omega) only [up_n, up_s, va_up_n, va_up_s]
  have a5 : I2 103 4 = nI 0 := by rw [← hI2]; simp (disch := omega) only [up_n, up_s, va_up_n, va_up_s]
  have a6 : I2 105 2 = nI 0 := by rw [← hI2]; simp (disch := omega) only [up_n, up_s, va_up_n, va_up_s]
  have a7 : I2 105 3 = nI 0 := by rw [← hI2]; simp (disch := omega) only [up_n, up_s, va_up_n, va_up_s]
  refine s_mp1 (fun I3 b1 b2 b3 => ?_)
  have g3 : FrS I1 I3 := ⟨fun a h1 h2 h3 => by rw [b1 a (by omega), a1 a h1 h2], fun q hq => by rw [b1 103 (by decide), a2 q hq], fun q hq => by rw [b1 105 (by decide), a3 q hq], fun a k h1 h2 h3 _ => by rw [b1 a h3, a1 a (by omega) (by omega)], fun k hk => by rw [b2 k hk, a1 109 (by decide) (by decide)]⟩
  refine st_aload rX8_plain_53 rfl ?_
  refine cV1v rX8_plain_54 (by first | assumption | decide | exact ⟨by decide, rfl, by decide⟩) (s_advances (p := 0) (mt1 I3 g3) (Nat.zero_le _) (by rw [b1 103 (by decide)]; exact a5) (fun I4 c1 c2 c3 c4 c5 c6 => ?_)) rfl (by decide)
  refine key (L + 1) 0 0 d0 _ I4 (by omega) (by omega) (FrS_t g3 (FrS_M ⟨c1, fun q hq => c2 q (by omega)⟩)) ⟨by rw [c2 8 (by omega), b1 103 (by decide)]; exact a4, c3, c4, c5, c6⟩ ?_ ok_d0 rfl
  refine ⟨by rw [c1 105 (by decide), b1 105 (by decide)]; exact a6, by rw [c1 105 (by decide), b1 105 (by decide)]; exact a7, fun t h => absurd h (Nat.not_lt_zero _), fun k hk => by rw [c1 109 (by decide)]; exact b3 k hk, fun i h => absurd h (Nat.not_lt_zero _)⟩
end P52
