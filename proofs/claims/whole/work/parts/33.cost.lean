/-! ===== cost ===== -/
def coF (A : Nat → Nat → Int32) (N : Nat → Int32) (g : Nat → Nat) : Nat → Option Nat
  | 0 => some 0
  | t + 1 => match coF A N g t with
    | none => none
    | some s => if A 113 (6 * g t + t) = nI 1000000 then none else some (s + (A 107 (N (2 + g t)).toNatClampNeg).toNatClampNeg * (A 113 (6 * g t + t)).toNatClampNeg)
def coR : Option Nat → Int32
  | none => -9
  | some s => nI s
theorem coF_n {A : Nat → Nat → Int32} {N : Nat → Int32} {g : Nat → Nat} {t : Nat} (h : coF A N g t = none) : ∀ r, coF A N g (t + r) = none := by
  intro r
  induction r with
  | zero => exact h
  | succ r ih => rw [show t + (r + 1) = (t + r) + 1 by omega]; simp only [coF, ih]
theorem coF_s {A : Nat → Nat → Int32} {m no : Nat} {g : Nat → Nat} {t s : Nat} (hO : OkA A m no) (ht : t < m) (hg : g t < m) (h : coF A (A 114) g t = some s) : ∃ y wt, y < m ∧ A 114 (2 + g t) = nI y ∧ wt ≤ 99 ∧ A 107 y = nI wt ∧ ((A 113 (6 * g t + t) = nI 1000000 ∧ coF A (A 114) g (t + 1) = none) ∨ ∃ x, x ≤ 576 ∧ A 113 (6 * g t + t) = nI x ∧ coF A (A 114) g (t + 1) = some (s + wt * x)) := by
  obtain ⟨b, c, hp⟩ := hO.2.2.1.1
  have hm6 := hO.1.2.2.1
  have hy := hp (g t) hg
  obtain ⟨wt, w1, w2, w3⟩ := hO.1.2.2.2.2.1 (b (g t)) hy.2.1
  refine ⟨b (g t), wt, hy.2.1, hy.1, w2, w3, ?_⟩
  rcases hO.1.2.2.2.2.2.2.2.1 (g t) t hg ht with h1 | ⟨x, h1, h2, -⟩
  · left
    refine ⟨h1.1, ?_⟩
    simp only [coF, h, h1.1, if_true]
  · right
    refine ⟨x, h1, h2, ?_⟩
    have hne : ¬ nI x = nI 1000000 := fun e => by have := (nI_eq (by omega) (by omega)).mp e; omega
    simp only [coF, h, h2, hy.1, if_neg hne]
    rw [nI_clamp (by omega), w3, nI_clamp (by omega), nI_clamp (by omega)]
theorem coF_le {A : Nat → Nat → Int32} {m no : Nat} {g : Nat → Nat} (hO : OkA A m no) (hg : ∀ t, t < m → g t < m) : ∀ t s, t ≤ m → coF A (A 114) g t = some s → s ≤ 57024 * t := by
  intro t
  induction t with
  | zero => intro s _ h; cases h; exact Nat.le_refl _
  | succ t ih =>
    intro s ht h
    cases h0 : coF A (A 114) g t with
    | none => rw [show coF A (A 114) g (t + 1) = none from coF_n h0 1] at h; cases h
    | some s0 =>
      have := ih s0 (by omega) h0
      obtain ⟨y, wt, -, -, w2, -, h1 | ⟨x, x1, -, h2⟩⟩ := coF_s hO (by omega) (hg t (by omega)) h0
      · rw [h1.2] at h; cases h
      · rw [h2] at h
        cases h
        have := Nat.mul_le_mul w2 x1
        omega
theorem nI_m9 {x : Nat} (h : x < 2147483648) : ¬ nI x = -9 := fun e => by
  have := congrArg Int32.toInt e
  rw [nI_toInt h] at this
  have e9 : (-9 : Int32).toInt = -9 := rfl
  rw [e9] at this
  omega
section P33
variable {d : Nat} {I A : Nat → Nat → Int32} {J : Nat → Nat → Int64} {ρ m no : Nat} {T : Int64} {k : Int32 → vS → Prop} {kl : Int64 → vS → Prop} {kv : vS → Prop}
set_option maxHeartbeats 4000000 in
set_option maxRecDepth 100000 in
theorem c_costBad {z : Int32} (hz : isT 10000 z = false) (hk : k (-1) (I, J, vRR ρ)) : V (d + 1) 123 123 mX7_cost 0 [.ref 0, .int z, vJ, vJ, vJ, vJ] [] (I, J, vRR ρ) (Ki k) := by
  refine st_iload rX7_cost_0 rfl ?_
  refine st_c rX7_cost_1 ?_
  refine st_c rX7_cost_2 ?_
  refine cS3i rX7_cost_5 (s_within ?_) rfl
  rw [inR_N (by decide), hz]
  first | with_reducible refine st_if_neN rX7_cost_8 (by omega) (fun h => absurd h (by first | decide | omega | (simp; done) | simp_all)) (fun _ => ?_) | refine st_if_ne rX7_cost_8 (fun h => absurd h (by first | decide | omega | (simp; done) | simp_all)) (fun _ => ?_)
  refine st_c rX7_cost_11 ?_
  refine st_iret rX7_cost_12 rfl ?_
  exact hk
set_option maxHeartbeats 4000000 in
set_option maxRecDepth 100000 in
theorem m_costBad {z : Int32} (hM : InvM I J A T) (hz : isT 10000 z = false) (hk : ∀ I', (∀ a, a < 103 ∨ 123 ≤ a → I' a = I a) → InvM I' J A T → k (-1) (I', J, vRR ρ)) : V (d + 1) 123 123 mX8_cost 0 [.ref 103, .int z, vJ, vJ, vJ] [] (I, J, vRR ρ) (Ki k) := by
  refine s_thr rX8_cost_0 rX8_cost_1 rX8_cost_2 hM (fun I1 e1 e2 hM1 => ?_)
  refine st_iload rX8_cost_5 rfl ?_
  refine st_c rX8_cost_6 ?_
  refine st_c rX8_cost_7 ?_
  refine cS3i rX8_cost_10 (s_in ?_) rfl
  rw [inR_N (by decide), hz]
  first | with_reducible refine st_if_neN rX8_cost_13 (by omega) (fun h => absurd h (by first | decide | omega | (simp; done) | simp_all)) (fun _ => ?_) | refine st_if_ne rX8_cost_13 (fun h => absurd h (by first | decide | omega | (simp; done) | simp_all)) (fun _ => ?_)
  refine st_c rX8_cost_16 ?_
  refine st_iret rX8_cost_17 rfl ?_
  exact hk I1 (fun a ha => e1 a (by omega)) hM1
set_option maxHeartbeats 4000000 in
set_option maxRecDepth 100000 in
theorem c_cost {z : Nat} (hC : InvC I J ρ A T m no) (hO : OkA A m no) (hz : z < 10000) (hk : ∀ I', (∀ a, 103 ≤ a → I' a = I a) → InvC I' J ρ A T m no → k (coR (coF A (A 114) (gD (rD m z)) m)) (I', J, vRR ρ)) : V (d + 3) 123 123 mX7_cost 0 [.ref 0, .int (nI z), vJ, vJ, vJ, vJ] [] (I, J, vRR ρ) (Ki k) := by
  obtain ⟨ht0, ht1, ht2, ht3, ht4, ht5, ht6, ht7, ht8, ht9, ht10⟩ := id hC.1
  obtain ⟨hto, o1, o2, o3, o4, o5, o6, o7, o8⟩ := toldF ht0
  have hm6 : m ≤ 6 := hO.1.2.2.1
  have hno6 : no ≤ 6 := hO.1.2.2.2.1
  have hv := hC.2.2.1
  have hρ : ρ ≤ 13 := by rcases ht0 with h | h <;> omega
  have hgm : ∀ t, t < m → gD (rD m z) t < m := fun t ht => ((drOk hm6 (fun t ht => rD_lt ht) t (by omega)).2.2 ht).2.1
  refine st_iload rX7_cost_0 rfl ?_
  refine st_c rX7_cost_1 ?_
  refine st_c rX7_cost_2 ?_
  refine cS3i rX7_cost_5 (s_within ?_) rfl
  rw [inR_N (by decide), isT_n hz (by decide)]
  first | with_reducible refine st_if_neN rX7_cost_8 (by omega) (fun _ => ?_) (fun h => absurd h (by first | decide | omega | (simp; done) | simp_all)) | refine st_if_ne rX7_cost_8 (fun _ => ?_) (fun h => absurd h (by first | decide | omega | (simp; done) | simp_all))
  refine st_aload rX7_cost_13 rfl ?_
  refine st_getR rX7_cost_14 (by first | assumption | decide | exact ⟨by decide, rfl, by decide⟩) (by first | rfl | assumption) rfl ?_
  refine st_aload rX7_cost_17 rfl ?_
  refine st_getR rX7_cost_18 (by first | assumption | decide | exact ⟨by decide, rfl, by decide⟩) (by first | rfl | assumption) rfl ?_
  refine st_getI rX7_cost_21 (by first | assumption | decide | exact ⟨by decide, rfl, by decide⟩) rfl ?_
  refine st_top ht1 ?_
  refine st_iload rX7_cost_24 rfl ?_
  refine cV3v rX7_cost_25 (by first | assumption | decide | exact ⟨by decide, rfl, by decide⟩) (s_drawBy hm6 hz (fun I1 g g1 g2 => ?_)) rfl (by decide)
  refine st_c rX7_cost_28 ?_
  refine st_istore2 rX7_cost_29 rfl ?_
  refine st_c rX7_cost_30 ?_
  refine st_istore3 rX7_cost_31 rfl ?_
  skip
  have gg : ∀ a, a < 100 → I1 a = I a := fun a ha => g a (by omega) (by omega)
  have hC1 : InvC I1 J ρ A T m no := InvC_same hC (fun a _ h => gg a h)
  have key : ∀ (r t s : Nat) (x4 x5 : Value), t + r = m → coF A (A 114) (gD (rD m z)) t = some s → V (d + 3) 123 123 mX7_cost 32 [.ref 0, .int (nI z), .int (nI s), .int (nI t), x4, x5] [] (I1, J, vRR ρ) (Ki k) := by
    intro r
    induction r with
    | zero =>
      intro t s x4 x5 he hs
      have he : t = m := by omega
      subst he
      have hfin := hk I1 (fun a ha => g a (by omega) (by omega)) hC1
      rw [hs] at hfin
      refine st_iload rX7_cost_32 rfl ?_
      refine st_aload rX7_cost_33 rfl ?_
      refine st_getR rX7_cost_34 (by first | assumption | decide | exact ⟨by decide, rfl, by decide⟩) (by first | rfl | assumption) rfl ?_
      refine st_getI rX7_cost_37 (by first | assumption | decide | exact ⟨by decide, rfl, by decide⟩) rfl ?_
      refine st_top (show I1 ρ 0 = nI t by rw [gg ρ (by omega)]; exact ht1) ?_
      first | with_reducible refine st_icmp_geN rX7_cost_40 (by omega) (by omega) (fun _ => ?_) (fun h => absurd h (by first | decide | omega | (simp; done) | simp_all)) | refine st_icmp_ge rX7_cost_40 (fun _ => ?_) (fun h => absurd h (by first | decide | omega | (simp; done) | simp_all))
      refine st_iload rX7_cost_112 rfl ?_
      refine st_iret rX7_cost_113 rfl ?_
      exact hfin
    | succ r ih =>
      intro t s x4 x5 he hs
      have htm : t < m := by omega
      have hg := hgm t htm
      obtain ⟨y, wt, y1, y2, w1, w2, hcase⟩ := coF_s hO htm hg hs
      have q1 : I1 101 t = nI (gD (rD m z) t) := g1 t htm
      have q2 : I1 23 (gD (rD m z) t) = nI y := by rw [gg 23 (by omega)]; exact (hv.2.2.1 _ (by omega)).trans y2
      have q3 : I1 (ρ + 2) y = nI wt := by rw [gg (ρ + 2) (by omega)]; exact (ht4 y y1).trans w2
      have q4 : I1 (ρ + 5) (gD (rD m z) t * 6 + t) = farC (A 113 (6 * gD (rD m z) t + t)) := by rw [gg (ρ + 5) (by omega)]; exact ht7 _ _ hg htm
      have q0 : I1 ρ 0 = nI m := by rw [gg ρ (by omega)]; exact ht1
      rcases hcase with ⟨f1, f2⟩ | ⟨x, x1, f1, f2⟩
      · have f3 : farC (A 113 (6 * gD (rD m z) t + t)) = -9 := by rw [f1]; rfl
        have hfin := hk I1 (fun a ha => g a (by omega) (by omega)) hC1
        rw [show m = (t + 1) + r by omega, coF_n (by rw [show (t + 1) + r = m by omega]; exact f2) r] at hfin
        refine st_iload rX7_cost_32 rfl ?_
        refine st_aload rX7_cost_33 rfl ?_
        refine st_getR rX7_cost_34 (by first | assumption | decide | exact ⟨by decide, rfl, by decide⟩) (by first | rfl | assumption) rfl ?_
        refine st_getI rX7_cost_37 (by first | assumption | decide | exact ⟨by decide, rfl, by decide⟩) rfl ?_
        refine st_top q0 ?_
        first | with_reducible refine st_icmp_geN rX7_cost_40 (by omega) (by omega) (fun h => absurd h (by first | decide | omega | (simp; done) | simp_all)) (fun _ => ?_) | refine st_icmp_ge rX7_cost_40 (fun h => absurd h (by first | decide | omega | (simp; done) | simp_all)) (fun _ => ?_)
        refine st_aload rX7_cost_43 rfl ?_
        refine st_getR rX7_cost_44 (by first | assumption | decide | exact ⟨by decide, rfl, by decide⟩) (by first | rfl | assumption) rfl ?_
        refine st_getR rX7_cost_47 (by first | assumption | decide | exact ⟨by decide, rfl, by decide⟩) (by first | rfl | assumption) rfl ?_
        refine st_iload rX7_cost_50 rfl ?_
        refine cS2i rX7_cost_51 (s_at (by first | assumption | decide | exact ⟨by decide, rfl, by decide⟩) (by omega) ?_) rfl
        refine st_top q1 ?_
        refine st_istore4 rX7_cost_54 rfl ?_
        refine st_aload rX7_cost_56 rfl ?_
        refine st_getR rX7_cost_57 (by first | assumption | decide | exact ⟨by decide, rfl, by decide⟩) (by first | rfl | assumption) rfl ?_
        refine st_iload rX7_cost_60 rfl ?_
        refine st_iload rX7_cost_62 rfl ?_
        refine cV3i rX7_cost_63 (by first | assumption | decide | exact ⟨by decide, rfl, by decide⟩) (s_wayBetween ht0 (by omega) (by omega) ?_) rfl (by decide)
        refine st_top (q4.trans f3) ?_
        refine st_istore5 rX7_cost_66 rfl ?_
        refine st_iload rX7_cost_68 rfl ?_
        refine st_c rX7_cost_70 ?_
        refine st_icmp_ne rX7_cost_72 (fun h => absurd rfl h) (fun _ => ?_)
        refine st_c rX7_cost_75 ?_
        refine st_iret rX7_cost_77 rfl ?_
        exact hfin
      · have f3 : farC (A 113 (6 * gD (rD m z) t + t)) = nI x := by rw [f1, farC, if_neg (fun e => by have := (nI_eq (by omega) (by omega)).mp e; omega)]
        refine st_iload rX7_cost_32 rfl ?_
        refine st_aload rX7_cost_33 rfl ?_
        refine st_getR rX7_cost_34 (by first | assumption | decide | exact ⟨by decide, rfl, by decide⟩) (by first | rfl | assumption) rfl ?_
        refine st_getI rX7_cost_37 (by first | assumption | decide | exact ⟨by decide, rfl, by decide⟩) rfl ?_
        refine st_top q0 ?_
        first | with_reducible refine st_icmp_geN rX7_cost_40 (by omega) (by omega) (fun h => absurd h (by first | decide | omega | (simp; done) | simp_all)) (fun _ => ?_) | refine st_icmp_ge rX7_cost_40 (fun h => absurd h (by first | decide | omega | (simp; done) | simp_all)) (fun _ => ?_)
        refine st_aload rX7_cost_43 rfl ?_
        refine st_getR rX7_cost_44 (by first | assumption | decide | exact ⟨by decide, rfl, by decide⟩) (by first | rfl | assumption) rfl ?_
        refine st_getR rX7_cost_47 (by first | assumption | decide | exact ⟨by decide, rfl, by decide⟩) (by first | rfl | assumption) rfl ?_
        refine st_iload rX7_cost_50 rfl ?_
        refine cS2i rX7_cost_51 (s_at (by first | assumption | decide | exact ⟨by decide, rfl, by decide⟩) (by omega) ?_) rfl
        refine st_top q1 ?_
        refine st_istore4 rX7_cost_54 rfl ?_
        refine st_aload rX7_cost_56 rfl ?_
        refine st_getR rX7_cost_57 (by first | assumption | decide | exact ⟨by decide, rfl, by decide⟩) (by first | rfl | assumption) rfl ?_
        refine st_iload rX7_cost_60 rfl ?_
        refine st_iload rX7_cost_62 rfl ?_
        refine cV3i rX7_cost_63 (by first | assumption | decide | exact ⟨by decide, rfl, by decide⟩) (s_wayBetween ht0 (by omega) (by omega) ?_) rfl (by decide)
        refine st_top (q4.trans f3) ?_
        refine st_istore5 rX7_cost_66 rfl ?_
        refine st_iload rX7_cost_68 rfl ?_
        refine st_c rX7_cost_70 ?_
        refine st_icmp_ne rX7_cost_72 (fun _ => ?_) (fun h => absurd h (nI_m9 (by omega)))
        refine st_iload rX7_cost_78 rfl ?_
        refine st_aload rX7_cost_79 rfl ?_
        refine st_getR rX7_cost_80 (by first | assumption | decide | exact ⟨by decide, rfl, by decide⟩) (by first | rfl | assumption) rfl ?_
        refine st_getR rX7_cost_83 (by assumption) (tR4 (by assumption)) rfl ?_
        refine st_aload rX7_cost_86 rfl ?_
        refine st_getR rX7_cost_87 (by first | assumption | decide | exact ⟨by decide, rfl, by decide⟩) (by first | rfl | assumption) rfl ?_
        refine st_getR rX7_cost_90 (by first | assumption | decide) (by first | rfl | exact hR2 (by assumption)) rfl ?_
        refine st_iload rX7_cost_93 rfl ?_
        refine cS2i rX7_cost_95 (s_at (by first | assumption | decide | exact ⟨by decide, rfl, by decide⟩) (by omega) ?_) rfl
        refine st_top q2 ?_
        refine cS2i rX7_cost_98 (s_at (by first | assumption | decide | exact ⟨by decide, rfl, by decide⟩) (by omega) ?_) rfl
        refine st_top q3 ?_
        refine st_iload rX7_cost_101 rfl ?_
        first | with_reducible refine st_imulN rX7_cost_103 ?_ | refine st_imul rX7_cost_103 ?_
        first | with_reducible refine st_iaddN rX7_cost_104 ?_ | refine st_iadd rX7_cost_104 ?_
        refine st_istore2 rX7_cost_105 rfl ?_
        first | with_reducible refine st_iincN3 rX7_cost_106 rfl ?_ | refine st_iinc3 rX7_cost_106 rfl ?_
        refine st_goto rX7_cost_109 ?_
        exact ih (t + 1) (s + wt * x) _ _ (by omega) f2
  exact key m 0 0 _ _ (by omega) rfl
set_option maxHeartbeats 4000000 in
set_option maxRecDepth 100000 in
theorem m_cost {z : Nat} (hM : InvM I J A T) (hO : OkA A m no) (hz : z < 10000) (hk : ∀ I', (∀ a, a < 103 ∨ 123 ≤ a → I' a = I a) → InvM I' J A T → k (coR (coF A (A 114) (gD (rD m z)) m)) (I', J, vRR ρ)) : V (d + 2) 123 123 mX8_cost 0 [.ref 103, .int (nI z), vJ, vJ, vJ] [] (I, J, vRR ρ) (Ki k) := by
  refine s_thr rX8_cost_0 rX8_cost_1 rX8_cost_2 hM (fun I1 e1 e2 hM1 => ?_)
  have hm6 : m ≤ 6 := hO.1.2.2.1
  have hno6 : no ≤ 6 := hO.1.2.2.2.1
  obtain ⟨m1, m2, m3, m4, m5, m6, m7, m8, m9, m10, m11, m12, m13, m14, m15, m16⟩ := id hM1
  have hmm : I1 105 0 = nI m := m11.trans hO.1.1
  have hmo : I1 105 1 = nI no := m12.trans hO.1.2.1
  have hgm : ∀ t, t < m → gD (rD m z) t < m := fun t ht => ((drOk hm6 (fun t ht => rD_lt ht) t (by omega)).2.2 ht).2.1
  refine st_iload rX8_cost_5 rfl ?_
  refine st_c rX8_cost_6 ?_
  refine st_c rX8_cost_7 ?_
  refine cS3i rX8_cost_10 (s_in ?_) rfl
  rw [inR_N (by decide), isT_n hz (by decide)]
  first | with_reducible refine st_if_neN rX8_cost_13 (by omega) (fun _ => ?_) (fun h => absurd h (by first | decide | omega | (simp; done) | simp_all)) | refine st_if_ne rX8_cost_13 (fun _ => ?_) (fun h => absurd h (by first | decide | omega | (simp; done) | simp_all))
  refine st_aload rX8_cost_18 rfl ?_
  refine st_iload rX8_cost_19 rfl ?_
  refine cV2v rX8_cost_20 (by first | assumption | decide | exact ⟨by decide, rfl, by decide⟩) (s_draws hmm hm6 hz (fun I2 g g1 => ?_)) rfl (by decide)
  refine st_c rX8_cost_23 ?_
  refine st_istore2 rX8_cost_24 rfl ?_
  refine st_c rX8_cost_25 ?_
  refine st_istore3 rX8_cost_26 rfl ?_
  skip
  have key : ∀ (r t s : Nat) (x4 : Value), t + r = m → (coF A (A 114) (gD (rD m z)) t = some s ∨ coF A (A 114) (gD (rD m z)) t = none ∧ s = 1000000) → V (d + 2) 123 123 mX8_cost 27 [.ref 103, .int (nI z), .int (nI s), .int (nI t), x4] [] (I2, J, vRR ρ) (Ki k) := by
    have q5 : I2 105 0 = nI m := by rw [g 105 (by decide)]; exact hmm
    intro r
    induction r with
    | zero =>
      intro t s x4 he hs
      have he : t = m := by omega
      subst he
      have hfin := hk I2 (fun a ha => by rw [g a (by omega)]; exact e1 a (by omega)) (InvM_same hM1 (fun a _ _ _ h _ => g a h) (fun q _ => by rw [g 103 (by decide)]))
      rcases hs with hs | ⟨hs, rfl⟩
      · rw [hs] at hfin
        have := coF_le hO hgm t s (Nat.le_refl _) hs
        refine st_iload rX8_cost_27 rfl ?_
        refine st_aload rX8_cost_28 rfl ?_
        refine st_getR rX8_cost_29 (by first | assumption | decide | exact ⟨by decide, rfl, by decide⟩) (by first | rfl | assumption) rfl ?_
        refine st_c rX8_cost_32 ?_
        refine st_ialdN rX8_cost_33 (by first | assumption | decide | exact ⟨by decide, rfl, by decide⟩) (by omega) ?_
        refine st_top q5 ?_
        first | with_reducible refine st_icmp_geN rX8_cost_34 (by omega) (by omega) (fun _ => ?_) (fun h => absurd h (by first | decide | omega | (simp; done) | simp_all)) | refine st_icmp_ge rX8_cost_34 (fun _ => ?_) (fun h => absurd h (by first | decide | omega | (simp; done) | simp_all))
        refine st_iload rX8_cost_103 rfl ?_
        refine st_c rX8_cost_104 ?_
        first | with_reducible refine st_icmp_ltN rX8_cost_106 (by omega) (by omega) (fun _ => ?_) (fun h => absurd h (by first | decide | omega | (simp; done) | simp_all)) | refine st_icmp_lt rX8_cost_106 (fun _ => ?_) (fun h => absurd h (by first | decide | omega | (simp; done) | simp_all))
        refine st_iload rX8_cost_114 rfl ?_
        refine st_iret rX8_cost_115 rfl ?_
        exact hfin
      · rw [hs] at hfin
        refine st_iload rX8_cost_27 rfl ?_
        refine st_aload rX8_cost_28 rfl ?_
        refine st_getR rX8_cost_29 (by first | assumption | decide | exact ⟨by decide, rfl, by decide⟩) (by first | rfl | assumption) rfl ?_
        refine st_c rX8_cost_32 ?_
        refine st_ialdN rX8_cost_33 (by first | assumption | decide | exact ⟨by decide, rfl, by decide⟩) (by omega) ?_
        refine st_top q5 ?_
        first | with_reducible refine st_icmp_geN rX8_cost_34 (by omega) (by omega) (fun _ => ?_) (fun h => absurd h (by first | decide | omega | (simp; done) | simp_all)) | refine st_icmp_ge rX8_cost_34 (fun _ => ?_) (fun h => absurd h (by first | decide | omega | (simp; done) | simp_all))
        refine st_iload rX8_cost_103 rfl ?_
        refine st_c rX8_cost_104 ?_
        first | with_reducible refine st_icmp_ltN rX8_cost_106 (by omega) (by omega) (fun h => absurd h (by first | decide | omega | (simp; done) | simp_all)) (fun _ => ?_) | refine st_icmp_lt rX8_cost_106 (fun h => absurd h (by first | decide | omega | (simp; done) | simp_all)) (fun _ => ?_)
        refine st_c rX8_cost_109 ?_
        refine st_goto rX8_cost_111 ?_
        refine st_iret rX8_cost_115 rfl ?_
        exact hfin
    | succ r ih =>
      intro t s x4 he hs
      have htm : t < m := by omega
      have hg := hgm t htm
      have q1 : I2 121 t = nI (gD (rD m z) t) := g1 t htm
      have q4 : I2 113 (6 * gD (rD m z) t + t) = A 113 (6 * gD (rD m z) t + t) := by rw [g 113 (by decide), m2]
      rcases hs with hs | ⟨hs, rfl⟩
      · obtain ⟨y, wt, y1, y2, w1, w2, hcase⟩ := coF_s hO htm hg hs
        have := coF_le hO hgm t s (by omega) hs
        have q2 : I2 114 (2 + gD (rD m z) t) = nI y := by rw [g 114 (by decide), m3]; exact y2
        have q3 : I2 107 y = nI wt := by rw [g 107 (by decide), (m9 y (by omega)).1]; exact w2
        have q4 : I2 113 (6 * gD (rD m z) t + t) = A 113 (6 * gD (rD m z) t + t) := by rw [g 113 (by decide), m2]
        rcases hcase with ⟨f1, f2⟩ | ⟨x, x1, f1, f2⟩
        · refine st_iload rX8_cost_27 rfl ?_
          refine st_aload rX8_cost_28 rfl ?_
          refine st_getR rX8_cost_29 (by first | assumption | decide | exact ⟨by decide, rfl, by decide⟩) (by first | rfl | assumption) rfl ?_
          refine st_c rX8_cost_32 ?_
          refine st_ialdN rX8_cost_33 (by first | assumption | decide | exact ⟨by decide, rfl, by decide⟩) (by omega) ?_
          refine st_top q5 ?_
          first | with_reducible refine st_icmp_geN rX8_cost_34 (by omega) (by omega) (fun h => absurd h (by first | decide | omega | (simp; done) | simp_all)) (fun _ => ?_) | refine st_icmp_ge rX8_cost_34 (fun h => absurd h (by first | decide | omega | (simp; done) | simp_all)) (fun _ => ?_)
          refine st_aload rX8_cost_37 rfl ?_
          refine st_getR rX8_cost_38 (by first | assumption | decide | exact ⟨by decide, rfl, by decide⟩) (by first | rfl | assumption) rfl ?_
          refine st_c rX8_cost_41 ?_
          refine st_aload rX8_cost_43 rfl ?_
          refine st_getR rX8_cost_44 (by first | assumption | decide | exact ⟨by decide, rfl, by decide⟩) (by first | rfl | assumption) rfl ?_
          refine st_iload rX8_cost_47 rfl ?_
          refine st_ialdN rX8_cost_48 (by first | assumption | decide | exact ⟨by decide, rfl, by decide⟩) (by omega) ?_
          refine st_top q1 ?_
          first | with_reducible refine st_imulN rX8_cost_49 ?_ | refine st_imul rX8_cost_49 ?_
          refine st_iload rX8_cost_50 rfl ?_
          first | with_reducible refine st_iaddN rX8_cost_51 ?_ | refine st_iadd rX8_cost_51 ?_
          refine st_ialdN rX8_cost_52 (by first | assumption | decide | exact ⟨by decide, rfl, by decide⟩) (by omega) ?_
          refine st_top (q4.trans f1) ?_
          refine st_istore4 rX8_cost_53 rfl ?_
          refine st_iload rX8_cost_55 rfl ?_
          refine st_c rX8_cost_57 ?_
          first | with_reducible refine st_icmp_geN rX8_cost_59 (by omega) (by omega) (fun _ => ?_) (fun h => absurd h (by first | decide | omega | (simp; done) | simp_all)) | refine st_icmp_ge rX8_cost_59 (fun _ => ?_) (fun h => absurd h (by first | decide | omega | (simp; done) | simp_all))
          refine st_c rX8_cost_68 ?_
          refine st_goto rX8_cost_70 ?_
          refine st_istore2 rX8_cost_96 rfl ?_
          first | with_reducible refine st_iincN3 rX8_cost_97 rfl ?_ | refine st_iinc3 rX8_cost_97 rfl ?_
          refine st_goto rX8_cost_100 ?_
          exact ih (t + 1) 1000000 _ (by omega) (Or.inr ⟨f2, rfl⟩)
        · refine st_iload rX8_cost_27 rfl ?_
          refine st_aload rX8_cost_28 rfl ?_
          refine st_getR rX8_cost_29 (by first | assumption | decide | exact ⟨by decide, rfl, by decide⟩) (by first | rfl | assumption) rfl ?_
          refine st_c rX8_cost_32 ?_
          refine st_ialdN rX8_cost_33 (by first | assumption | decide | exact ⟨by decide, rfl, by decide⟩) (by omega) ?_
          refine st_top q5 ?_
          first | with_reducible refine st_icmp_geN rX8_cost_34 (by omega) (by omega) (fun h => absurd h (by first | decide | omega | (simp; done) | simp_all)) (fun _ => ?_) | refine st_icmp_ge rX8_cost_34 (fun h => absurd h (by first | decide | omega | (simp; done) | simp_all)) (fun _ => ?_)
          refine st_aload rX8_cost_37 rfl ?_
          refine st_getR rX8_cost_38 (by first | assumption | decide | exact ⟨by decide, rfl, by decide⟩) (by first | rfl | assumption) rfl ?_
          refine st_c rX8_cost_41 ?_
          refine st_aload rX8_cost_43 rfl ?_
          refine st_getR rX8_cost_44 (by first | assumption | decide | exact ⟨by decide, rfl, by decide⟩) (by first | rfl | assumption) rfl ?_
          refine st_iload rX8_cost_47 rfl ?_
          refine st_ialdN rX8_cost_48 (by first | assumption | decide | exact ⟨by decide, rfl, by decide⟩) (by omega) ?_
          refine st_top q1 ?_
          first | with_reducible refine st_imulN rX8_cost_49 ?_ | refine st_imul rX8_cost_49 ?_
          refine st_iload rX8_cost_50 rfl ?_
          first | with_reducible refine st_iaddN rX8_cost_51 ?_ | refine st_iadd rX8_cost_51 ?_
          refine st_ialdN rX8_cost_52 (by first | assumption | decide | exact ⟨by decide, rfl, by decide⟩) (by omega) ?_
          refine st_top (q4.trans f1) ?_
          refine st_istore4 rX8_cost_53 rfl ?_
          refine st_iload rX8_cost_55 rfl ?_
          refine st_c rX8_cost_57 ?_
          first | with_reducible refine st_icmp_geN rX8_cost_59 (by omega) (by omega) (fun h => absurd h (by first | decide | omega | (simp; done) | simp_all)) (fun _ => ?_) | refine st_icmp_ge rX8_cost_59 (fun h => absurd h (by first | decide | omega | (simp; done) | simp_all)) (fun _ => ?_)
          refine st_iload rX8_cost_62 rfl ?_
          refine st_c rX8_cost_63 ?_
          first | with_reducible refine st_icmp_ltN rX8_cost_65 (by omega) (by omega) (fun _ => ?_) (fun h => absurd h (by first | decide | omega | (simp; done) | simp_all)) | refine st_icmp_lt rX8_cost_65 (fun _ => ?_) (fun h => absurd h (by first | decide | omega | (simp; done) | simp_all))
          refine st_iload rX8_cost_73 rfl ?_
          refine st_aload rX8_cost_74 rfl ?_
          refine st_getR rX8_cost_75 (by first | assumption | decide | exact ⟨by decide, rfl, by decide⟩) (by first | rfl | assumption) rfl ?_
          refine st_aload rX8_cost_78 rfl ?_
          refine st_getR rX8_cost_79 (by first | assumption | decide | exact ⟨by decide, rfl, by decide⟩) (by first | rfl | assumption) rfl ?_
          refine st_c rX8_cost_82 ?_
          refine st_aload rX8_cost_83 rfl ?_
          refine st_getR rX8_cost_84 (by first | assumption | decide | exact ⟨by decide, rfl, by decide⟩) (by first | rfl | assumption) rfl ?_
          refine st_iload rX8_cost_87 rfl ?_
          refine st_ialdN rX8_cost_88 (by first | assumption | decide | exact ⟨by decide, rfl, by decide⟩) (by omega) ?_
          refine st_top q1 ?_
          first | with_reducible refine st_iaddN rX8_cost_89 ?_ | refine st_iadd rX8_cost_89 ?_
          refine st_ialdN rX8_cost_90 (by first | assumption | decide | exact ⟨by decide, rfl, by decide⟩) (by omega) ?_
          refine st_top q2 ?_
          refine st_ialdN rX8_cost_91 (by first | assumption | decide | exact ⟨by decide, rfl, by decide⟩) (by omega) ?_
          refine st_top q3 ?_
          refine st_iload rX8_cost_92 rfl ?_
          first | with_reducible refine st_imulN rX8_cost_94 ?_ | refine st_imul rX8_cost_94 ?_
          first | with_reducible refine st_iaddN rX8_cost_95 ?_ | refine st_iadd rX8_cost_95 ?_
          refine st_istore2 rX8_cost_96 rfl ?_
          first | with_reducible refine st_iincN3 rX8_cost_97 rfl ?_ | refine st_iinc3 rX8_cost_97 rfl ?_
          refine st_goto rX8_cost_100 ?_
          exact ih (t + 1) (s + wt * x) _ (by omega) (Or.inl f2)
      · have f2 : coF A (A 114) (gD (rD m z)) (t + 1) = none := coF_n hs 1
        rcases hO.1.2.2.2.2.2.2.2.1 (gD (rD m z) t) t hg htm with ⟨f1, -⟩ | ⟨x, x1, f1, -⟩
        · refine st_iload rX8_cost_27 rfl ?_
          refine st_aload rX8_cost_28 rfl ?_
          refine st_getR rX8_cost_29 (by first | assumption | decide | exact ⟨by decide, rfl, by decide⟩) (by first | rfl | assumption) rfl ?_
          refine st_c rX8_cost_32 ?_
          refine st_ialdN rX8_cost_33 (by first | assumption | decide | exact ⟨by decide, rfl, by decide⟩) (by omega) ?_
          refine st_top q5 ?_
          first | with_reducible refine st_icmp_geN rX8_cost_34 (by omega) (by omega) (fun h => absurd h (by first | decide | omega | (simp; done) | simp_all)) (fun _ => ?_) | refine st_icmp_ge rX8_cost_34 (fun h => absurd h (by first | decide | omega | (simp; done) | simp_all)) (fun _ => ?_)
          refine st_aload rX8_cost_37 rfl ?_
          refine st_getR rX8_cost_38 (by first | assumption | decide | exact ⟨by decide, rfl, by decide⟩) (by first | rfl | assumption) rfl ?_
          refine st_c rX8_cost_41 ?_
          refine st_aload rX8_cost_43 rfl ?_
          refine st_getR rX8_cost_44 (by first | assumption | decide | exact ⟨by decide, rfl, by decide⟩) (by first | rfl | assumption) rfl ?_
          refine st_iload rX8_cost_47 rfl ?_
          refine st_ialdN rX8_cost_48 (by first | assumption | decide | exact ⟨by decide, rfl, by decide⟩) (by omega) ?_
          refine st_top q1 ?_
          first | with_reducible refine st_imulN rX8_cost_49 ?_ | refine st_imul rX8_cost_49 ?_
          refine st_iload rX8_cost_50 rfl ?_
          first | with_reducible refine st_iaddN rX8_cost_51 ?_ | refine st_iadd rX8_cost_51 ?_
          refine st_ialdN rX8_cost_52 (by first | assumption | decide | exact ⟨by decide, rfl, by decide⟩) (by omega) ?_
          refine st_top (q4.trans f1) ?_
          refine st_istore4 rX8_cost_53 rfl ?_
          refine st_iload rX8_cost_55 rfl ?_
          refine st_c rX8_cost_57 ?_
          first | with_reducible refine st_icmp_geN rX8_cost_59 (by omega) (by omega) (fun _ => ?_) (fun h => absurd h (by first | decide | omega | (simp; done) | simp_all)) | refine st_icmp_ge rX8_cost_59 (fun _ => ?_) (fun h => absurd h (by first | decide | omega | (simp; done) | simp_all))
          refine st_c rX8_cost_68 ?_
          refine st_goto rX8_cost_70 ?_
          refine st_istore2 rX8_cost_96 rfl ?_
          first | with_reducible refine st_iincN3 rX8_cost_97 rfl ?_ | refine st_iinc3 rX8_cost_97 rfl ?_
          refine st_goto rX8_cost_100 ?_
          exact ih (t + 1) 1000000 _ (by omega) (Or.inr ⟨f2, rfl⟩)
        · refine st_iload rX8_cost_27 rfl ?_
          refine st_aload rX8_cost_28 rfl ?_
          refine st_getR rX8_cost_29 (by first | assumption | decide | exact ⟨by decide, rfl, by decide⟩) (by first | rfl | assumption) rfl ?_
          refine st_c rX8_cost_32 ?_
          refine st_ialdN rX8_cost_33 (by first | assumption | decide | exact ⟨by decide, rfl, by decide⟩) (by omega) ?_
          refine st_top q5 ?_
          first | with_reducible refine st_icmp_geN rX8_cost_34 (by omega) (by omega) (fun h => absurd h (by first | decide | omega | (simp; done) | simp_all)) (fun _ => ?_) | refine st_icmp_ge rX8_cost_34 (fun h => absurd h (by first | decide | omega | (simp; done) | simp_all)) (fun _ => ?_)
          refine st_aload rX8_cost_37 rfl ?_
          refine st_getR rX8_cost_38 (by first | assumption | decide | exact ⟨by decide, rfl, by decide⟩) (by first | rfl | assumption) rfl ?_
          refine st_c rX8_cost_41 ?_
          refine st_aload rX8_cost_43 rfl ?_
          refine st_getR rX8_cost_44 (by first | assumption | decide | exact ⟨by decide, rfl, by decide⟩) (by first | rfl | assumption) rfl ?_
          refine st_iload rX8_cost_47 rfl ?_
          refine st_ialdN rX8_cost_48 (by first | assumption | decide | exact ⟨by decide, rfl, by decide⟩) (by omega) ?_
          refine st_top q1 ?_
          first | with_reducible refine st_imulN rX8_cost_49 ?_ | refine st_imul rX8_cost_49 ?_
          refine st_iload rX8_cost_50 rfl ?_
          first | with_reducible refine st_iaddN rX8_cost_51 ?_ | refine st_iadd rX8_cost_51 ?_
          refine st_ialdN rX8_cost_52 (by first | assumption | decide | exact ⟨by decide, rfl, by decide⟩) (by omega) ?_
          refine st_top (q4.trans f1) ?_
          refine st_istore4 rX8_cost_53 rfl ?_
          refine st_iload rX8_cost_55 rfl ?_
          refine st_c rX8_cost_57 ?_
          first | with_reducible refine st_icmp_geN rX8_cost_59 (by omega) (by omega) (fun h => absurd h (by first | decide | omega | (simp; done) | simp_all)) (fun _ => ?_) | refine st_icmp_ge rX8_cost_59 (fun h => absurd h (by first | decide | omega | (simp; done) | simp_all)) (fun _ => ?_)
          refine st_iload rX8_cost_62 rfl ?_
          refine st_c rX8_cost_63 ?_
          first | with_reducible refine st_icmp_ltN rX8_cost_65 (by omega) (by omega) (fun h => absurd h (by first | decide | omega | (simp; done) | simp_all)) (fun _ => ?_) | refine st_icmp_lt rX8_cost_65 (fun h => absurd h (by first | decide | omega | (simp; done) | simp_all)) (fun _ => ?_)
          refine st_c rX8_cost_68 ?_
          refine st_goto rX8_cost_70 ?_
          refine st_istore2 rX8_cost_96 rfl ?_
          first | with_reducible refine st_iincN3 rX8_cost_97 rfl ?_ | refine st_iinc3 rX8_cost_97 rfl ?_
          refine st_goto rX8_cost_100 ?_
          exact ih (t + 1) 1000000 _ (by omega) (Or.inr ⟨f2, rfl⟩)
  exact key m 0 0 _ (by omega) (Or.inl rfl)
end P33
