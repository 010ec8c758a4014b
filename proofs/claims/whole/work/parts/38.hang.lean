/-! ===== hang ===== -/
theorem brF_b {A : Nat → Nat → Int32} {m no : Nat} {e : Nat → Nat} (hO : OkA A m no) : ∀ t, t ≤ m → (∀ s, s < t → e s = bN A s) → brF A e t = true := by
  intro t
  induction t with
  | zero => intro _ _; rfl
  | succ t ih =>
    intro ht h
    have hm6 := hO.1.2.2.1
    have hb := bN_ok hO (show t < m by omega)
    have hw := hO.2.2.1.2.1 t (bN A t) (by omega) hb.1 (by omega)
    simp only [brF, ih (by omega) (fun s hs => h s (by omega)), Bool.true_and]
    rw [h t (by omega), decide_eq_false (Int32.not_lt.mpr hw)]
    rfl
theorem okE_b {A : Nat → Nat → Int32} {m no x : Nat} (hO : OkA A m no) (h : ∀ t, t < m → dg m x t = bN A t) : okE (eD m x) m = true := by
  have hm6 := hO.1.2.2.1
  by_cases hm0 : 0 < m
  · rw [okE_iff hm6 (fun j => eD_lt hm0)]
    intro a b hab hbm e
    obtain ⟨f, c, hp⟩ := hO.2.2.1.1
    have h1 := h (m - 1 - a) (by omega)
    have h2 := h (m - 1 - b) (by omega)
    rw [dg, show m - 1 - (m - 1 - a) = a by omega] at h1
    rw [dg, show m - 1 - (m - 1 - b) = b by omega] at h2
    have p1 := hp (m - 1 - a) (by omega)
    have p2 := hp (m - 1 - b) (by omega)
    have b1 : bN A (m - 1 - a) = f (m - 1 - a) := by rw [bN, p1.1, nI_clamp (by omega)]
    have b2 : bN A (m - 1 - b) = f (m - 1 - b) := by rw [bN, p2.1, nI_clamp (by omega)]
    have q1 := p1.2.2.1
    have q2 := p2.2.2.1
    rw [← b1, ← h1, e, h2, b2, q2] at q1
    omega
  · have : m = 0 := by omega
    subst this
    rfl
theorem dg_all {A : Nat → Nat → Int32} {m no : Nat} (hO : OkA A m no) : ∃ x, x < m ^ m ∧ ∀ t, t < m → dg m x t = bN A t := by
  obtain ⟨x, h1, h2⟩ := eD_all (m := m) m (fun j => bN A (m - 1 - j)) (fun j hj => (bN_ok hO (by omega)).2)
  refine ⟨x, h1, fun t ht => ?_⟩
  rw [dg, h2 _ (by omega), show m - 1 - (m - 1 - t) = t by omega]
theorem mm_le {m : Nat} (h : m ≤ 6) : m ^ m ≤ 46656 := by
  have h1 : m ^ m ≤ 6 ^ m := Nat.pow_le_pow_left h m
  have h2 : 6 ^ m ≤ 6 ^ 6 := Nat.pow_le_pow_right (by decide) h
  exact Nat.le_trans h1 h2
section P38
variable {d : Nat} {I A : Nat → Nat → Int32} {J : Nat → Nat → Int64} {ρ m no : Nat} {T : Int64} {k : Int32 → vS → Prop} {kl : Int64 → vS → Prop} {kv : vS → Prop}
set_option maxHeartbeats 4000000 in
set_option maxRecDepth 100000 in
theorem c_hangBad {t : Int32} (hC : InvC I J ρ A T m no) (hO : OkA A m no) (h1 : t ≠ -1) (h2 : isT m t = false) (hk : k (-1) (I, J, vRR ρ)) : V (d + 2) 123 123 mX7_hang 0 [.ref 0, .int t] [] (I, J, vRR ρ) (Ki k) := by
  obtain ⟨ht0, ht1, ht2, ht3, ht4, ht5, ht6, ht7, ht8, ht9, ht10⟩ := id hC.1
  obtain ⟨hto, o1, o2, o3, o4, o5, o6, o7, o8⟩ := toldF ht0
  have hm6 : m ≤ 6 := hO.1.2.2.1
  have hno6 : no ≤ 6 := hO.1.2.2.2.1
  refine st_iload rX7_hang_0 rfl ?_
  refine st_c rX7_hang_1 ?_
  refine st_icmp_eq rX7_hang_2 (fun h => absurd h h1) (fun _ => ?_)
  refine st_aload rX7_hang_5 rfl ?_
  refine st_getR rX7_hang_6 (by first | assumption | decide | exact ⟨by decide, rfl, by decide⟩) (by first | rfl | assumption) rfl ?_
  refine st_iload rX7_hang_9 rfl ?_
  refine cV2i rX7_hang_10 (by first | assumption | decide | exact ⟨by decide, rfl, by decide⟩) (s_hasTown ht0 ht1 hm6 ?_) rfl (by decide)
  rw [h2]
  first | with_reducible refine st_if_neN rX7_hang_13 (by omega) (fun h => absurd h (by first | decide | omega | (simp; done) | simp_all)) (fun _ => ?_) | refine st_if_ne rX7_hang_13 (fun h => absurd h (by first | decide | omega | (simp; done) | simp_all)) (fun _ => ?_)
  refine st_c rX7_hang_16 ?_
  refine st_iret rX7_hang_17 rfl ?_
  exact hk
set_option maxHeartbeats 4000000 in
set_option maxRecDepth 100000 in
theorem c_hang0 (hC : InvC I J ρ A T m no) (hO : OkA A m no) (hk : ∀ I', (∀ a, 103 ≤ a → I' a = I a) → InvC I' J ρ A T m no → k (nI 0) (I', J, vRR ρ)) : V (d + 2) 123 123 mX7_hang 0 [.ref 0, .int (-1)] [] (I, J, vRR ρ) (Ki k) := by
  refine st_iload rX7_hang_0 rfl ?_
  refine st_c rX7_hang_1 ?_
  refine st_icmp_eq rX7_hang_2 (fun _ => ?_) (fun h => absurd rfl h)
  refine st_iload rX7_hang_18 rfl ?_
  refine st_c rX7_hang_19 ?_
  refine st_icmp_ne rX7_hang_20 (fun h => absurd rfl h) (fun _ => ?_)
  refine st_c rX7_hang_23 ?_
  refine st_goto rX7_hang_24 ?_
  refine st_iret rX7_hang_38 rfl ?_
  exact hk I (fun _ _ => rfl) hC
set_option maxHeartbeats 4000000 in
set_option maxRecDepth 100000 in
theorem c_hang1 {t : Nat} (hC : InvC I J ρ A T m no) (hO : OkA A m no) (ht : t < m) (hk : ∀ I', (∀ a, 103 ≤ a → I' a = I a) → InvC I' J ρ A T m no → k (nI (bN A t)) (I', J, vRR ρ)) : V (d + 2) 123 123 mX7_hang 0 [.ref 0, .int (nI t)] [] (I, J, vRR ρ) (Ki k) := by
  obtain ⟨ht0, ht1, ht2, ht3, ht4, ht5, ht6, ht7, ht8, ht9, ht10⟩ := id hC.1
  obtain ⟨hto, o1, o2, o3, o4, o5, o6, o7, o8⟩ := toldF ht0
  have hm6 : m ≤ 6 := hO.1.2.2.1
  have hno6 : no ≤ 6 := hO.1.2.2.2.1
  have hh : vHg 22 := ⟨by decide, rfl⟩
  have hb := bN_ok hO ht
  have hne : ¬ nI t = -1 := fun e => by have := congrArg Int32.toInt e; rw [nI_toInt (by omega)] at this; have e9 : (-1 : Int32).toInt = -1 := rfl; rw [e9] at this; omega
  refine st_iload rX7_hang_0 rfl ?_
  refine st_c rX7_hang_1 ?_
  refine st_icmp_eq rX7_hang_2 (fun h => absurd h hne) (fun _ => ?_)
  refine st_aload rX7_hang_5 rfl ?_
  refine st_getR rX7_hang_6 (by first | assumption | decide | exact ⟨by decide, rfl, by decide⟩) (by first | rfl | assumption) rfl ?_
  refine st_iload rX7_hang_9 rfl ?_
  refine cV2i rX7_hang_10 (by first | assumption | decide | exact ⟨by decide, rfl, by decide⟩) (s_hasTown ht0 ht1 hm6 ?_) rfl (by decide)
  rw [isT_n ht (by omega)]
  first | with_reducible refine st_if_neN rX7_hang_13 (by omega) (fun _ => ?_) (fun h => absurd h (by first | decide | omega | (simp; done) | simp_all)) | refine st_if_ne rX7_hang_13 (fun _ => ?_) (fun h => absurd h (by first | decide | omega | (simp; done) | simp_all))
  refine st_iload rX7_hang_18 rfl ?_
  refine st_c rX7_hang_19 ?_
  refine st_icmp_ne rX7_hang_20 (fun _ => ?_) (fun h => absurd h hne)
  refine st_aload rX7_hang_27 rfl ?_
  refine st_getR rX7_hang_28 (by first | assumption | decide | exact ⟨by decide, rfl, by decide⟩) (by first | rfl | assumption) rfl ?_
  refine st_getR rX7_hang_31 (by first | assumption | decide) (by first | rfl | exact hR2 (by assumption)) rfl ?_
  refine st_iload rX7_hang_34 rfl ?_
  refine cS2i rX7_hang_35 (s_at (by first | assumption | decide | exact ⟨by decide, rfl, by decide⟩) (by omega) ?_) rfl
  refine st_top ((hC.2.2.1.2.2.1 t (by omega)).trans hb.1) ?_
  refine st_iret rX7_hang_38 rfl ?_
  exact hk I (fun _ _ => rfl) hC
set_option maxHeartbeats 4000000 in
set_option maxRecDepth 100000 in
theorem m_hangBad {t : Int32} (hM : InvM I J A T) (hO : OkA A m no) (h1 : t ≠ -1) (h2 : isT m t = false) (hk : ∀ I', (∀ a, a < 103 ∨ 123 ≤ a → I' a = I a) → InvM I' J A T → k (-1) (I', J, vRR ρ)) : V (d + 2) 123 123 mX8_hang 0 [.ref 103, .int t, vJ, vJ, vJ] [] (I, J, vRR ρ) (Ki k) := by
  refine s_thr rX8_hang_0 rX8_hang_1 rX8_hang_2 hM (fun I1 e1 e2 hM1 => ?_)
  have hm6 : m ≤ 6 := hO.1.2.2.1
  have hno6 : no ≤ 6 := hO.1.2.2.2.1
  obtain ⟨m1, m2, m3, m4, m5, m6, m7, m8, m9, m10, m11, m12, m13, m14, m15, m16⟩ := id hM1
  have hmm : I1 105 0 = nI m := m11.trans hO.1.1
  have hmo : I1 105 1 = nI no := m12.trans hO.1.2.1
  refine st_iload rX8_hang_5 rfl ?_
  refine st_c rX8_hang_6 ?_
  refine st_icmp_eq rX8_hang_7 (fun h => absurd h h1) (fun _ => ?_)
  refine st_aload rX8_hang_10 rfl ?_
  refine st_iload rX8_hang_11 rfl ?_
  refine cV2i rX8_hang_12 (by first | assumption | decide | exact ⟨by decide, rfl, by decide⟩) (s_isTown hmm hm6 ?_) rfl (by decide)
  rw [h2]
  first | with_reducible refine st_if_neN rX8_hang_15 (by omega) (fun h => absurd h (by first | decide | omega | (simp; done) | simp_all)) (fun _ => ?_) | refine st_if_ne rX8_hang_15 (fun h => absurd h (by first | decide | omega | (simp; done) | simp_all)) (fun _ => ?_)
  refine st_c rX8_hang_18 ?_
  refine st_iret rX8_hang_19 rfl ?_
  exact hk I1 (fun a ha => e1 a (by omega)) hM1
set_option maxHeartbeats 4000000 in
set_option maxRecDepth 100000 in
theorem m_hang {t : Int32} (hM : InvM I J A T) (hO : OkA A m no) (htt : t = -1 ∨ ∃ y, y < m ∧ t = nI y) (hk : ∀ I', (∀ a, a < 103 ∨ 123 ≤ a → I' a = I a) → InvM I' J A T → k (if t = -1 then nI 0 else nI (bN A t.toNatClampNeg)) (I', J, vRR ρ)) : V (d + 2) 123 123 mX8_hang 0 [.ref 103, .int t, vJ, vJ, vJ] [] (I, J, vRR ρ) (Ki k) := by
  refine s_thr rX8_hang_0 rX8_hang_1 rX8_hang_2 hM (fun I1 e1 e2 hM1 => ?_)
  have hm6 : m ≤ 6 := hO.1.2.2.1
  have hno6 : no ≤ 6 := hO.1.2.2.2.1
  obtain ⟨m1, m2, m3, m4, m5, m6, m7, m8, m9, m10, m11, m12, m13, m14, m15, m16⟩ := id hM1
  have hmm : I1 105 0 = nI m := m11.trans hO.1.1
  have hmo : I1 105 1 = nI no := m12.trans hO.1.2.1
  have main : ∀ x4 : Value, V (d + 2) 123 123 mX8_hang 25 [.ref 103, .int t, .int (nI 1000000), .int (nI 0), x4] [] (I1, J, vRR ρ) (Ki k) := by
    intro x4
    have hmm6 := mm_le hm6
    have fin : ∀ (I2 : Nat → Nat → Int32) (x4 : Value), (∀ a, a ≠ 121 → a ≠ 122 → I2 a = I1 a) → (∀ s, s < m → I2 122 s = nI (bN A s)) → V (d + 2) 123 123 mX8_hang 101 [.ref 103, .int t, .int (nI 0), .int (nI (m ^ m)), x4] [] (I2, J, vRR ρ) (Ki k) := by
      intro I2 x4 g gb
      have hfin := hk I2 (fun a ha => by rw [g a (by omega) (by omega)]; exact e1 a (by omega)) (InvM_same hM1 (fun a _ _ _ h h2 => g a h h2) (fun q _ => by rw [g 103 (by decide) (by decide)]))
      rcases htt with rfl | ⟨y, hy, rfl⟩
      · rw [if_pos rfl] at hfin
        refine st_iload rX8_hang_101 rfl ?_
        refine st_c rX8_hang_102 ?_
        first | with_reducible refine st_icmp_neN rX8_hang_104 (by omega) (by omega) (fun _ => ?_) (fun h => absurd h (by first | decide | omega | (simp; done) | simp_all)) | refine st_icmp_ne rX8_hang_104 (fun _ => ?_) (fun h => absurd h (by first | decide | omega | (simp; done) | simp_all))
        refine st_iload rX8_hang_112 rfl ?_
        refine st_c rX8_hang_113 ?_
        refine st_icmp_ne rX8_hang_114 (fun h => absurd rfl h) (fun _ => ?_)
        refine st_iload rX8_hang_117 rfl ?_
        refine st_goto rX8_hang_118 ?_
        refine st_iret rX8_hang_127 rfl ?_
        exact hfin
      · have hne : ¬ nI y = -1 := fun e => by have := congrArg Int32.toInt e; rw [nI_toInt (by omega)] at this; have e9 : (-1 : Int32).toInt = -1 := rfl; rw [e9] at this; omega
        rw [if_neg hne, nI_clamp (by omega)] at hfin
        refine st_iload rX8_hang_101 rfl ?_
        refine st_c rX8_hang_102 ?_
        first | with_reducible refine st_icmp_neN rX8_hang_104 (by omega) (by omega) (fun _ => ?_) (fun h => absurd h (by first | decide | omega | (simp; done) | simp_all)) | refine st_icmp_ne rX8_hang_104 (fun _ => ?_) (fun h => absurd h (by first | decide | omega | (simp; done) | simp_all))
        refine st_iload rX8_hang_112 rfl ?_
        refine st_c rX8_hang_113 ?_
        refine st_icmp_ne rX8_hang_114 (fun _ => ?_) (fun h => absurd h hne)
        refine st_aload rX8_hang_121 rfl ?_
        refine st_getR rX8_hang_122 (by first | assumption | decide | exact ⟨by decide, rfl, by decide⟩) (by first | rfl | assumption) rfl ?_
        refine st_iload rX8_hang_125 rfl ?_
        refine st_ialdN rX8_hang_126 (by first | assumption | decide | exact ⟨by decide, rfl, by decide⟩) (by omega) ?_
        refine st_top (gb y hy) ?_
        refine st_iret rX8_hang_127 rfl ?_
        exact hfin
    have key : ∀ (r x L : Nat) (I2 : Nat → Nat → Int32) (x4 : Value), x + r = m ^ m → (∀ a, a ≠ 121 → a ≠ 122 → I2 a = I1 a) → (L = 0 ∧ (∀ s, s < m → I2 122 s = nI (bN A s)) ∨ 0 < L ∧ L ≤ 1000000 ∧ ∀ y, y < x → ¬ ∀ s, s < m → dg m y s = bN A s) → V (d + 2) 123 123 mX8_hang 25 [.ref 103, .int t, .int (nI L), .int (nI x), x4] [] (I2, J, vRR ρ) (Ki k) := by
      intro r
      induction r with
      | zero =>
        intro x L I2 x4 he g hL
        have he : x = m ^ m := by omega
        have q5 : I2 105 0 = nI m := by rw [g 105 (by decide) (by decide)]; exact hmm
        rcases hL with ⟨rfl, gb⟩ | ⟨-, -, hno⟩
        · subst he
          refine st_iload rX8_hang_25 rfl ?_
          refine st_aload rX8_hang_26 rfl ?_
          refine cV1i rX8_hang_27 (by first | assumption | decide | exact ⟨by decide, rfl, by decide⟩) (s_rows q5 hm6 ?_) rfl (by decide)
          first | with_reducible refine st_icmp_geN rX8_hang_30 (by omega) (by omega) (fun _ => ?_) (fun h => absurd h (by first | decide | omega | (simp; done) | simp_all)) | refine st_icmp_ge rX8_hang_30 (fun _ => ?_) (fun h => absurd h (by first | decide | omega | (simp; done) | simp_all))
          exact fin I2 _ g gb
        · obtain ⟨y, y1, y2⟩ := dg_all hO
          exact absurd y2 (hno y (by omega))
      | succ r ih =>
        intro x L I2 x4 he g hL
        have hxm : x < m ^ m := by omega
        have hL6 : L ≤ 1000000 := by rcases hL with h | h <;> omega
        have q5 : I2 105 0 = nI m := by rw [g 105 (by decide) (by decide)]; exact hmm
        have hdl : ∀ s, s < m → dg m x s < m := fun s hs => eD_lt (by omega)
        -- it stays as it is
        have stay : ∀ (I3 : Nat → Nat → Int32) (x4 : Value), (∀ a, a ≠ 121 → I3 a = I2 a) → (L = 0 ∨ ¬ ∀ s, s < m → dg m x s = bN A s) → V (d + 2) 123 123 mX8_hang 95 [.ref 103, .int t, .int (nI L), .int (nI x), x4] [] (I3, J, vRR ρ) (Ki k) := by
          intro I3 x4 g3 hor
          have hn := ih (x + 1) L I3 x4 (by omega) (fun a h1 h2 => by rw [g3 a h1, g a h1 h2]) (by
            rcases hL with ⟨h1, h2⟩ | ⟨h1, h2, h3⟩
            · left; exact ⟨h1, fun s hs => by rw [g3 122 (by decide)]; exact h2 s hs⟩
            · right
              refine ⟨h1, h2, fun y hy => ?_⟩
              by_cases hyx : y = x
              · subst hyx
                rcases hor with h | h
                · omega
                · exact h
              · exact h3 y (by omega))
          first | with_reducible refine st_iincN3 rX8_hang_95 rfl ?_ | refine st_iinc3 rX8_hang_95 rfl ?_
          refine st_goto rX8_hang_98 ?_
          exact hn
        refine st_iload rX8_hang_25 rfl ?_
        refine st_aload rX8_hang_26 rfl ?_
        refine cV1i rX8_hang_27 (by first | assumption | decide | exact ⟨by decide, rfl, by decide⟩) (s_rows q5 hm6 ?_) rfl (by decide)
        first | with_reducible refine st_icmp_geN rX8_hang_30 (by omega) (by omega) (fun h => absurd h (by first | decide | omega | (simp; done) | simp_all)) (fun _ => ?_) | refine st_icmp_ge rX8_hang_30 (fun h => absurd h (by first | decide | omega | (simp; done) | simp_all)) (fun _ => ?_)
        refine st_aload rX8_hang_33 rfl ?_
        refine st_iload rX8_hang_34 rfl ?_
        refine cV2i rX8_hang_35 (by first | assumption | decide | exact ⟨by decide, rfl, by decide⟩) (s_isRow q5 hm6 (by omega) (fun I3 g3 gd => ?_)) rfl (by decide)
        skip
        have hM3 : InvM I3 J A T := InvM_same hM1 (fun a _ _ _ h h2 => by rw [g3 a h, g a h h2]) (fun q _ => by rw [g3 103 (by decide), g 103 (by decide) (by decide)])
        cases hok : okE (eD m x) m with
        | false =>
          first | with_reducible refine st_if_eqN rX8_hang_38 (by omega) (fun _ => ?_) (fun h => absurd h (by first | decide | omega | (simp; done) | simp_all)) | refine st_if_eq rX8_hang_38 (fun _ => ?_) (fun h => absurd h (by first | decide | omega | (simp; done) | simp_all))
          exact stay I3 _ g3 (Or.inr (fun h => by rw [okE_b hO h] at hok; cases hok))
        | true =>
          first | with_reducible refine st_if_eqN rX8_hang_38 (by omega) (fun h => absurd h (by first | decide | omega | (simp; done) | simp_all)) (fun _ => ?_) | refine st_if_eq rX8_hang_38 (fun h => absurd h (by first | decide | omega | (simp; done) | simp_all)) (fun _ => ?_)
          refine st_aload rX8_hang_41 rfl ?_
          refine cV1i rX8_hang_42 (by first | assumption | decide | exact ⟨by decide, rfl, by decide⟩) (s_isBorne hM3 hO gd hdl ?_) rfl (by decide)
          skip
          cases hbr : brF A (dg m x) m with
          | false =>
            first | with_reducible refine st_if_eqN rX8_hang_45 (by omega) (fun _ => ?_) (fun h => absurd h (by first | decide | omega | (simp; done) | simp_all)) | refine st_if_eq rX8_hang_45 (fun _ => ?_) (fun h => absurd h (by first | decide | omega | (simp; done) | simp_all))
            exact stay I3 _ g3 (Or.inr (fun h => by rw [brF_b hO m (Nat.le_refl _) h] at hbr; cases hbr))
          | true =>
            have hc0 := crF_0 hO hdl m (Nat.le_refl _)
            have hcle : crV (crF A m (dg m x) m) ≤ 1000000 := by
              cases hs : crF A m (dg m x) m with
              | none => exact Nat.le_refl _
              | some s => have := crF_le hO hdl m s (Nat.le_refl _) hs; simp only [crV]; omega
            by_cases hlt : crV (crF A m (dg m x) m) < L
            · have hn := ih (x + 1) (crV (crF A m (dg m x) m))
              first | with_reducible refine st_if_eqN rX8_hang_45 (by omega) (fun h => absurd h (by first | decide | omega | (simp; done) | simp_all)) (fun _ => ?_) | refine st_if_eq rX8_hang_45 (fun h => absurd h (by first | decide | omega | (simp; done) | simp_all)) (fun _ => ?_)
              refine st_aload rX8_hang_48 rfl ?_
              refine cV1i rX8_hang_49 (by first | assumption | decide | exact ⟨by decide, rfl, by decide⟩) (s_costRow hM3 hO gd hdl ?_) rfl (by decide)
              refine st_iload rX8_hang_52 rfl ?_
              first | with_reducible refine st_icmp_geN rX8_hang_53 (by omega) (by omega) (fun h => absurd h (by first | decide | omega | (simp; done) | simp_all)) (fun _ => ?_) | refine st_icmp_ge rX8_hang_53 (fun h => absurd h (by first | decide | omega | (simp; done) | simp_all)) (fun _ => ?_)
              refine st_aload rX8_hang_56 rfl ?_
              refine cV1i rX8_hang_57 (by first | assumption | decide | exact ⟨by decide, rfl, by decide⟩) (s_costRow hM3 hO gd hdl ?_) rfl (by decide)
              refine st_istore2 rX8_hang_60 rfl ?_
              refine st_c rX8_hang_61 ?_
              refine st_istore4 rX8_hang_62 rfl ?_
              skip
              have copy : ∀ (r s : Nat) (I4 : Nat → Nat → Int32), s + r = m → (∀ a, a ≠ 122 → I4 a = I3 a) → (∀ j, j < s → I4 122 j = nI (dg m x j)) → V (d + 2) 123 123 mX8_hang 64 [.ref 103, .int t, .int (nI (crV (crF A m (dg m x) m))), .int (nI x), .int (nI s)] [] (I4, J, vRR ρ) (Ki k) := by
                intro r
                induction r with
                | zero =>
                  intro s I4 hs g4 gc
                  have hs : s = m := by omega
                  have hn2 := hn I4 (.int (nI s)) (by omega) (fun a h1 h2 => by rw [g4 a h2, g3 a h1, g a h1 h2]) (by
                    by_cases hz : crV (crF A m (dg m x) m) = 0
                    · left
                      refine ⟨hz, fun j hj => ?_⟩
                      have h0 : crF A m (dg m x) m = some 0 := by
                        cases hs : crF A m (dg m x) m with
                        | none => rw [hs] at hz; exact absurd hz (by decide)
                        | some s => rw [hs] at hz; simp only [crV] at hz; rw [hz]
                      rw [gc j (by omega), hc0.mp h0 j hj]
                    · right
                      refine ⟨by omega, hcle, fun y hy => ?_⟩
                      rcases hL with ⟨h1, -⟩ | ⟨h1, -, h3⟩
                      · omega
                      · by_cases hyx : y = x
                        · subst hyx
                          intro h
                          apply hz
                          rw [hc0.mpr h]
                          rfl
                        · exact h3 y (by omega))
                  refine st_iload rX8_hang_64 rfl ?_
                  refine st_aload rX8_hang_66 rfl ?_
                  refine st_getR rX8_hang_67 (by first | assumption | decide | exact ⟨by decide, rfl, by decide⟩) (by first | rfl | assumption) rfl ?_
                  refine st_c rX8_hang_70 ?_
                  refine st_ialdN rX8_hang_71 (by first | assumption | decide | exact ⟨by decide, rfl, by decide⟩) (by omega) ?_
                  refine st_top (show I4 105 0 = nI m by rw [g4 105 (by decide), g3 105 (by decide)]; exact q5) ?_
                  first | with_reducible refine st_icmp_geN rX8_hang_72 (by omega) (by omega) (fun _ => ?_) (fun h => absurd h (by first | decide | omega | (simp; done) | simp_all)) | refine st_icmp_ge rX8_hang_72 (fun _ => ?_) (fun h => absurd h (by first | decide | omega | (simp; done) | simp_all))
                  first | with_reducible refine st_iincN3 rX8_hang_95 rfl ?_ | refine st_iinc3 rX8_hang_95 rfl ?_
                  refine st_goto rX8_hang_98 ?_
                  exact hn2
                | succ r ih2 =>
                  intro s I4 hs g4 gc
                  refine st_iload rX8_hang_64 rfl ?_
                  refine st_aload rX8_hang_66 rfl ?_
                  refine st_getR rX8_hang_67 (by first | assumption | decide | exact ⟨by decide, rfl, by decide⟩) (by first | rfl | assumption) rfl ?_
                  refine st_c rX8_hang_70 ?_
                  refine st_ialdN rX8_hang_71 (by first | assumption | decide | exact ⟨by decide, rfl, by decide⟩) (by omega) ?_
                  refine st_top (show I4 105 0 = nI m by rw [g4 105 (by decide), g3 105 (by decide)]; exact q5) ?_
                  first | with_reducible refine st_icmp_geN rX8_hang_72 (by omega) (by omega) (fun h => absurd h (by first | decide | omega | (simp; done) | simp_all)) (fun _ => ?_) | refine st_icmp_ge rX8_hang_72 (fun h => absurd h (by first | decide | omega | (simp; done) | simp_all)) (fun _ => ?_)
                  refine st_aload rX8_hang_75 rfl ?_
                  refine st_getR rX8_hang_76 (by first | assumption | decide | exact ⟨by decide, rfl, by decide⟩) (by first | rfl | assumption) rfl ?_
                  refine st_iload rX8_hang_79 rfl ?_
                  refine st_aload rX8_hang_81 rfl ?_
                  refine st_getR rX8_hang_82 (by first | assumption | decide | exact ⟨by decide, rfl, by decide⟩) (by first | rfl | assumption) rfl ?_
                  refine st_iload rX8_hang_85 rfl ?_
                  refine st_ialdN rX8_hang_87 (by first | assumption | decide | exact ⟨by decide, rfl, by decide⟩) (by omega) ?_
                  refine st_top (show I4 121 s = nI (dg m x s) by rw [g4 121 (by decide)]; exact gd s (by omega)) ?_
                  refine st_iastN rX8_hang_88 (by first | assumption | decide | exact ⟨by decide, rfl, by decide⟩) (by omega) ?_
                  first | with_reducible refine st_iincN4 rX8_hang_89 rfl ?_ | refine st_iinc4 rX8_hang_89 rfl ?_
                  refine st_goto rX8_hang_92 ?_
                  refine ih2 (s + 1) _ (by omega) (fun a ha => by rw [up_n ha, g4 a ha]) (fun j hj => ?_)
                  rw [up_s]
                  by_cases e : j = s
                  · subst e; rw [va_up_s]
                  · rw [va_up_n e]; exact gc j (by omega)
              exact copy m 0 I3 (by omega) (fun a _ => rfl) (fun j hj => absurd hj (by omega))
            · have hor : L = 0 ∨ ¬ ∀ s, s < m → dg m x s = bN A s := by
                by_cases hL0 : L = 0
                · exact Or.inl hL0
                · right
                  intro h
                  rw [hc0.mpr h] at hlt
                  simp only [crV] at hlt
                  omega
              first | with_reducible refine st_if_eqN rX8_hang_45 (by omega) (fun h => absurd h (by first | decide | omega | (simp; done) | simp_all)) (fun _ => ?_) | refine st_if_eq rX8_hang_45 (fun h => absurd h (by first | decide | omega | (simp; done) | simp_all)) (fun _ => ?_)
              refine st_aload rX8_hang_48 rfl ?_
              refine cV1i rX8_hang_49 (by first | assumption | decide | exact ⟨by decide, rfl, by decide⟩) (s_costRow hM3 hO gd hdl ?_) rfl (by decide)
              refine st_iload rX8_hang_52 rfl ?_
              first | with_reducible refine st_icmp_geN rX8_hang_53 (by omega) (by omega) (fun _ => ?_) (fun h => absurd h (by first | decide | omega | (simp; done) | simp_all)) | refine st_icmp_ge rX8_hang_53 (fun _ => ?_) (fun h => absurd h (by first | decide | omega | (simp; done) | simp_all))
              exact stay I3 _ g3 hor
    exact key (m ^ m) 0 1000000 I1 _ (by omega) (fun a _ _ => rfl) (Or.inr ⟨by omega, by omega, fun y hy => absurd hy (by omega)⟩)
  rcases id htt with ht9 | ⟨x, hx, ht9⟩
  · refine st_iload rX8_hang_5 rfl ?_
    refine st_c rX8_hang_6 ?_
    refine st_icmp_eq rX8_hang_7 (fun _ => ?_) (fun h => absurd ht9 h)
    refine st_c rX8_hang_20 ?_
    refine st_istore2 rX8_hang_22 rfl ?_
    refine st_c rX8_hang_23 ?_
    refine st_istore3 rX8_hang_24 rfl ?_
    exact main _
  · have hne : ¬ t = -1 := fun e => by have := congrArg Int32.toInt (ht9.symm.trans e); rw [nI_toInt (by omega)] at this; have e9 : (-1 : Int32).toInt = -1 := rfl; rw [e9] at this; omega
    refine st_iload rX8_hang_5 rfl ?_
    refine st_c rX8_hang_6 ?_
    refine st_icmp_eq rX8_hang_7 (fun h => absurd h hne) (fun _ => ?_)
    refine st_aload rX8_hang_10 rfl ?_
    refine st_iload rX8_hang_11 rfl ?_
    refine cV2i rX8_hang_12 (by first | assumption | decide | exact ⟨by decide, rfl, by decide⟩) (s_isTown hmm hm6 ?_) rfl (by decide)
    rw [ht9, isT_n hx (by omega), ← ht9]
    first | with_reducible refine st_if_neN rX8_hang_15 (by omega) (fun _ => ?_) (fun h => absurd h (by first | decide | omega | (simp; done) | simp_all)) | refine st_if_ne rX8_hang_15 (fun _ => ?_) (fun h => absurd h (by first | decide | omega | (simp; done) | simp_all))
    refine st_c rX8_hang_20 ?_
    refine st_istore2 rX8_hang_22 rfl ?_
    refine st_c rX8_hang_23 ?_
    refine st_istore3 rX8_hang_24 rfl ?_
    exact main _
end P38
