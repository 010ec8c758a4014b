/-! ===== town, bell, now ===== -/
theorem posP {m : Nat} {N : Nat → Int32} (h : PermN m N) (hm : m ≤ 6) {x : Nat} (hx : x < m) : ∃ p, p < m ∧ N (2 + p) = nI x ∧ ∀ q, q < p → ∃ c, c < 6 ∧ N (2 + q) = nI c ∧ c ≠ x := by
  obtain ⟨b, c, hp⟩ := h
  have hx' := hp x hx
  have hc := hp (c x) hx'.2.2.2.1
  refine ⟨c x, hx'.2.2.2.1, by rw [hc.1, hx'.2.2.2.2], fun q hq => ⟨b q, ?_, ?_, ?_⟩⟩
  · have := (hp q (by omega)).2.1; omega
  · exact (hp q (by omega)).1
  · intro e
    have := (hp q (by omega)).2.2.1
    rw [e] at this
    omega
section P23
variable {d : Nat} {I A : Nat → Nat → Int32} {J : Nat → Nat → Int64} {ρ m no : Nat} {T : Int64} {k : Int32 → vS → Prop} {kl : Int64 → vS → Prop} {kv : vS → Prop}
set_option maxHeartbeats 4000000 in
set_option maxRecDepth 100000 in
theorem s_isDumb {t : Nat} {kk : Int32 → vS → Prop} (hM : InvM I J A T) (hO : OkA A m no) (ht : t < m) (h : kk (vb (dmF A t m)) (I, J, vRR ρ)) : V d 123 123 mX8_isDumb 0 [.ref 103, .int (nI t), vJ, vJ] [] (I, J, vRR ρ) (Ki kk) := by
  have hm6 : m ≤ 6 := hO.1.2.2.1
  have hno6 : no ≤ 6 := hO.1.2.2.2.1
  obtain ⟨m1, m2, m3, m4, m5, m6, m7, m8, m9, m10, m11, m12, m13, m14, m15, m16⟩ := id hM
  have hmm : I 105 0 = nI m := m11.trans hO.1.1
  have hmo : I 105 1 = nI no := m12.trans hO.1.2.1
  obtain ⟨b, c, hp⟩ := hO.2.2.1.1
  have hbt := hp t ht
  refine st_c rX8_isDumb_0 ?_
  refine st_istore2 rX8_isDumb_1 rfl ?_
  refine st_c rX8_isDumb_2 ?_
  refine st_istore3 rX8_isDumb_3 rfl ?_
  skip
  have key : ∀ (r e : Nat), e + r = m → V d 123 123 mX8_isDumb 4 [.ref 103, .int (nI t), .int (vb (dmF A t e)), .int (nI e)] [] (I, J, vRR ρ) (Ki kk) := by
    intro r
    induction r with
    | zero =>
      intro e he
      have he : e = m := by omega
      subst he
      refine st_iload rX8_isDumb_4 rfl ?_
      refine st_aload rX8_isDumb_5 rfl ?_
      refine st_getR rX8_isDumb_6 (by first | assumption | decide | exact ⟨by decide, rfl, by decide⟩) (by first | rfl | assumption) rfl ?_
      refine st_c rX8_isDumb_9 ?_
      refine st_ialdN rX8_isDumb_10 (by first | assumption | decide | exact ⟨by decide, rfl, by decide⟩) (by omega) ?_
      refine st_top hmm ?_
      first | refine st_icmp_geN rX8_isDumb_11 (by omega) (by omega) (fun _ => ?_) (fun h => absurd h (by first | decide | omega | (simp; done) | simp_all)) | refine st_icmp_ge rX8_isDumb_11 (fun _ => ?_) (fun h => absurd h (by first | decide | omega | (simp; done) | simp_all))
      refine st_iload rX8_isDumb_73 rfl ?_
      refine st_zret rX8_isDumb_74 rfl (by first | rfl | exact vb_nar _) ?_
      exact h
    | succ r ih =>
      intro e he
      have hem : e < m := by omega
      have hn := ih (e + 1) (by omega)
      have hbe := hp e hem
      have i1 : I 114 (2 + e) = nI (b e) := by rw [m3]; exact hbe.1
      have i2 : I 114 (2 + t) = nI (b t) := by rw [m3]; exact hbt.1
      have n1 : I 108 (b e) = ntB A e := by rw [(m9 _ (by omega)).2.1, ntB, hbe.1, nI_clamp (by omega)]
      have n2 : I 108 (b t) = ntB A t := by rw [(m9 _ (by omega)).2.1, ntB, hbt.1, nI_clamp (by omega)]
      have t1 : I 109 (6 * t + e) = A 109 (6 * t + e) := m10 _ (by omega)
      simp only [dmF, dmC] at hn
      cases hd : dmF A t e with
      | true =>
        rw [hd] at hn
        refine st_iload rX8_isDumb_4 rfl ?_
        refine st_aload rX8_isDumb_5 rfl ?_
        refine st_getR rX8_isDumb_6 (by first | assumption | decide | exact ⟨by decide, rfl, by decide⟩) (by first | rfl | assumption) rfl ?_
        refine st_c rX8_isDumb_9 ?_
        refine st_ialdN rX8_isDumb_10 (by first | assumption | decide | exact ⟨by decide, rfl, by decide⟩) (by omega) ?_
        refine st_top hmm ?_
        first | refine st_icmp_geN rX8_isDumb_11 (by omega) (by omega) (fun h => absurd h (by first | decide | omega | (simp; done) | simp_all)) (fun _ => ?_) | refine st_icmp_ge rX8_isDumb_11 (fun h => absurd h (by first | decide | omega | (simp; done) | simp_all)) (fun _ => ?_)
        refine st_iload rX8_isDumb_14 rfl ?_
        first | refine st_if_neN rX8_isDumb_15 (by omega) (fun _ => ?_) (fun h => absurd h (by first | decide | omega | (simp; done) | simp_all)) | refine st_if_ne rX8_isDumb_15 (fun _ => ?_) (fun h => absurd h (by first | decide | omega | (simp; done) | simp_all))
        refine st_c rX8_isDumb_61 ?_
        refine st_goto rX8_isDumb_62 ?_
        refine st_istore2 rX8_isDumb_66 rfl ?_
        first | refine st_iincN3 rX8_isDumb_67 rfl ?_ | refine st_iinc3 rX8_isDumb_67 rfl ?_
        refine st_goto rX8_isDumb_70 ?_
        simp only [Bool.true_or] at hn; exact hn
      | false =>
        rw [hd] at hn
        simp only [Bool.false_or] at hn
        refine st_iload rX8_isDumb_4 rfl ?_
        refine st_aload rX8_isDumb_5 rfl ?_
        refine st_getR rX8_isDumb_6 (by first | assumption | decide | exact ⟨by decide, rfl, by decide⟩) (by first | rfl | assumption) rfl ?_
        refine st_c rX8_isDumb_9 ?_
        refine st_ialdN rX8_isDumb_10 (by first | assumption | decide | exact ⟨by decide, rfl, by decide⟩) (by omega) ?_
        refine st_top hmm ?_
        first | refine st_icmp_geN rX8_isDumb_11 (by omega) (by omega) (fun h => absurd h (by first | decide | omega | (simp; done) | simp_all)) (fun _ => ?_) | refine st_icmp_ge rX8_isDumb_11 (fun h => absurd h (by first | decide | omega | (simp; done) | simp_all)) (fun _ => ?_)
        refine st_iload rX8_isDumb_14 rfl ?_
        first | refine st_if_neN rX8_isDumb_15 (by omega) (fun h => absurd h (by first | decide | omega | (simp; done) | simp_all)) (fun _ => ?_) | refine st_if_ne rX8_isDumb_15 (fun h => absurd h (by first | decide | omega | (simp; done) | simp_all)) (fun _ => ?_)
        refine st_aload rX8_isDumb_18 rfl ?_
        refine st_getR rX8_isDumb_19 (by first | assumption | decide | exact ⟨by decide, rfl, by decide⟩) (by first | rfl | assumption) rfl ?_
        refine st_c rX8_isDumb_22 ?_
        refine st_iload rX8_isDumb_24 rfl ?_
        first | refine st_imulN rX8_isDumb_25 ?_ | refine st_imul rX8_isDumb_25 ?_
        refine st_iload rX8_isDumb_26 rfl ?_
        first | refine st_iaddN rX8_isDumb_27 ?_ | refine st_iadd rX8_isDumb_27 ?_
        refine st_ialdN rX8_isDumb_28 (by first | assumption | decide | exact ⟨by decide, rfl, by decide⟩) (by omega) ?_
        refine st_top t1 ?_
        first | refine st_if_leN rX8_isDumb_29 (by omega) (fun h29 => ?_) (fun h29 => ?_) | refine st_if_le rX8_isDumb_29 (fun h29 => ?_) (fun h29 => ?_)
        · refine st_c rX8_isDumb_65 ?_
          refine st_istore2 rX8_isDumb_66 rfl ?_
          first | refine st_iincN3 rX8_isDumb_67 rfl ?_ | refine st_iinc3 rX8_isDumb_67 rfl ?_
          refine st_goto rX8_isDumb_70 ?_
          first | (rw [decide_eq_false (Int32.not_lt.mpr h29)] at hn; exact hn) | (rw [decide_eq_true (Int32.not_le.mp h29), decide_eq_true h58] at hn; exact hn) | (rw [decide_eq_false h58, Bool.and_false] at hn; exact hn)
        · refine st_aload rX8_isDumb_32 rfl ?_
          refine st_getR rX8_isDumb_33 (by first | assumption | decide | exact ⟨by decide, rfl, by decide⟩) (by first | rfl | assumption) rfl ?_
          refine st_aload rX8_isDumb_36 rfl ?_
          refine st_getR rX8_isDumb_37 (by first | assumption | decide | exact ⟨by decide, rfl, by decide⟩) (by first | rfl | assumption) rfl ?_
          refine st_c rX8_isDumb_40 ?_
          refine st_iload rX8_isDumb_41 rfl ?_
          first | refine st_iaddN rX8_isDumb_42 ?_ | refine st_iadd rX8_isDumb_42 ?_
          refine st_ialdN rX8_isDumb_43 (by first | assumption | decide | exact ⟨by decide, rfl, by decide⟩) (by omega) ?_
          refine st_top i1 ?_
          refine st_ialdN rX8_isDumb_44 (by first | assumption | decide | exact ⟨by decide, rfl, by decide⟩) (by omega) ?_
          refine st_top n1 ?_
          refine st_aload rX8_isDumb_45 rfl ?_
          refine st_getR rX8_isDumb_46 (by first | assumption | decide | exact ⟨by decide, rfl, by decide⟩) (by first | rfl | assumption) rfl ?_
          refine st_aload rX8_isDumb_49 rfl ?_
          refine st_getR rX8_isDumb_50 (by first | assumption | decide | exact ⟨by decide, rfl, by decide⟩) (by first | rfl | assumption) rfl ?_
          refine st_c rX8_isDumb_53 ?_
          refine st_iload rX8_isDumb_54 rfl ?_
          first | refine st_iaddN rX8_isDumb_55 ?_ | refine st_iadd rX8_isDumb_55 ?_
          refine st_ialdN rX8_isDumb_56 (by first | assumption | decide | exact ⟨by decide, rfl, by decide⟩) (by omega) ?_
          refine st_top i2 ?_
          refine st_ialdN rX8_isDumb_57 (by first | assumption | decide | exact ⟨by decide, rfl, by decide⟩) (by omega) ?_
          refine st_top n2 ?_
          first | refine st_icmp_neN rX8_isDumb_58 (by omega) (by omega) (fun h58 => ?_) (fun h58 => ?_) | refine st_icmp_ne rX8_isDumb_58 (fun h58 => ?_) (fun h58 => ?_)
          · refine st_c rX8_isDumb_65 ?_
            refine st_istore2 rX8_isDumb_66 rfl ?_
            first | refine st_iincN3 rX8_isDumb_67 rfl ?_ | refine st_iinc3 rX8_isDumb_67 rfl ?_
            refine st_goto rX8_isDumb_70 ?_
            first | (rw [decide_eq_false (Int32.not_lt.mpr h29)] at hn; exact hn) | (rw [decide_eq_true (Int32.not_le.mp h29), decide_eq_true h58] at hn; exact hn) | (rw [decide_eq_false h58, Bool.and_false] at hn; exact hn)
          · refine st_c rX8_isDumb_61 ?_
            refine st_goto rX8_isDumb_62 ?_
            refine st_istore2 rX8_isDumb_66 rfl ?_
            first | refine st_iincN3 rX8_isDumb_67 rfl ?_ | refine st_iinc3 rX8_isDumb_67 rfl ?_
            refine st_goto rX8_isDumb_70 ?_
            first | (rw [decide_eq_false (Int32.not_lt.mpr h29)] at hn; exact hn) | (rw [decide_eq_true (Int32.not_le.mp h29), decide_eq_true h58] at hn; exact hn) | (rw [decide_eq_false h58, Bool.and_false] at hn; exact hn)
  exact key m 0 (by omega)
set_option maxHeartbeats 4000000 in
set_option maxRecDepth 100000 in
theorem s_fits {b : Nat} {kk : Int32 → vS → Prop} (hM : InvM I J A T) (hO : OkA A m no) (hb : b < m) (h : kk (nI (bitsOf (fitB A b) m)) (I, J, vRR ρ)) : V d 123 123 mX8_fits 0 [.ref 103, .int (nI b), vJ, vJ] [] (I, J, vRR ρ) (Ki kk) := by
  have hm6 : m ≤ 6 := hO.1.2.2.1
  have hno6 : no ≤ 6 := hO.1.2.2.2.1
  obtain ⟨m1, m2, m3, m4, m5, m6, m7, m8, m9, m10, m11, m12, m13, m14, m15, m16⟩ := id hM
  have hmm : I 105 0 = nI m := m11.trans hO.1.1
  have hmo : I 105 1 = nI no := m12.trans hO.1.2.1
  refine st_c rX8_fits_0 ?_
  refine st_istore2 rX8_fits_1 rfl ?_
  refine st_c rX8_fits_2 ?_
  refine st_istore3 rX8_fits_3 rfl ?_
  skip
  have key : ∀ (r t : Nat), t + r = m → V d 123 123 mX8_fits 4 [.ref 103, .int (nI b), .int (nI (bitsOf (fitB A b) t)), .int (nI t)] [] (I, J, vRR ρ) (Ki kk) := by
    intro r
    induction r with
    | zero =>
      intro t he
      have he : t = m := by omega
      subst he
      refine st_iload rX8_fits_4 rfl ?_
      refine st_aload rX8_fits_5 rfl ?_
      refine st_getR rX8_fits_6 (by first | assumption | decide | exact ⟨by decide, rfl, by decide⟩) (by first | rfl | assumption) rfl ?_
      refine st_c rX8_fits_9 ?_
      refine st_ialdN rX8_fits_10 (by first | assumption | decide | exact ⟨by decide, rfl, by decide⟩) (by omega) ?_
      refine st_top hmm ?_
      first | refine st_icmp_geN rX8_fits_11 (by omega) (by omega) (fun _ => ?_) (fun h => absurd h (by first | decide | omega | (simp; done) | simp_all)) | refine st_icmp_ge rX8_fits_11 (fun _ => ?_) (fun h => absurd h (by first | decide | omega | (simp; done) | simp_all))
      refine st_iload rX8_fits_48 rfl ?_
      refine st_iret rX8_fits_49 rfl ?_
      exact h
    | succ r ih =>
      intro t he
      have htm : t < m := by omega
      have hn := ih (t + 1) (by omega)
      refine st_iload rX8_fits_4 rfl ?_
      refine st_aload rX8_fits_5 rfl ?_
      refine st_getR rX8_fits_6 (by first | assumption | decide | exact ⟨by decide, rfl, by decide⟩) (by first | rfl | assumption) rfl ?_
      refine st_c rX8_fits_9 ?_
      refine st_ialdN rX8_fits_10 (by first | assumption | decide | exact ⟨by decide, rfl, by decide⟩) (by omega) ?_
      refine st_top hmm ?_
      first | refine st_icmp_geN rX8_fits_11 (by omega) (by omega) (fun h => absurd h (by first | decide | omega | (simp; done) | simp_all)) (fun _ => ?_) | refine st_icmp_ge rX8_fits_11 (fun h => absurd h (by first | decide | omega | (simp; done) | simp_all)) (fun _ => ?_)
      refine st_iload rX8_fits_14 rfl ?_
      refine st_aload rX8_fits_15 rfl ?_
      refine st_getR rX8_fits_16 (by first | assumption | decide | exact ⟨by decide, rfl, by decide⟩) (by first | rfl | assumption) rfl ?_
      refine st_c rX8_fits_19 ?_
      refine st_iload rX8_fits_21 rfl ?_
      first | refine st_iaddN rX8_fits_22 ?_ | refine st_iadd rX8_fits_22 ?_
      refine st_ialdN rX8_fits_23 (by first | assumption | decide | exact ⟨by decide, rfl, by decide⟩) (by omega) ?_
      rw [m3]
      refine st_aload rX8_fits_24 rfl ?_
      refine st_getR rX8_fits_25 (by first | assumption | decide | exact ⟨by decide, rfl, by decide⟩) (by first | rfl | assumption) rfl ?_
      refine st_iload rX8_fits_28 rfl ?_
      refine st_ialdN rX8_fits_29 (by first | assumption | decide | exact ⟨by decide, rfl, by decide⟩) (by omega) ?_
      refine st_top (m9 b (by omega)).1 ?_
      first | refine st_icmp_ltN rX8_fits_30 (by omega) (by omega) (fun h30 => ?_) (fun h30 => ?_) | refine st_icmp_lt rX8_fits_30 (fun h30 => ?_) (fun h30 => ?_)
      · refine st_c rX8_fits_39 ?_
        refine st_ior rX8_fits_40 ?_
        first | refine st_top (bo_t (f := fitB A b) (by omega) (decide_eq_true (Int32.not_lt.mp h30))) ?_ | refine st_top (bo_f0 (f := fitB A b) (by omega) (decide_eq_false (Int32.not_le.mpr h30))) ?_
        refine st_istore2 rX8_fits_41 rfl ?_
        first | refine st_iincN3 rX8_fits_42 rfl ?_ | refine st_iinc3 rX8_fits_42 rfl ?_
        refine st_goto rX8_fits_45 ?_
        exact hn
      · refine st_c rX8_fits_33 ?_
        refine st_iload rX8_fits_34 rfl ?_
        refine st_ishl rX8_fits_35 ?_
        refine st_goto rX8_fits_36 ?_
        refine st_ior rX8_fits_40 ?_
        first | refine st_top (bo_t (f := fitB A b) (by omega) (decide_eq_true (Int32.not_lt.mp h30))) ?_ | refine st_top (bo_f0 (f := fitB A b) (by omega) (decide_eq_false (Int32.not_le.mpr h30))) ?_
        refine st_istore2 rX8_fits_41 rfl ?_
        first | refine st_iincN3 rX8_fits_42 rfl ?_ | refine st_iinc3 rX8_fits_42 rfl ?_
        refine st_goto rX8_fits_45 ?_
        exact hn
  exact key m 0 (by omega)
set_option maxHeartbeats 4000000 in
set_option maxRecDepth 100000 in
theorem c_townBad {t q : Int32} (hC : InvC I J ρ A T m no) (hO : OkA A m no) (hb : isT m t = false ∨ isT 4 q = false) (hk : k (-1) (I, J, vRR ρ)) : V (d + 2) 123 123 mX7_town 0 [.ref 0, .int t, .int q] [] (I, J, vRR ρ) (Ki k) := by
  obtain ⟨ht0, ht1, ht2, ht3, ht4, ht5, ht6, ht7, ht8, ht9, ht10⟩ := id hC.1
  obtain ⟨hto, o1, o2, o3, o4, o5, o6, o7, o8⟩ := toldF ht0
  have hm6 : m ≤ 6 := hO.1.2.2.1
  have hno6 : no ≤ 6 := hO.1.2.2.2.1
  by_cases hb1 : isT m t = true
  · have hb2 : isT 4 q = false := by rcases hb with h | h; exact absurd hb1 (by rw [h]; decide); exact h
    refine st_aload rX7_town_0 rfl ?_
    refine st_getR rX7_town_1 (by first | assumption | decide | exact ⟨by decide, rfl, by decide⟩) (by first | rfl | assumption) rfl ?_
    refine st_iload rX7_town_4 rfl ?_
    refine cV2i rX7_town_5 (by first | assumption | decide | exact ⟨by decide, rfl, by decide⟩) (s_hasTown ht0 ht1 hm6 ?_) rfl (by decide)
    rw [hb1]
    first | refine st_if_neN rX7_town_8 (by omega) (fun _ => ?_) (fun h => absurd h (by first | decide | omega | (simp; done) | simp_all)) | refine st_if_ne rX7_town_8 (fun _ => ?_) (fun h => absurd h (by first | decide | omega | (simp; done) | simp_all))
    refine st_iload rX7_town_13 rfl ?_
    refine st_tabO rX7_town_14 (by have := isT_f hb2; simpa using this) ?_
    refine st_c rX7_town_86 ?_
    refine st_iret rX7_town_87 rfl ?_
    exact hk
  · have hb1 : isT m t = false := by simpa using hb1
    refine st_aload rX7_town_0 rfl ?_
    refine st_getR rX7_town_1 (by first | assumption | decide | exact ⟨by decide, rfl, by decide⟩) (by first | rfl | assumption) rfl ?_
    refine st_iload rX7_town_4 rfl ?_
    refine cV2i rX7_town_5 (by first | assumption | decide | exact ⟨by decide, rfl, by decide⟩) (s_hasTown ht0 ht1 hm6 ?_) rfl (by decide)
    rw [hb1]
    first | refine st_if_neN rX7_town_8 (by omega) (fun h => absurd h (by first | decide | omega | (simp; done) | simp_all)) (fun _ => ?_) | refine st_if_ne rX7_town_8 (fun h => absurd h (by first | decide | omega | (simp; done) | simp_all)) (fun _ => ?_)
    refine st_c rX7_town_11 ?_
    refine st_iret rX7_town_12 rfl ?_
    exact hk
set_option maxHeartbeats 4000000 in
set_option maxRecDepth 100000 in
theorem m_townBad {t q : Int32} (hM : InvM I J A T) (hO : OkA A m no) (hb : isT m t = false ∨ isT 4 q = false) (hk : ∀ I', (∀ a, a < 103 ∨ 123 ≤ a → I' a = I a) → InvM I' J A T → k (-1) (I', J, vRR ρ)) : V (d + 2) 123 123 mX8_town 0 [.ref 103, .int t, .int q] [] (I, J, vRR ρ) (Ki k) := by
  refine s_thr rX8_town_0 rX8_town_1 rX8_town_2 hM (fun I1 e1 e2 hM1 => ?_)
  have hm6 : m ≤ 6 := hO.1.2.2.1
  have hno6 : no ≤ 6 := hO.1.2.2.2.1
  obtain ⟨m1, m2, m3, m4, m5, m6, m7, m8, m9, m10, m11, m12, m13, m14, m15, m16⟩ := id hM1
  have hmm : I1 105 0 = nI m := m11.trans hO.1.1
  have hmo : I1 105 1 = nI no := m12.trans hO.1.2.1
  by_cases hb1 : isT m t = true
  · have hb2 : isT 4 q = false := by rcases hb with h | h; exact absurd hb1 (by rw [h]; decide); exact h
    refine st_aload rX8_town_5 rfl ?_
    refine st_iload rX8_town_6 rfl ?_
    refine cV2i rX8_town_7 (by first | assumption | decide | exact ⟨by decide, rfl, by decide⟩) (s_isTown hmm hm6 ?_) rfl (by decide)
    rw [hb1]
    first | refine st_if_eqN rX8_town_10 (by omega) (fun h => absurd h (by first | decide | omega | (simp; done) | simp_all)) (fun _ => ?_) | refine st_if_eq rX8_town_10 (fun h => absurd h (by first | decide | omega | (simp; done) | simp_all)) (fun _ => ?_)
    refine st_iload rX8_town_13 rfl ?_
    refine st_c rX8_town_14 ?_
    refine st_c rX8_town_15 ?_
    refine cS3i rX8_town_16 (s_in ?_) rfl
    rw [inR_N (by decide), hb2]
    first | refine st_if_neN rX8_town_19 (by omega) (fun h => absurd h (by first | decide | omega | (simp; done) | simp_all)) (fun _ => ?_) | refine st_if_ne rX8_town_19 (fun h => absurd h (by first | decide | omega | (simp; done) | simp_all)) (fun _ => ?_)
    refine st_c rX8_town_22 ?_
    refine st_iret rX8_town_23 rfl ?_
    exact hk I1 (fun a ha => e1 a (by omega)) hM1
  · have hb1 : isT m t = false := by simpa using hb1
    refine st_aload rX8_town_5 rfl ?_
    refine st_iload rX8_town_6 rfl ?_
    refine cV2i rX8_town_7 (by first | assumption | decide | exact ⟨by decide, rfl, by decide⟩) (s_isTown hmm hm6 ?_) rfl (by decide)
    rw [hb1]
    first | refine st_if_eqN rX8_town_10 (by omega) (fun _ => ?_) (fun h => absurd h (by first | decide | omega | (simp; done) | simp_all)) | refine st_if_eq rX8_town_10 (fun _ => ?_) (fun h => absurd h (by first | decide | omega | (simp; done) | simp_all))
    refine st_c rX8_town_22 ?_
    refine st_iret rX8_town_23 rfl ?_
    exact hk I1 (fun a ha => e1 a (by omega)) hM1
set_option maxHeartbeats 4000000 in
set_option maxRecDepth 100000 in
theorem c_bellBad {t q : Int32} (hC : InvC I J ρ A T m no) (hO : OkA A m no) (hb : isT m t = false ∨ isT 4 q = false) (hk : k (-1) (I, J, vRR ρ)) : V (d + 2) 123 123 mX7_bell 0 [.ref 0, .int t, .int q] [] (I, J, vRR ρ) (Ki k) := by
  obtain ⟨ht0, ht1, ht2, ht3, ht4, ht5, ht6, ht7, ht8, ht9, ht10⟩ := id hC.1
  obtain ⟨hto, o1, o2, o3, o4, o5, o6, o7, o8⟩ := toldF ht0
  have hm6 : m ≤ 6 := hO.1.2.2.1
  have hno6 : no ≤ 6 := hO.1.2.2.2.1
  by_cases hb1 : isT m t = true
  · have hb2 : isT 4 q = false := by rcases hb with h | h; exact absurd hb1 (by rw [h]; decide); exact h
    refine st_aload rX7_bell_0 rfl ?_
    refine st_getR rX7_bell_1 (by first | assumption | decide | exact ⟨by decide, rfl, by decide⟩) (by first | rfl | assumption) rfl ?_
    refine st_iload rX7_bell_4 rfl ?_
    refine cV2i rX7_bell_5 (by first | assumption | decide | exact ⟨by decide, rfl, by decide⟩) (s_hasTown ht0 ht1 hm6 ?_) rfl (by decide)
    rw [hb1]
    first | refine st_if_neN rX7_bell_8 (by omega) (fun _ => ?_) (fun h => absurd h (by first | decide | omega | (simp; done) | simp_all)) | refine st_if_ne rX7_bell_8 (fun _ => ?_) (fun h => absurd h (by first | decide | omega | (simp; done) | simp_all))
    refine st_iload rX7_bell_13 rfl ?_
    refine st_tabO rX7_bell_14 (by have := isT_f hb2; simpa using this) ?_
    refine st_c rX7_bell_83 ?_
    refine st_iret rX7_bell_84 rfl ?_
    exact hk
  · have hb1 : isT m t = false := by simpa using hb1
    refine st_aload rX7_bell_0 rfl ?_
    refine st_getR rX7_bell_1 (by first | assumption | decide | exact ⟨by decide, rfl, by decide⟩) (by first | rfl | assumption) rfl ?_
    refine st_iload rX7_bell_4 rfl ?_
    refine cV2i rX7_bell_5 (by first | assumption | decide | exact ⟨by decide, rfl, by decide⟩) (s_hasTown ht0 ht1 hm6 ?_) rfl (by decide)
    rw [hb1]
    first | refine st_if_neN rX7_bell_8 (by omega) (fun h => absurd h (by first | decide | omega | (simp; done) | simp_all)) (fun _ => ?_) | refine st_if_ne rX7_bell_8 (fun h => absurd h (by first | decide | omega | (simp; done) | simp_all)) (fun _ => ?_)
    refine st_c rX7_bell_11 ?_
    refine st_iret rX7_bell_12 rfl ?_
    exact hk
set_option maxHeartbeats 4000000 in
set_option maxRecDepth 100000 in
theorem m_bellBad {t q : Int32} (hM : InvM I J A T) (hO : OkA A m no) (hb : isT m t = false ∨ isT 4 q = false) (hk : ∀ I', (∀ a, a < 103 ∨ 123 ≤ a → I' a = I a) → InvM I' J A T → k (-1) (I', J, vRR ρ)) : V (d + 2) 123 123 mX8_bell 0 [.ref 103, .int t, .int q] [] (I, J, vRR ρ) (Ki k) := by
  refine s_thr rX8_bell_0 rX8_bell_1 rX8_bell_2 hM (fun I1 e1 e2 hM1 => ?_)
  have hm6 : m ≤ 6 := hO.1.2.2.1
  have hno6 : no ≤ 6 := hO.1.2.2.2.1
  obtain ⟨m1, m2, m3, m4, m5, m6, m7, m8, m9, m10, m11, m12, m13, m14, m15, m16⟩ := id hM1
  have hmm : I1 105 0 = nI m := m11.trans hO.1.1
  have hmo : I1 105 1 = nI no := m12.trans hO.1.2.1
  by_cases hb1 : isT m t = true
  · have hb2 : isT 4 q = false := by rcases hb with h | h; exact absurd hb1 (by rw [h]; decide); exact h
    refine st_aload rX8_bell_5 rfl ?_
    refine st_iload rX8_bell_6 rfl ?_
    refine cV2i rX8_bell_7 (by first | assumption | decide | exact ⟨by decide, rfl, by decide⟩) (s_isTown hmm hm6 ?_) rfl (by decide)
    rw [hb1]
    first | refine st_if_eqN rX8_bell_10 (by omega) (fun h => absurd h (by first | decide | omega | (simp; done) | simp_all)) (fun _ => ?_) | refine st_if_eq rX8_bell_10 (fun h => absurd h (by first | decide | omega | (simp; done) | simp_all)) (fun _ => ?_)
    refine st_iload rX8_bell_13 rfl ?_
    refine st_c rX8_bell_14 ?_
    refine st_c rX8_bell_15 ?_
    refine cS3i rX8_bell_16 (s_in ?_) rfl
    rw [inR_N (by decide), hb2]
    first | refine st_if_neN rX8_bell_19 (by omega) (fun h => absurd h (by first | decide | omega | (simp; done) | simp_all)) (fun _ => ?_) | refine st_if_ne rX8_bell_19 (fun h => absurd h (by first | decide | omega | (simp; done) | simp_all)) (fun _ => ?_)
    refine st_c rX8_bell_22 ?_
    refine st_iret rX8_bell_23 rfl ?_
    exact hk I1 (fun a ha => e1 a (by omega)) hM1
  · have hb1 : isT m t = false := by simpa using hb1
    refine st_aload rX8_bell_5 rfl ?_
    refine st_iload rX8_bell_6 rfl ?_
    refine cV2i rX8_bell_7 (by first | assumption | decide | exact ⟨by decide, rfl, by decide⟩) (s_isTown hmm hm6 ?_) rfl (by decide)
    rw [hb1]
    first | refine st_if_eqN rX8_bell_10 (by omega) (fun _ => ?_) (fun h => absurd h (by first | decide | omega | (simp; done) | simp_all)) | refine st_if_eq rX8_bell_10 (fun _ => ?_) (fun h => absurd h (by first | decide | omega | (simp; done) | simp_all))
    refine st_c rX8_bell_22 ?_
    refine st_iret rX8_bell_23 rfl ?_
    exact hk I1 (fun a ha => e1 a (by omega)) hM1
def townR (A : Nat → Nat → Int32) (m t p q : Nat) : Int32 := if q = 0 then A 114 (8 + t) else if q = 1 then A 114 (2 + t) else if q = 2 then nI p else vb (dmF A t m)
def bellR (A : Nat → Nat → Int32) (m b p q : Nat) : Int32 := if q = 0 then A 107 b else if q = 1 then A 108 b else if q = 2 then nI p else nI (bitsOf (fitB A b) m)
set_option maxHeartbeats 4000000 in
set_option maxRecDepth 100000 in
theorem c_town {t p q : Nat} (hC : InvC I J ρ A T m no) (hO : OkA A m no) (ht : t < m) (hq : q < 4) (hp : p < m) (hpb : A 114 (2 + p) = nI t) (hpf : ∀ q, q < p → ∃ c, c < 6 ∧ A 114 (2 + q) = nI c ∧ c ≠ t) (hk : k (townR A m t p q) (I, J, vRR ρ)) : V (d + 4) 123 123 mX7_town 0 [.ref 0, .int (nI t), .int (nI q)] [] (I, J, vRR ρ) (Ki k) := by
  obtain ⟨ht0, ht1, ht2, ht3, ht4, ht5, ht6, ht7, ht8, ht9, ht10⟩ := id hC.1
  obtain ⟨hto, o1, o2, o3, o4, o5, o6, o7, o8⟩ := toldF ht0
  have hm6 : m ≤ 6 := hO.1.2.2.1
  have hno6 : no ≤ 6 := hO.1.2.2.2.1
  have hv := hC.2.2.1
  have hg : vHg 22 := ⟨by decide, rfl⟩
  rcases (show q = 0 ∨ q = 1 ∨ q = 2 ∨ q = 3 by omega) with rfl | rfl | rfl | rfl
  · 
    refine st_aload rX7_town_0 rfl ?_
    refine st_getR rX7_town_1 (by first | assumption | decide | exact ⟨by decide, rfl, by decide⟩) (by first | rfl | assumption) rfl ?_
    refine st_iload rX7_town_4 rfl ?_
    refine cV2i rX7_town_5 (by first | assumption | decide | exact ⟨by decide, rfl, by decide⟩) (s_hasTown ht0 ht1 hm6 ?_) rfl (by decide)
    rw [isT_n ht (by omega)]
    first | refine st_if_neN rX7_town_8 (by omega) (fun _ => ?_) (fun h => absurd h (by first | decide | omega | (simp; done) | simp_all)) | refine st_if_ne rX7_town_8 (fun _ => ?_) (fun h => absurd h (by first | decide | omega | (simp; done) | simp_all))
    refine st_iload rX7_town_13 rfl ?_
    refine st_tabI rX7_town_14 0 (by decide) rfl ?_
    refine st_aload rX7_town_44 rfl ?_
    refine st_getR rX7_town_45 (by first | assumption | decide | exact ⟨by decide, rfl, by decide⟩) (by first | rfl | assumption) rfl ?_
    refine st_getR rX7_town_48 (by first | assumption | decide) (by first | rfl | exact hR3 (by assumption)) rfl ?_
    refine st_iload rX7_town_51 rfl ?_
    refine cS2i rX7_town_52 (s_at (by first | assumption | decide | exact ⟨by decide, rfl, by decide⟩) (by omega) ?_) rfl
    refine st_iret rX7_town_55 rfl ?_
    rw [hv.2.2.2.1 t ht]; exact hk
  · 
    refine st_aload rX7_town_0 rfl ?_
    refine st_getR rX7_town_1 (by first | assumption | decide | exact ⟨by decide, rfl, by decide⟩) (by first | rfl | assumption) rfl ?_
    refine st_iload rX7_town_4 rfl ?_
    refine cV2i rX7_town_5 (by first | assumption | decide | exact ⟨by decide, rfl, by decide⟩) (s_hasTown ht0 ht1 hm6 ?_) rfl (by decide)
    rw [isT_n ht (by omega)]
    first | refine st_if_neN rX7_town_8 (by omega) (fun _ => ?_) (fun h => absurd h (by first | decide | omega | (simp; done) | simp_all)) | refine st_if_ne rX7_town_8 (fun _ => ?_) (fun h => absurd h (by first | decide | omega | (simp; done) | simp_all))
    refine st_iload rX7_town_13 rfl ?_
    refine st_tabI rX7_town_14 1 (by decide) rfl ?_
    refine st_aload rX7_town_56 rfl ?_
    refine st_getR rX7_town_57 (by first | assumption | decide | exact ⟨by decide, rfl, by decide⟩) (by first | rfl | assumption) rfl ?_
    refine st_getR rX7_town_60 (by first | assumption | decide) (by first | rfl | exact hR2 (by assumption)) rfl ?_
    refine st_iload rX7_town_63 rfl ?_
    refine cS2i rX7_town_64 (s_at (by first | assumption | decide | exact ⟨by decide, rfl, by decide⟩) (by omega) ?_) rfl
    refine st_iret rX7_town_67 rfl ?_
    rw [hv.2.2.1 t (by omega)]; exact hk
  · 
    refine st_aload rX7_town_0 rfl ?_
    refine st_getR rX7_town_1 (by first | assumption | decide | exact ⟨by decide, rfl, by decide⟩) (by first | rfl | assumption) rfl ?_
    refine st_iload rX7_town_4 rfl ?_
    refine cV2i rX7_town_5 (by first | assumption | decide | exact ⟨by decide, rfl, by decide⟩) (s_hasTown ht0 ht1 hm6 ?_) rfl (by decide)
    rw [isT_n ht (by omega)]
    first | refine st_if_neN rX7_town_8 (by omega) (fun _ => ?_) (fun h => absurd h (by first | decide | omega | (simp; done) | simp_all)) | refine st_if_ne rX7_town_8 (fun _ => ?_) (fun h => absurd h (by first | decide | omega | (simp; done) | simp_all))
    refine st_iload rX7_town_13 rfl ?_
    refine st_tabI rX7_town_14 2 (by decide) rfl ?_
    refine st_aload rX7_town_68 rfl ?_
    refine st_getR rX7_town_69 (by first | assumption | decide | exact ⟨by decide, rfl, by decide⟩) (by first | rfl | assumption) rfl ?_
    refine st_iload rX7_town_72 rfl ?_
    refine cV2i rX7_town_73 (by first | assumption | decide | exact ⟨by decide, rfl, by decide⟩) (s_townOf (p := p) hg (by omega) ((hv.2.2.1 p (by omega)).trans hpb) (by omega) (fun q hq => by obtain ⟨c, h1, h2, h3⟩ := hpf q hq; exact ⟨c, h1, (hv.2.2.1 q (by omega)).trans h2, h3⟩) ?_) rfl (by decide)
    refine st_iret rX7_town_76 rfl ?_
    exact hk
  · 
    refine st_aload rX7_town_0 rfl ?_
    refine st_getR rX7_town_1 (by first | assumption | decide | exact ⟨by decide, rfl, by decide⟩) (by first | rfl | assumption) rfl ?_
    refine st_iload rX7_town_4 rfl ?_
    refine cV2i rX7_town_5 (by first | assumption | decide | exact ⟨by decide, rfl, by decide⟩) (s_hasTown ht0 ht1 hm6 ?_) rfl (by decide)
    rw [isT_n ht (by omega)]
    first | refine st_if_neN rX7_town_8 (by omega) (fun _ => ?_) (fun h => absurd h (by first | decide | omega | (simp; done) | simp_all)) | refine st_if_ne rX7_town_8 (fun _ => ?_) (fun h => absurd h (by first | decide | omega | (simp; done) | simp_all))
    refine st_iload rX7_town_13 rfl ?_
    refine st_tabI rX7_town_14 3 (by decide) rfl ?_
    refine st_aload rX7_town_77 rfl ?_
    refine cV1i rX7_town_78 (by first | assumption | decide | exact ⟨by decide, rfl, by decide⟩) (s_dumbTowns hC hO ?_) rfl (by decide)
    refine st_iload rX7_town_81 rfl ?_
    refine st_ishr rX7_town_82 ?_
    refine st_c rX7_town_83 ?_
    refine st_iand rX7_town_84 ?_
    refine st_top (show _ = vb (dmF A t m) by rw [bitB (by omega) (bo_64 _ hm6), bo_bit m ht]; cases dmF A t m <;> rfl) ?_
    refine st_iret rX7_town_85 rfl ?_
    exact hk
set_option maxHeartbeats 4000000 in
set_option maxRecDepth 100000 in
theorem m_town {t p q : Nat} (hM : InvM I J A T) (hO : OkA A m no) (ht : t < m) (hq : q < 4) (hp : p < m) (hpb : A 114 (2 + p) = nI t) (hpf : ∀ q, q < p → ∃ c, c < 6 ∧ A 114 (2 + q) = nI c ∧ c ≠ t) (hk : ∀ I', (∀ a, a < 103 ∨ 123 ≤ a → I' a = I a) → InvM I' J A T → k (townR A m t p q) (I', J, vRR ρ)) : V (d + 2) 123 123 mX8_town 0 [.ref 103, .int (nI t), .int (nI q)] [] (I, J, vRR ρ) (Ki k) := by
  refine s_thr rX8_town_0 rX8_town_1 rX8_town_2 hM (fun I1 e1 e2 hM1 => ?_)
  have hm6 : m ≤ 6 := hO.1.2.2.1
  have hno6 : no ≤ 6 := hO.1.2.2.2.1
  obtain ⟨m1, m2, m3, m4, m5, m6, m7, m8, m9, m10, m11, m12, m13, m14, m15, m16⟩ := id hM1
  have hmm : I1 105 0 = nI m := m11.trans hO.1.1
  have hmo : I1 105 1 = nI no := m12.trans hO.1.2.1
  rcases (show q = 0 ∨ q = 1 ∨ q = 2 ∨ q = 3 by omega) with rfl | rfl | rfl | rfl
  · 
    refine st_aload rX8_town_5 rfl ?_
    refine st_iload rX8_town_6 rfl ?_
    refine cV2i rX8_town_7 (by first | assumption | decide | exact ⟨by decide, rfl, by decide⟩) (s_isTown hmm hm6 ?_) rfl (by decide)
    rw [isT_n ht (by omega)]
    first | refine st_if_eqN rX8_town_10 (by omega) (fun h => absurd h (by first | decide | omega | (simp; done) | simp_all)) (fun _ => ?_) | refine st_if_eq rX8_town_10 (fun h => absurd h (by first | decide | omega | (simp; done) | simp_all)) (fun _ => ?_)
    refine st_iload rX8_town_13 rfl ?_
    refine st_c rX8_town_14 ?_
    refine st_c rX8_town_15 ?_
    refine cS3i rX8_town_16 (s_in ?_) rfl
    rw [inR_N (by decide), isT_n hq (by omega)]
    first | refine st_if_neN rX8_town_19 (by omega) (fun _ => ?_) (fun h => absurd h (by first | decide | omega | (simp; done) | simp_all)) | refine st_if_ne rX8_town_19 (fun _ => ?_) (fun h => absurd h (by first | decide | omega | (simp; done) | simp_all))
    refine st_iload rX8_town_24 rfl ?_
    first | refine st_if_neN rX8_town_25 (by omega) (fun h => absurd h (by first | decide | omega | (simp; done) | simp_all)) (fun _ => ?_) | refine st_if_ne rX8_town_25 (fun h => absurd h (by first | decide | omega | (simp; done) | simp_all)) (fun _ => ?_)
    refine st_aload rX8_town_28 rfl ?_
    refine st_getR rX8_town_29 (by first | assumption | decide | exact ⟨by decide, rfl, by decide⟩) (by first | rfl | assumption) rfl ?_
    refine st_c rX8_town_32 ?_
    refine st_iload rX8_town_34 rfl ?_
    first | refine st_iaddN rX8_town_35 ?_ | refine st_iadd rX8_town_35 ?_
    refine st_ialdN rX8_town_36 (by first | assumption | decide | exact ⟨by decide, rfl, by decide⟩) (by omega) ?_
    refine st_goto rX8_town_37 ?_
    refine st_iret rX8_town_85 rfl ?_
    rw [m3]; exact hk I1 (fun a ha => e1 a (by omega)) hM1
  · 
    refine st_aload rX8_town_5 rfl ?_
    refine st_iload rX8_town_6 rfl ?_
    refine cV2i rX8_town_7 (by first | assumption | decide | exact ⟨by decide, rfl, by decide⟩) (s_isTown hmm hm6 ?_) rfl (by decide)
    rw [isT_n ht (by omega)]
    first | refine st_if_eqN rX8_town_10 (by omega) (fun h => absurd h (by first | decide | omega | (simp; done) | simp_all)) (fun _ => ?_) | refine st_if_eq rX8_town_10 (fun h => absurd h (by first | decide | omega | (simp; done) | simp_all)) (fun _ => ?_)
    refine st_iload rX8_town_13 rfl ?_
    refine st_c rX8_town_14 ?_
    refine st_c rX8_town_15 ?_
    refine cS3i rX8_town_16 (s_in ?_) rfl
    rw [inR_N (by decide), isT_n hq (by omega)]
    first | refine st_if_neN rX8_town_19 (by omega) (fun _ => ?_) (fun h => absurd h (by first | decide | omega | (simp; done) | simp_all)) | refine st_if_ne rX8_town_19 (fun _ => ?_) (fun h => absurd h (by first | decide | omega | (simp; done) | simp_all))
    refine st_iload rX8_town_24 rfl ?_
    first | refine st_if_neN rX8_town_25 (by omega) (fun _ => ?_) (fun h => absurd h (by first | decide | omega | (simp; done) | simp_all)) | refine st_if_ne rX8_town_25 (fun _ => ?_) (fun h => absurd h (by first | decide | omega | (simp; done) | simp_all))
    refine st_iload rX8_town_40 rfl ?_
    refine st_c rX8_town_41 ?_
    first | refine st_icmp_neN rX8_town_42 (by omega) (by omega) (fun h => absurd h (by first | decide | omega | (simp; done) | simp_all)) (fun _ => ?_) | refine st_icmp_ne rX8_town_42 (fun h => absurd h (by first | decide | omega | (simp; done) | simp_all)) (fun _ => ?_)
    refine st_aload rX8_town_45 rfl ?_
    refine st_getR rX8_town_46 (by first | assumption | decide | exact ⟨by decide, rfl, by decide⟩) (by first | rfl | assumption) rfl ?_
    refine st_c rX8_town_49 ?_
    refine st_iload rX8_town_50 rfl ?_
    first | refine st_iaddN rX8_town_51 ?_ | refine st_iadd rX8_town_51 ?_
    refine st_ialdN rX8_town_52 (by first | assumption | decide | exact ⟨by decide, rfl, by decide⟩) (by omega) ?_
    refine st_goto rX8_town_53 ?_
    refine st_iret rX8_town_85 rfl ?_
    rw [m3]; exact hk I1 (fun a ha => e1 a (by omega)) hM1
  · 
    refine st_aload rX8_town_5 rfl ?_
    refine st_iload rX8_town_6 rfl ?_
    refine cV2i rX8_town_7 (by first | assumption | decide | exact ⟨by decide, rfl, by decide⟩) (s_isTown hmm hm6 ?_) rfl (by decide)
    rw [isT_n ht (by omega)]
    first | refine st_if_eqN rX8_town_10 (by omega) (fun h => absurd h (by first | decide | omega | (simp; done) | simp_all)) (fun _ => ?_) | refine st_if_eq rX8_town_10 (fun h => absurd h (by first | decide | omega | (simp; done) | simp_all)) (fun _ => ?_)
    refine st_iload rX8_town_13 rfl ?_
    refine st_c rX8_town_14 ?_
    refine st_c rX8_town_15 ?_
    refine cS3i rX8_town_16 (s_in ?_) rfl
    rw [inR_N (by decide), isT_n hq (by omega)]
    first | refine st_if_neN rX8_town_19 (by omega) (fun _ => ?_) (fun h => absurd h (by first | decide | omega | (simp; done) | simp_all)) | refine st_if_ne rX8_town_19 (fun _ => ?_) (fun h => absurd h (by first | decide | omega | (simp; done) | simp_all))
    refine st_iload rX8_town_24 rfl ?_
    first | refine st_if_neN rX8_town_25 (by omega) (fun _ => ?_) (fun h => absurd h (by first | decide | omega | (simp; done) | simp_all)) | refine st_if_ne rX8_town_25 (fun _ => ?_) (fun h => absurd h (by first | decide | omega | (simp; done) | simp_all))
    refine st_iload rX8_town_40 rfl ?_
    refine st_c rX8_town_41 ?_
    first | refine st_icmp_neN rX8_town_42 (by omega) (by omega) (fun _ => ?_) (fun h => absurd h (by first | decide | omega | (simp; done) | simp_all)) | refine st_icmp_ne rX8_town_42 (fun _ => ?_) (fun h => absurd h (by first | decide | omega | (simp; done) | simp_all))
    refine st_iload rX8_town_56 rfl ?_
    refine st_c rX8_town_57 ?_
    first | refine st_icmp_neN rX8_town_58 (by omega) (by omega) (fun h => absurd h (by first | decide | omega | (simp; done) | simp_all)) (fun _ => ?_) | refine st_icmp_ne rX8_town_58 (fun h => absurd h (by first | decide | omega | (simp; done) | simp_all)) (fun _ => ?_)
    refine st_aload rX8_town_61 rfl ?_
    refine st_getR rX8_town_62 (by first | assumption | decide | exact ⟨by decide, rfl, by decide⟩) (by first | rfl | assumption) rfl ?_
    refine st_iload rX8_town_65 rfl ?_
    refine cS2i rX8_town_66 (s_hangs (p := p) ⟨by decide, rfl, by decide⟩ (by decide) (by omega) (show I1 114 (2 + p) = nI t by rw [m3]; exact hpb) (by omega) (fun q hq => by rw [m3]; exact hpf q hq) ?_) rfl
    refine st_goto rX8_town_69 ?_
    refine st_iret rX8_town_85 rfl ?_
    skip; exact hk I1 (fun a ha => e1 a (by omega)) hM1
  · 
    cases hd : dmF A t m with
    | true =>
      have hk2 : k (nI 1) (I1, J, vRR ρ) := by have := hk I1 (fun a ha => e1 a (by omega)) hM1; simp only [townR, hd] at this; exact this
      refine st_aload rX8_town_5 rfl ?_
      refine st_iload rX8_town_6 rfl ?_
      refine cV2i rX8_town_7 (by first | assumption | decide | exact ⟨by decide, rfl, by decide⟩) (s_isTown hmm hm6 ?_) rfl (by decide)
      rw [isT_n ht (by omega)]
      first | refine st_if_eqN rX8_town_10 (by omega) (fun h => absurd h (by first | decide | omega | (simp; done) | simp_all)) (fun _ => ?_) | refine st_if_eq rX8_town_10 (fun h => absurd h (by first | decide | omega | (simp; done) | simp_all)) (fun _ => ?_)
      refine st_iload rX8_town_13 rfl ?_
      refine st_c rX8_town_14 ?_
      refine st_c rX8_town_15 ?_
      refine cS3i rX8_town_16 (s_in ?_) rfl
      rw [inR_N (by decide), isT_n hq (by omega)]
      first | refine st_if_neN rX8_town_19 (by omega) (fun _ => ?_) (fun h => absurd h (by first | decide | omega | (simp; done) | simp_all)) | refine st_if_ne rX8_town_19 (fun _ => ?_) (fun h => absurd h (by first | decide | omega | (simp; done) | simp_all))
      refine st_iload rX8_town_24 rfl ?_
      first | refine st_if_neN rX8_town_25 (by omega) (fun _ => ?_) (fun h => absurd h (by first | decide | omega | (simp; done) | simp_all)) | refine st_if_ne rX8_town_25 (fun _ => ?_) (fun h => absurd h (by first | decide | omega | (simp; done) | simp_all))
      refine st_iload rX8_town_40 rfl ?_
      refine st_c rX8_town_41 ?_
      first | refine st_icmp_neN rX8_town_42 (by omega) (by omega) (fun _ => ?_) (fun h => absurd h (by first | decide | omega | (simp; done) | simp_all)) | refine st_icmp_ne rX8_town_42 (fun _ => ?_) (fun h => absurd h (by first | decide | omega | (simp; done) | simp_all))
      refine st_iload rX8_town_56 rfl ?_
      refine st_c rX8_town_57 ?_
      first | refine st_icmp_neN rX8_town_58 (by omega) (by omega) (fun _ => ?_) (fun h => absurd h (by first | decide | omega | (simp; done) | simp_all)) | refine st_icmp_ne rX8_town_58 (fun _ => ?_) (fun h => absurd h (by first | decide | omega | (simp; done) | simp_all))
      refine st_aload rX8_town_72 rfl ?_
      refine st_iload rX8_town_73 rfl ?_
      refine cV2i rX8_town_74 (by first | assumption | decide | exact ⟨by decide, rfl, by decide⟩) (s_isDumb hM1 hO ht ?_) rfl (by decide)
      rw [hd]
      first | refine st_if_eqN rX8_town_77 (by omega) (fun h => absurd h (by first | decide | omega | (simp; done) | simp_all)) (fun _ => ?_) | refine st_if_eq rX8_town_77 (fun h => absurd h (by first | decide | omega | (simp; done) | simp_all)) (fun _ => ?_)
      refine st_c rX8_town_80 ?_
      refine st_goto rX8_town_81 ?_
      refine st_iret rX8_town_85 rfl ?_
      exact hk2
    | false =>
      have hk2 : k (nI 0) (I1, J, vRR ρ) := by have := hk I1 (fun a ha => e1 a (by omega)) hM1; simp only [townR, hd] at this; exact this
      refine st_aload rX8_town_5 rfl ?_
      refine st_iload rX8_town_6 rfl ?_
      refine cV2i rX8_town_7 (by first | assumption | decide | exact ⟨by decide, rfl, by decide⟩) (s_isTown hmm hm6 ?_) rfl (by decide)
      rw [isT_n ht (by omega)]
      first | refine st_if_eqN rX8_town_10 (by omega) (fun h => absurd h (by first | decide | omega | (simp; done) | simp_all)) (fun _ => ?_) | refine st_if_eq rX8_town_10 (fun h => absurd h (by first | decide | omega | (simp; done) | simp_all)) (fun _ => ?_)
      refine st_iload rX8_town_13 rfl ?_
      refine st_c rX8_town_14 ?_
      refine st_c rX8_town_15 ?_
      refine cS3i rX8_town_16 (s_in ?_) rfl
      rw [inR_N (by decide), isT_n hq (by omega)]
      first | refine st_if_neN rX8_town_19 (by omega) (fun _ => ?_) (fun h => absurd h (by first | decide | omega | (simp; done) | simp_all)) | refine st_if_ne rX8_town_19 (fun _ => ?_) (fun h => absurd h (by first | decide | omega | (simp; done) | simp_all))
      refine st_iload rX8_town_24 rfl ?_
      first | refine st_if_neN rX8_town_25 (by omega) (fun _ => ?_) (fun h => absurd h (by first | decide | omega | (simp; done) | simp_all)) | refine st_if_ne rX8_town_25 (fun _ => ?_) (fun h => absurd h (by first | decide | omega | (simp; done) | simp_all))
      refine st_iload rX8_town_40 rfl ?_
      refine st_c rX8_town_41 ?_
      first | refine st_icmp_neN rX8_town_42 (by omega) (by omega) (fun _ => ?_) (fun h => absurd h (by first | decide | omega | (simp; done) | simp_all)) | refine st_icmp_ne rX8_town_42 (fun _ => ?_) (fun h => absurd h (by first | decide | omega | (simp; done) | simp_all))
      refine st_iload rX8_town_56 rfl ?_
      refine st_c rX8_town_57 ?_
      first | refine st_icmp_neN rX8_town_58 (by omega) (by omega) (fun _ => ?_) (fun h => absurd h (by first | decide | omega | (simp; done) | simp_all)) | refine st_icmp_ne rX8_town_58 (fun _ => ?_) (fun h => absurd h (by first | decide | omega | (simp; done) | simp_all))
      refine st_aload rX8_town_72 rfl ?_
      refine st_iload rX8_town_73 rfl ?_
      refine cV2i rX8_town_74 (by first | assumption | decide | exact ⟨by decide, rfl, by decide⟩) (s_isDumb hM1 hO ht ?_) rfl (by decide)
      rw [hd]
      first | refine st_if_eqN rX8_town_77 (by omega) (fun _ => ?_) (fun h => absurd h (by first | decide | omega | (simp; done) | simp_all)) | refine st_if_eq rX8_town_77 (fun _ => ?_) (fun h => absurd h (by first | decide | omega | (simp; done) | simp_all))
      refine st_c rX8_town_84 ?_
      refine st_iret rX8_town_85 rfl ?_
      exact hk2
set_option maxHeartbeats 4000000 in
set_option maxRecDepth 100000 in
theorem c_bell {t p q : Nat} (hC : InvC I J ρ A T m no) (hO : OkA A m no) (ht : t < m) (hq : q < 4) (hp : p < m) (hpb : A 114 (2 + p) = nI t) (hpf : ∀ q, q < p → ∃ c, c < 6 ∧ A 114 (2 + q) = nI c ∧ c ≠ t) (hk : k (bellR A m t p q) (I, J, vRR ρ)) : V (d + 4) 123 123 mX7_bell 0 [.ref 0, .int (nI t), .int (nI q)] [] (I, J, vRR ρ) (Ki k) := by
  obtain ⟨ht0, ht1, ht2, ht3, ht4, ht5, ht6, ht7, ht8, ht9, ht10⟩ := id hC.1
  obtain ⟨hto, o1, o2, o3, o4, o5, o6, o7, o8⟩ := toldF ht0
  have hm6 : m ≤ 6 := hO.1.2.2.1
  have hno6 : no ≤ 6 := hO.1.2.2.2.1
  have hv := hC.2.2.1
  have hg : vHg 22 := ⟨by decide, rfl⟩
  rcases (show q = 0 ∨ q = 1 ∨ q = 2 ∨ q = 3 by omega) with rfl | rfl | rfl | rfl
  · 
    refine st_aload rX7_bell_0 rfl ?_
    refine st_getR rX7_bell_1 (by first | assumption | decide | exact ⟨by decide, rfl, by decide⟩) (by first | rfl | assumption) rfl ?_
    refine st_iload rX7_bell_4 rfl ?_
    refine cV2i rX7_bell_5 (by first | assumption | decide | exact ⟨by decide, rfl, by decide⟩) (s_hasTown ht0 ht1 hm6 ?_) rfl (by decide)
    rw [isT_n ht (by omega)]
    first | refine st_if_neN rX7_bell_8 (by omega) (fun _ => ?_) (fun h => absurd h (by first | decide | omega | (simp; done) | simp_all)) | refine st_if_ne rX7_bell_8 (fun _ => ?_) (fun h => absurd h (by first | decide | omega | (simp; done) | simp_all))
    refine st_iload rX7_bell_13 rfl ?_
    refine st_tabI rX7_bell_14 0 (by decide) rfl ?_
    refine st_aload rX7_bell_44 rfl ?_
    refine st_getR rX7_bell_45 (by first | assumption | decide | exact ⟨by decide, rfl, by decide⟩) (by first | rfl | assumption) rfl ?_
    refine st_getR rX7_bell_48 (by assumption) (tR4 (by assumption)) rfl ?_
    refine st_iload rX7_bell_51 rfl ?_
    refine cS2i rX7_bell_52 (s_at (by first | assumption | decide | exact ⟨by decide, rfl, by decide⟩) (by omega) ?_) rfl
    refine st_iret rX7_bell_55 rfl ?_
    rw [ht4 t ht]; exact hk
  · 
    refine st_aload rX7_bell_0 rfl ?_
    refine st_getR rX7_bell_1 (by first | assumption | decide | exact ⟨by decide, rfl, by decide⟩) (by first | rfl | assumption) rfl ?_
    refine st_iload rX7_bell_4 rfl ?_
    refine cV2i rX7_bell_5 (by first | assumption | decide | exact ⟨by decide, rfl, by decide⟩) (s_hasTown ht0 ht1 hm6 ?_) rfl (by decide)
    rw [isT_n ht (by omega)]
    first | refine st_if_neN rX7_bell_8 (by omega) (fun _ => ?_) (fun h => absurd h (by first | decide | omega | (simp; done) | simp_all)) | refine st_if_ne rX7_bell_8 (fun _ => ?_) (fun h => absurd h (by first | decide | omega | (simp; done) | simp_all))
    refine st_iload rX7_bell_13 rfl ?_
    refine st_tabI rX7_bell_14 1 (by decide) rfl ?_
    refine st_aload rX7_bell_56 rfl ?_
    refine st_getR rX7_bell_57 (by first | assumption | decide | exact ⟨by decide, rfl, by decide⟩) (by first | rfl | assumption) rfl ?_
    refine st_getR rX7_bell_60 (by assumption) (tR5 (by assumption)) rfl ?_
    refine st_iload rX7_bell_63 rfl ?_
    refine cS2i rX7_bell_64 (s_at (by first | assumption | decide | exact ⟨by decide, rfl, by decide⟩) (by omega) ?_) rfl
    refine st_iret rX7_bell_67 rfl ?_
    rw [ht5 t ht]; exact hk
  · 
    refine st_aload rX7_bell_0 rfl ?_
    refine st_getR rX7_bell_1 (by first | assumption | decide | exact ⟨by decide, rfl, by decide⟩) (by first | rfl | assumption) rfl ?_
    refine st_iload rX7_bell_4 rfl ?_
    refine cV2i rX7_bell_5 (by first | assumption | decide | exact ⟨by decide, rfl, by decide⟩) (s_hasTown ht0 ht1 hm6 ?_) rfl (by decide)
    rw [isT_n ht (by omega)]
    first | refine st_if_neN rX7_bell_8 (by omega) (fun _ => ?_) (fun h => absurd h (by first | decide | omega | (simp; done) | simp_all)) | refine st_if_ne rX7_bell_8 (fun _ => ?_) (fun h => absurd h (by first | decide | omega | (simp; done) | simp_all))
    refine st_iload rX7_bell_13 rfl ?_
    refine st_tabI rX7_bell_14 2 (by decide) rfl ?_
    refine st_aload rX7_bell_68 rfl ?_
    refine st_getR rX7_bell_69 (by first | assumption | decide | exact ⟨by decide, rfl, by decide⟩) (by first | rfl | assumption) rfl ?_
    refine st_iload rX7_bell_72 rfl ?_
    refine cV2i rX7_bell_73 (by first | assumption | decide | exact ⟨by decide, rfl, by decide⟩) (s_townOf (p := p) hg (by omega) ((hv.2.2.1 p (by omega)).trans hpb) (by omega) (fun q hq => by obtain ⟨c, h1, h2, h3⟩ := hpf q hq; exact ⟨c, h1, (hv.2.2.1 q (by omega)).trans h2, h3⟩) ?_) rfl (by decide)
    refine st_iret rX7_bell_76 rfl ?_
    exact hk
  · 
    refine st_aload rX7_bell_0 rfl ?_
    refine st_getR rX7_bell_1 (by first | assumption | decide | exact ⟨by decide, rfl, by decide⟩) (by first | rfl | assumption) rfl ?_
    refine st_iload rX7_bell_4 rfl ?_
    refine cV2i rX7_bell_5 (by first | assumption | decide | exact ⟨by decide, rfl, by decide⟩) (s_hasTown ht0 ht1 hm6 ?_) rfl (by decide)
    rw [isT_n ht (by omega)]
    first | refine st_if_neN rX7_bell_8 (by omega) (fun _ => ?_) (fun h => absurd h (by first | decide | omega | (simp; done) | simp_all)) | refine st_if_ne rX7_bell_8 (fun _ => ?_) (fun h => absurd h (by first | decide | omega | (simp; done) | simp_all))
    refine st_iload rX7_bell_13 rfl ?_
    refine st_tabI rX7_bell_14 3 (by decide) rfl ?_
    refine st_aload rX7_bell_77 rfl ?_
    refine st_iload rX7_bell_78 rfl ?_
    refine cV2i rX7_bell_79 (by first | assumption | decide | exact ⟨by decide, rfl, by decide⟩) (s_fitsOf hC hO ht ?_) rfl (by decide)
    refine st_iret rX7_bell_82 rfl ?_
    exact hk
set_option maxHeartbeats 4000000 in
set_option maxRecDepth 100000 in
theorem m_bell {t p q : Nat} (hM : InvM I J A T) (hO : OkA A m no) (ht : t < m) (hq : q < 4) (hp : p < m) (hpb : A 114 (2 + p) = nI t) (hpf : ∀ q, q < p → ∃ c, c < 6 ∧ A 114 (2 + q) = nI c ∧ c ≠ t) (hk : ∀ I', (∀ a, a < 103 ∨ 123 ≤ a → I' a = I a) → InvM I' J A T → k (bellR A m t p q) (I', J, vRR ρ)) : V (d + 2) 123 123 mX8_bell 0 [.ref 103, .int (nI t), .int (nI q)] [] (I, J, vRR ρ) (Ki k) := by
  refine s_thr rX8_bell_0 rX8_bell_1 rX8_bell_2 hM (fun I1 e1 e2 hM1 => ?_)
  have hm6 : m ≤ 6 := hO.1.2.2.1
  have hno6 : no ≤ 6 := hO.1.2.2.2.1
  obtain ⟨m1, m2, m3, m4, m5, m6, m7, m8, m9, m10, m11, m12, m13, m14, m15, m16⟩ := id hM1
  have hmm : I1 105 0 = nI m := m11.trans hO.1.1
  have hmo : I1 105 1 = nI no := m12.trans hO.1.2.1
  rcases (show q = 0 ∨ q = 1 ∨ q = 2 ∨ q = 3 by omega) with rfl | rfl | rfl | rfl
  · 
    refine st_aload rX8_bell_5 rfl ?_
    refine st_iload rX8_bell_6 rfl ?_
    refine cV2i rX8_bell_7 (by first | assumption | decide | exact ⟨by decide, rfl, by decide⟩) (s_isTown hmm hm6 ?_) rfl (by decide)
    rw [isT_n ht (by omega)]
    first | refine st_if_eqN rX8_bell_10 (by omega) (fun h => absurd h (by first | decide | omega | (simp; done) | simp_all)) (fun _ => ?_) | refine st_if_eq rX8_bell_10 (fun h => absurd h (by first | decide | omega | (simp; done) | simp_all)) (fun _ => ?_)
    refine st_iload rX8_bell_13 rfl ?_
    refine st_c rX8_bell_14 ?_
    refine st_c rX8_bell_15 ?_
    refine cS3i rX8_bell_16 (s_in ?_) rfl
    rw [inR_N (by decide), isT_n hq (by omega)]
    first | refine st_if_neN rX8_bell_19 (by omega) (fun _ => ?_) (fun h => absurd h (by first | decide | omega | (simp; done) | simp_all)) | refine st_if_ne rX8_bell_19 (fun _ => ?_) (fun h => absurd h (by first | decide | omega | (simp; done) | simp_all))
    refine st_iload rX8_bell_24 rfl ?_
    first | refine st_if_neN rX8_bell_25 (by omega) (fun h => absurd h (by first | decide | omega | (simp; done) | simp_all)) (fun _ => ?_) | refine st_if_ne rX8_bell_25 (fun h => absurd h (by first | decide | omega | (simp; done) | simp_all)) (fun _ => ?_)
    refine st_aload rX8_bell_28 rfl ?_
    refine st_getR rX8_bell_29 (by first | assumption | decide | exact ⟨by decide, rfl, by decide⟩) (by first | rfl | assumption) rfl ?_
    refine st_iload rX8_bell_32 rfl ?_
    refine st_ialdN rX8_bell_33 (by first | assumption | decide | exact ⟨by decide, rfl, by decide⟩) (by omega) ?_
    refine st_goto rX8_bell_34 ?_
    refine st_iret rX8_bell_72 rfl ?_
    rw [(m9 t (by omega)).1]; exact hk I1 (fun a ha => e1 a (by omega)) hM1
  · 
    refine st_aload rX8_bell_5 rfl ?_
    refine st_iload rX8_bell_6 rfl ?_
    refine cV2i rX8_bell_7 (by first | assumption | decide | exact ⟨by decide, rfl, by decide⟩) (s_isTown hmm hm6 ?_) rfl (by decide)
    rw [isT_n ht (by omega)]
    first | refine st_if_eqN rX8_bell_10 (by omega) (fun h => absurd h (by first | decide | omega | (simp; done) | simp_all)) (fun _ => ?_) | refine st_if_eq rX8_bell_10 (fun h => absurd h (by first | decide | omega | (simp; done) | simp_all)) (fun _ => ?_)
    refine st_iload rX8_bell_13 rfl ?_
    refine st_c rX8_bell_14 ?_
    refine st_c rX8_bell_15 ?_
    refine cS3i rX8_bell_16 (s_in ?_) rfl
    rw [inR_N (by decide), isT_n hq (by omega)]
    first | refine st_if_neN rX8_bell_19 (by omega) (fun _ => ?_) (fun h => absurd h (by first | decide | omega | (simp; done) | simp_all)) | refine st_if_ne rX8_bell_19 (fun _ => ?_) (fun h => absurd h (by first | decide | omega | (simp; done) | simp_all))
    refine st_iload rX8_bell_24 rfl ?_
    first | refine st_if_neN rX8_bell_25 (by omega) (fun _ => ?_) (fun h => absurd h (by first | decide | omega | (simp; done) | simp_all)) | refine st_if_ne rX8_bell_25 (fun _ => ?_) (fun h => absurd h (by first | decide | omega | (simp; done) | simp_all))
    refine st_iload rX8_bell_37 rfl ?_
    refine st_c rX8_bell_38 ?_
    first | refine st_icmp_neN rX8_bell_39 (by omega) (by omega) (fun h => absurd h (by first | decide | omega | (simp; done) | simp_all)) (fun _ => ?_) | refine st_icmp_ne rX8_bell_39 (fun h => absurd h (by first | decide | omega | (simp; done) | simp_all)) (fun _ => ?_)
    refine st_aload rX8_bell_42 rfl ?_
    refine st_getR rX8_bell_43 (by first | assumption | decide | exact ⟨by decide, rfl, by decide⟩) (by first | rfl | assumption) rfl ?_
    refine st_iload rX8_bell_46 rfl ?_
    refine st_ialdN rX8_bell_47 (by first | assumption | decide | exact ⟨by decide, rfl, by decide⟩) (by omega) ?_
    refine st_goto rX8_bell_48 ?_
    refine st_iret rX8_bell_72 rfl ?_
    rw [(m9 t (by omega)).2.1]; exact hk I1 (fun a ha => e1 a (by omega)) hM1
  · 
    refine st_aload rX8_bell_5 rfl ?_
    refine st_iload rX8_bell_6 rfl ?_
    refine cV2i rX8_bell_7 (by first | assumption | decide | exact ⟨by decide, rfl, by decide⟩) (s_isTown hmm hm6 ?_) rfl (by decide)
    rw [isT_n ht (by omega)]
    first | refine st_if_eqN rX8_bell_10 (by omega) (fun h => absurd h (by first | decide | omega | (simp; done) | simp_all)) (fun _ => ?_) | refine st_if_eq rX8_bell_10 (fun h => absurd h (by first | decide | omega | (simp; done) | simp_all)) (fun _ => ?_)
    refine st_iload rX8_bell_13 rfl ?_
    refine st_c rX8_bell_14 ?_
    refine st_c rX8_bell_15 ?_
    refine cS3i rX8_bell_16 (s_in ?_) rfl
    rw [inR_N (by decide), isT_n hq (by omega)]
    first | refine st_if_neN rX8_bell_19 (by omega) (fun _ => ?_) (fun h => absurd h (by first | decide | omega | (simp; done) | simp_all)) | refine st_if_ne rX8_bell_19 (fun _ => ?_) (fun h => absurd h (by first | decide | omega | (simp; done) | simp_all))
    refine st_iload rX8_bell_24 rfl ?_
    first | refine st_if_neN rX8_bell_25 (by omega) (fun _ => ?_) (fun h => absurd h (by first | decide | omega | (simp; done) | simp_all)) | refine st_if_ne rX8_bell_25 (fun _ => ?_) (fun h => absurd h (by first | decide | omega | (simp; done) | simp_all))
    refine st_iload rX8_bell_37 rfl ?_
    refine st_c rX8_bell_38 ?_
    first | refine st_icmp_neN rX8_bell_39 (by omega) (by omega) (fun _ => ?_) (fun h => absurd h (by first | decide | omega | (simp; done) | simp_all)) | refine st_icmp_ne rX8_bell_39 (fun _ => ?_) (fun h => absurd h (by first | decide | omega | (simp; done) | simp_all))
    refine st_iload rX8_bell_51 rfl ?_
    refine st_c rX8_bell_52 ?_
    first | refine st_icmp_neN rX8_bell_53 (by omega) (by omega) (fun h => absurd h (by first | decide | omega | (simp; done) | simp_all)) (fun _ => ?_) | refine st_icmp_ne rX8_bell_53 (fun h => absurd h (by first | decide | omega | (simp; done) | simp_all)) (fun _ => ?_)
    refine st_aload rX8_bell_56 rfl ?_
    refine st_getR rX8_bell_57 (by first | assumption | decide | exact ⟨by decide, rfl, by decide⟩) (by first | rfl | assumption) rfl ?_
    refine st_iload rX8_bell_60 rfl ?_
    refine cS2i rX8_bell_61 (s_hangs (p := p) ⟨by decide, rfl, by decide⟩ (by decide) (by omega) (show I1 114 (2 + p) = nI t by rw [m3]; exact hpb) (by omega) (fun q hq => by rw [m3]; exact hpf q hq) ?_) rfl
    refine st_goto rX8_bell_64 ?_
    refine st_iret rX8_bell_72 rfl ?_
    skip; exact hk I1 (fun a ha => e1 a (by omega)) hM1
  · 
    refine st_aload rX8_bell_5 rfl ?_
    refine st_iload rX8_bell_6 rfl ?_
    refine cV2i rX8_bell_7 (by first | assumption | decide | exact ⟨by decide, rfl, by decide⟩) (s_isTown hmm hm6 ?_) rfl (by decide)
    rw [isT_n ht (by omega)]
    first | refine st_if_eqN rX8_bell_10 (by omega) (fun h => absurd h (by first | decide | omega | (simp; done) | simp_all)) (fun _ => ?_) | refine st_if_eq rX8_bell_10 (fun h => absurd h (by first | decide | omega | (simp; done) | simp_all)) (fun _ => ?_)
    refine st_iload rX8_bell_13 rfl ?_
    refine st_c rX8_bell_14 ?_
    refine st_c rX8_bell_15 ?_
    refine cS3i rX8_bell_16 (s_in ?_) rfl
    rw [inR_N (by decide), isT_n hq (by omega)]
    first | refine st_if_neN rX8_bell_19 (by omega) (fun _ => ?_) (fun h => absurd h (by first | decide | omega | (simp; done) | simp_all)) | refine st_if_ne rX8_bell_19 (fun _ => ?_) (fun h => absurd h (by first | decide | omega | (simp; done) | simp_all))
    refine st_iload rX8_bell_24 rfl ?_
    first | refine st_if_neN rX8_bell_25 (by omega) (fun _ => ?_) (fun h => absurd h (by first | decide | omega | (simp; done) | simp_all)) | refine st_if_ne rX8_bell_25 (fun _ => ?_) (fun h => absurd h (by first | decide | omega | (simp; done) | simp_all))
    refine st_iload rX8_bell_37 rfl ?_
    refine st_c rX8_bell_38 ?_
    first | refine st_icmp_neN rX8_bell_39 (by omega) (by omega) (fun _ => ?_) (fun h => absurd h (by first | decide | omega | (simp; done) | simp_all)) | refine st_icmp_ne rX8_bell_39 (fun _ => ?_) (fun h => absurd h (by first | decide | omega | (simp; done) | simp_all))
    refine st_iload rX8_bell_51 rfl ?_
    refine st_c rX8_bell_52 ?_
    first | refine st_icmp_neN rX8_bell_53 (by omega) (by omega) (fun _ => ?_) (fun h => absurd h (by first | decide | omega | (simp; done) | simp_all)) | refine st_icmp_ne rX8_bell_53 (fun _ => ?_) (fun h => absurd h (by first | decide | omega | (simp; done) | simp_all))
    refine st_aload rX8_bell_67 rfl ?_
    refine st_iload rX8_bell_68 rfl ?_
    refine cV2i rX8_bell_69 (by first | assumption | decide | exact ⟨by decide, rfl, by decide⟩) (s_fits hM1 hO ht ?_) rfl (by decide)
    refine st_iret rX8_bell_72 rfl ?_
    skip; exact hk I1 (fun a ha => e1 a (by omega)) hM1
def hmB (A : Nat → Nat → Int32) (t : Nat) : Bool := decide (A 114 (2 + t) = nI t)
def nowR (A : Nat → Nat → Int32) (m q : Nat) : Int32 := if q = 0 then A 114 0 else if q = 1 then A 114 1 else if q = 2 then nI (bitsOf (hmB A) m) else if q = 3 then nI (bitsOf (fun t => dmF A t m) m) else A 103 23
set_option maxHeartbeats 4000000 in
set_option maxRecDepth 100000 in
theorem c_now {q : Nat} (hC : InvC I J ρ A T m no) (hO : OkA A m no) (hq : q < 5) (hk : k (nowR A m q) (I, J, vRR ρ)) : V (d + 4) 123 123 mX7_now 0 [.ref 0, .int (nI q)] [] (I, J, vRR ρ) (Ki k) := by
  obtain ⟨ht0, ht1, ht2, ht3, ht4, ht5, ht6, ht7, ht8, ht9, ht10⟩ := id hC.1
  obtain ⟨hto, o1, o2, o3, o4, o5, o6, o7, o8⟩ := toldF ht0
  have hm6 : m ≤ 6 := hO.1.2.2.1
  have hno6 : no ≤ 6 := hO.1.2.2.2.1
  have hv := hC.2.2.1
  obtain ⟨uq, u0, u1, u2, u3⟩ := hC.2.2.2.1
  rcases (show q = 0 ∨ q = 1 ∨ q = 2 ∨ q = 3 ∨ q = 4 by omega) with rfl | rfl | rfl | rfl | rfl
  · 
    refine st_iload rX7_now_0 rfl ?_
    refine st_tabI rX7_now_1 0 (by decide) rfl ?_
    refine st_aload rX7_now_36 rfl ?_
    refine st_getR rX7_now_37 (by first | assumption | decide | exact ⟨by decide, rfl, by decide⟩) (by first | rfl | assumption) rfl ?_
    refine st_getI rX7_now_40 (by first | assumption | decide | exact ⟨by decide, rfl, by decide⟩) rfl ?_
    refine st_iret rX7_now_43 rfl ?_
    rw [hv.1]; exact hk
  · 
    refine st_iload rX7_now_0 rfl ?_
    refine st_tabI rX7_now_1 1 (by decide) rfl ?_
    refine st_aload rX7_now_44 rfl ?_
    refine st_getR rX7_now_45 (by first | assumption | decide | exact ⟨by decide, rfl, by decide⟩) (by first | rfl | assumption) rfl ?_
    refine st_getI rX7_now_48 (by first | assumption | decide | exact ⟨by decide, rfl, by decide⟩) rfl ?_
    refine st_iret rX7_now_51 rfl ?_
    rw [hv.2.1]; exact hk
  · 
    refine st_iload rX7_now_0 rfl ?_
    refine st_tabI rX7_now_1 2 (by decide) rfl ?_
    refine st_aload rX7_now_52 rfl ?_
    refine cV1i rX7_now_53 (by first | assumption | decide | exact ⟨by decide, rfl, by decide⟩) (s_atHome hC hO ?_) rfl (by decide)
    refine st_iret rX7_now_56 rfl ?_
    exact hk
  · 
    refine st_iload rX7_now_0 rfl ?_
    refine st_tabI rX7_now_1 3 (by decide) rfl ?_
    refine st_aload rX7_now_57 rfl ?_
    refine cV1i rX7_now_58 (by first | assumption | decide | exact ⟨by decide, rfl, by decide⟩) (s_dumbTowns hC hO ?_) rfl (by decide)
    refine st_iret rX7_now_61 rfl ?_
    exact hk
  · 
    refine st_iload rX7_now_0 rfl ?_
    refine st_tabI rX7_now_1 4 (by decide) rfl ?_
    refine st_aload rX7_now_62 rfl ?_
    refine st_getR rX7_now_63 (by first | assumption | decide | exact ⟨by decide, rfl, by decide⟩) (by first | rfl | assumption) rfl ?_
    refine st_getI rX7_now_66 (by first | assumption | decide | exact ⟨by decide, rfl, by decide⟩) rfl ?_
    refine st_iret rX7_now_69 rfl ?_
    rw [u2]; exact hk
set_option maxHeartbeats 4000000 in
set_option maxRecDepth 100000 in
theorem c_nowBad {q : Int32} (hq : isT 5 q = false) (hk : k (-1) (I, J, vRR ρ)) : V d 123 123 mX7_now 0 [.ref 0, .int q] [] (I, J, vRR ρ) (Ki k) := by
  refine st_iload rX7_now_0 rfl ?_
  refine st_tabO rX7_now_1 (by have := isT_f hq; simpa using this) ?_
  refine st_c rX7_now_70 ?_
  refine st_iret rX7_now_71 rfl ?_
  exact hk
set_option maxHeartbeats 4000000 in
set_option maxRecDepth 100000 in
theorem m_nowBad {q : Int32} (hM : InvM I J A T) (hq : isT 5 q = false) (hk : ∀ I', (∀ a, a < 103 ∨ 123 ≤ a → I' a = I a) → InvM I' J A T → k (-1) (I', J, vRR ρ)) : V (d + 1) 123 123 mX8_now 0 [.ref 103, .int q, vJ, vJ, vJ] [] (I, J, vRR ρ) (Ki k) := by
  refine s_thr rX8_now_0 rX8_now_1 rX8_now_2 hM (fun I1 e1 e2 hM1 => ?_)
  refine st_iload rX8_now_5 rfl ?_
  refine st_c rX8_now_6 ?_
  refine st_c rX8_now_7 ?_
  refine cS3i rX8_now_8 (s_in ?_) rfl
  rw [inR_N (by decide), hq]
  first | refine st_if_neN rX8_now_11 (by omega) (fun h => absurd h (by first | decide | omega | (simp; done) | simp_all)) (fun _ => ?_) | refine st_if_ne rX8_now_11 (fun h => absurd h (by first | decide | omega | (simp; done) | simp_all)) (fun _ => ?_)
  refine st_c rX8_now_14 ?_
  refine st_iret rX8_now_15 rfl ?_
  exact hk I1 (fun a ha => e1 a (by omega)) hM1
set_option maxHeartbeats 4000000 in
set_option maxRecDepth 100000 in
theorem m_now {q : Nat} (hM : InvM I J A T) (hO : OkA A m no) (hq : q < 5) (hk : ∀ I', (∀ a, a < 103 ∨ 123 ≤ a → I' a = I a) → InvM I' J A T → k (nowR A m q) (I', J, vRR ρ)) : V (d + 1) 123 123 mX8_now 0 [.ref 103, .int (nI q), vJ, vJ, vJ] [] (I, J, vRR ρ) (Ki k) := by
  refine s_thr rX8_now_0 rX8_now_1 rX8_now_2 hM (fun I1 e1 e2 hM1 => ?_)
  have hm6 : m ≤ 6 := hO.1.2.2.1
  have hno6 : no ≤ 6 := hO.1.2.2.2.1
  obtain ⟨m1, m2, m3, m4, m5, m6, m7, m8, m9, m10, m11, m12, m13, m14, m15, m16⟩ := id hM1
  have hmm : I1 105 0 = nI m := m11.trans hO.1.1
  have hmo : I1 105 1 = nI no := m12.trans hO.1.2.1
  refine st_iload rX8_now_5 rfl ?_
  refine st_c rX8_now_6 ?_
  refine st_c rX8_now_7 ?_
  refine cS3i rX8_now_8 (s_in ?_) rfl
  rw [inR_N (by decide), isT_n hq (by omega)]
  first | refine st_if_neN rX8_now_11 (by omega) (fun _ => ?_) (fun h => absurd h (by first | decide | omega | (simp; done) | simp_all)) | refine st_if_ne rX8_now_11 (fun _ => ?_) (fun h => absurd h (by first | decide | omega | (simp; done) | simp_all))
  refine st_c rX8_now_16 ?_
  refine st_istore2 rX8_now_17 rfl ?_
  refine st_c rX8_now_18 ?_
  refine st_istore3 rX8_now_19 rfl ?_
  refine st_c rX8_now_20 ?_
  refine st_istore4 rX8_now_21 rfl ?_
  skip
  have key : ∀ (r t : Nat), t + r = m → V (d + 1) 123 123 mX8_now 23 [.ref 103, .int (nI q), .int (nI (bitsOf (hmB A) t)), .int (nI (bitsOf (fun t => dmF A t m) t)), .int (nI t)] [] (I1, J, vRR ρ) (Ki k) := by
    intro r
    induction r with
    | zero =>
      intro t he
      have he : t = m := by omega
      subst he
      rcases (show q = 0 ∨ q = 1 ∨ q = 2 ∨ q = 3 ∨ q = 4 by omega) with rfl | rfl | rfl | rfl | rfl
      · 
        refine st_iload rX8_now_23 rfl ?_
        refine st_aload rX8_now_25 rfl ?_
        refine st_getR rX8_now_26 (by first | assumption | decide | exact ⟨by decide, rfl, by decide⟩) (by first | rfl | assumption) rfl ?_
        refine st_c rX8_now_29 ?_
        refine st_ialdN rX8_now_30 (by first | assumption | decide | exact ⟨by decide, rfl, by decide⟩) (by omega) ?_
        refine st_top hmm ?_
        first | refine st_icmp_geN rX8_now_31 (by omega) (by omega) (fun _ => ?_) (fun h => absurd h (by first | decide | omega | (simp; done) | simp_all)) | refine st_icmp_ge rX8_now_31 (fun _ => ?_) (fun h => absurd h (by first | decide | omega | (simp; done) | simp_all))
        refine st_iload rX8_now_85 rfl ?_
        refine st_c rX8_now_86 ?_
        first | refine st_icmp_geN rX8_now_87 (by omega) (by omega) (fun h => absurd h (by first | decide | omega | (simp; done) | simp_all)) (fun _ => ?_) | refine st_icmp_ge rX8_now_87 (fun h => absurd h (by first | decide | omega | (simp; done) | simp_all)) (fun _ => ?_)
        refine st_aload rX8_now_90 rfl ?_
        refine st_getR rX8_now_91 (by first | assumption | decide | exact ⟨by decide, rfl, by decide⟩) (by first | rfl | assumption) rfl ?_
        refine st_iload rX8_now_94 rfl ?_
        refine st_ialdN rX8_now_95 (by first | assumption | decide | exact ⟨by decide, rfl, by decide⟩) (by omega) ?_
        refine st_goto rX8_now_96 ?_
        refine st_iret rX8_now_121 rfl ?_
        rw [m3]; exact hk I1 (fun a ha => e1 a (by omega)) hM1
      · 
        refine st_iload rX8_now_23 rfl ?_
        refine st_aload rX8_now_25 rfl ?_
        refine st_getR rX8_now_26 (by first | assumption | decide | exact ⟨by decide, rfl, by decide⟩) (by first | rfl | assumption) rfl ?_
        refine st_c rX8_now_29 ?_
        refine st_ialdN rX8_now_30 (by first | assumption | decide | exact ⟨by decide, rfl, by decide⟩) (by omega) ?_
        refine st_top hmm ?_
        first | refine st_icmp_geN rX8_now_31 (by omega) (by omega) (fun _ => ?_) (fun h => absurd h (by first | decide | omega | (simp; done) | simp_all)) | refine st_icmp_ge rX8_now_31 (fun _ => ?_) (fun h => absurd h (by first | decide | omega | (simp; done) | simp_all))
        refine st_iload rX8_now_85 rfl ?_
        refine st_c rX8_now_86 ?_
        first | refine st_icmp_geN rX8_now_87 (by omega) (by omega) (fun h => absurd h (by first | decide | omega | (simp; done) | simp_all)) (fun _ => ?_) | refine st_icmp_ge rX8_now_87 (fun h => absurd h (by first | decide | omega | (simp; done) | simp_all)) (fun _ => ?_)
        refine st_aload rX8_now_90 rfl ?_
        refine st_getR rX8_now_91 (by first | assumption | decide | exact ⟨by decide, rfl, by decide⟩) (by first | rfl | assumption) rfl ?_
        refine st_iload rX8_now_94 rfl ?_
        refine st_ialdN rX8_now_95 (by first | assumption | decide | exact ⟨by decide, rfl, by decide⟩) (by omega) ?_
        refine st_goto rX8_now_96 ?_
        refine st_iret rX8_now_121 rfl ?_
        rw [m3]; exact hk I1 (fun a ha => e1 a (by omega)) hM1
      · 
        refine st_iload rX8_now_23 rfl ?_
        refine st_aload rX8_now_25 rfl ?_
        refine st_getR rX8_now_26 (by first | assumption | decide | exact ⟨by decide, rfl, by decide⟩) (by first | rfl | assumption) rfl ?_
        refine st_c rX8_now_29 ?_
        refine st_ialdN rX8_now_30 (by first | assumption | decide | exact ⟨by decide, rfl, by decide⟩) (by omega) ?_
        refine st_top hmm ?_
        first | refine st_icmp_geN rX8_now_31 (by omega) (by omega) (fun _ => ?_) (fun h => absurd h (by first | decide | omega | (simp; done) | simp_all)) | refine st_icmp_ge rX8_now_31 (fun _ => ?_) (fun h => absurd h (by first | decide | omega | (simp; done) | simp_all))
        refine st_iload rX8_now_85 rfl ?_
        refine st_c rX8_now_86 ?_
        first | refine st_icmp_geN rX8_now_87 (by omega) (by omega) (fun _ => ?_) (fun h => absurd h (by first | decide | omega | (simp; done) | simp_all)) | refine st_icmp_ge rX8_now_87 (fun _ => ?_) (fun h => absurd h (by first | decide | omega | (simp; done) | simp_all))
        refine st_iload rX8_now_99 rfl ?_
        refine st_c rX8_now_100 ?_
        first | refine st_icmp_neN rX8_now_101 (by omega) (by omega) (fun h => absurd h (by first | decide | omega | (simp; done) | simp_all)) (fun _ => ?_) | refine st_icmp_ne rX8_now_101 (fun h => absurd h (by first | decide | omega | (simp; done) | simp_all)) (fun _ => ?_)
        refine st_iload rX8_now_104 rfl ?_
        refine st_goto rX8_now_105 ?_
        refine st_iret rX8_now_121 rfl ?_
        skip; exact hk I1 (fun a ha => e1 a (by omega)) hM1
      · 
        refine st_iload rX8_now_23 rfl ?_
        refine st_aload rX8_now_25 rfl ?_
        refine st_getR rX8_now_26 (by first | assumption | decide | exact ⟨by decide, rfl, by decide⟩) (by first | rfl | assumption) rfl ?_
        refine st_c rX8_now_29 ?_
        refine st_ialdN rX8_now_30 (by first | assumption | decide | exact ⟨by decide, rfl, by decide⟩) (by omega) ?_
        refine st_top hmm ?_
        first | refine st_icmp_geN rX8_now_31 (by omega) (by omega) (fun _ => ?_) (fun h => absurd h (by first | decide | omega | (simp; done) | simp_all)) | refine st_icmp_ge rX8_now_31 (fun _ => ?_) (fun h => absurd h (by first | decide | omega | (simp; done) | simp_all))
        refine st_iload rX8_now_85 rfl ?_
        refine st_c rX8_now_86 ?_
        first | refine st_icmp_geN rX8_now_87 (by omega) (by omega) (fun _ => ?_) (fun h => absurd h (by first | decide | omega | (simp; done) | simp_all)) | refine st_icmp_ge rX8_now_87 (fun _ => ?_) (fun h => absurd h (by first | decide | omega | (simp; done) | simp_all))
        refine st_iload rX8_now_99 rfl ?_
        refine st_c rX8_now_100 ?_
        first | refine st_icmp_neN rX8_now_101 (by omega) (by omega) (fun _ => ?_) (fun h => absurd h (by first | decide | omega | (simp; done) | simp_all)) | refine st_icmp_ne rX8_now_101 (fun _ => ?_) (fun h => absurd h (by first | decide | omega | (simp; done) | simp_all))
        refine st_iload rX8_now_108 rfl ?_
        refine st_c rX8_now_109 ?_
        first | refine st_icmp_neN rX8_now_110 (by omega) (by omega) (fun h => absurd h (by first | decide | omega | (simp; done) | simp_all)) (fun _ => ?_) | refine st_icmp_ne rX8_now_110 (fun h => absurd h (by first | decide | omega | (simp; done) | simp_all)) (fun _ => ?_)
        refine st_iload rX8_now_113 rfl ?_
        refine st_goto rX8_now_114 ?_
        refine st_iret rX8_now_121 rfl ?_
        skip; exact hk I1 (fun a ha => e1 a (by omega)) hM1
      · 
        refine st_iload rX8_now_23 rfl ?_
        refine st_aload rX8_now_25 rfl ?_
        refine st_getR rX8_now_26 (by first | assumption | decide | exact ⟨by decide, rfl, by decide⟩) (by first | rfl | assumption) rfl ?_
        refine st_c rX8_now_29 ?_
        refine st_ialdN rX8_now_30 (by first | assumption | decide | exact ⟨by decide, rfl, by decide⟩) (by omega) ?_
        refine st_top hmm ?_
        first | refine st_icmp_geN rX8_now_31 (by omega) (by omega) (fun _ => ?_) (fun h => absurd h (by first | decide | omega | (simp; done) | simp_all)) | refine st_icmp_ge rX8_now_31 (fun _ => ?_) (fun h => absurd h (by first | decide | omega | (simp; done) | simp_all))
        refine st_iload rX8_now_85 rfl ?_
        refine st_c rX8_now_86 ?_
        first | refine st_icmp_geN rX8_now_87 (by omega) (by omega) (fun _ => ?_) (fun h => absurd h (by first | decide | omega | (simp; done) | simp_all)) | refine st_icmp_ge rX8_now_87 (fun _ => ?_) (fun h => absurd h (by first | decide | omega | (simp; done) | simp_all))
        refine st_iload rX8_now_99 rfl ?_
        refine st_c rX8_now_100 ?_
        first | refine st_icmp_neN rX8_now_101 (by omega) (by omega) (fun _ => ?_) (fun h => absurd h (by first | decide | omega | (simp; done) | simp_all)) | refine st_icmp_ne rX8_now_101 (fun _ => ?_) (fun h => absurd h (by first | decide | omega | (simp; done) | simp_all))
        refine st_iload rX8_now_108 rfl ?_
        refine st_c rX8_now_109 ?_
        first | refine st_icmp_neN rX8_now_110 (by omega) (by omega) (fun _ => ?_) (fun h => absurd h (by first | decide | omega | (simp; done) | simp_all)) | refine st_icmp_ne rX8_now_110 (fun _ => ?_) (fun h => absurd h (by first | decide | omega | (simp; done) | simp_all))
        refine st_aload rX8_now_117 rfl ?_
        refine st_getI rX8_now_118 (by first | assumption | decide | exact ⟨by decide, rfl, by decide⟩) rfl ?_
        refine st_iret rX8_now_121 rfl ?_
        rw [m14]; exact hk I1 (fun a ha => e1 a (by omega)) hM1
    | succ r ih =>
      intro t he
      have htm : t < m := by omega
      have hn := ih (t + 1) (by omega)
      cases hd : dmF A t m with
      | true =>
        refine st_iload rX8_now_23 rfl ?_
        refine st_aload rX8_now_25 rfl ?_
        refine st_getR rX8_now_26 (by first | assumption | decide | exact ⟨by decide, rfl, by decide⟩) (by first | rfl | assumption) rfl ?_
        refine st_c rX8_now_29 ?_
        refine st_ialdN rX8_now_30 (by first | assumption | decide | exact ⟨by decide, rfl, by decide⟩) (by omega) ?_
        refine st_top hmm ?_
        first | refine st_icmp_geN rX8_now_31 (by omega) (by omega) (fun h => absurd h (by first | decide | omega | (simp; done) | simp_all)) (fun _ => ?_) | refine st_icmp_ge rX8_now_31 (fun h => absurd h (by first | decide | omega | (simp; done) | simp_all)) (fun _ => ?_)
        refine st_iload rX8_now_34 rfl ?_
        refine st_aload rX8_now_35 rfl ?_
        refine st_getR rX8_now_36 (by first | assumption | decide | exact ⟨by decide, rfl, by decide⟩) (by first | rfl | assumption) rfl ?_
        refine st_c rX8_now_39 ?_
        refine st_iload rX8_now_40 rfl ?_
        first | refine st_iaddN rX8_now_42 ?_ | refine st_iadd rX8_now_42 ?_
        refine st_ialdN rX8_now_43 (by first | assumption | decide | exact ⟨by decide, rfl, by decide⟩) (by omega) ?_
        rw [m3]
        refine st_iload rX8_now_44 rfl ?_
        first | refine st_icmp_neN rX8_now_46 (by omega) (by omega) (fun h46 => ?_) (fun h46 => ?_) | refine st_icmp_ne rX8_now_46 (fun h46 => ?_) (fun h46 => ?_)
        · refine st_c rX8_now_56 ?_
          refine st_ior rX8_now_57 ?_
          first | refine st_top (bo_t (f := hmB A) (by omega) (decide_eq_true h46)) ?_ | refine st_top (bo_f0 (f := hmB A) (by omega) (decide_eq_false h46)) ?_
          refine st_istore2 rX8_now_58 rfl ?_
          refine st_iload rX8_now_59 rfl ?_
          refine st_aload rX8_now_60 rfl ?_
          refine st_iload rX8_now_61 rfl ?_
          refine cV2i rX8_now_63 (by first | assumption | decide | exact ⟨by decide, rfl, by decide⟩) (s_isDumb hM1 hO htm ?_) rfl (by decide)
          rw [hd]
          first | refine st_if_eqN rX8_now_66 (by omega) (fun h => absurd h (by first | decide | omega | (simp; done) | simp_all)) (fun _ => ?_) | refine st_if_eq rX8_now_66 (fun h => absurd h (by first | decide | omega | (simp; done) | simp_all)) (fun _ => ?_)
          refine st_c rX8_now_69 ?_
          refine st_iload rX8_now_70 rfl ?_
          refine st_ishl rX8_now_72 ?_
          refine st_goto rX8_now_73 ?_
          refine st_ior rX8_now_77 ?_
          refine st_top (bo_t (f := fun t => dmF A t m) (by omega) hd) ?_
          refine st_istore3 rX8_now_78 rfl ?_
          first | refine st_iincN4 rX8_now_79 rfl ?_ | refine st_iinc4 rX8_now_79 rfl ?_
          refine st_goto rX8_now_82 ?_
          exact hn
        · refine st_c rX8_now_49 ?_
          refine st_iload rX8_now_50 rfl ?_
          refine st_ishl rX8_now_52 ?_
          refine st_goto rX8_now_53 ?_
          refine st_ior rX8_now_57 ?_
          first | refine st_top (bo_t (f := hmB A) (by omega) (decide_eq_true h46)) ?_ | refine st_top (bo_f0 (f := hmB A) (by omega) (decide_eq_false h46)) ?_
          refine st_istore2 rX8_now_58 rfl ?_
          refine st_iload rX8_now_59 rfl ?_
          refine st_aload rX8_now_60 rfl ?_
          refine st_iload rX8_now_61 rfl ?_
          refine cV2i rX8_now_63 (by first | assumption | decide | exact ⟨by decide, rfl, by decide⟩) (s_isDumb hM1 hO htm ?_) rfl (by decide)
          rw [hd]
          first | refine st_if_eqN rX8_now_66 (by omega) (fun h => absurd h (by first | decide | omega | (simp; done) | simp_all)) (fun _ => ?_) | refine st_if_eq rX8_now_66 (fun h => absurd h (by first | decide | omega | (simp; done) | simp_all)) (fun _ => ?_)
          refine st_c rX8_now_69 ?_
          refine st_iload rX8_now_70 rfl ?_
          refine st_ishl rX8_now_72 ?_
          refine st_goto rX8_now_73 ?_
          refine st_ior rX8_now_77 ?_
          refine st_top (bo_t (f := fun t => dmF A t m) (by omega) hd) ?_
          refine st_istore3 rX8_now_78 rfl ?_
          first | refine st_iincN4 rX8_now_79 rfl ?_ | refine st_iinc4 rX8_now_79 rfl ?_
          refine st_goto rX8_now_82 ?_
          exact hn
      | false =>
        refine st_iload rX8_now_23 rfl ?_
        refine st_aload rX8_now_25 rfl ?_
        refine st_getR rX8_now_26 (by first | assumption | decide | exact ⟨by decide, rfl, by decide⟩) (by first | rfl | assumption) rfl ?_
        refine st_c rX8_now_29 ?_
        refine st_ialdN rX8_now_30 (by first | assumption | decide | exact ⟨by decide, rfl, by decide⟩) (by omega) ?_
        refine st_top hmm ?_
        first | refine st_icmp_geN rX8_now_31 (by omega) (by omega) (fun h => absurd h (by first | decide | omega | (simp; done) | simp_all)) (fun _ => ?_) | refine st_icmp_ge rX8_now_31 (fun h => absurd h (by first | decide | omega | (simp; done) | simp_all)) (fun _ => ?_)
        refine st_iload rX8_now_34 rfl ?_
        refine st_aload rX8_now_35 rfl ?_
        refine st_getR rX8_now_36 (by first | assumption | decide | exact ⟨by decide, rfl, by decide⟩) (by first | rfl | assumption) rfl ?_
        refine st_c rX8_now_39 ?_
        refine st_iload rX8_now_40 rfl ?_
        first | refine st_iaddN rX8_now_42 ?_ | refine st_iadd rX8_now_42 ?_
        refine st_ialdN rX8_now_43 (by first | assumption | decide | exact ⟨by decide, rfl, by decide⟩) (by omega) ?_
        rw [m3]
        refine st_iload rX8_now_44 rfl ?_
        first | refine st_icmp_neN rX8_now_46 (by omega) (by omega) (fun h46 => ?_) (fun h46 => ?_) | refine st_icmp_ne rX8_now_46 (fun h46 => ?_) (fun h46 => ?_)
        · refine st_c rX8_now_56 ?_
          refine st_ior rX8_now_57 ?_
          first | refine st_top (bo_t (f := hmB A) (by omega) (decide_eq_true h46)) ?_ | refine st_top (bo_f0 (f := hmB A) (by omega) (decide_eq_false h46)) ?_
          refine st_istore2 rX8_now_58 rfl ?_
          refine st_iload rX8_now_59 rfl ?_
          refine st_aload rX8_now_60 rfl ?_
          refine st_iload rX8_now_61 rfl ?_
          refine cV2i rX8_now_63 (by first | assumption | decide | exact ⟨by decide, rfl, by decide⟩) (s_isDumb hM1 hO htm ?_) rfl (by decide)
          rw [hd]
          first | refine st_if_eqN rX8_now_66 (by omega) (fun _ => ?_) (fun h => absurd h (by first | decide | omega | (simp; done) | simp_all)) | refine st_if_eq rX8_now_66 (fun _ => ?_) (fun h => absurd h (by first | decide | omega | (simp; done) | simp_all))
          refine st_c rX8_now_76 ?_
          refine st_ior rX8_now_77 ?_
          refine st_top (bo_f0 (f := fun t => dmF A t m) (by omega) hd) ?_
          refine st_istore3 rX8_now_78 rfl ?_
          first | refine st_iincN4 rX8_now_79 rfl ?_ | refine st_iinc4 rX8_now_79 rfl ?_
          refine st_goto rX8_now_82 ?_
          exact hn
        · refine st_c rX8_now_49 ?_
          refine st_iload rX8_now_50 rfl ?_
          refine st_ishl rX8_now_52 ?_
          refine st_goto rX8_now_53 ?_
          refine st_ior rX8_now_57 ?_
          first | refine st_top (bo_t (f := hmB A) (by omega) (decide_eq_true h46)) ?_ | refine st_top (bo_f0 (f := hmB A) (by omega) (decide_eq_false h46)) ?_
          refine st_istore2 rX8_now_58 rfl ?_
          refine st_iload rX8_now_59 rfl ?_
          refine st_aload rX8_now_60 rfl ?_
          refine st_iload rX8_now_61 rfl ?_
          refine cV2i rX8_now_63 (by first | assumption | decide | exact ⟨by decide, rfl, by decide⟩) (s_isDumb hM1 hO htm ?_) rfl (by decide)
          rw [hd]
          first | refine st_if_eqN rX8_now_66 (by omega) (fun _ => ?_) (fun h => absurd h (by first | decide | omega | (simp; done) | simp_all)) | refine st_if_eq rX8_now_66 (fun _ => ?_) (fun h => absurd h (by first | decide | omega | (simp; done) | simp_all))
          refine st_c rX8_now_76 ?_
          refine st_ior rX8_now_77 ?_
          refine st_top (bo_f0 (f := fun t => dmF A t m) (by omega) hd) ?_
          refine st_istore3 rX8_now_78 rfl ?_
          first | refine st_iincN4 rX8_now_79 rfl ?_ | refine st_iinc4 rX8_now_79 rfl ?_
          refine st_goto rX8_now_82 ?_
          exact hn
  exact key m 0 (by omega)
end P23
