/-! ===== strokes, far, oath, count, crossed, oaths ===== -/
section P16
variable {d : Nat} {I A : Nat → Nat → Int32} {J : Nat → Nat → Int64} {ρ m no : Nat} {T : Int64} {k : Int32 → vS → Prop} {kl : Int64 → vS → Prop} {kv : vS → Prop}
set_option maxHeartbeats 4000000 in
set_option maxRecDepth 100000 in
theorem c_strokesBad {b t : Int32} (hC : InvC I J ρ A T m no) (hO : OkA A m no) (hb : isT m b = false ∨ isT m t = false) (hk : k (-1) (I, J, vRR ρ)) : V (d + 2) 123 123 mX7_strokes 0 [.ref 0, .int b, .int t] [] (I, J, vRR ρ) (Ki k) := by
  obtain ⟨ht0, ht1, ht2, ht3, ht4, ht5, ht6, ht7, ht8, ht9, ht10⟩ := id hC.1
  obtain ⟨hto, o1, o2, o3, o4, o5, o6, o7, o8⟩ := toldF ht0
  have hm6 : m ≤ 6 := hO.1.2.2.1
  have hno6 : no ≤ 6 := hO.1.2.2.2.1
  by_cases hb1 : isT m b = true
  · have hb2 : isT m t = false := by rcases hb with h | h; exact absurd hb1 (by rw [h]; decide); exact h
    refine st_aload rX7_strokes_0 rfl ?_
    refine st_getR rX7_strokes_1 (by first | assumption | decide | exact ⟨by decide, rfl, by decide⟩) (by first | rfl | assumption) rfl ?_
    refine st_iload rX7_strokes_4 rfl ?_
    refine cV2i rX7_strokes_5 (by first | assumption | decide | exact ⟨by decide, rfl, by decide⟩) (s_hasTown ht0 ht1 hm6 ?_) rfl (by decide)
    rw [hb1]
    first | refine st_if_eqN rX7_strokes_8 (by omega) (fun h => absurd h (by first | decide | omega | (simp; done) | simp_all)) (fun _ => ?_) | refine st_if_eq rX7_strokes_8 (fun h => absurd h (by first | decide | omega | (simp; done) | simp_all)) (fun _ => ?_)
    refine st_aload rX7_strokes_11 rfl ?_
    refine st_getR rX7_strokes_12 (by first | assumption | decide | exact ⟨by decide, rfl, by decide⟩) (by first | rfl | assumption) rfl ?_
    refine st_iload rX7_strokes_15 rfl ?_
    refine cV2i rX7_strokes_16 (by first | assumption | decide | exact ⟨by decide, rfl, by decide⟩) (s_hasTown ht0 ht1 hm6 ?_) rfl (by decide)
    rw [hb2]
    first | refine st_if_eqN rX7_strokes_19 (by omega) (fun _ => ?_) (fun h => absurd h (by first | decide | omega | (simp; done) | simp_all)) | refine st_if_eq rX7_strokes_19 (fun _ => ?_) (fun h => absurd h (by first | decide | omega | (simp; done) | simp_all))
    refine st_c rX7_strokes_40 ?_
    refine st_iret rX7_strokes_41 rfl ?_
    exact hk
  · have hb1 : isT m b = false := by simpa using hb1
    refine st_aload rX7_strokes_0 rfl ?_
    refine st_getR rX7_strokes_1 (by first | assumption | decide | exact ⟨by decide, rfl, by decide⟩) (by first | rfl | assumption) rfl ?_
    refine st_iload rX7_strokes_4 rfl ?_
    refine cV2i rX7_strokes_5 (by first | assumption | decide | exact ⟨by decide, rfl, by decide⟩) (s_hasTown ht0 ht1 hm6 ?_) rfl (by decide)
    rw [hb1]
    first | refine st_if_eqN rX7_strokes_8 (by omega) (fun _ => ?_) (fun h => absurd h (by first | decide | omega | (simp; done) | simp_all)) | refine st_if_eq rX7_strokes_8 (fun _ => ?_) (fun h => absurd h (by first | decide | omega | (simp; done) | simp_all))
    refine st_c rX7_strokes_40 ?_
    refine st_iret rX7_strokes_41 rfl ?_
    exact hk
set_option maxHeartbeats 4000000 in
set_option maxRecDepth 100000 in
theorem m_strokesBad {b t : Int32} (hM : InvM I J A T) (hO : OkA A m no) (hb : isT m b = false ∨ isT m t = false) (hk : ∀ I', (∀ a, a < 103 ∨ 123 ≤ a → I' a = I a) → InvM I' J A T → k (-1) (I', J, vRR ρ)) : V (d + 2) 123 123 mX8_strokes 0 [.ref 103, .int b, .int t] [] (I, J, vRR ρ) (Ki k) := by
  refine s_thr rX8_strokes_0 rX8_strokes_1 rX8_strokes_2 hM (fun I1 e1 e2 hM1 => ?_)
  have hm6 : m ≤ 6 := hO.1.2.2.1
  have hno6 : no ≤ 6 := hO.1.2.2.2.1
  obtain ⟨m1, m2, m3, m4, m5, m6, m7, m8, m9, m10, m11, m12, m13, m14, m15, m16⟩ := id hM1
  have hmm : I1 105 0 = nI m := m11.trans hO.1.1
  have hmo : I1 105 1 = nI no := m12.trans hO.1.2.1
  by_cases hb1 : isT m b = true
  · have hb2 : isT m t = false := by rcases hb with h | h; exact absurd hb1 (by rw [h]; decide); exact h
    refine st_aload rX8_strokes_5 rfl ?_
    refine st_iload rX8_strokes_6 rfl ?_
    refine cV2i rX8_strokes_7 (by first | assumption | decide | exact ⟨by decide, rfl, by decide⟩) (s_isTown hmm hm6 ?_) rfl (by decide)
    rw [hb1]
    first | refine st_if_eqN rX8_strokes_10 (by omega) (fun h => absurd h (by first | decide | omega | (simp; done) | simp_all)) (fun _ => ?_) | refine st_if_eq rX8_strokes_10 (fun h => absurd h (by first | decide | omega | (simp; done) | simp_all)) (fun _ => ?_)
    refine st_aload rX8_strokes_13 rfl ?_
    refine st_iload rX8_strokes_14 rfl ?_
    refine cV2i rX8_strokes_15 (by first | assumption | decide | exact ⟨by decide, rfl, by decide⟩) (s_isTown hmm hm6 ?_) rfl (by decide)
    rw [hb2]
    first | refine st_if_eqN rX8_strokes_18 (by omega) (fun _ => ?_) (fun h => absurd h (by first | decide | omega | (simp; done) | simp_all)) | refine st_if_eq rX8_strokes_18 (fun _ => ?_) (fun h => absurd h (by first | decide | omega | (simp; done) | simp_all))
    refine st_c rX8_strokes_38 ?_
    refine st_iret rX8_strokes_39 rfl ?_
    exact hk I1 (fun a ha => e1 a (by omega)) hM1
  · have hb1 : isT m b = false := by simpa using hb1
    refine st_aload rX8_strokes_5 rfl ?_
    refine st_iload rX8_strokes_6 rfl ?_
    refine cV2i rX8_strokes_7 (by first | assumption | decide | exact ⟨by decide, rfl, by decide⟩) (s_isTown hmm hm6 ?_) rfl (by decide)
    rw [hb1]
    first | refine st_if_eqN rX8_strokes_10 (by omega) (fun _ => ?_) (fun h => absurd h (by first | decide | omega | (simp; done) | simp_all)) | refine st_if_eq rX8_strokes_10 (fun _ => ?_) (fun h => absurd h (by first | decide | omega | (simp; done) | simp_all))
    refine st_c rX8_strokes_38 ?_
    refine st_iret rX8_strokes_39 rfl ?_
    exact hk I1 (fun a ha => e1 a (by omega)) hM1
set_option maxHeartbeats 4000000 in
set_option maxRecDepth 100000 in
theorem c_farBad {b t : Int32} (hC : InvC I J ρ A T m no) (hO : OkA A m no) (hb : isT m b = false ∨ isT m t = false) (hk : k (-1) (I, J, vRR ρ)) : V (d + 2) 123 123 mX7_far 0 [.ref 0, .int b, .int t] [] (I, J, vRR ρ) (Ki k) := by
  obtain ⟨ht0, ht1, ht2, ht3, ht4, ht5, ht6, ht7, ht8, ht9, ht10⟩ := id hC.1
  obtain ⟨hto, o1, o2, o3, o4, o5, o6, o7, o8⟩ := toldF ht0
  have hm6 : m ≤ 6 := hO.1.2.2.1
  have hno6 : no ≤ 6 := hO.1.2.2.2.1
  by_cases hb1 : isT m b = true
  · have hb2 : isT m t = false := by rcases hb with h | h; exact absurd hb1 (by rw [h]; decide); exact h
    refine st_aload rX7_far_0 rfl ?_
    refine st_getR rX7_far_1 (by first | assumption | decide | exact ⟨by decide, rfl, by decide⟩) (by first | rfl | assumption) rfl ?_
    refine st_iload rX7_far_4 rfl ?_
    refine cV2i rX7_far_5 (by first | assumption | decide | exact ⟨by decide, rfl, by decide⟩) (s_hasTown ht0 ht1 hm6 ?_) rfl (by decide)
    rw [hb1]
    first | refine st_if_eqN rX7_far_8 (by omega) (fun h => absurd h (by first | decide | omega | (simp; done) | simp_all)) (fun _ => ?_) | refine st_if_eq rX7_far_8 (fun h => absurd h (by first | decide | omega | (simp; done) | simp_all)) (fun _ => ?_)
    refine st_aload rX7_far_11 rfl ?_
    refine st_getR rX7_far_12 (by first | assumption | decide | exact ⟨by decide, rfl, by decide⟩) (by first | rfl | assumption) rfl ?_
    refine st_iload rX7_far_15 rfl ?_
    refine cV2i rX7_far_16 (by first | assumption | decide | exact ⟨by decide, rfl, by decide⟩) (s_hasTown ht0 ht1 hm6 ?_) rfl (by decide)
    rw [hb2]
    first | refine st_if_eqN rX7_far_19 (by omega) (fun _ => ?_) (fun h => absurd h (by first | decide | omega | (simp; done) | simp_all)) | refine st_if_eq rX7_far_19 (fun _ => ?_) (fun h => absurd h (by first | decide | omega | (simp; done) | simp_all))
    refine st_c rX7_far_34 ?_
    refine st_iret rX7_far_35 rfl ?_
    exact hk
  · have hb1 : isT m b = false := by simpa using hb1
    refine st_aload rX7_far_0 rfl ?_
    refine st_getR rX7_far_1 (by first | assumption | decide | exact ⟨by decide, rfl, by decide⟩) (by first | rfl | assumption) rfl ?_
    refine st_iload rX7_far_4 rfl ?_
    refine cV2i rX7_far_5 (by first | assumption | decide | exact ⟨by decide, rfl, by decide⟩) (s_hasTown ht0 ht1 hm6 ?_) rfl (by decide)
    rw [hb1]
    first | refine st_if_eqN rX7_far_8 (by omega) (fun _ => ?_) (fun h => absurd h (by first | decide | omega | (simp; done) | simp_all)) | refine st_if_eq rX7_far_8 (fun _ => ?_) (fun h => absurd h (by first | decide | omega | (simp; done) | simp_all))
    refine st_c rX7_far_34 ?_
    refine st_iret rX7_far_35 rfl ?_
    exact hk
set_option maxHeartbeats 4000000 in
set_option maxRecDepth 100000 in
theorem m_farBad {b t : Int32} (hM : InvM I J A T) (hO : OkA A m no) (hb : isT m b = false ∨ isT m t = false) (hk : ∀ I', (∀ a, a < 103 ∨ 123 ≤ a → I' a = I a) → InvM I' J A T → k (-1) (I', J, vRR ρ)) : V (d + 2) 123 123 mX8_far 0 [.ref 103, .int b, .int t] [] (I, J, vRR ρ) (Ki k) := by
  refine s_thr rX8_far_0 rX8_far_1 rX8_far_2 hM (fun I1 e1 e2 hM1 => ?_)
  have hm6 : m ≤ 6 := hO.1.2.2.1
  have hno6 : no ≤ 6 := hO.1.2.2.2.1
  obtain ⟨m1, m2, m3, m4, m5, m6, m7, m8, m9, m10, m11, m12, m13, m14, m15, m16⟩ := id hM1
  have hmm : I1 105 0 = nI m := m11.trans hO.1.1
  have hmo : I1 105 1 = nI no := m12.trans hO.1.2.1
  by_cases hb1 : isT m b = true
  · have hb2 : isT m t = false := by rcases hb with h | h; exact absurd hb1 (by rw [h]; decide); exact h
    refine st_aload rX8_far_5 rfl ?_
    refine st_iload rX8_far_6 rfl ?_
    refine cV2i rX8_far_7 (by first | assumption | decide | exact ⟨by decide, rfl, by decide⟩) (s_isTown hmm hm6 ?_) rfl (by decide)
    rw [hb1]
    first | refine st_if_eqN rX8_far_10 (by omega) (fun h => absurd h (by first | decide | omega | (simp; done) | simp_all)) (fun _ => ?_) | refine st_if_eq rX8_far_10 (fun h => absurd h (by first | decide | omega | (simp; done) | simp_all)) (fun _ => ?_)
    refine st_aload rX8_far_13 rfl ?_
    refine st_iload rX8_far_14 rfl ?_
    refine cV2i rX8_far_15 (by first | assumption | decide | exact ⟨by decide, rfl, by decide⟩) (s_isTown hmm hm6 ?_) rfl (by decide)
    rw [hb2]
    first | refine st_if_neN rX8_far_18 (by omega) (fun h => absurd h (by first | decide | omega | (simp; done) | simp_all)) (fun _ => ?_) | refine st_if_ne rX8_far_18 (fun h => absurd h (by first | decide | omega | (simp; done) | simp_all)) (fun _ => ?_)
    refine st_c rX8_far_21 ?_
    refine st_iret rX8_far_22 rfl ?_
    exact hk I1 (fun a ha => e1 a (by omega)) hM1
  · have hb1 : isT m b = false := by simpa using hb1
    refine st_aload rX8_far_5 rfl ?_
    refine st_iload rX8_far_6 rfl ?_
    refine cV2i rX8_far_7 (by first | assumption | decide | exact ⟨by decide, rfl, by decide⟩) (s_isTown hmm hm6 ?_) rfl (by decide)
    rw [hb1]
    first | refine st_if_eqN rX8_far_10 (by omega) (fun _ => ?_) (fun h => absurd h (by first | decide | omega | (simp; done) | simp_all)) | refine st_if_eq rX8_far_10 (fun _ => ?_) (fun h => absurd h (by first | decide | omega | (simp; done) | simp_all))
    refine st_c rX8_far_21 ?_
    refine st_iret rX8_far_22 rfl ?_
    exact hk I1 (fun a ha => e1 a (by omega)) hM1
set_option maxHeartbeats 4000000 in
set_option maxRecDepth 100000 in
theorem c_foundBad {b t : Int32} (hC : InvC I J ρ A T m no) (hO : OkA A m no) (hb : isT m b = false ∨ isT m t = false) (hk : k (-1) (I, J, vRR ρ)) : V (d + 2) 123 123 mX7_found 0 [.ref 0, .int b, .int t] [] (I, J, vRR ρ) (Ki k) := by
  obtain ⟨ht0, ht1, ht2, ht3, ht4, ht5, ht6, ht7, ht8, ht9, ht10⟩ := id hC.1
  obtain ⟨hto, o1, o2, o3, o4, o5, o6, o7, o8⟩ := toldF ht0
  have hm6 : m ≤ 6 := hO.1.2.2.1
  have hno6 : no ≤ 6 := hO.1.2.2.2.1
  by_cases hb1 : isT m b = true
  · have hb2 : isT m t = false := by rcases hb with h | h; exact absurd hb1 (by rw [h]; decide); exact h
    refine st_aload rX7_found_0 rfl ?_
    refine st_getR rX7_found_1 (by first | assumption | decide | exact ⟨by decide, rfl, by decide⟩) (by first | rfl | assumption) rfl ?_
    refine st_iload rX7_found_4 rfl ?_
    refine cV2i rX7_found_5 (by first | assumption | decide | exact ⟨by decide, rfl, by decide⟩) (s_hasTown ht0 ht1 hm6 ?_) rfl (by decide)
    rw [hb1]
    first | refine st_if_eqN rX7_found_8 (by omega) (fun h => absurd h (by first | decide | omega | (simp; done) | simp_all)) (fun _ => ?_) | refine st_if_eq rX7_found_8 (fun h => absurd h (by first | decide | omega | (simp; done) | simp_all)) (fun _ => ?_)
    refine st_aload rX7_found_11 rfl ?_
    refine st_getR rX7_found_12 (by first | assumption | decide | exact ⟨by decide, rfl, by decide⟩) (by first | rfl | assumption) rfl ?_
    refine st_iload rX7_found_15 rfl ?_
    refine cV2i rX7_found_16 (by first | assumption | decide | exact ⟨by decide, rfl, by decide⟩) (s_hasTown ht0 ht1 hm6 ?_) rfl (by decide)
    rw [hb2]
    first | refine st_if_neN rX7_found_19 (by omega) (fun h => absurd h (by first | decide | omega | (simp; done) | simp_all)) (fun _ => ?_) | refine st_if_ne rX7_found_19 (fun h => absurd h (by first | decide | omega | (simp; done) | simp_all)) (fun _ => ?_)
    refine st_c rX7_found_22 ?_
    refine st_iret rX7_found_23 rfl ?_
    exact hk
  · have hb1 : isT m b = false := by simpa using hb1
    refine st_aload rX7_found_0 rfl ?_
    refine st_getR rX7_found_1 (by first | assumption | decide | exact ⟨by decide, rfl, by decide⟩) (by first | rfl | assumption) rfl ?_
    refine st_iload rX7_found_4 rfl ?_
    refine cV2i rX7_found_5 (by first | assumption | decide | exact ⟨by decide, rfl, by decide⟩) (s_hasTown ht0 ht1 hm6 ?_) rfl (by decide)
    rw [hb1]
    first | refine st_if_eqN rX7_found_8 (by omega) (fun _ => ?_) (fun h => absurd h (by first | decide | omega | (simp; done) | simp_all)) | refine st_if_eq rX7_found_8 (fun _ => ?_) (fun h => absurd h (by first | decide | omega | (simp; done) | simp_all))
    refine st_c rX7_found_22 ?_
    refine st_iret rX7_found_23 rfl ?_
    exact hk
set_option maxHeartbeats 4000000 in
set_option maxRecDepth 100000 in
theorem m_foundBad {b t : Int32} (hM : InvM I J A T) (hO : OkA A m no) (hb : isT m b = false ∨ isT m t = false) (hk : ∀ I', (∀ a, a < 103 ∨ 123 ≤ a → I' a = I a) → InvM I' J A T → k (-1) (I', J, vRR ρ)) : V (d + 2) 123 123 mX8_found 0 [.ref 103, .int b, .int t] [] (I, J, vRR ρ) (Ki k) := by
  refine s_thr rX8_found_0 rX8_found_1 rX8_found_2 hM (fun I1 e1 e2 hM1 => ?_)
  have hm6 : m ≤ 6 := hO.1.2.2.1
  have hno6 : no ≤ 6 := hO.1.2.2.2.1
  obtain ⟨m1, m2, m3, m4, m5, m6, m7, m8, m9, m10, m11, m12, m13, m14, m15, m16⟩ := id hM1
  have hmm : I1 105 0 = nI m := m11.trans hO.1.1
  have hmo : I1 105 1 = nI no := m12.trans hO.1.2.1
  by_cases hb1 : isT m b = true
  · have hb2 : isT m t = false := by rcases hb with h | h; exact absurd hb1 (by rw [h]; decide); exact h
    refine st_aload rX8_found_5 rfl ?_
    refine st_iload rX8_found_6 rfl ?_
    refine cV2i rX8_found_7 (by first | assumption | decide | exact ⟨by decide, rfl, by decide⟩) (s_isTown hmm hm6 ?_) rfl (by decide)
    rw [hb1]
    first | refine st_if_eqN rX8_found_10 (by omega) (fun h => absurd h (by first | decide | omega | (simp; done) | simp_all)) (fun _ => ?_) | refine st_if_eq rX8_found_10 (fun h => absurd h (by first | decide | omega | (simp; done) | simp_all)) (fun _ => ?_)
    refine st_aload rX8_found_13 rfl ?_
    refine st_iload rX8_found_14 rfl ?_
    refine cV2i rX8_found_15 (by first | assumption | decide | exact ⟨by decide, rfl, by decide⟩) (s_isTown hmm hm6 ?_) rfl (by decide)
    rw [hb2]
    first | refine st_if_neN rX8_found_18 (by omega) (fun h => absurd h (by first | decide | omega | (simp; done) | simp_all)) (fun _ => ?_) | refine st_if_ne rX8_found_18 (fun h => absurd h (by first | decide | omega | (simp; done) | simp_all)) (fun _ => ?_)
    refine st_c rX8_found_21 ?_
    refine st_iret rX8_found_22 rfl ?_
    exact hk I1 (fun a ha => e1 a (by omega)) hM1
  · have hb1 : isT m b = false := by simpa using hb1
    refine st_aload rX8_found_5 rfl ?_
    refine st_iload rX8_found_6 rfl ?_
    refine cV2i rX8_found_7 (by first | assumption | decide | exact ⟨by decide, rfl, by decide⟩) (s_isTown hmm hm6 ?_) rfl (by decide)
    rw [hb1]
    first | refine st_if_eqN rX8_found_10 (by omega) (fun _ => ?_) (fun h => absurd h (by first | decide | omega | (simp; done) | simp_all)) | refine st_if_eq rX8_found_10 (fun _ => ?_) (fun h => absurd h (by first | decide | omega | (simp; done) | simp_all))
    refine st_c rX8_found_21 ?_
    refine st_iret rX8_found_22 rfl ?_
    exact hk I1 (fun a ha => e1 a (by omega)) hM1
set_option maxHeartbeats 4000000 in
set_option maxRecDepth 100000 in
theorem c_strokes {b t : Nat} (hC : InvC I J ρ A T m no) (hO : OkA A m no) (hb : b < m) (ht : t < m) (hk : k (A 114 (20 + (b * 6 + t))) (I, J, vRR ρ)) : V (d + 2) 123 123 mX7_strokes 0 [.ref 0, .int (nI b), .int (nI t)] [] (I, J, vRR ρ) (Ki k) := by
  obtain ⟨ht0, ht1, ht2, ht3, ht4, ht5, ht6, ht7, ht8, ht9, ht10⟩ := id hC.1
  obtain ⟨hto, o1, o2, o3, o4, o5, o6, o7, o8⟩ := toldF ht0
  have hm6 : m ≤ 6 := hO.1.2.2.1
  have hno6 : no ≤ 6 := hO.1.2.2.2.1
  have hv := hC.2.2.1
  refine st_aload rX7_strokes_0 rfl ?_
  refine st_getR rX7_strokes_1 (by first | assumption | decide | exact ⟨by decide, rfl, by decide⟩) (by first | rfl | assumption) rfl ?_
  refine st_iload rX7_strokes_4 rfl ?_
  refine cV2i rX7_strokes_5 (by first | assumption | decide | exact ⟨by decide, rfl, by decide⟩) (s_hasTown ht0 ht1 hm6 ?_) rfl (by decide)
  rw [isT_n hb (by omega)]
  first | refine st_if_eqN rX7_strokes_8 (by omega) (fun h => absurd h (by first | decide | omega | (simp; done) | simp_all)) (fun _ => ?_) | refine st_if_eq rX7_strokes_8 (fun h => absurd h (by first | decide | omega | (simp; done) | simp_all)) (fun _ => ?_)
  refine st_aload rX7_strokes_11 rfl ?_
  refine st_getR rX7_strokes_12 (by first | assumption | decide | exact ⟨by decide, rfl, by decide⟩) (by first | rfl | assumption) rfl ?_
  refine st_iload rX7_strokes_15 rfl ?_
  refine cV2i rX7_strokes_16 (by first | assumption | decide | exact ⟨by decide, rfl, by decide⟩) (s_hasTown ht0 ht1 hm6 ?_) rfl (by decide)
  rw [isT_n ht (by omega)]
  first | refine st_if_eqN rX7_strokes_19 (by omega) (fun h => absurd h (by first | decide | omega | (simp; done) | simp_all)) (fun _ => ?_) | refine st_if_eq rX7_strokes_19 (fun h => absurd h (by first | decide | omega | (simp; done) | simp_all)) (fun _ => ?_)
  refine st_aload rX7_strokes_22 rfl ?_
  refine st_getR rX7_strokes_23 (by first | assumption | decide | exact ⟨by decide, rfl, by decide⟩) (by first | rfl | assumption) rfl ?_
  refine st_getR rX7_strokes_26 (by first | assumption | decide | exact ⟨by decide, rfl, by decide⟩) (by first | rfl | assumption) rfl ?_
  refine st_iload rX7_strokes_29 rfl ?_
  refine st_iload rX7_strokes_30 rfl ?_
  refine cS2i rX7_strokes_31 (s_pair ?_) rfl
  refine cS2i rX7_strokes_34 (s_at (by first | assumption | decide | exact ⟨by decide, rfl, by decide⟩) (by omega) ?_) rfl
  refine st_goto rX7_strokes_37 ?_
  refine st_iret rX7_strokes_41 rfl ?_
  rw [hv.2.2.2.2.2 (b * 6 + t) (by omega)]; exact hk
set_option maxHeartbeats 4000000 in
set_option maxRecDepth 100000 in
theorem m_strokes {b t : Nat} (hM : InvM I J A T) (hO : OkA A m no) (hb : b < m) (ht : t < m) (hk : ∀ I', (∀ a, a < 103 ∨ 123 ≤ a → I' a = I a) → InvM I' J A T → k (A 114 (20 + (b * 6 + t))) (I', J, vRR ρ)) : V (d + 2) 123 123 mX8_strokes 0 [.ref 103, .int (nI b), .int (nI t)] [] (I, J, vRR ρ) (Ki k) := by
  refine s_thr rX8_strokes_0 rX8_strokes_1 rX8_strokes_2 hM (fun I1 e1 e2 hM1 => ?_)
  have hm6 : m ≤ 6 := hO.1.2.2.1
  have hno6 : no ≤ 6 := hO.1.2.2.2.1
  obtain ⟨m1, m2, m3, m4, m5, m6, m7, m8, m9, m10, m11, m12, m13, m14, m15, m16⟩ := id hM1
  have hmm : I1 105 0 = nI m := m11.trans hO.1.1
  have hmo : I1 105 1 = nI no := m12.trans hO.1.2.1
  refine st_aload rX8_strokes_5 rfl ?_
  refine st_iload rX8_strokes_6 rfl ?_
  refine cV2i rX8_strokes_7 (by first | assumption | decide | exact ⟨by decide, rfl, by decide⟩) (s_isTown hmm hm6 ?_) rfl (by decide)
  rw [isT_n hb (by omega)]
  first | refine st_if_eqN rX8_strokes_10 (by omega) (fun h => absurd h (by first | decide | omega | (simp; done) | simp_all)) (fun _ => ?_) | refine st_if_eq rX8_strokes_10 (fun h => absurd h (by first | decide | omega | (simp; done) | simp_all)) (fun _ => ?_)
  refine st_aload rX8_strokes_13 rfl ?_
  refine st_iload rX8_strokes_14 rfl ?_
  refine cV2i rX8_strokes_15 (by first | assumption | decide | exact ⟨by decide, rfl, by decide⟩) (s_isTown hmm hm6 ?_) rfl (by decide)
  rw [isT_n ht (by omega)]
  first | refine st_if_eqN rX8_strokes_18 (by omega) (fun h => absurd h (by first | decide | omega | (simp; done) | simp_all)) (fun _ => ?_) | refine st_if_eq rX8_strokes_18 (fun h => absurd h (by first | decide | omega | (simp; done) | simp_all)) (fun _ => ?_)
  refine st_aload rX8_strokes_21 rfl ?_
  refine st_getR rX8_strokes_22 (by first | assumption | decide | exact ⟨by decide, rfl, by decide⟩) (by first | rfl | assumption) rfl ?_
  refine st_c rX8_strokes_25 ?_
  refine st_c rX8_strokes_27 ?_
  refine st_iload rX8_strokes_29 rfl ?_
  first | refine st_imulN rX8_strokes_30 ?_ | refine st_imul rX8_strokes_30 ?_
  first | refine st_iaddN rX8_strokes_31 ?_ | refine st_iadd rX8_strokes_31 ?_
  refine st_iload rX8_strokes_32 rfl ?_
  first | refine st_iaddN rX8_strokes_33 ?_ | refine st_iadd rX8_strokes_33 ?_
  refine st_ialdN rX8_strokes_34 (by first | assumption | decide | exact ⟨by decide, rfl, by decide⟩) (by omega) ?_
  refine st_goto rX8_strokes_35 ?_
  refine st_iret rX8_strokes_39 rfl ?_
  rw [m3, show 20 + 6 * b + t = 20 + (b * 6 + t) by omega]; exact hk I1 (fun a ha => e1 a (by omega)) hM1
set_option maxHeartbeats 4000000 in
set_option maxRecDepth 100000 in
theorem c_far {a b : Nat} (hC : InvC I J ρ A T m no) (hO : OkA A m no) (ha : a < m) (hb : b < m) (hk : k (farC (A 113 (6 * a + b))) (I, J, vRR ρ)) : V (d + 2) 123 123 mX7_far 0 [.ref 0, .int (nI a), .int (nI b)] [] (I, J, vRR ρ) (Ki k) := by
  obtain ⟨ht0, ht1, ht2, ht3, ht4, ht5, ht6, ht7, ht8, ht9, ht10⟩ := id hC.1
  obtain ⟨hto, o1, o2, o3, o4, o5, o6, o7, o8⟩ := toldF ht0
  have hm6 : m ≤ 6 := hO.1.2.2.1
  have hno6 : no ≤ 6 := hO.1.2.2.2.1
  refine st_aload rX7_far_0 rfl ?_
  refine st_getR rX7_far_1 (by first | assumption | decide | exact ⟨by decide, rfl, by decide⟩) (by first | rfl | assumption) rfl ?_
  refine st_iload rX7_far_4 rfl ?_
  refine cV2i rX7_far_5 (by first | assumption | decide | exact ⟨by decide, rfl, by decide⟩) (s_hasTown ht0 ht1 hm6 ?_) rfl (by decide)
  rw [isT_n ha (by omega)]
  first | refine st_if_eqN rX7_far_8 (by omega) (fun h => absurd h (by first | decide | omega | (simp; done) | simp_all)) (fun _ => ?_) | refine st_if_eq rX7_far_8 (fun h => absurd h (by first | decide | omega | (simp; done) | simp_all)) (fun _ => ?_)
  refine st_aload rX7_far_11 rfl ?_
  refine st_getR rX7_far_12 (by first | assumption | decide | exact ⟨by decide, rfl, by decide⟩) (by first | rfl | assumption) rfl ?_
  refine st_iload rX7_far_15 rfl ?_
  refine cV2i rX7_far_16 (by first | assumption | decide | exact ⟨by decide, rfl, by decide⟩) (s_hasTown ht0 ht1 hm6 ?_) rfl (by decide)
  rw [isT_n hb (by omega)]
  first | refine st_if_eqN rX7_far_19 (by omega) (fun h => absurd h (by first | decide | omega | (simp; done) | simp_all)) (fun _ => ?_) | refine st_if_eq rX7_far_19 (fun h => absurd h (by first | decide | omega | (simp; done) | simp_all)) (fun _ => ?_)
  refine st_aload rX7_far_22 rfl ?_
  refine st_getR rX7_far_23 (by first | assumption | decide | exact ⟨by decide, rfl, by decide⟩) (by first | rfl | assumption) rfl ?_
  refine st_iload rX7_far_26 rfl ?_
  refine st_iload rX7_far_27 rfl ?_
  refine cV3i rX7_far_28 (by first | assumption | decide | exact ⟨by decide, rfl, by decide⟩) (s_wayBetween ht0 (by omega) (by omega) ?_) rfl (by decide)
  refine st_goto rX7_far_31 ?_
  refine st_iret rX7_far_35 rfl ?_
  rw [ht7 a b ha hb]; exact hk
set_option maxHeartbeats 4000000 in
set_option maxRecDepth 100000 in
theorem m_far {a b : Nat} (hM : InvM I J A T) (hO : OkA A m no) (ha : a < m) (hb : b < m) (hk : ∀ I', (∀ a, a < 103 ∨ 123 ≤ a → I' a = I a) → InvM I' J A T → k (farC (A 113 (6 * a + b))) (I', J, vRR ρ)) : V (d + 2) 123 123 mX8_far 0 [.ref 103, .int (nI a), .int (nI b)] [] (I, J, vRR ρ) (Ki k) := by
  refine s_thr rX8_far_0 rX8_far_1 rX8_far_2 hM (fun I1 e1 e2 hM1 => ?_)
  have hm6 : m ≤ 6 := hO.1.2.2.1
  have hno6 : no ≤ 6 := hO.1.2.2.2.1
  obtain ⟨m1, m2, m3, m4, m5, m6, m7, m8, m9, m10, m11, m12, m13, m14, m15, m16⟩ := id hM1
  have hmm : I1 105 0 = nI m := m11.trans hO.1.1
  have hmo : I1 105 1 = nI no := m12.trans hO.1.2.1
  have hf : ∀ x, A 113 (6 * a + b) = x → I1 113 (6 * a + b) = x := fun x h => by rw [m2]; exact h
  rcases hO.1.2.2.2.2.2.2.2.1 a b ha hb with ⟨h1, -⟩ | ⟨x, hx, h1, -⟩
  · rw [h1] at hk
    have q := hf _ h1
    refine st_aload rX8_far_5 rfl ?_
    refine st_iload rX8_far_6 rfl ?_
    refine cV2i rX8_far_7 (by first | assumption | decide | exact ⟨by decide, rfl, by decide⟩) (s_isTown hmm hm6 ?_) rfl (by decide)
    rw [isT_n ha (by omega)]
    first | refine st_if_eqN rX8_far_10 (by omega) (fun h => absurd h (by first | decide | omega | (simp; done) | simp_all)) (fun _ => ?_) | refine st_if_eq rX8_far_10 (fun h => absurd h (by first | decide | omega | (simp; done) | simp_all)) (fun _ => ?_)
    refine st_aload rX8_far_13 rfl ?_
    refine st_iload rX8_far_14 rfl ?_
    refine cV2i rX8_far_15 (by first | assumption | decide | exact ⟨by decide, rfl, by decide⟩) (s_isTown hmm hm6 ?_) rfl (by decide)
    rw [isT_n hb (by omega)]
    first | refine st_if_neN rX8_far_18 (by omega) (fun _ => ?_) (fun h => absurd h (by first | decide | omega | (simp; done) | simp_all)) | refine st_if_ne rX8_far_18 (fun _ => ?_) (fun h => absurd h (by first | decide | omega | (simp; done) | simp_all))
    refine st_aload rX8_far_23 rfl ?_
    refine st_getR rX8_far_24 (by first | assumption | decide | exact ⟨by decide, rfl, by decide⟩) (by first | rfl | assumption) rfl ?_
    refine st_c rX8_far_27 ?_
    refine st_iload rX8_far_29 rfl ?_
    first | refine st_imulN rX8_far_30 ?_ | refine st_imul rX8_far_30 ?_
    refine st_iload rX8_far_31 rfl ?_
    first | refine st_iaddN rX8_far_32 ?_ | refine st_iadd rX8_far_32 ?_
    refine st_ialdN rX8_far_33 (by first | assumption | decide | exact ⟨by decide, rfl, by decide⟩) (by omega) ?_
    refine st_top q ?_
    refine st_c rX8_far_34 ?_
    first | refine st_icmp_ltN rX8_far_36 (by omega) (by omega) (fun h => absurd h (by first | decide | omega | (simp; done) | simp_all)) (fun _ => ?_) | refine st_icmp_lt rX8_far_36 (fun h => absurd h (by first | decide | omega | (simp; done) | simp_all)) (fun _ => ?_)
    refine st_c rX8_far_39 ?_
    refine st_goto rX8_far_41 ?_
    refine st_iret rX8_far_55 rfl ?_
    exact hk I1 (fun a ha => e1 a (by omega)) hM1
  · have e9 : farC (A 113 (6 * a + b)) = nI x := by
      rw [h1, farC, if_neg]
      intro h
      have := (nI_eq (by omega) (by omega)).mp h
      omega
    rw [e9] at hk
    have q := hf _ h1
    refine st_aload rX8_far_5 rfl ?_
    refine st_iload rX8_far_6 rfl ?_
    refine cV2i rX8_far_7 (by first | assumption | decide | exact ⟨by decide, rfl, by decide⟩) (s_isTown hmm hm6 ?_) rfl (by decide)
    rw [isT_n ha (by omega)]
    first | refine st_if_eqN rX8_far_10 (by omega) (fun h => absurd h (by first | decide | omega | (simp; done) | simp_all)) (fun _ => ?_) | refine st_if_eq rX8_far_10 (fun h => absurd h (by first | decide | omega | (simp; done) | simp_all)) (fun _ => ?_)
    refine st_aload rX8_far_13 rfl ?_
    refine st_iload rX8_far_14 rfl ?_
    refine cV2i rX8_far_15 (by first | assumption | decide | exact ⟨by decide, rfl, by decide⟩) (s_isTown hmm hm6 ?_) rfl (by decide)
    rw [isT_n hb (by omega)]
    first | refine st_if_neN rX8_far_18 (by omega) (fun _ => ?_) (fun h => absurd h (by first | decide | omega | (simp; done) | simp_all)) | refine st_if_ne rX8_far_18 (fun _ => ?_) (fun h => absurd h (by first | decide | omega | (simp; done) | simp_all))
    refine st_aload rX8_far_23 rfl ?_
    refine st_getR rX8_far_24 (by first | assumption | decide | exact ⟨by decide, rfl, by decide⟩) (by first | rfl | assumption) rfl ?_
    refine st_c rX8_far_27 ?_
    refine st_iload rX8_far_29 rfl ?_
    first | refine st_imulN rX8_far_30 ?_ | refine st_imul rX8_far_30 ?_
    refine st_iload rX8_far_31 rfl ?_
    first | refine st_iaddN rX8_far_32 ?_ | refine st_iadd rX8_far_32 ?_
    refine st_ialdN rX8_far_33 (by first | assumption | decide | exact ⟨by decide, rfl, by decide⟩) (by omega) ?_
    refine st_top q ?_
    refine st_c rX8_far_34 ?_
    first | refine st_icmp_ltN rX8_far_36 (by omega) (by omega) (fun _ => ?_) (fun h => absurd h (by first | decide | omega | (simp; done) | simp_all)) | refine st_icmp_lt rX8_far_36 (fun _ => ?_) (fun h => absurd h (by first | decide | omega | (simp; done) | simp_all))
    refine st_aload rX8_far_44 rfl ?_
    refine st_getR rX8_far_45 (by first | assumption | decide | exact ⟨by decide, rfl, by decide⟩) (by first | rfl | assumption) rfl ?_
    refine st_c rX8_far_48 ?_
    refine st_iload rX8_far_50 rfl ?_
    first | refine st_imulN rX8_far_51 ?_ | refine st_imul rX8_far_51 ?_
    refine st_iload rX8_far_52 rfl ?_
    first | refine st_iaddN rX8_far_53 ?_ | refine st_iadd rX8_far_53 ?_
    refine st_ialdN rX8_far_54 (by first | assumption | decide | exact ⟨by decide, rfl, by decide⟩) (by omega) ?_
    refine st_top q ?_
    refine st_iret rX8_far_55 rfl ?_
    exact hk I1 (fun a ha => e1 a (by omega)) hM1
set_option maxHeartbeats 4000000 in
set_option maxRecDepth 100000 in
theorem c_oathBad {i q : Int32} (hC : InvC I J ρ A T m no) (hO : OkA A m no) (hb : isT no i = false ∨ isT 4 q = false) (hk : k (-1) (I, J, vRR ρ)) : V (d + 2) 123 123 mX7_oath 0 [.ref 0, .int i, .int q] [] (I, J, vRR ρ) (Ki k) := by
  obtain ⟨ht0, ht1, ht2, ht3, ht4, ht5, ht6, ht7, ht8, ht9, ht10⟩ := id hC.1
  obtain ⟨hto, o1, o2, o3, o4, o5, o6, o7, o8⟩ := toldF ht0
  have hm6 : m ≤ 6 := hO.1.2.2.1
  have hno6 : no ≤ 6 := hO.1.2.2.2.1
  by_cases hb1 : isT no i = true
  · have hb2 : isT 4 q = false := by rcases hb with h | h; exact absurd hb1 (by rw [h]; decide); exact h
    refine st_iload rX7_oath_0 rfl ?_
    refine st_c rX7_oath_1 ?_
    refine st_aload rX7_oath_2 rfl ?_
    refine st_getR rX7_oath_3 (by first | assumption | decide | exact ⟨by decide, rfl, by decide⟩) (by first | rfl | assumption) rfl ?_
    refine st_getI rX7_oath_6 (by first | assumption | decide | exact ⟨by decide, rfl, by decide⟩) rfl ?_
    refine st_top ht3 ?_
    refine st_c rX7_oath_9 ?_
    first | refine st_isubN rX7_oath_10 (by omega) ?_ | refine st_isub rX7_oath_10 ?_
    refine cS3i rX7_oath_11 (s_within ?_) rfl
    rw [inR_T (by omega), hb1]
    first | refine st_if_neN rX7_oath_14 (by omega) (fun _ => ?_) (fun h => absurd h (by first | decide | omega | (simp; done) | simp_all)) | refine st_if_ne rX7_oath_14 (fun _ => ?_) (fun h => absurd h (by first | decide | omega | (simp; done) | simp_all))
    refine st_iload rX7_oath_19 rfl ?_
    refine st_tabO rX7_oath_20 (by have := isT_f hb2; simpa using this) ?_
    refine st_c rX7_oath_100 ?_
    refine st_iret rX7_oath_101 rfl ?_
    exact hk
  · have hb1 : isT no i = false := by simpa using hb1
    refine st_iload rX7_oath_0 rfl ?_
    refine st_c rX7_oath_1 ?_
    refine st_aload rX7_oath_2 rfl ?_
    refine st_getR rX7_oath_3 (by first | assumption | decide | exact ⟨by decide, rfl, by decide⟩) (by first | rfl | assumption) rfl ?_
    refine st_getI rX7_oath_6 (by first | assumption | decide | exact ⟨by decide, rfl, by decide⟩) rfl ?_
    refine st_top ht3 ?_
    refine st_c rX7_oath_9 ?_
    first | refine st_isubN rX7_oath_10 (by omega) ?_ | refine st_isub rX7_oath_10 ?_
    refine cS3i rX7_oath_11 (s_within ?_) rfl
    rw [inR_T (by omega), hb1]
    first | refine st_if_neN rX7_oath_14 (by omega) (fun h => absurd h (by first | decide | omega | (simp; done) | simp_all)) (fun _ => ?_) | refine st_if_ne rX7_oath_14 (fun h => absurd h (by first | decide | omega | (simp; done) | simp_all)) (fun _ => ?_)
    refine st_c rX7_oath_17 ?_
    refine st_iret rX7_oath_18 rfl ?_
    exact hk
set_option maxHeartbeats 4000000 in
set_option maxRecDepth 100000 in
theorem m_oathBad {i q : Int32} (hM : InvM I J A T) (hO : OkA A m no) (hb : isT no i = false ∨ isT 4 q = false) (hk : ∀ I', (∀ a, a < 103 ∨ 123 ≤ a → I' a = I a) → InvM I' J A T → k (-1) (I', J, vRR ρ)) : V (d + 2) 123 123 mX8_oath 0 [.ref 103, .int i, .int q] [] (I, J, vRR ρ) (Ki k) := by
  refine s_thr rX8_oath_0 rX8_oath_1 rX8_oath_2 hM (fun I1 e1 e2 hM1 => ?_)
  have hm6 : m ≤ 6 := hO.1.2.2.1
  have hno6 : no ≤ 6 := hO.1.2.2.2.1
  obtain ⟨m1, m2, m3, m4, m5, m6, m7, m8, m9, m10, m11, m12, m13, m14, m15, m16⟩ := id hM1
  have hmm : I1 105 0 = nI m := m11.trans hO.1.1
  have hmo : I1 105 1 = nI no := m12.trans hO.1.2.1
  by_cases hb1 : isT no i = true
  · have hb2 : isT 4 q = false := by rcases hb with h | h; exact absurd hb1 (by rw [h]; decide); exact h
    refine st_iload rX8_oath_5 rfl ?_
    refine st_c rX8_oath_6 ?_
    refine st_aload rX8_oath_7 rfl ?_
    refine st_getR rX8_oath_8 (by first | assumption | decide | exact ⟨by decide, rfl, by decide⟩) (by first | rfl | assumption) rfl ?_
    refine st_c rX8_oath_11 ?_
    refine st_ialdN rX8_oath_12 (by first | assumption | decide | exact ⟨by decide, rfl, by decide⟩) (by omega) ?_
    refine st_top hmo ?_
    refine st_c rX8_oath_13 ?_
    first | refine st_isubN rX8_oath_14 (by omega) ?_ | refine st_isub rX8_oath_14 ?_
    refine cS3i rX8_oath_15 (s_in ?_) rfl
    rw [inR_T (by omega), hb1]
    first | refine st_if_eqN rX8_oath_18 (by omega) (fun h => absurd h (by first | decide | omega | (simp; done) | simp_all)) (fun _ => ?_) | refine st_if_eq rX8_oath_18 (fun h => absurd h (by first | decide | omega | (simp; done) | simp_all)) (fun _ => ?_)
    refine st_iload rX8_oath_21 rfl ?_
    refine st_c rX8_oath_22 ?_
    refine st_c rX8_oath_23 ?_
    refine cS3i rX8_oath_24 (s_in ?_) rfl
    rw [inR_N (by decide), hb2]
    first | refine st_if_neN rX8_oath_27 (by omega) (fun h => absurd h (by first | decide | omega | (simp; done) | simp_all)) (fun _ => ?_) | refine st_if_ne rX8_oath_27 (fun h => absurd h (by first | decide | omega | (simp; done) | simp_all)) (fun _ => ?_)
    refine st_c rX8_oath_30 ?_
    refine st_iret rX8_oath_31 rfl ?_
    exact hk I1 (fun a ha => e1 a (by omega)) hM1
  · have hb1 : isT no i = false := by simpa using hb1
    refine st_iload rX8_oath_5 rfl ?_
    refine st_c rX8_oath_6 ?_
    refine st_aload rX8_oath_7 rfl ?_
    refine st_getR rX8_oath_8 (by first | assumption | decide | exact ⟨by decide, rfl, by decide⟩) (by first | rfl | assumption) rfl ?_
    refine st_c rX8_oath_11 ?_
    refine st_ialdN rX8_oath_12 (by first | assumption | decide | exact ⟨by decide, rfl, by decide⟩) (by omega) ?_
    refine st_top hmo ?_
    refine st_c rX8_oath_13 ?_
    first | refine st_isubN rX8_oath_14 (by omega) ?_ | refine st_isub rX8_oath_14 ?_
    refine cS3i rX8_oath_15 (s_in ?_) rfl
    rw [inR_T (by omega), hb1]
    first | refine st_if_eqN rX8_oath_18 (by omega) (fun _ => ?_) (fun h => absurd h (by first | decide | omega | (simp; done) | simp_all)) | refine st_if_eq rX8_oath_18 (fun _ => ?_) (fun h => absurd h (by first | decide | omega | (simp; done) | simp_all))
    refine st_c rX8_oath_30 ?_
    refine st_iret rX8_oath_31 rfl ?_
    exact hk I1 (fun a ha => e1 a (by omega)) hM1
def oathR (A : Nat → Nat → Int32) (i q : Nat) : Int32 := if q = 0 then A 110 i else if q = 1 then A 111 i else if q = 2 then A 112 i else A 114 (14 + i)
set_option maxHeartbeats 4000000 in
set_option maxRecDepth 100000 in
theorem c_oath {i q : Nat} (hC : InvC I J ρ A T m no) (hO : OkA A m no) (hi : i < no) (hq : q < 4) (hk : k (oathR A i q) (I, J, vRR ρ)) : V (d + 2) 123 123 mX7_oath 0 [.ref 0, .int (nI i), .int (nI q)] [] (I, J, vRR ρ) (Ki k) := by
  obtain ⟨ht0, ht1, ht2, ht3, ht4, ht5, ht6, ht7, ht8, ht9, ht10⟩ := id hC.1
  obtain ⟨hto, o1, o2, o3, o4, o5, o6, o7, o8⟩ := toldF ht0
  have hm6 : m ≤ 6 := hO.1.2.2.1
  have hno6 : no ≤ 6 := hO.1.2.2.2.1
  have hv := hC.2.2.1
  rcases (show q = 0 ∨ q = 1 ∨ q = 2 ∨ q = 3 by omega) with rfl | rfl | rfl | rfl
  · 
    refine st_iload rX7_oath_0 rfl ?_
    refine st_c rX7_oath_1 ?_
    refine st_aload rX7_oath_2 rfl ?_
    refine st_getR rX7_oath_3 (by first | assumption | decide | exact ⟨by decide, rfl, by decide⟩) (by first | rfl | assumption) rfl ?_
    refine st_getI rX7_oath_6 (by first | assumption | decide | exact ⟨by decide, rfl, by decide⟩) rfl ?_
    refine st_top ht3 ?_
    refine st_c rX7_oath_9 ?_
    refine st_isub rX7_oath_10 ?_
    refine cS3i rX7_oath_11 (s_within ?_) rfl
    rw [inR_T (by omega), isT_n hi (by omega)]
    first | refine st_if_neN rX7_oath_14 (by omega) (fun _ => ?_) (fun h => absurd h (by first | decide | omega | (simp; done) | simp_all)) | refine st_if_ne rX7_oath_14 (fun _ => ?_) (fun h => absurd h (by first | decide | omega | (simp; done) | simp_all))
    refine st_iload rX7_oath_19 rfl ?_
    refine st_tabI rX7_oath_20 0 (by decide) rfl ?_
    refine st_aload rX7_oath_52 rfl ?_
    refine st_getR rX7_oath_53 (by first | assumption | decide | exact ⟨by decide, rfl, by decide⟩) (by first | rfl | assumption) rfl ?_
    refine st_getR rX7_oath_56 hto (tR8 ht0) rfl ?_
    refine st_iload rX7_oath_59 rfl ?_
    refine cS2i rX7_oath_60 (s_at (by first | assumption | decide | exact ⟨by decide, rfl, by decide⟩) (by omega) ?_) rfl
    refine st_iret rX7_oath_63 rfl ?_
    rw [ht8 i hi]; exact hk
  · 
    refine st_iload rX7_oath_0 rfl ?_
    refine st_c rX7_oath_1 ?_
    refine st_aload rX7_oath_2 rfl ?_
    refine st_getR rX7_oath_3 (by first | assumption | decide | exact ⟨by decide, rfl, by decide⟩) (by first | rfl | assumption) rfl ?_
    refine st_getI rX7_oath_6 (by first | assumption | decide | exact ⟨by decide, rfl, by decide⟩) rfl ?_
    refine st_top ht3 ?_
    refine st_c rX7_oath_9 ?_
    refine st_isub rX7_oath_10 ?_
    refine cS3i rX7_oath_11 (s_within ?_) rfl
    rw [inR_T (by omega), isT_n hi (by omega)]
    first | refine st_if_neN rX7_oath_14 (by omega) (fun _ => ?_) (fun h => absurd h (by first | decide | omega | (simp; done) | simp_all)) | refine st_if_ne rX7_oath_14 (fun _ => ?_) (fun h => absurd h (by first | decide | omega | (simp; done) | simp_all))
    refine st_iload rX7_oath_19 rfl ?_
    refine st_tabI rX7_oath_20 1 (by decide) rfl ?_
    refine st_aload rX7_oath_64 rfl ?_
    refine st_getR rX7_oath_65 (by first | assumption | decide | exact ⟨by decide, rfl, by decide⟩) (by first | rfl | assumption) rfl ?_
    refine st_getR rX7_oath_68 hto (tR9 ht0) rfl ?_
    refine st_iload rX7_oath_71 rfl ?_
    refine cS2i rX7_oath_72 (s_at (by first | assumption | decide | exact ⟨by decide, rfl, by decide⟩) (by omega) ?_) rfl
    refine st_iret rX7_oath_75 rfl ?_
    rw [ht9 i hi]; exact hk
  · 
    refine st_iload rX7_oath_0 rfl ?_
    refine st_c rX7_oath_1 ?_
    refine st_aload rX7_oath_2 rfl ?_
    refine st_getR rX7_oath_3 (by first | assumption | decide | exact ⟨by decide, rfl, by decide⟩) (by first | rfl | assumption) rfl ?_
    refine st_getI rX7_oath_6 (by first | assumption | decide | exact ⟨by decide, rfl, by decide⟩) rfl ?_
    refine st_top ht3 ?_
    refine st_c rX7_oath_9 ?_
    refine st_isub rX7_oath_10 ?_
    refine cS3i rX7_oath_11 (s_within ?_) rfl
    rw [inR_T (by omega), isT_n hi (by omega)]
    first | refine st_if_neN rX7_oath_14 (by omega) (fun _ => ?_) (fun h => absurd h (by first | decide | omega | (simp; done) | simp_all)) | refine st_if_ne rX7_oath_14 (fun _ => ?_) (fun h => absurd h (by first | decide | omega | (simp; done) | simp_all))
    refine st_iload rX7_oath_19 rfl ?_
    refine st_tabI rX7_oath_20 2 (by decide) rfl ?_
    refine st_aload rX7_oath_76 rfl ?_
    refine st_getR rX7_oath_77 (by first | assumption | decide | exact ⟨by decide, rfl, by decide⟩) (by first | rfl | assumption) rfl ?_
    refine st_getR rX7_oath_80 hto (tR10 ht0) rfl ?_
    refine st_iload rX7_oath_83 rfl ?_
    refine cS2i rX7_oath_84 (s_at (by first | assumption | decide | exact ⟨by decide, rfl, by decide⟩) (by omega) ?_) rfl
    refine st_iret rX7_oath_87 rfl ?_
    rw [ht10 i hi]; exact hk
  · 
    refine st_iload rX7_oath_0 rfl ?_
    refine st_c rX7_oath_1 ?_
    refine st_aload rX7_oath_2 rfl ?_
    refine st_getR rX7_oath_3 (by first | assumption | decide | exact ⟨by decide, rfl, by decide⟩) (by first | rfl | assumption) rfl ?_
    refine st_getI rX7_oath_6 (by first | assumption | decide | exact ⟨by decide, rfl, by decide⟩) rfl ?_
    refine st_top ht3 ?_
    refine st_c rX7_oath_9 ?_
    refine st_isub rX7_oath_10 ?_
    refine cS3i rX7_oath_11 (s_within ?_) rfl
    rw [inR_T (by omega), isT_n hi (by omega)]
    first | refine st_if_neN rX7_oath_14 (by omega) (fun _ => ?_) (fun h => absurd h (by first | decide | omega | (simp; done) | simp_all)) | refine st_if_ne rX7_oath_14 (fun _ => ?_) (fun h => absurd h (by first | decide | omega | (simp; done) | simp_all))
    refine st_iload rX7_oath_19 rfl ?_
    refine st_tabI rX7_oath_20 3 (by decide) rfl ?_
    refine st_aload rX7_oath_88 rfl ?_
    refine st_getR rX7_oath_89 (by first | assumption | decide | exact ⟨by decide, rfl, by decide⟩) (by first | rfl | assumption) rfl ?_
    refine st_getR rX7_oath_92 (by first | assumption | decide | exact ⟨by decide, rfl, by decide⟩) (by first | rfl | assumption) rfl ?_
    refine st_iload rX7_oath_95 rfl ?_
    refine cS2i rX7_oath_96 (s_at (by first | assumption | decide | exact ⟨by decide, rfl, by decide⟩) (by omega) ?_) rfl
    refine st_iret rX7_oath_99 rfl ?_
    rw [hv.2.2.2.2.1 i (by omega)]; exact hk
set_option maxHeartbeats 4000000 in
set_option maxRecDepth 100000 in
theorem m_oath {i q : Nat} (hM : InvM I J A T) (hO : OkA A m no) (hi : i < no) (hq : q < 4) (hk : ∀ I', (∀ a, a < 103 ∨ 123 ≤ a → I' a = I a) → InvM I' J A T → k (oathR A i q) (I', J, vRR ρ)) : V (d + 2) 123 123 mX8_oath 0 [.ref 103, .int (nI i), .int (nI q)] [] (I, J, vRR ρ) (Ki k) := by
  refine s_thr rX8_oath_0 rX8_oath_1 rX8_oath_2 hM (fun I1 e1 e2 hM1 => ?_)
  have hm6 : m ≤ 6 := hO.1.2.2.1
  have hno6 : no ≤ 6 := hO.1.2.2.2.1
  obtain ⟨m1, m2, m3, m4, m5, m6, m7, m8, m9, m10, m11, m12, m13, m14, m15, m16⟩ := id hM1
  have hmm : I1 105 0 = nI m := m11.trans hO.1.1
  have hmo : I1 105 1 = nI no := m12.trans hO.1.2.1
  rcases (show q = 0 ∨ q = 1 ∨ q = 2 ∨ q = 3 by omega) with rfl | rfl | rfl | rfl
  · 
    refine st_iload rX8_oath_5 rfl ?_
    refine st_c rX8_oath_6 ?_
    refine st_aload rX8_oath_7 rfl ?_
    refine st_getR rX8_oath_8 (by first | assumption | decide | exact ⟨by decide, rfl, by decide⟩) (by first | rfl | assumption) rfl ?_
    refine st_c rX8_oath_11 ?_
    refine st_ialdN rX8_oath_12 (by first | assumption | decide | exact ⟨by decide, rfl, by decide⟩) (by omega) ?_
    refine st_top hmo ?_
    refine st_c rX8_oath_13 ?_
    refine st_isub rX8_oath_14 ?_
    refine cS3i rX8_oath_15 (s_in ?_) rfl
    rw [inR_T (by omega), isT_n hi (by omega)]
    first | refine st_if_eqN rX8_oath_18 (by omega) (fun h => absurd h (by first | decide | omega | (simp; done) | simp_all)) (fun _ => ?_) | refine st_if_eq rX8_oath_18 (fun h => absurd h (by first | decide | omega | (simp; done) | simp_all)) (fun _ => ?_)
    refine st_iload rX8_oath_21 rfl ?_
    refine st_c rX8_oath_22 ?_
    refine st_c rX8_oath_23 ?_
    refine cS3i rX8_oath_24 (s_in ?_) rfl
    rw [inR_N (by decide), isT_n hq (by omega)]
    first | refine st_if_neN rX8_oath_27 (by omega) (fun _ => ?_) (fun h => absurd h (by first | decide | omega | (simp; done) | simp_all)) | refine st_if_ne rX8_oath_27 (fun _ => ?_) (fun h => absurd h (by first | decide | omega | (simp; done) | simp_all))
    refine st_iload rX8_oath_32 rfl ?_
    first | refine st_if_neN rX8_oath_33 (by omega) (fun h => absurd h (by first | decide | omega | (simp; done) | simp_all)) (fun _ => ?_) | refine st_if_ne rX8_oath_33 (fun h => absurd h (by first | decide | omega | (simp; done) | simp_all)) (fun _ => ?_)
    refine st_aload rX8_oath_36 rfl ?_
    refine st_getR rX8_oath_37 (by first | assumption | decide | exact ⟨by decide, rfl, by decide⟩) (by first | rfl | assumption) rfl ?_
    refine st_iload rX8_oath_40 rfl ?_
    refine st_ialdN rX8_oath_41 (by first | assumption | decide | exact ⟨by decide, rfl, by decide⟩) (by omega) ?_
    refine st_goto rX8_oath_42 ?_
    refine st_iret rX8_oath_82 rfl ?_
    rw [(m9 i (by omega)).2.2.1]; exact hk I1 (fun a ha => e1 a (by omega)) hM1
  · 
    refine st_iload rX8_oath_5 rfl ?_
    refine st_c rX8_oath_6 ?_
    refine st_aload rX8_oath_7 rfl ?_
    refine st_getR rX8_oath_8 (by first | assumption | decide | exact ⟨by decide, rfl, by decide⟩) (by first | rfl | assumption) rfl ?_
    refine st_c rX8_oath_11 ?_
    refine st_ialdN rX8_oath_12 (by first | assumption | decide | exact ⟨by decide, rfl, by decide⟩) (by omega) ?_
    refine st_top hmo ?_
    refine st_c rX8_oath_13 ?_
    refine st_isub rX8_oath_14 ?_
    refine cS3i rX8_oath_15 (s_in ?_) rfl
    rw [inR_T (by omega), isT_n hi (by omega)]
    first | refine st_if_eqN rX8_oath_18 (by omega) (fun h => absurd h (by first | decide | omega | (simp; done) | simp_all)) (fun _ => ?_) | refine st_if_eq rX8_oath_18 (fun h => absurd h (by first | decide | omega | (simp; done) | simp_all)) (fun _ => ?_)
    refine st_iload rX8_oath_21 rfl ?_
    refine st_c rX8_oath_22 ?_
    refine st_c rX8_oath_23 ?_
    refine cS3i rX8_oath_24 (s_in ?_) rfl
    rw [inR_N (by decide), isT_n hq (by omega)]
    first | refine st_if_neN rX8_oath_27 (by omega) (fun _ => ?_) (fun h => absurd h (by first | decide | omega | (simp; done) | simp_all)) | refine st_if_ne rX8_oath_27 (fun _ => ?_) (fun h => absurd h (by first | decide | omega | (simp; done) | simp_all))
    refine st_iload rX8_oath_32 rfl ?_
    first | refine st_if_neN rX8_oath_33 (by omega) (fun _ => ?_) (fun h => absurd h (by first | decide | omega | (simp; done) | simp_all)) | refine st_if_ne rX8_oath_33 (fun _ => ?_) (fun h => absurd h (by first | decide | omega | (simp; done) | simp_all))
    refine st_iload rX8_oath_45 rfl ?_
    refine st_c rX8_oath_46 ?_
    first | refine st_icmp_neN rX8_oath_47 (by omega) (by omega) (fun h => absurd h (by first | decide | omega | (simp; done) | simp_all)) (fun _ => ?_) | refine st_icmp_ne rX8_oath_47 (fun h => absurd h (by first | decide | omega | (simp; done) | simp_all)) (fun _ => ?_)
    refine st_aload rX8_oath_50 rfl ?_
    refine st_getR rX8_oath_51 (by first | assumption | decide | exact ⟨by decide, rfl, by decide⟩) (by first | rfl | assumption) rfl ?_
    refine st_iload rX8_oath_54 rfl ?_
    refine st_ialdN rX8_oath_55 (by first | assumption | decide | exact ⟨by decide, rfl, by decide⟩) (by omega) ?_
    refine st_goto rX8_oath_56 ?_
    refine st_iret rX8_oath_82 rfl ?_
    rw [(m9 i (by omega)).2.2.2.1]; exact hk I1 (fun a ha => e1 a (by omega)) hM1
  · 
    refine st_iload rX8_oath_5 rfl ?_
    refine st_c rX8_oath_6 ?_
    refine st_aload rX8_oath_7 rfl ?_
    refine st_getR rX8_oath_8 (by first | assumption | decide | exact ⟨by decide, rfl, by decide⟩) (by first | rfl | assumption) rfl ?_
    refine st_c rX8_oath_11 ?_
    refine st_ialdN rX8_oath_12 (by first | assumption | decide | exact ⟨by decide, rfl, by decide⟩) (by omega) ?_
    refine st_top hmo ?_
    refine st_c rX8_oath_13 ?_
    refine st_isub rX8_oath_14 ?_
    refine cS3i rX8_oath_15 (s_in ?_) rfl
    rw [inR_T (by omega), isT_n hi (by omega)]
    first | refine st_if_eqN rX8_oath_18 (by omega) (fun h => absurd h (by first | decide | omega | (simp; done) | simp_all)) (fun _ => ?_) | refine st_if_eq rX8_oath_18 (fun h => absurd h (by first | decide | omega | (simp; done) | simp_all)) (fun _ => ?_)
    refine st_iload rX8_oath_21 rfl ?_
    refine st_c rX8_oath_22 ?_
    refine st_c rX8_oath_23 ?_
    refine cS3i rX8_oath_24 (s_in ?_) rfl
    rw [inR_N (by decide), isT_n hq (by omega)]
    first | refine st_if_neN rX8_oath_27 (by omega) (fun _ => ?_) (fun h => absurd h (by first | decide | omega | (simp; done) | simp_all)) | refine st_if_ne rX8_oath_27 (fun _ => ?_) (fun h => absurd h (by first | decide | omega | (simp; done) | simp_all))
    refine st_iload rX8_oath_32 rfl ?_
    first | refine st_if_neN rX8_oath_33 (by omega) (fun _ => ?_) (fun h => absurd h (by first | decide | omega | (simp; done) | simp_all)) | refine st_if_ne rX8_oath_33 (fun _ => ?_) (fun h => absurd h (by first | decide | omega | (simp; done) | simp_all))
    refine st_iload rX8_oath_45 rfl ?_
    refine st_c rX8_oath_46 ?_
    first | refine st_icmp_neN rX8_oath_47 (by omega) (by omega) (fun _ => ?_) (fun h => absurd h (by first | decide | omega | (simp; done) | simp_all)) | refine st_icmp_ne rX8_oath_47 (fun _ => ?_) (fun h => absurd h (by first | decide | omega | (simp; done) | simp_all))
    refine st_iload rX8_oath_59 rfl ?_
    refine st_c rX8_oath_60 ?_
    first | refine st_icmp_neN rX8_oath_61 (by omega) (by omega) (fun h => absurd h (by first | decide | omega | (simp; done) | simp_all)) (fun _ => ?_) | refine st_icmp_ne rX8_oath_61 (fun h => absurd h (by first | decide | omega | (simp; done) | simp_all)) (fun _ => ?_)
    refine st_aload rX8_oath_64 rfl ?_
    refine st_getR rX8_oath_65 (by first | assumption | decide | exact ⟨by decide, rfl, by decide⟩) (by first | rfl | assumption) rfl ?_
    refine st_iload rX8_oath_68 rfl ?_
    refine st_ialdN rX8_oath_69 (by first | assumption | decide | exact ⟨by decide, rfl, by decide⟩) (by omega) ?_
    refine st_goto rX8_oath_70 ?_
    refine st_iret rX8_oath_82 rfl ?_
    rw [(m9 i (by omega)).2.2.2.2]; exact hk I1 (fun a ha => e1 a (by omega)) hM1
  · 
    refine st_iload rX8_oath_5 rfl ?_
    refine st_c rX8_oath_6 ?_
    refine st_aload rX8_oath_7 rfl ?_
    refine st_getR rX8_oath_8 (by first | assumption | decide | exact ⟨by decide, rfl, by decide⟩) (by first | rfl | assumption) rfl ?_
    refine st_c rX8_oath_11 ?_
    refine st_ialdN rX8_oath_12 (by first | assumption | decide | exact ⟨by decide, rfl, by decide⟩) (by omega) ?_
    refine st_top hmo ?_
    refine st_c rX8_oath_13 ?_
    refine st_isub rX8_oath_14 ?_
    refine cS3i rX8_oath_15 (s_in ?_) rfl
    rw [inR_T (by omega), isT_n hi (by omega)]
    first | refine st_if_eqN rX8_oath_18 (by omega) (fun h => absurd h (by first | decide | omega | (simp; done) | simp_all)) (fun _ => ?_) | refine st_if_eq rX8_oath_18 (fun h => absurd h (by first | decide | omega | (simp; done) | simp_all)) (fun _ => ?_)
    refine st_iload rX8_oath_21 rfl ?_
    refine st_c rX8_oath_22 ?_
    refine st_c rX8_oath_23 ?_
    refine cS3i rX8_oath_24 (s_in ?_) rfl
    rw [inR_N (by decide), isT_n hq (by omega)]
    first | refine st_if_neN rX8_oath_27 (by omega) (fun _ => ?_) (fun h => absurd h (by first | decide | omega | (simp; done) | simp_all)) | refine st_if_ne rX8_oath_27 (fun _ => ?_) (fun h => absurd h (by first | decide | omega | (simp; done) | simp_all))
    refine st_iload rX8_oath_32 rfl ?_
    first | refine st_if_neN rX8_oath_33 (by omega) (fun _ => ?_) (fun h => absurd h (by first | decide | omega | (simp; done) | simp_all)) | refine st_if_ne rX8_oath_33 (fun _ => ?_) (fun h => absurd h (by first | decide | omega | (simp; done) | simp_all))
    refine st_iload rX8_oath_45 rfl ?_
    refine st_c rX8_oath_46 ?_
    first | refine st_icmp_neN rX8_oath_47 (by omega) (by omega) (fun _ => ?_) (fun h => absurd h (by first | decide | omega | (simp; done) | simp_all)) | refine st_icmp_ne rX8_oath_47 (fun _ => ?_) (fun h => absurd h (by first | decide | omega | (simp; done) | simp_all))
    refine st_iload rX8_oath_59 rfl ?_
    refine st_c rX8_oath_60 ?_
    first | refine st_icmp_neN rX8_oath_61 (by omega) (by omega) (fun _ => ?_) (fun h => absurd h (by first | decide | omega | (simp; done) | simp_all)) | refine st_icmp_ne rX8_oath_61 (fun _ => ?_) (fun h => absurd h (by first | decide | omega | (simp; done) | simp_all))
    refine st_aload rX8_oath_73 rfl ?_
    refine st_getR rX8_oath_74 (by first | assumption | decide | exact ⟨by decide, rfl, by decide⟩) (by first | rfl | assumption) rfl ?_
    refine st_c rX8_oath_77 ?_
    refine st_iload rX8_oath_79 rfl ?_
    first | refine st_iaddN rX8_oath_80 ?_ | refine st_iadd rX8_oath_80 ?_
    refine st_ialdN rX8_oath_81 (by first | assumption | decide | exact ⟨by decide, rfl, by decide⟩) (by omega) ?_
    refine st_iret rX8_oath_82 rfl ?_
    rw [m3]; exact hk I1 (fun a ha => e1 a (by omega)) hM1
end P16
