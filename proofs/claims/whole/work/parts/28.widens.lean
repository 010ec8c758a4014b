/-! ===== widens ===== -/
section P28
variable {d : Nat} {I A : Nat → Nat → Int32} {J : Nat → Nat → Int64} {ρ m no : Nat} {T : Int64} {k : Int32 → vS → Prop} {kl : Int64 → vS → Prop} {kv : vS → Prop}
theorem ok_widens {t u y : Nat} {x : Int32} (h : OkA A m no) (hu : A 103 23 = nI u) (hu10 : u ≤ 10) (ht : t < m) (hy : A 114 (2 + t) = nI y) (hy6 : y < 6) (hx : ¬ x < A 107 y) : OkA (aDo A u (va_up (A 114) (8 + t) x)) m no := by
  have hm := h.1.2.2.1
  have hn := h.1.2.2.2.1
  obtain ⟨⟨b, c, hp⟩, hw, te, h2, h3, h4⟩ := h.2.2.1
  refine ok_do h hu hu10 ⟨⟨b, c, fun s hs => by rw [va_up_n (by omega)]; exact hp s hs⟩, fun s z hs hz hz6 => ?_, te, h2, by rw [va_up_n (by omega)]; exact h3, fun i hi hne => by rw [va_up_n (by omega)] at hne; exact h4 i hi hne⟩ (Ok60_N h.2.2.2.1 (by rw [va_up_n (by omega)]))
  rw [va_up_n (by omega)] at hz
  by_cases e : s = t
  · subst e
    have : z = y := (nI_eq (by omega) (by omega)).mp (hz.symm.trans hy)
    subst this
    rw [va_up_s]
    exact Int32.not_lt.mp hx
  · rw [va_up_n (by omega)]
    exact hw s z hs hz hz6
set_option maxHeartbeats 4000000 in
set_option maxRecDepth 100000 in
theorem c_widensBad {t x : Int32} (hC : InvC I J ρ A T m no) (hO : OkA A m no) (hb : isT m t = false ∨ inR x (nI 1) (nI 99) = false) (hk : k (-1) (I, J, vRR ρ)) : V (d + 2) 123 123 mX7_widens 0 [.ref 0, .int t, .int x, vJ] [] (I, J, vRR ρ) (Ki k) := by
  obtain ⟨ht0, ht1, ht2, ht3, ht4, ht5, ht6, ht7, ht8, ht9, ht10⟩ := id hC.1
  obtain ⟨hto, o1, o2, o3, o4, o5, o6, o7, o8⟩ := toldF ht0
  have hm6 : m ≤ 6 := hO.1.2.2.1
  have hno6 : no ≤ 6 := hO.1.2.2.2.1
  by_cases h1 : isT m t = true
  · have h2 : inR x (nI 1) (nI 99) = false := by rcases hb with h | h; exact absurd h1 (by rw [h]; decide); exact h
    refine st_aload rX7_widens_0 rfl ?_
    refine st_getR rX7_widens_1 (by first | assumption | decide | exact ⟨by decide, rfl, by decide⟩) (by first | rfl | assumption) rfl ?_
    refine st_iload rX7_widens_4 rfl ?_
    refine cV2i rX7_widens_5 (by first | assumption | decide | exact ⟨by decide, rfl, by decide⟩) (s_hasTown ht0 ht1 hm6 ?_) rfl (by decide)
    rw [h1]
    first | with_reducible refine st_if_eqN rX7_widens_8 (by omega) (fun h => absurd h (by first | decide | omega | (simp; done) | simp_all)) (fun _ => ?_) | refine st_if_eq rX7_widens_8 (fun h => absurd h (by first | decide | omega | (simp; done) | simp_all)) (fun _ => ?_)
    refine st_iload rX7_widens_11 rfl ?_
    refine st_c rX7_widens_12 ?_
    refine st_c rX7_widens_13 ?_
    refine cS3i rX7_widens_15 (s_within ?_) rfl
    rw [h2]
    first | with_reducible refine st_if_neN rX7_widens_18 (by omega) (fun h => absurd h (by first | decide | omega | (simp; done) | simp_all)) (fun _ => ?_) | refine st_if_ne rX7_widens_18 (fun h => absurd h (by first | decide | omega | (simp; done) | simp_all)) (fun _ => ?_)
    refine st_c rX7_widens_21 ?_
    refine st_iret rX7_widens_22 rfl ?_
    exact hk
  · have h1 : isT m t = false := by simpa using h1
    refine st_aload rX7_widens_0 rfl ?_
    refine st_getR rX7_widens_1 (by first | assumption | decide | exact ⟨by decide, rfl, by decide⟩) (by first | rfl | assumption) rfl ?_
    refine st_iload rX7_widens_4 rfl ?_
    refine cV2i rX7_widens_5 (by first | assumption | decide | exact ⟨by decide, rfl, by decide⟩) (s_hasTown ht0 ht1 hm6 ?_) rfl (by decide)
    rw [h1]
    first | with_reducible refine st_if_eqN rX7_widens_8 (by omega) (fun _ => ?_) (fun h => absurd h (by first | decide | omega | (simp; done) | simp_all)) | refine st_if_eq rX7_widens_8 (fun _ => ?_) (fun h => absurd h (by first | decide | omega | (simp; done) | simp_all))
    refine st_c rX7_widens_21 ?_
    refine st_iret rX7_widens_22 rfl ?_
    exact hk
set_option maxHeartbeats 4000000 in
set_option maxRecDepth 100000 in
theorem m_widensBad {t x : Int32} (hM : InvM I J A T) (hO : OkA A m no) (hb : isT m t = false ∨ inR x (nI 1) (nI 99) = false) (hk : ∀ I', (∀ a, a < 103 ∨ 123 ≤ a → I' a = I a) → InvM I' J A T → k (-1) (I', J, vRR ρ)) : V (d + 2) 123 123 mX8_widens 0 [.ref 103, .int t, .int x, vJ] [] (I, J, vRR ρ) (Ki k) := by
  refine s_thr rX8_widens_0 rX8_widens_1 rX8_widens_2 hM (fun I1 e1 e2 hM1 => ?_)
  have hm6 : m ≤ 6 := hO.1.2.2.1
  have hno6 : no ≤ 6 := hO.1.2.2.2.1
  obtain ⟨m1, m2, m3, m4, m5, m6, m7, m8, m9, m10, m11, m12, m13, m14, m15, m16⟩ := id hM1
  have hmm : I1 105 0 = nI m := m11.trans hO.1.1
  have hmo : I1 105 1 = nI no := m12.trans hO.1.2.1
  by_cases h1 : isT m t = true
  · have h2 : inR x (nI 1) (nI 99) = false := by rcases hb with h | h; exact absurd h1 (by rw [h]; decide); exact h
    refine st_aload rX8_widens_5 rfl ?_
    refine st_iload rX8_widens_6 rfl ?_
    refine cV2i rX8_widens_7 (by first | assumption | decide | exact ⟨by decide, rfl, by decide⟩) (s_isTown hmm hm6 ?_) rfl (by decide)
    rw [h1]
    first | with_reducible refine st_if_eqN rX8_widens_10 (by omega) (fun h => absurd h (by first | decide | omega | (simp; done) | simp_all)) (fun _ => ?_) | refine st_if_eq rX8_widens_10 (fun h => absurd h (by first | decide | omega | (simp; done) | simp_all)) (fun _ => ?_)
    refine st_iload rX8_widens_13 rfl ?_
    refine st_c rX8_widens_14 ?_
    refine st_c rX8_widens_15 ?_
    refine cS3i rX8_widens_17 (s_in ?_) rfl
    rw [h2]
    first | with_reducible refine st_if_neN rX8_widens_20 (by omega) (fun h => absurd h (by first | decide | omega | (simp; done) | simp_all)) (fun _ => ?_) | refine st_if_ne rX8_widens_20 (fun h => absurd h (by first | decide | omega | (simp; done) | simp_all)) (fun _ => ?_)
    refine st_c rX8_widens_23 ?_
    refine st_iret rX8_widens_24 rfl ?_
    exact hk I1 (fun a ha => e1 a (by omega)) hM1
  · have h1 : isT m t = false := by simpa using h1
    refine st_aload rX8_widens_5 rfl ?_
    refine st_iload rX8_widens_6 rfl ?_
    refine cV2i rX8_widens_7 (by first | assumption | decide | exact ⟨by decide, rfl, by decide⟩) (s_isTown hmm hm6 ?_) rfl (by decide)
    rw [h1]
    first | with_reducible refine st_if_eqN rX8_widens_10 (by omega) (fun _ => ?_) (fun h => absurd h (by first | decide | omega | (simp; done) | simp_all)) | refine st_if_eq rX8_widens_10 (fun _ => ?_) (fun h => absurd h (by first | decide | omega | (simp; done) | simp_all))
    refine st_c rX8_widens_23 ?_
    refine st_iret rX8_widens_24 rfl ?_
    exact hk I1 (fun a ha => e1 a (by omega)) hM1
set_option maxHeartbeats 4000000 in
set_option maxRecDepth 100000 in
theorem c_widensNo {t y : Nat} {x : Int32} (hC : InvC I J ρ A T m no) (hO : OkA A m no) (ht : t < m) (hx : inR x (nI 1) (nI 99) = true) (hy : A 114 (2 + t) = nI y) (hym : y < m) (hs : x < A 107 y) (hk : k (-2) (I, J, vRR ρ)) : V (d + 2) 123 123 mX7_widens 0 [.ref 0, .int (nI t), .int x, vJ] [] (I, J, vRR ρ) (Ki k) := by
  obtain ⟨ht0, ht1, ht2, ht3, ht4, ht5, ht6, ht7, ht8, ht9, ht10⟩ := id hC.1
  obtain ⟨hto, o1, o2, o3, o4, o5, o6, o7, o8⟩ := toldF ht0
  have hm6 : m ≤ 6 := hO.1.2.2.1
  have hno6 : no ≤ 6 := hO.1.2.2.2.1
  have hv := hC.2.2.1
  have hg : vHg 22 := ⟨by decide, rfl⟩
  refine st_aload rX7_widens_0 rfl ?_
  refine st_getR rX7_widens_1 (by first | assumption | decide | exact ⟨by decide, rfl, by decide⟩) (by first | rfl | assumption) rfl ?_
  refine st_iload rX7_widens_4 rfl ?_
  refine cV2i rX7_widens_5 (by first | assumption | decide | exact ⟨by decide, rfl, by decide⟩) (s_hasTown ht0 ht1 hm6 ?_) rfl (by decide)
  rw [isT_n ht (by omega)]
  first | with_reducible refine st_if_eqN rX7_widens_8 (by omega) (fun h => absurd h (by first | decide | omega | (simp; done) | simp_all)) (fun _ => ?_) | refine st_if_eq rX7_widens_8 (fun h => absurd h (by first | decide | omega | (simp; done) | simp_all)) (fun _ => ?_)
  refine st_iload rX7_widens_11 rfl ?_
  refine st_c rX7_widens_12 ?_
  refine st_c rX7_widens_13 ?_
  refine cS3i rX7_widens_15 (s_within ?_) rfl
  rw [hx]
  first | with_reducible refine st_if_neN rX7_widens_18 (by omega) (fun _ => ?_) (fun h => absurd h (by first | decide | omega | (simp; done) | simp_all)) | refine st_if_ne rX7_widens_18 (fun _ => ?_) (fun h => absurd h (by first | decide | omega | (simp; done) | simp_all))
  refine st_aload rX7_widens_23 rfl ?_
  refine st_getR rX7_widens_24 (by first | assumption | decide | exact ⟨by decide, rfl, by decide⟩) (by first | rfl | assumption) rfl ?_
  refine st_getR rX7_widens_27 (by assumption) (tR4 (by assumption)) rfl ?_
  refine st_aload rX7_widens_30 rfl ?_
  refine st_getR rX7_widens_31 (by first | assumption | decide | exact ⟨by decide, rfl, by decide⟩) (by first | rfl | assumption) rfl ?_
  refine st_getR rX7_widens_34 (by first | assumption | decide) (by first | rfl | exact hR2 (by assumption)) rfl ?_
  refine st_iload rX7_widens_37 rfl ?_
  refine cS2i rX7_widens_38 (s_at (by first | assumption | decide | exact ⟨by decide, rfl, by decide⟩) (by omega) ?_) rfl
  refine st_top ((hv.2.2.1 t (by omega)).trans hy) ?_
  refine cS2i rX7_widens_41 (s_at (by first | assumption | decide | exact ⟨by decide, rfl, by decide⟩) (by omega) ?_) rfl
  refine st_top (ht4 y hym) ?_
  refine st_iload rX7_widens_44 rfl ?_
  refine st_icmp_le rX7_widens_45 (fun h => absurd hs (Int32.not_lt.mpr h)) (fun _ => ?_)
  refine st_c rX7_widens_48 ?_
  refine st_iret rX7_widens_50 rfl ?_
  exact hk
set_option maxHeartbeats 4000000 in
set_option maxRecDepth 100000 in
theorem m_widensNo {t y : Nat} {x : Int32} (hM : InvM I J A T) (hO : OkA A m no) (ht : t < m) (hx : inR x (nI 1) (nI 99) = true) (hy : A 114 (2 + t) = nI y) (hym : y < m) (hs : x < A 107 y) (hk : ∀ I', (∀ a, a < 103 ∨ 123 ≤ a → I' a = I a) → InvM I' J A T → k (-2) (I', J, vRR ρ)) : V (d + 2) 123 123 mX8_widens 0 [.ref 103, .int (nI t), .int x, vJ] [] (I, J, vRR ρ) (Ki k) := by
  refine s_thr rX8_widens_0 rX8_widens_1 rX8_widens_2 hM (fun I1 e1 e2 hM1 => ?_)
  have hm6 : m ≤ 6 := hO.1.2.2.1
  have hno6 : no ≤ 6 := hO.1.2.2.2.1
  obtain ⟨m1, m2, m3, m4, m5, m6, m7, m8, m9, m10, m11, m12, m13, m14, m15, m16⟩ := id hM1
  have hmm : I1 105 0 = nI m := m11.trans hO.1.1
  have hmo : I1 105 1 = nI no := m12.trans hO.1.2.1
  refine st_aload rX8_widens_5 rfl ?_
  refine st_iload rX8_widens_6 rfl ?_
  refine cV2i rX8_widens_7 (by first | assumption | decide | exact ⟨by decide, rfl, by decide⟩) (s_isTown hmm hm6 ?_) rfl (by decide)
  rw [isT_n ht (by omega)]
  first | with_reducible refine st_if_eqN rX8_widens_10 (by omega) (fun h => absurd h (by first | decide | omega | (simp; done) | simp_all)) (fun _ => ?_) | refine st_if_eq rX8_widens_10 (fun h => absurd h (by first | decide | omega | (simp; done) | simp_all)) (fun _ => ?_)
  refine st_iload rX8_widens_13 rfl ?_
  refine st_c rX8_widens_14 ?_
  refine st_c rX8_widens_15 ?_
  refine cS3i rX8_widens_17 (s_in ?_) rfl
  rw [hx]
  first | with_reducible refine st_if_neN rX8_widens_20 (by omega) (fun _ => ?_) (fun h => absurd h (by first | decide | omega | (simp; done) | simp_all)) | refine st_if_ne rX8_widens_20 (fun _ => ?_) (fun h => absurd h (by first | decide | omega | (simp; done) | simp_all))
  refine st_aload rX8_widens_25 rfl ?_
  refine st_getR rX8_widens_26 (by first | assumption | decide | exact ⟨by decide, rfl, by decide⟩) (by first | rfl | assumption) rfl ?_
  refine st_aload rX8_widens_29 rfl ?_
  refine st_getR rX8_widens_30 (by first | assumption | decide | exact ⟨by decide, rfl, by decide⟩) (by first | rfl | assumption) rfl ?_
  refine st_c rX8_widens_33 ?_
  refine st_iload rX8_widens_34 rfl ?_
  first | with_reducible refine st_iaddN rX8_widens_35 ?_ | refine st_iadd rX8_widens_35 ?_
  refine st_ialdN rX8_widens_36 (by first | assumption | decide | exact ⟨by decide, rfl, by decide⟩) (by omega) ?_
  refine st_top (show I1 114 (2 + t) = nI y by rw [m3]; exact hy) ?_
  refine st_ialdN rX8_widens_37 (by first | assumption | decide | exact ⟨by decide, rfl, by decide⟩) (by omega) ?_
  refine st_top (m9 y (by omega)).1 ?_
  refine st_iload rX8_widens_38 rfl ?_
  refine st_icmp_le rX8_widens_39 (fun h => absurd hs (Int32.not_lt.mpr h)) (fun _ => ?_)
  refine st_c rX8_widens_42 ?_
  refine st_iret rX8_widens_44 rfl ?_
  exact hk I1 (fun a ha => e1 a (by omega)) hM1
set_option maxHeartbeats 4000000 in
set_option maxRecDepth 100000 in
theorem c_widens {t y u : Nat} {x : Int32} (hC : InvC I J ρ A T m no) (hO : OkA A m no) (ht : t < m) (hx : inR x (nI 1) (nI 99) = true) (hy : A 114 (2 + t) = nI y) (hym : y < m) (hs : ¬ x < A 107 y) (hu : A 103 23 = nI u) (hu10 : u ≤ 10) (hk : ∀ I', (∀ a, 103 ≤ a → I' a = I a) → InvC I' J ρ (aDo A u (va_up (A 114) (8 + t) x)) T m no → k (A 114 (8 + t)) (I', J, vRR ρ)) : V (d + 3) 123 123 mX7_widens 0 [.ref 0, .int (nI t), .int x, vJ] [] (I, J, vRR ρ) (Ki k) := by
  obtain ⟨ht0, ht1, ht2, ht3, ht4, ht5, ht6, ht7, ht8, ht9, ht10⟩ := id hC.1
  obtain ⟨hto, o1, o2, o3, o4, o5, o6, o7, o8⟩ := toldF ht0
  have hm6 : m ≤ 6 := hO.1.2.2.1
  have hno6 : no ≤ 6 := hO.1.2.2.2.1
  have hv := hC.2.2.1
  obtain ⟨q, u0, u1, u2, u3⟩ := hC.2.2.2.1
  have hg : vHg 22 := ⟨by decide, rfl⟩
  have hρ : ρ ≤ 13 := by rcases ht0 with h | h <;> omega
  refine st_aload rX7_widens_0 rfl ?_
  refine st_getR rX7_widens_1 (by first | assumption | decide | exact ⟨by decide, rfl, by decide⟩) (by first | rfl | assumption) rfl ?_
  refine st_iload rX7_widens_4 rfl ?_
  refine cV2i rX7_widens_5 (by first | assumption | decide | exact ⟨by decide, rfl, by decide⟩) (s_hasTown ht0 ht1 hm6 ?_) rfl (by decide)
  rw [isT_n ht (by omega)]
  first | with_reducible refine st_if_eqN rX7_widens_8 (by omega) (fun h => absurd h (by first | decide | omega | (simp; done) | simp_all)) (fun _ => ?_) | refine st_if_eq rX7_widens_8 (fun h => absurd h (by first | decide | omega | (simp; done) | simp_all)) (fun _ => ?_)
  refine st_iload rX7_widens_11 rfl ?_
  refine st_c rX7_widens_12 ?_
  refine st_c rX7_widens_13 ?_
  refine cS3i rX7_widens_15 (s_within ?_) rfl
  rw [hx]
  first | with_reducible refine st_if_neN rX7_widens_18 (by omega) (fun _ => ?_) (fun h => absurd h (by first | decide | omega | (simp; done) | simp_all)) | refine st_if_ne rX7_widens_18 (fun _ => ?_) (fun h => absurd h (by first | decide | omega | (simp; done) | simp_all))
  refine st_aload rX7_widens_23 rfl ?_
  refine st_getR rX7_widens_24 (by first | assumption | decide | exact ⟨by decide, rfl, by decide⟩) (by first | rfl | assumption) rfl ?_
  refine st_getR rX7_widens_27 (by assumption) (tR4 (by assumption)) rfl ?_
  refine st_aload rX7_widens_30 rfl ?_
  refine st_getR rX7_widens_31 (by first | assumption | decide | exact ⟨by decide, rfl, by decide⟩) (by first | rfl | assumption) rfl ?_
  refine st_getR rX7_widens_34 (by first | assumption | decide) (by first | rfl | exact hR2 (by assumption)) rfl ?_
  refine st_iload rX7_widens_37 rfl ?_
  refine cS2i rX7_widens_38 (s_at (by first | assumption | decide | exact ⟨by decide, rfl, by decide⟩) (by omega) ?_) rfl
  refine st_top ((hv.2.2.1 t (by omega)).trans hy) ?_
  refine cS2i rX7_widens_41 (s_at (by first | assumption | decide | exact ⟨by decide, rfl, by decide⟩) (by omega) ?_) rfl
  refine st_top (ht4 y hym) ?_
  refine st_iload rX7_widens_44 rfl ?_
  refine st_icmp_le rX7_widens_45 (fun _ => ?_) (fun h => absurd (Int32.not_lt.mp hs) h)
  refine st_aload rX7_widens_51 rfl ?_
  refine st_getR rX7_widens_52 (by first | assumption | decide | exact ⟨by decide, rfl, by decide⟩) (by first | rfl | assumption) rfl ?_
  refine st_aload rX7_widens_55 rfl ?_
  refine st_getR rX7_widens_56 (by first | assumption | decide | exact ⟨by decide, rfl, by decide⟩) (by first | rfl | assumption) rfl ?_
  refine cV2v rX7_widens_59 (by first | assumption | decide | exact ⟨by decide, rfl, by decide⟩) (s_remember u1 u0 (u2.trans hu) hu10 (fun I1 g gq gu gv => ?_)) rfl (by decide)
  refine st_aload rX7_widens_62 rfl ?_
  refine st_getR rX7_widens_63 (by first | assumption | decide | exact ⟨by decide, rfl, by decide⟩) (by first | rfl | assumption) rfl ?_
  refine st_getR rX7_widens_66 (by first | assumption | decide) (by first | rfl | exact hR3 (by assumption)) rfl ?_
  refine st_iload rX7_widens_69 rfl ?_
  refine cS2i rX7_widens_70 (s_at (by first | assumption | decide | exact ⟨by decide, rfl, by decide⟩) (by omega) ?_) rfl
  refine st_top (show I1 24 t = A 114 (8 + t) by rw [g 24 (by omega) (by omega)]; exact hv.2.2.2.1 t ht) ?_
  refine st_istore3 rX7_widens_73 rfl ?_
  refine st_aload rX7_widens_74 rfl ?_
  refine st_getR rX7_widens_75 (by first | assumption | decide | exact ⟨by decide, rfl, by decide⟩) (by first | rfl | assumption) rfl ?_
  refine st_getR rX7_widens_78 (by first | assumption | decide) (by first | rfl | exact hR3 (by assumption)) rfl ?_
  refine st_iload rX7_widens_81 rfl ?_
  refine st_iload rX7_widens_82 rfl ?_
  refine cS3v rX7_widens_83 (s_put (by first | assumption | decide | exact ⟨by decide, rfl, by decide⟩) (by omega) ?_) rfl
  refine st_iload rX7_widens_86 rfl ?_
  refine st_iret rX7_widens_87 rfl ?_
  generalize hI2 : up I1 24 _ = I2
  have g2 : ∀ x, x ≠ 24 → I2 x = I1 x := fun x hx => by rw [← hI2, up_n hx]
  have gi : ∀ x, x ≠ 24 → x ≠ 32 → x < 34 ∨ 83 < x → I2 x = I x := fun x h1 h2 h3 => by rw [g2 x h1, g x h2 (by omega)]
  refine hk I2 (fun x hx => gi x (by omega) (by omega) (by omega)) ?_
  refine C_do hC hm6 hu hu10 u1 u0 (u3 u hu10 hu) g gq gu gv (fun x h1 h2 => g2 x (by omega)) ?_
  obtain ⟨v1, v2, v3, v4, v5, v6⟩ := hv
  refine ⟨?_, ?_, fun s hs => ?_, fun s hs => ?_, fun s hs => ?_, fun s hs => ?_⟩
  · rw [gi 22 (by omega) (by omega) (by omega), va_up_n (by omega)]; exact v1
  · rw [gi 22 (by omega) (by omega) (by omega), va_up_n (by omega)]; exact v2
  · rw [gi 23 (by omega) (by omega) (by omega), va_up_n (by omega)]; exact v3 s hs
  · rw [← hI2, up_s]
    by_cases e : s = t
    · subst e; rw [va_up_s, va_up_s]
    · rw [va_up_n e, va_up_n (show 8 + s ≠ 8 + t by omega)]
      exact (congrFun (g 24 (by omega) (by omega)) s).trans (v4 s hs)
  · rw [gi 25 (by omega) (by omega) (by omega), va_up_n (by omega)]; exact v5 s hs
  · rw [gi 26 (by omega) (by omega) (by omega), va_up_n (by omega)]; exact v6 s hs
set_option maxHeartbeats 4000000 in
set_option maxRecDepth 100000 in
theorem m_widens {t y u : Nat} {x : Int32} (hM : InvM I J A T) (hO : OkA A m no) (ht : t < m) (hx : inR x (nI 1) (nI 99) = true) (hy : A 114 (2 + t) = nI y) (hym : y < m) (hs : ¬ x < A 107 y) (hu : A 103 23 = nI u) (hu10 : u ≤ 10) (hk : ∀ I', (∀ a, a < 103 ∨ 123 ≤ a → I' a = I a) → InvM I' J (aDo A u (va_up (A 114) (8 + t) x)) T → k (A 114 (8 + t)) (I', J, vRR ρ)) : V (d + 2) 123 123 mX8_widens 0 [.ref 103, .int (nI t), .int x, vJ] [] (I, J, vRR ρ) (Ki k) := by
  refine s_thr rX8_widens_0 rX8_widens_1 rX8_widens_2 hM (fun I1 e1 e2 hM1 => ?_)
  have hm6 : m ≤ 6 := hO.1.2.2.1
  have hno6 : no ≤ 6 := hO.1.2.2.2.1
  obtain ⟨m1, m2, m3, m4, m5, m6, m7, m8, m9, m10, m11, m12, m13, m14, m15, m16⟩ := id hM1
  have hmm : I1 105 0 = nI m := m11.trans hO.1.1
  have hmo : I1 105 1 = nI no := m12.trans hO.1.2.1
  refine st_aload rX8_widens_5 rfl ?_
  refine st_iload rX8_widens_6 rfl ?_
  refine cV2i rX8_widens_7 (by first | assumption | decide | exact ⟨by decide, rfl, by decide⟩) (s_isTown hmm hm6 ?_) rfl (by decide)
  rw [isT_n ht (by omega)]
  first | with_reducible refine st_if_eqN rX8_widens_10 (by omega) (fun h => absurd h (by first | decide | omega | (simp; done) | simp_all)) (fun _ => ?_) | refine st_if_eq rX8_widens_10 (fun h => absurd h (by first | decide | omega | (simp; done) | simp_all)) (fun _ => ?_)
  refine st_iload rX8_widens_13 rfl ?_
  refine st_c rX8_widens_14 ?_
  refine st_c rX8_widens_15 ?_
  refine cS3i rX8_widens_17 (s_in ?_) rfl
  rw [hx]
  first | with_reducible refine st_if_neN rX8_widens_20 (by omega) (fun _ => ?_) (fun h => absurd h (by first | decide | omega | (simp; done) | simp_all)) | refine st_if_ne rX8_widens_20 (fun _ => ?_) (fun h => absurd h (by first | decide | omega | (simp; done) | simp_all))
  refine st_aload rX8_widens_25 rfl ?_
  refine st_getR rX8_widens_26 (by first | assumption | decide | exact ⟨by decide, rfl, by decide⟩) (by first | rfl | assumption) rfl ?_
  refine st_aload rX8_widens_29 rfl ?_
  refine st_getR rX8_widens_30 (by first | assumption | decide | exact ⟨by decide, rfl, by decide⟩) (by first | rfl | assumption) rfl ?_
  refine st_c rX8_widens_33 ?_
  refine st_iload rX8_widens_34 rfl ?_
  first | with_reducible refine st_iaddN rX8_widens_35 ?_ | refine st_iadd rX8_widens_35 ?_
  refine st_ialdN rX8_widens_36 (by first | assumption | decide | exact ⟨by decide, rfl, by decide⟩) (by omega) ?_
  refine st_top (show I1 114 (2 + t) = nI y by rw [m3]; exact hy) ?_
  refine st_ialdN rX8_widens_37 (by first | assumption | decide | exact ⟨by decide, rfl, by decide⟩) (by omega) ?_
  refine st_top (m9 y (by omega)).1 ?_
  refine st_iload rX8_widens_38 rfl ?_
  refine st_icmp_le rX8_widens_39 (fun _ => ?_) (fun h => absurd (Int32.not_lt.mp hs) h)
  refine st_aload rX8_widens_45 rfl ?_
  refine cV1v rX8_widens_46 (by first | assumption | decide | exact ⟨by decide, rfl, by decide⟩) (s_notes (A := A) (m14.trans hu) hu10 m3 m6 (fun I2 g g3 g23 g8 => ?_)) rfl (by decide)
  refine st_aload rX8_widens_49 rfl ?_
  refine st_getR rX8_widens_50 (by first | assumption | decide | exact ⟨by decide, rfl, by decide⟩) (by first | rfl | assumption) rfl ?_
  refine st_c rX8_widens_53 ?_
  refine st_iload rX8_widens_55 rfl ?_
  first | with_reducible refine st_iaddN rX8_widens_56 ?_ | refine st_iadd rX8_widens_56 ?_
  refine st_ialdN rX8_widens_57 (by first | assumption | decide | exact ⟨by decide, rfl, by decide⟩) (by omega) ?_
  refine st_top (show I2 114 (8 + t) = A 114 (8 + t) by rw [g 114 (by decide) (by decide), m3]) ?_
  refine st_istore3 rX8_widens_58 rfl ?_
  refine st_aload rX8_widens_59 rfl ?_
  refine st_getR rX8_widens_60 (by first | assumption | decide | exact ⟨by decide, rfl, by decide⟩) (by first | rfl | assumption) rfl ?_
  refine st_c rX8_widens_63 ?_
  refine st_iload rX8_widens_65 rfl ?_
  first | with_reducible refine st_iaddN rX8_widens_66 ?_ | refine st_iadd rX8_widens_66 ?_
  refine st_iload rX8_widens_67 rfl ?_
  refine st_iastN rX8_widens_68 (by first | assumption | decide | exact ⟨by decide, rfl, by decide⟩) (by omega) ?_
  refine st_iload rX8_widens_69 rfl ?_
  refine st_iret rX8_widens_70 rfl ?_
  generalize hI4 : up I2 114 _ = I4
  have e := @aDo_e A u (va_up (A 114) (8 + t) x)
  have f := @aDo_f A u (va_up (A 114) (8 + t) x)
  have h4 : ∀ x, x ≠ 114 → I4 x = I2 x := fun x hx => by rw [← hI4, up_n hx]
  have h44 : I4 114 = va_up (A 114) (8 + t) x := by rw [← hI4, up_s, g 114 (by decide) (by decide), m3]
  have gg : ∀ x, x ≠ 103 → x ≠ 114 → x ≠ 118 → I4 x = I1 x := fun x h1 h2 h3 => by rw [h4 x h2, g x h1 h3]
  have gg3 : ∀ q, q ≠ 23 → I4 103 q = I1 103 q := fun q hq => by rw [h4 103 (by decide), g3 q hq]
  have gg23 : I4 103 23 = nI (min 10 (u + 1)) := by rw [h4 103 (by decide), g23]
  have gg8 : I4 118 = wNt A u := by rw [h4 118 (by decide), g8]
  refine hk _ (fun x hx => by rw [gg x (by omega) (by omega) (by omega)]; exact e1 x (by omega)) ?_
  simp (disch := omega) only [InvM, e, f, gg, gg3, gg23, gg8, h44, aDo_3, aDo_4, aDo_8]
  exact ⟨m1, m2, trivial, m4, m5, trivial, m7, m8, m9, m10, m11, m12, m13, trivial, m15, m16⟩
end P28
