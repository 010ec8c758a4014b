/-! ===== back, undo ===== -/
section P21
variable {d : Nat} {I A : Nat → Nat → Int32} {J : Nat → Nat → Int64} {ρ m no : Nat} {T : Int64} {k : Int32 → vS → Prop} {kl : Int64 → vS → Prop} {kv : vS → Prop}
abbrev aBack (A : Nat → Nat → Int32) (N : Nat → Int32) (u : Nat) : Nat → Nat → Int32 := up (up A 114 (cpR (A 114) N 0 56)) 103 (va_up (A 103) 23 (nI u))
theorem aBack_e {N : Nat → Int32} {u : Nat} : ∀ a, a ≠ 103 → a ≠ 114 → aBack A N u a = A a := fun a h1 h2 => by simp only [aBack]; rw [up_n h1, up_n h2]
theorem aBack_f {N : Nat → Int32} {u : Nat} : ∀ q, q ≠ 23 → aBack A N u 103 q = A 103 q := fun q hq => by simp only [aBack]; rw [up_s, va_up_n hq]
theorem aBack_3 {N : Nat → Int32} {u : Nat} : aBack A N u 103 23 = nI u := by simp only [aBack]; rw [up_s, va_up_s]
theorem aBack_4 {N : Nat → Int32} {u : Nat} : aBack A N u 114 = cpR (A 114) N 0 56 := by simp only [aBack]; rw [up_n (by decide), up_s]
theorem aBack_N {N : Nat → Int32} {u : Nat} : ∀ k, k < 56 → aBack A N u 114 k = N k := fun k hk => by rw [aBack_4]; have := cpR_in (f := A 114) (g := N) (o := 0) hk; rw [Nat.zero_add] at this; exact this
theorem ok_back {N : Nat → Int32} {u v : Nat} (h : OkA A m no) (hN : OkN A m no N) (h60 : Ok60 N) (hv : A 103 23 = nI v) (huv : u ≤ v) (hv10 : v ≤ 10) : OkA (aBack A N u) m no := by
  obtain ⟨h1, h2, h3, h4, ⟨u', u1, u2, u3⟩, h6, h7⟩ := h
  have huv' : u' = v := (nI_eq (by omega) (by omega)).mp (u2.symm.trans hv)
  subst huv'
  have e := @aBack_e A N u
  have f := @aBack_f A N u
  refine ⟨OkT_c h1 (by rw [e 105 (by omega) (by omega)]) (by rw [e 105 (by omega) (by omega)]) (fun a _ _ => e a (by omega) (by omega)), OkL_c h2 (f _ (by omega)) (e _ (by omega) (by omega)), OkN_c (OkN_N hN h1.2.2.1 h1.2.2.2.1 aBack_N) (e _ (by omega) (by omega)) (e _ (by omega) (by omega)), Ok60_N h60 (aBack_N 0 (by omega)), ⟨u, by omega, aBack_3, fun j hj => ?_⟩, OkI_c h6 (e _ (by omega) (by omega)) (e _ (by omega) (by omega)) (e _ (by omega) (by omega)) (e _ (by omega) (by omega)), OkF_c h7 (f _ (by omega)) (e _ (by omega) (by omega)) (e _ (by omega) (by omega))⟩
  rw [show rw56 (aBack A N u) 118 j = rw56 A 118 j by unfold rw56; rw [e 118 (by omega) (by omega)]]
  exact ⟨OkN_c (u3 j (by omega)).1 (e _ (by omega) (by omega)) (e _ (by omega) (by omega)), (u3 j (by omega)).2⟩
set_option maxHeartbeats 4000000 in
set_option maxRecDepth 100000 in
theorem c_backBad {i : Int32} (hi : isT 2 i = false) (hk : k (-1) (I, J, vRR ρ)) : V (d + 1) 123 123 mX7_back 0 [.ref 0, .int i] [] (I, J, vRR ρ) (Ki k) := by
  refine st_iload rX7_back_0 rfl ?_
  refine st_c rX7_back_1 ?_
  refine st_c rX7_back_2 ?_
  refine cS3i rX7_back_3 (s_within ?_) rfl
  rw [inR_N (by decide), hi]
  first | refine st_if_neN rX7_back_6 (by omega) (fun h => absurd h (by first | decide | omega | (simp; done) | simp_all)) (fun _ => ?_) | refine st_if_ne rX7_back_6 (fun h => absurd h (by first | decide | omega | (simp; done) | simp_all)) (fun _ => ?_)
  refine st_c rX7_back_9 ?_
  refine st_iret rX7_back_10 rfl ?_
  exact hk
set_option maxHeartbeats 4000000 in
set_option maxRecDepth 100000 in
theorem m_backBad {i : Int32} (hM : InvM I J A T) (hi : isT 2 i = false) (hk : ∀ I', (∀ a, a < 103 ∨ 123 ≤ a → I' a = I a) → InvM I' J A T → k (-1) (I', J, vRR ρ)) : V (d + 1) 123 123 mX8_back 0 [.ref 103, .int i, vJ] [] (I, J, vRR ρ) (Ki k) := by
  refine s_thr rX8_back_0 rX8_back_1 rX8_back_2 hM (fun I1 e1 e2 hM1 => ?_)
  refine st_iload rX8_back_5 rfl ?_
  refine st_c rX8_back_6 ?_
  refine st_c rX8_back_7 ?_
  refine cS3i rX8_back_8 (s_in ?_) rfl
  rw [inR_N (by decide), hi]
  first | refine st_if_neN rX8_back_11 (by omega) (fun h => absurd h (by first | decide | omega | (simp; done) | simp_all)) (fun _ => ?_) | refine st_if_ne rX8_back_11 (fun h => absurd h (by first | decide | omega | (simp; done) | simp_all)) (fun _ => ?_)
  refine st_c rX8_back_14 ?_
  refine st_iret rX8_back_15 rfl ?_
  exact hk I1 (fun a ha => e1 a (by omega)) hM1
set_option maxHeartbeats 4000000 in
set_option maxRecDepth 100000 in
theorem c_backNo {i : Nat} (hC : InvC I J ρ A T m no) (hO : OkA A m no) (hi : i < 2) (h0 : A 117 i = nI 0) (hk : k (-2) (I, J, vRR ρ)) : V (d + 2) 123 123 mX7_back 0 [.ref 0, .int (nI i)] [] (I, J, vRR ρ) (Ki k) := by
  refine st_iload rX7_back_0 rfl ?_
  refine st_c rX7_back_1 ?_
  refine st_c rX7_back_2 ?_
  refine cS3i rX7_back_3 (s_within ?_) rfl
  rw [inR_N (by decide), isT_n hi (by decide)]
  first | refine st_if_neN rX7_back_6 (by omega) (fun _ => ?_) (fun h => absurd h (by first | decide | omega | (simp; done) | simp_all)) | refine st_if_ne rX7_back_6 (fun _ => ?_) (fun h => absurd h (by first | decide | omega | (simp; done) | simp_all))
  refine st_aload rX7_back_11 rfl ?_
  refine st_getR rX7_back_12 (by first | assumption | decide | exact ⟨by decide, rfl, by decide⟩) (by first | rfl | assumption) rfl ?_
  refine st_iload rX7_back_15 rfl ?_
  refine st_aload rX7_back_16 rfl ?_
  refine st_getR rX7_back_17 (by first | assumption | decide | exact ⟨by decide, rfl, by decide⟩) (by first | rfl | assumption) rfl ?_
  refine cV3i rX7_back_20 (by first | assumption | decide | exact ⟨by decide, rfl, by decide⟩) (s_bringNo hi ((hC.2.2.2.2.1 i hi).1.trans h0) ?_) rfl (by decide)
  first | refine st_if_neN rX7_back_23 (by omega) (fun h => absurd h (by first | decide | omega | (simp; done) | simp_all)) (fun _ => ?_) | refine st_if_ne rX7_back_23 (fun h => absurd h (by first | decide | omega | (simp; done) | simp_all)) (fun _ => ?_)
  refine st_c rX7_back_26 ?_
  refine st_iret rX7_back_28 rfl ?_
  exact hk
set_option maxHeartbeats 4000000 in
set_option maxRecDepth 100000 in
theorem m_backNo {i : Nat} (hM : InvM I J A T) (hi : i < 2) (h0 : A 117 i = nI 0) (hk : ∀ I', (∀ a, a < 103 ∨ 123 ≤ a → I' a = I a) → InvM I' J A T → k (-2) (I', J, vRR ρ)) : V (d + 1) 123 123 mX8_back 0 [.ref 103, .int (nI i), vJ] [] (I, J, vRR ρ) (Ki k) := by
  refine s_thr rX8_back_0 rX8_back_1 rX8_back_2 hM (fun I1 e1 e2 hM1 => ?_)
  refine st_iload rX8_back_5 rfl ?_
  refine st_c rX8_back_6 ?_
  refine st_c rX8_back_7 ?_
  refine cS3i rX8_back_8 (s_in ?_) rfl
  rw [inR_N (by decide), isT_n hi (by decide)]
  first | refine st_if_neN rX8_back_11 (by omega) (fun _ => ?_) (fun h => absurd h (by first | decide | omega | (simp; done) | simp_all)) | refine st_if_ne rX8_back_11 (fun _ => ?_) (fun h => absurd h (by first | decide | omega | (simp; done) | simp_all))
  refine st_aload rX8_back_16 rfl ?_
  refine st_getR rX8_back_17 (by first | assumption | decide | exact ⟨by decide, rfl, by decide⟩) (by first | rfl | assumption) rfl ?_
  refine st_iload rX8_back_20 rfl ?_
  refine st_baldN rX8_back_21 (by first | assumption | decide | exact ⟨by decide, rfl, by decide⟩) (by omega) ?_
  refine st_top (show I1 117 i = nI 0 by rw [hM1.2.2.2.2.1]; exact h0) ?_
  first | refine st_if_neN rX8_back_22 (by omega) (fun h => absurd h (by first | decide | omega | (simp; done) | simp_all)) (fun _ => ?_) | refine st_if_ne rX8_back_22 (fun h => absurd h (by first | decide | omega | (simp; done) | simp_all)) (fun _ => ?_)
  refine st_c rX8_back_25 ?_
  refine st_iret rX8_back_27 rfl ?_
  exact hk I1 (fun a ha => e1 a (by omega)) hM1
set_option maxHeartbeats 4000000 in
set_option maxRecDepth 100000 in
theorem s_pastEmpty (h : kv (up I 32 (va_up (I 32) 2 (nI 0)), J, vRR ρ)) : V d 123 123 mX4_empty 0 [.ref 32] [] (I, J, vRR ρ) (Kv kv) := by
  refine st_aload rX4_empty_0 rfl ?_
  refine st_c rX4_empty_1 ?_
  refine st_putI rfl rX4_empty_2 (by first | assumption | decide | exact ⟨by decide, rfl, by decide⟩) ?_
  refine st_vret rX4_empty_5 rfl ?_
  exact h
set_option maxHeartbeats 4000000 in
set_option maxRecDepth 100000 in
theorem c_back {i : Nat} (hC : InvC I J ρ A T m no) (hO : OkA A m no) (hi : i < 2) (h1 : A 117 i = nI 1) (hk : ∀ I', (∀ a, 103 ≤ a → I' a = I a) → InvC I' J ρ (aBack A (rw56 A 116 i) 0) T m no → k (A 116 (56 * i)) (I', J, vRR ρ)) : V (d + 3) 123 123 mX7_back 0 [.ref 0, .int (nI i)] [] (I, J, vRR ρ) (Ki k) := by
  obtain ⟨ht0, ht1, ht2, ht3, ht4, ht5, ht6, ht7, ht8, ht9, ht10⟩ := id hC.1
  obtain ⟨hto, o1, o2, o3, o4, o5, o6, o7, o8⟩ := toldF ht0
  have hm6 : m ≤ 6 := hO.1.2.2.1
  have hno6 : no ≤ 6 := hO.1.2.2.2.1
  have hI0 := hC.2.2.2.2.1 i hi
  refine st_iload rX7_back_0 rfl ?_
  refine st_c rX7_back_1 ?_
  refine st_c rX7_back_2 ?_
  refine cS3i rX7_back_3 (s_within ?_) rfl
  rw [inR_N (by decide), isT_n hi (by decide)]
  first | refine st_if_neN rX7_back_6 (by omega) (fun _ => ?_) (fun h => absurd h (by first | decide | omega | (simp; done) | simp_all)) | refine st_if_ne rX7_back_6 (fun _ => ?_) (fun h => absurd h (by first | decide | omega | (simp; done) | simp_all))
  refine st_aload rX7_back_11 rfl ?_
  refine st_getR rX7_back_12 (by first | assumption | decide | exact ⟨by decide, rfl, by decide⟩) (by first | rfl | assumption) rfl ?_
  refine st_iload rX7_back_15 rfl ?_
  refine st_aload rX7_back_16 rfl ?_
  refine st_getR rX7_back_17 (by first | assumption | decide | exact ⟨by decide, rfl, by decide⟩) (by first | rfl | assumption) rfl ?_
  refine cV3i rX7_back_20 (by first | assumption | decide | exact ⟨by decide, rfl, by decide⟩) (s_bring hi (hI0.1.trans h1) (fun I1 g gv => ?_)) rfl (by decide)
  first | refine st_if_neN rX7_back_23 (by omega) (fun _ => ?_) (fun h => absurd h (by first | decide | omega | (simp; done) | simp_all)) | refine st_if_ne rX7_back_23 (fun _ => ?_) (fun h => absurd h (by first | decide | omega | (simp; done) | simp_all))
  have hN1 := gv m _ hm6 (hI0.2 h1)
  refine st_aload rX7_back_29 rfl ?_
  refine st_getR rX7_back_30 (by first | assumption | decide | exact ⟨by decide, rfl, by decide⟩) (by first | rfl | assumption) rfl ?_
  refine cV1v rX7_back_33 (by first | assumption | decide | exact ⟨by decide, rfl, by decide⟩) (s_pastEmpty ?_) rfl (by decide)
  refine st_aload rX7_back_36 rfl ?_
  refine st_getR rX7_back_37 (by first | assumption | decide | exact ⟨by decide, rfl, by decide⟩) (by first | rfl | assumption) rfl ?_
  refine st_getI rX7_back_40 (by first | assumption | decide | exact ⟨by decide, rfl, by decide⟩) rfl ?_
  refine st_top (show _ = A 116 (56 * i) by rw [up_n (by decide)]; exact hN1.1) ?_
  refine st_iret rX7_back_43 rfl ?_
  obtain ⟨hT, hL, hN, ⟨q, u0, u1, u2, u3⟩, hI, hF, hJ⟩ := hC
  have e := @aBack_e A (rw56 A 116 i) 0
  have f := @aBack_f A (rw56 A 116 i) 0
  have hρ : ρ ≤ 13 := by rcases hT.1 with h | h <;> omega
  generalize hI2 : up I1 32 (va_up (I1 32) 2 (nI 0)) = I2
  have g' : ∀ a, a ≠ 32 → a < 22 ∨ 26 < a → I2 a = I a := fun a h3 h4 => by rw [← hI2, up_n h3, g a (by omega)]
  have gq : I2 32 1 = nI q := by rw [← hI2, up_s, va_up_n (by decide), g 32 (by omega)]; exact u1
  have gu : I2 32 2 = nI 0 := by rw [← hI2, up_s, va_up_s]
  refine hk _ (fun a ha => g' a (by omega) (by omega)) ⟨CT_c hT (fun a _ _ => g' a (by omega) (by omega)) (fun a _ _ => e a (by omega) (by omega)), CL_c hL (by rw [g' 1 (by omega) (by omega)]) (g' 2 (by omega) (by omega)) (f _ (by omega)) (e _ (by omega) (by omega)), ?_, ⟨q, u0, gq, by rw [aBack_3]; exact gu, fun u v1 v2 j hj => ?_⟩, CI_c hI (fun a ha => g' a (by omega) (by omega)) (e _ (by omega) (by omega)) (e _ (by omega) (by omega)), CF_c hF (fun a h1 h2 => g' a (by omega) (by omega)) (f _ (by omega)) (e _ (by omega) (by omega)) (e _ (by omega) (by omega)), hJ⟩
  · exact HV_N (HV_cong hN1 (fun a _ _ => by rw [← hI2, up_n (by omega)])) hm6 aBack_N
  · rw [aBack_3] at v2
    have := (nI_eq (by omega) (by omega)).mp v2
    omega
set_option maxHeartbeats 4000000 in
set_option maxRecDepth 100000 in
theorem m_back {i : Nat} (hM : InvM I J A T) (hO : OkA A m no) (hi : i < 2) (h1 : A 117 i = nI 1) (hk : ∀ I', (∀ a, a < 103 ∨ 123 ≤ a → I' a = I a) → InvM I' J (aBack A (rw56 A 116 i) 0) T → k (A 116 (56 * i)) (I', J, vRR ρ)) : V (d + 1) 123 123 mX8_back 0 [.ref 103, .int (nI i), vJ] [] (I, J, vRR ρ) (Ki k) := by
  refine s_thr rX8_back_0 rX8_back_1 rX8_back_2 hM (fun I1 e1 e2 hM1 => ?_)
  have hm6 : m ≤ 6 := hO.1.2.2.1
  have hno6 : no ≤ 6 := hO.1.2.2.2.1
  obtain ⟨m1, m2, m3, m4, m5, m6, m7, m8, m9, m10, m11, m12, m13, m14, m15, m16⟩ := id hM1
  have hmm : I1 105 0 = nI m := m11.trans hO.1.1
  have hmo : I1 105 1 = nI no := m12.trans hO.1.2.1
  refine st_iload rX8_back_5 rfl ?_
  refine st_c rX8_back_6 ?_
  refine st_c rX8_back_7 ?_
  refine cS3i rX8_back_8 (s_in ?_) rfl
  rw [inR_N (by decide), isT_n hi (by decide)]
  first | refine st_if_neN rX8_back_11 (by omega) (fun _ => ?_) (fun h => absurd h (by first | decide | omega | (simp; done) | simp_all)) | refine st_if_ne rX8_back_11 (fun _ => ?_) (fun h => absurd h (by first | decide | omega | (simp; done) | simp_all))
  refine st_aload rX8_back_16 rfl ?_
  refine st_getR rX8_back_17 (by first | assumption | decide | exact ⟨by decide, rfl, by decide⟩) (by first | rfl | assumption) rfl ?_
  refine st_iload rX8_back_20 rfl ?_
  refine st_baldN rX8_back_21 (by first | assumption | decide | exact ⟨by decide, rfl, by decide⟩) (by omega) ?_
  refine st_top (show I1 117 i = nI 1 by rw [m5]; exact h1) ?_
  first | refine st_if_neN rX8_back_22 (by omega) (fun _ => ?_) (fun h => absurd h (by first | decide | omega | (simp; done) | simp_all)) | refine st_if_ne rX8_back_22 (fun _ => ?_) (fun h => absurd h (by first | decide | omega | (simp; done) | simp_all))
  refine st_c rX8_back_28 ?_
  refine st_istore2 rX8_back_29 rfl ?_
  skip
  have key : ∀ (r q : Nat) (I2 : Nat → Nat → Int32), q + r = 56 → (∀ a, a ≠ 114 → I2 a = I1 a) → I2 114 = cpR (A 114) (rw56 A 116 i) 0 q → V (d + 1) 123 123 mX8_back 30 [.ref 103, .int (nI i), .int (nI q)] [] (I2, J, vRR ρ) (Ki k) := by
    intro r
    induction r with
    | zero =>
      intro q I2 hq g g6
      have hq : q = 56 := by omega
      subst hq
      have g60 : I2 114 0 = A 116 (56 * i) := by
        have := cpR_in (f := A 114) (g := rw56 A 116 i) (o := 0) (n := 56) (k := 0) (by omega)
        rw [g6]; exact this
      refine st_iload rX8_back_30 rfl ?_
      refine st_c rX8_back_31 ?_
      first | refine st_icmp_geN rX8_back_33 (by omega) (by omega) (fun _ => ?_) (fun h => absurd h (by first | decide | omega | (simp; done) | simp_all)) | refine st_icmp_ge rX8_back_33 (fun _ => ?_) (fun h => absurd h (by first | decide | omega | (simp; done) | simp_all))
      refine st_aload rX8_back_59 rfl ?_
      refine st_c rX8_back_60 ?_
      refine st_putI rfl rX8_back_61 (by first | assumption | decide | exact ⟨by decide, rfl, by decide⟩) ?_
      refine st_aload rX8_back_64 rfl ?_
      refine st_getR rX8_back_65 (by first | assumption | decide | exact ⟨by decide, rfl, by decide⟩) (by first | rfl | assumption) rfl ?_
      refine st_c rX8_back_68 ?_
      refine st_ialdN rX8_back_69 (by first | assumption | decide | exact ⟨by decide, rfl, by decide⟩) (by omega) ?_
      refine st_top (show _ = A 116 (56 * i) by rw [up_n (by decide)]; exact g60) ?_
      refine st_iret rX8_back_70 rfl ?_
      refine hk _ (fun a ha => by rw [up_n (by omega), g a (by omega)]; exact e1 a (by omega)) ?_
      have e := @aBack_e A (rw56 A 116 i) 0
      have f := @aBack_f A (rw56 A 116 i) 0
      generalize hI3 : up I2 103 (va_up (I2 103) 23 (nI 0)) = I3
      have g' : ∀ a, a ≠ 103 → a ≠ 114 → I3 a = I1 a := fun a h1 h2 => by rw [← hI3, up_n h1, g a h2]
      have g4 : I3 114 = cpR (A 114) (rw56 A 116 i) 0 56 := by rw [← hI3, up_n (by decide), g6]
      have g3 : ∀ q, q ≠ 23 → I3 103 q = I1 103 q := fun q hq => by rw [← hI3, up_s, va_up_n hq, g 103 (by decide)]
      have g23 : I3 103 23 = nI 0 := by rw [← hI3, up_s, va_up_s]
      simp (disch := omega) only [InvM, e, f, g', g4, g3, g23, aBack_3, aBack_4]
      exact ⟨m1, m2, trivial, m4, m5, m6, m7, m8, m9, m10, m11, m12, m13, trivial, m15, m16⟩
    | succ r ih =>
      intro q I2 hq g g6
      refine st_iload rX8_back_30 rfl ?_
      refine st_c rX8_back_31 ?_
      first | refine st_icmp_geN rX8_back_33 (by omega) (by omega) (fun h => absurd h (by first | decide | omega | (simp; done) | simp_all)) (fun _ => ?_) | refine st_icmp_ge rX8_back_33 (fun h => absurd h (by first | decide | omega | (simp; done) | simp_all)) (fun _ => ?_)
      refine st_aload rX8_back_36 rfl ?_
      refine st_getR rX8_back_37 (by first | assumption | decide | exact ⟨by decide, rfl, by decide⟩) (by first | rfl | assumption) rfl ?_
      refine st_iload rX8_back_40 rfl ?_
      refine st_aload rX8_back_41 rfl ?_
      refine st_getR rX8_back_42 (by first | assumption | decide | exact ⟨by decide, rfl, by decide⟩) (by first | rfl | assumption) rfl ?_
      refine st_c rX8_back_45 ?_
      refine st_iload rX8_back_47 rfl ?_
      first | refine st_imulN rX8_back_48 ?_ | refine st_imul rX8_back_48 ?_
      refine st_iload rX8_back_49 rfl ?_
      first | refine st_iaddN rX8_back_50 ?_ | refine st_iadd rX8_back_50 ?_
      refine st_ialdN rX8_back_51 (by first | assumption | decide | exact ⟨by decide, rfl, by decide⟩) (by omega) ?_
      refine st_iastN rX8_back_52 (by first | assumption | decide | exact ⟨by decide, rfl, by decide⟩) (by omega) ?_
      first | refine st_iincN2 rX8_back_53 rfl ?_ | refine st_iinc2 rX8_back_53 rfl ?_
      refine st_goto rX8_back_56 ?_
      refine ih (q + 1) _ (by omega) (fun a ha => by rw [up_n ha, g a ha]) ?_
      rw [up_s, g6, g 116 (by decide), m4]
      have := cpR_s (A 114) (rw56 A 116 i) 0 q
      rw [Nat.zero_add] at this
      exact this
  exact key 56 0 I1 (by omega) (fun a _ => rfl) (by rw [cpR_0]; exact m3)
set_option maxHeartbeats 4000000 in
set_option maxRecDepth 100000 in
theorem c_undoNo (hC : InvC I J ρ A T m no) (hO : OkA A m no) (h0 : A 103 23 = nI 0) (hk : k (-2) (I, J, vRR ρ)) : V (d + 1) 123 123 mX7_undo 0 [.ref 0] [] (I, J, vRR ρ) (Ki k) := by
  obtain ⟨q, u0, u1, u2, u3⟩ := hC.2.2.2.1
  refine st_aload rX7_undo_0 rfl ?_
  refine st_getR rX7_undo_1 (by first | assumption | decide | exact ⟨by decide, rfl, by decide⟩) (by first | rfl | assumption) rfl ?_
  refine st_aload rX7_undo_4 rfl ?_
  refine st_getR rX7_undo_5 (by first | assumption | decide | exact ⟨by decide, rfl, by decide⟩) (by first | rfl | assumption) rfl ?_
  refine cV2i rX7_undo_8 (by first | assumption | decide | exact ⟨by decide, rfl, by decide⟩) (s_recallNo (u2.trans h0) ?_) rfl (by decide)
  first | refine st_if_eqN rX7_undo_11 (by omega) (fun _ => ?_) (fun h => absurd h (by first | decide | omega | (simp; done) | simp_all)) | refine st_if_eq rX7_undo_11 (fun _ => ?_) (fun h => absurd h (by first | decide | omega | (simp; done) | simp_all))
  refine st_c rX7_undo_24 ?_
  refine st_iret rX7_undo_26 rfl ?_
  exact hk
set_option maxHeartbeats 4000000 in
set_option maxRecDepth 100000 in
theorem m_undoNo (hM : InvM I J A T) (h0 : A 103 23 = nI 0) (hk : ∀ I', (∀ a, a < 103 ∨ 123 ≤ a → I' a = I a) → InvM I' J A T → k (-2) (I', J, vRR ρ)) : V d 123 123 mX8_undo 0 [.ref 103, vJ] [] (I, J, vRR ρ) (Ki k) := by
  refine s_thr rX8_undo_0 rX8_undo_1 rX8_undo_2 hM (fun I1 e1 e2 hM1 => ?_)
  refine st_aload rX8_undo_5 rfl ?_
  refine st_getI rX8_undo_6 (by first | assumption | decide | exact ⟨by decide, rfl, by decide⟩) rfl ?_
  refine st_top (hM1.2.2.2.2.2.2.2.2.2.2.2.2.2.1.trans h0) ?_
  first | refine st_if_neN rX8_undo_9 (by omega) (fun h => absurd h (by first | decide | omega | (simp; done) | simp_all)) (fun _ => ?_) | refine st_if_ne rX8_undo_9 (fun h => absurd h (by first | decide | omega | (simp; done) | simp_all)) (fun _ => ?_)
  refine st_c rX8_undo_12 ?_
  refine st_iret rX8_undo_14 rfl ?_
  exact hk I1 (fun a ha => e1 a (by omega)) hM1
set_option maxHeartbeats 4000000 in
set_option maxRecDepth 100000 in
theorem c_undo {u : Nat} (hC : InvC I J ρ A T m no) (hO : OkA A m no) (hu : A 103 23 = nI (u + 1)) (hu10 : u < 10) (hk : ∀ I', (∀ a, 103 ≤ a → I' a = I a) → InvC I' J ρ (aBack A (rw56 A 118 u) u) T m no → k (nI u) (I', J, vRR ρ)) : V (d + 3) 123 123 mX7_undo 0 [.ref 0] [] (I, J, vRR ρ) (Ki k) := by
  obtain ⟨ht0, ht1, ht2, ht3, ht4, ht5, ht6, ht7, ht8, ht9, ht10⟩ := id hC.1
  obtain ⟨hto, o1, o2, o3, o4, o5, o6, o7, o8⟩ := toldF ht0
  have hm6 : m ≤ 6 := hO.1.2.2.1
  have hno6 : no ≤ 6 := hO.1.2.2.2.1
  obtain ⟨q, u0, u1, u2, u3⟩ := hC.2.2.2.1
  refine st_aload rX7_undo_0 rfl ?_
  refine st_getR rX7_undo_1 (by first | assumption | decide | exact ⟨by decide, rfl, by decide⟩) (by first | rfl | assumption) rfl ?_
  refine st_aload rX7_undo_4 rfl ?_
  refine st_getR rX7_undo_5 (by first | assumption | decide | exact ⟨by decide, rfl, by decide⟩) (by first | rfl | assumption) rfl ?_
  refine cV2i rX7_undo_8 (by first | assumption | decide | exact ⟨by decide, rfl, by decide⟩) (s_recall u1 u0 (u2.trans hu) hu10 (fun I1 g gq gu gv => ?_)) rfl (by decide)
  first | refine st_if_eqN rX7_undo_11 (by omega) (fun h => absurd h (by first | decide | omega | (simp; done) | simp_all)) (fun _ => ?_) | refine st_if_eq rX7_undo_11 (fun h => absurd h (by first | decide | omega | (simp; done) | simp_all)) (fun _ => ?_)
  refine st_aload rX7_undo_14 rfl ?_
  refine st_getR rX7_undo_15 (by first | assumption | decide | exact ⟨by decide, rfl, by decide⟩) (by first | rfl | assumption) rfl ?_
  refine st_getI rX7_undo_18 (by first | assumption | decide | exact ⟨by decide, rfl, by decide⟩) rfl ?_
  refine st_top gu ?_
  refine st_goto rX7_undo_21 ?_
  refine st_iret rX7_undo_26 rfl ?_
  obtain ⟨hT, hL, hN, -, hI, hF, hJ⟩ := hC
  have e := @aBack_e A (rw56 A 118 u) u
  have f := @aBack_f A (rw56 A 118 u) u
  have hρ : ρ ≤ 13 := by rcases hT.1 with h | h <;> omega
  refine hk _ (fun a ha => g a (by omega) (by omega)) ⟨CT_c hT (fun a _ _ => g a (by omega) (by omega)) (fun a _ _ => e a (by omega) (by omega)), CL_c hL (by rw [g 1 (by omega) (by omega)]) (g 2 (by omega) (by omega)) (f _ (by omega)) (e _ (by omega) (by omega)), ?_, ⟨(q + 9) % 10, by omega, gq, by rw [aBack_3]; exact gu, fun v v1 v2 j hj => ?_⟩, CI_c hI (fun a ha => g a (by omega) (by omega)) (e _ (by omega) (by omega)) (e _ (by omega) (by omega)), CF_c hF (fun a h1 h2 => g a (by omega) (by omega)) (f _ (by omega)) (e _ (by omega) (by omega)) (e _ (by omega) (by omega)), hJ⟩
  · have h1 := u3 (u + 1) (by omega) hu u (by omega)
    rw [show (q + 11 + u - (u + 1)) % 10 = q by omega] at h1
    exact HV_N (gv m _ hm6 h1) hm6 aBack_N
  · rw [aBack_3] at v2
    have hvu := (nI_eq (by omega) (by omega)).mp v2
    subst hvu
    have h1 := u3 (u + 1) (by omega) hu j (by omega)
    rw [show ((q + 9) % 10 + 11 + j - u) % 10 = (q + 11 + j - (u + 1)) % 10 by omega, show rw56 (aBack A (rw56 A 118 u) u) 118 j = rw56 A 118 j by unfold rw56; rw [e 118 (by omega) (by omega)]]
    exact HV_cong h1 (fun a _ _ => g a (by omega) (by omega))
set_option maxHeartbeats 4000000 in
set_option maxRecDepth 100000 in
theorem m_undo {u : Nat} (hM : InvM I J A T) (hO : OkA A m no) (hu : A 103 23 = nI (u + 1)) (hu10 : u < 10) (hk : ∀ I', (∀ a, a < 103 ∨ 123 ≤ a → I' a = I a) → InvM I' J (aBack A (rw56 A 118 u) u) T → k (nI u) (I', J, vRR ρ)) : V d 123 123 mX8_undo 0 [.ref 103, vJ] [] (I, J, vRR ρ) (Ki k) := by
  refine s_thr rX8_undo_0 rX8_undo_1 rX8_undo_2 hM (fun I1 e1 e2 hM1 => ?_)
  have hm6 : m ≤ 6 := hO.1.2.2.1
  have hno6 : no ≤ 6 := hO.1.2.2.2.1
  obtain ⟨m1, m2, m3, m4, m5, m6, m7, m8, m9, m10, m11, m12, m13, m14, m15, m16⟩ := id hM1
  have hmm : I1 105 0 = nI m := m11.trans hO.1.1
  have hmo : I1 105 1 = nI no := m12.trans hO.1.2.1
  have hl : I1 103 23 = nI (u + 1) := m14.trans hu
  refine st_aload rX8_undo_5 rfl ?_
  refine st_getI rX8_undo_6 (by first | assumption | decide | exact ⟨by decide, rfl, by decide⟩) rfl ?_
  refine st_top hl ?_
  first | refine st_if_neN rX8_undo_9 (by omega) (fun _ => ?_) (fun h => absurd h (by first | decide | omega | (simp; done) | simp_all)) | refine st_if_ne rX8_undo_9 (fun _ => ?_) (fun h => absurd h (by first | decide | omega | (simp; done) | simp_all))
  refine st_aload rX8_undo_15 rfl ?_
  refine st_dup rX8_undo_16 rfl ?_
  refine st_getI rX8_undo_17 (by first | assumption | decide | exact ⟨by decide, rfl, by decide⟩) rfl ?_
  refine st_top hl ?_
  refine st_c rX8_undo_20 ?_
  first | refine st_isubN rX8_undo_21 (by omega) ?_ | refine st_isub rX8_undo_21 ?_
  refine st_putI rfl rX8_undo_22 (by first | assumption | decide | exact ⟨by decide, rfl, by decide⟩) ?_
  refine st_c rX8_undo_25 ?_
  refine st_istore1 rX8_undo_26 rfl ?_
  skip
  have key : ∀ (r q : Nat) (I2 : Nat → Nat → Int32), q + r = 56 → (∀ a, a ≠ 103 → a ≠ 114 → I2 a = I1 a) → (∀ q, q ≠ 23 → I2 103 q = I1 103 q) → I2 103 23 = nI u → I2 114 = cpR (A 114) (rw56 A 118 u) 0 q → V d 123 123 mX8_undo 27 [.ref 103, .int (nI q)] [] (I2, J, vRR ρ) (Ki k) := by
    intro r
    induction r with
    | zero =>
      intro q I2 hq g g3 g23 g6
      have hq : q = 56 := by omega
      subst hq
      refine st_iload rX8_undo_27 rfl ?_
      refine st_c rX8_undo_28 ?_
      first | refine st_icmp_geN rX8_undo_30 (by omega) (by omega) (fun _ => ?_) (fun h => absurd h (by first | decide | omega | (simp; done) | simp_all)) | refine st_icmp_ge rX8_undo_30 (fun _ => ?_) (fun h => absurd h (by first | decide | omega | (simp; done) | simp_all))
      refine st_aload rX8_undo_59 rfl ?_
      refine st_getI rX8_undo_60 (by first | assumption | decide | exact ⟨by decide, rfl, by decide⟩) rfl ?_
      refine st_top g23 ?_
      refine st_iret rX8_undo_63 rfl ?_
      refine hk _ (fun a ha => by rw [g a (by omega) (by omega)]; exact e1 a (by omega)) ?_
      have e := @aBack_e A (rw56 A 118 u) u
      have f := @aBack_f A (rw56 A 118 u) u
      simp (disch := omega) only [InvM, e, f, g, g6, g3, g23, aBack_3, aBack_4]
      exact ⟨m1, m2, trivial, m4, m5, m6, m7, m8, m9, m10, m11, m12, m13, trivial, m15, m16⟩
    | succ r ih =>
      intro q I2 hq g g3 g23 g6
      refine st_iload rX8_undo_27 rfl ?_
      refine st_c rX8_undo_28 ?_
      first | refine st_icmp_geN rX8_undo_30 (by omega) (by omega) (fun h => absurd h (by first | decide | omega | (simp; done) | simp_all)) (fun _ => ?_) | refine st_icmp_ge rX8_undo_30 (fun h => absurd h (by first | decide | omega | (simp; done) | simp_all)) (fun _ => ?_)
      refine st_aload rX8_undo_33 rfl ?_
      refine st_getR rX8_undo_34 (by first | assumption | decide | exact ⟨by decide, rfl, by decide⟩) (by first | rfl | assumption) rfl ?_
      refine st_iload rX8_undo_37 rfl ?_
      refine st_aload rX8_undo_38 rfl ?_
      refine st_getR rX8_undo_39 (by first | assumption | decide | exact ⟨by decide, rfl, by decide⟩) (by first | rfl | assumption) rfl ?_
      refine st_c rX8_undo_42 ?_
      refine st_aload rX8_undo_44 rfl ?_
      refine st_getI rX8_undo_45 (by first | assumption | decide | exact ⟨by decide, rfl, by decide⟩) rfl ?_
      refine st_top g23 ?_
      first | refine st_imulN rX8_undo_48 ?_ | refine st_imul rX8_undo_48 ?_
      refine st_iload rX8_undo_49 rfl ?_
      first | refine st_iaddN rX8_undo_50 ?_ | refine st_iadd rX8_undo_50 ?_
      refine st_ialdN rX8_undo_51 (by first | assumption | decide | exact ⟨by decide, rfl, by decide⟩) (by omega) ?_
      refine st_iastN rX8_undo_52 (by first | assumption | decide | exact ⟨by decide, rfl, by decide⟩) (by omega) ?_
      first | refine st_iincN1 rX8_undo_53 rfl ?_ | refine st_iinc1 rX8_undo_53 rfl ?_
      refine st_goto rX8_undo_56 ?_
      refine ih (q + 1) _ (by omega) (fun a h1 h2 => by rw [up_n h2, g a h1 h2]) (fun q hq => by rw [up_n (by decide)]; exact g3 q hq) (by rw [up_n (by decide)]; exact g23) ?_
      rw [up_s, g6, g 118 (by decide) (by decide), m6]
      have := cpR_s (A 114) (rw56 A 118 u) 0 q
      rw [Nat.zero_add] at this
      exact this
  exact key 56 0 _ (by omega) (fun a h1 _ => by rw [up_n h1]) (fun q hq => by rw [up_s, va_up_n hq]) (by rw [up_s, va_up_s]; rfl) (by rw [cpR_0, up_n (by decide)]; exact m3)
end P21
