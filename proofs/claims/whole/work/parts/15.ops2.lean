/-! ===== type, forget, found, strokes, oath ===== -/
section P15
variable {d : Nat} {I A : Nat → Nat → Int32} {J : Nat → Nat → Int64} {ρ m no : Nat} {T : Int64} {k : Int32 → vS → Prop} {kl : Int64 → vS → Prop} {kv : vS → Prop}
set_option maxHeartbeats 4000000 in
set_option maxRecDepth 100000 in
theorem s_textApp {L : Nat} {x : Int32} {kk : Int32 → vS → Prop} (hL : I 1 1 = nI L) (hL2 : L < 200) (h : ∀ I', (∀ a, a ≠ 1 → a ≠ 2 → I' a = I a) → I' 2 = va_up (I 2) L x → I' 1 1 = nI (L + 1) → kk (nI 1) (I', J, vRR ρ)) : V (d + 1) 123 123 mX5_append 0 [.ref 1, .int x] [] (I, J, vRR ρ) (Ki kk) := by
  refine st_aload rX5_append_0 rfl ?_
  refine st_getI rX5_append_1 (by first | assumption | decide | exact ⟨by decide, rfl, by decide⟩) rfl ?_
  refine st_top hL ?_
  refine st_c rX5_append_4 ?_
  first | refine st_icmp_ltN rX5_append_7 (by omega) (by omega) (fun _ => ?_) (fun h => absurd h (by first | decide | omega | (simp; done) | simp_all)) | refine st_icmp_lt rX5_append_7 (fun _ => ?_) (fun h => absurd h (by first | decide | omega | (simp; done) | simp_all))
  refine st_aload rX5_append_12 rfl ?_
  refine st_getR rX5_append_13 (by first | assumption | decide | exact ⟨by decide, rfl, by decide⟩) (by first | rfl | assumption) rfl ?_
  refine st_aload rX5_append_16 rfl ?_
  refine st_getI rX5_append_17 (by first | assumption | decide | exact ⟨by decide, rfl, by decide⟩) rfl ?_
  refine st_top hL ?_
  refine st_iload rX5_append_20 rfl ?_
  refine cS3v rX5_append_21 (s_put (by first | assumption | decide | exact ⟨by decide, rfl, by decide⟩) (by omega) ?_) rfl
  refine st_aload rX5_append_24 rfl ?_
  refine st_dup rX5_append_25 rfl ?_
  refine st_getI rX5_append_26 (by first | assumption | decide | exact ⟨by decide, rfl, by decide⟩) rfl ?_
  refine st_top (show up I 2 _ 1 1 = nI L by rw [up_n (by decide)]; exact hL) ?_
  refine st_c rX5_append_29 ?_
  first | refine st_iaddN rX5_append_30 ?_ | refine st_iadd rX5_append_30 ?_
  refine st_putI rfl rX5_append_31 (by first | assumption | decide | exact ⟨by decide, rfl, by decide⟩) ?_
  refine st_c rX5_append_34 ?_
  refine st_zret rX5_append_35 rfl (by first | rfl | exact vb_nar _) ?_
  refine h _ (fun a h1 h2 => by rw [up_n h1, up_n h2]) (by rw [up_n (by decide), up_s]) (by rw [up_s, va_up_s])
set_option maxHeartbeats 4000000 in
set_option maxRecDepth 100000 in
theorem s_textFull {x : Int32} {kk : Int32 → vS → Prop} (hL : I 1 1 = nI 200) (h : kk (nI 0) (I, J, vRR ρ)) : V d 123 123 mX5_append 0 [.ref 1, .int x] [] (I, J, vRR ρ) (Ki kk) := by
  refine st_aload rX5_append_0 rfl ?_
  refine st_getI rX5_append_1 (by first | assumption | decide | exact ⟨by decide, rfl, by decide⟩) rfl ?_
  refine st_top hL ?_
  refine st_c rX5_append_4 ?_
  first | refine st_icmp_ltN rX5_append_7 (by omega) (by omega) (fun h => absurd h (by first | decide | omega | (simp; done) | simp_all)) (fun _ => ?_) | refine st_icmp_lt rX5_append_7 (fun h => absurd h (by first | decide | omega | (simp; done) | simp_all)) (fun _ => ?_)
  refine st_c rX5_append_10 ?_
  refine st_zret rX5_append_11 rfl (by first | rfl | exact vb_nar _) ?_
  exact h
set_option maxHeartbeats 4000000 in
set_option maxRecDepth 100000 in
theorem c_typeBad {x : Int32} (hx : isT 256 x = false) (hk : k (-1) (I, J, vRR ρ)) : V (d + 1) 123 123 mX7_type 0 [.ref 0, .int x] [] (I, J, vRR ρ) (Ki k) := by
  refine st_iload rX7_type_0 rfl ?_
  refine st_c rX7_type_1 ?_
  refine st_c rX7_type_2 ?_
  refine cS3i rX7_type_5 (s_within ?_) rfl
  rw [inR_N (by decide), hx]
  first | refine st_if_neN rX7_type_8 (by omega) (fun h => absurd h (by first | decide | omega | (simp; done) | simp_all)) (fun _ => ?_) | refine st_if_ne rX7_type_8 (fun h => absurd h (by first | decide | omega | (simp; done) | simp_all)) (fun _ => ?_)
  refine st_c rX7_type_11 ?_
  refine st_iret rX7_type_12 rfl ?_
  exact hk
set_option maxHeartbeats 4000000 in
set_option maxRecDepth 100000 in
theorem c_typeFull {x : Int32} (hC : InvC I J ρ A T m no) (hx : isT 256 x = true) (hL : A 103 3 = nI 200) (hk : k (-3) (I, J, vRR ρ)) : V (d + 1) 123 123 mX7_type 0 [.ref 0, .int x] [] (I, J, vRR ρ) (Ki k) := by
  refine st_iload rX7_type_0 rfl ?_
  refine st_c rX7_type_1 ?_
  refine st_c rX7_type_2 ?_
  refine cS3i rX7_type_5 (s_within ?_) rfl
  rw [inR_N (by decide), hx]
  first | refine st_if_neN rX7_type_8 (by omega) (fun _ => ?_) (fun h => absurd h (by first | decide | omega | (simp; done) | simp_all)) | refine st_if_ne rX7_type_8 (fun _ => ?_) (fun h => absurd h (by first | decide | omega | (simp; done) | simp_all))
  refine st_aload rX7_type_13 rfl ?_
  refine st_getR rX7_type_14 (by first | assumption | decide | exact ⟨by decide, rfl, by decide⟩) (by first | rfl | assumption) rfl ?_
  refine st_iload rX7_type_17 rfl ?_
  refine cV2i rX7_type_18 (by first | assumption | decide | exact ⟨by decide, rfl, by decide⟩) (s_textFull (hC.2.1.1.trans hL) ?_) rfl (by decide)
  first | refine st_if_eqN rX7_type_21 (by omega) (fun _ => ?_) (fun h => absurd h (by first | decide | omega | (simp; done) | simp_all)) | refine st_if_eq rX7_type_21 (fun _ => ?_) (fun h => absurd h (by first | decide | omega | (simp; done) | simp_all))
  refine st_c rX7_type_34 ?_
  refine st_iret rX7_type_36 rfl ?_
  exact hk
abbrev aType (A : Nat → Nat → Int32) (L : Nat) (x : Int32) : Nat → Nat → Int32 := up (up A 104 (va_up (A 104) L x)) 103 (va_up (A 103) 3 (nI (L + 1)))
theorem aType_e {L : Nat} {x : Int32} : ∀ a, a ≠ 103 → a ≠ 104 → aType A L x a = A a := fun a h1 h2 => by simp only [aType]; rw [up_n h1, up_n h2]
theorem aType_f {L : Nat} {x : Int32} : ∀ q, q ≠ 3 → aType A L x 103 q = A 103 q := fun q hq => by simp only [aType]; rw [up_s, va_up_n hq]
theorem aType_3 {L : Nat} {x : Int32} : aType A L x 103 3 = nI (L + 1) := by simp only [aType]; rw [up_s, va_up_s]
theorem aType_4 {L : Nat} {x : Int32} : aType A L x 104 = va_up (A 104) L x := by simp only [aType]; rw [up_n (by decide), up_s]
theorem ok_type {L : Nat} {x : Int32} (h : OkA A m no) (hL : A 103 3 = nI L) (hL2 : L < 200) (hx : isT 256 x = true) : OkA (aType A L x) m no := by
  obtain ⟨h1, ⟨L', l1, l2, l3⟩, h3, h4, h5, h6, h7⟩ := h
  have hLL : L' = L := (nI_eq (by omega) (by omega)).mp (l2.symm.trans hL)
  subst hLL
  have e := @aType_e A L' x
  have f := @aType_f A L' x
  obtain ⟨y, hy, rfl⟩ := isT_t (by decide) hx
  refine ⟨OkT_c h1 (by rw [e 105 (by omega) (by omega)]) (by rw [e 105 (by omega) (by omega)]) (fun a _ _ => e a (by omega) (by omega)), ⟨L' + 1, by omega, aType_3, fun j hj => ?_⟩, ?_, ?_, OkU_c h5 (e _ (by omega) (by omega)) (e _ (by omega) (by omega)) (f _ (by omega)) (e _ (by omega) (by omega)), OkI_c h6 (e _ (by omega) (by omega)) (e _ (by omega) (by omega)) (e _ (by omega) (by omega)) (e _ (by omega) (by omega)), OkF_c h7 (f _ (by omega)) (e _ (by omega) (by omega)) (e _ (by omega) (by omega))⟩
  · rw [aType_4]
    by_cases hj2 : j = L'
    · subst hj2; exact ⟨y, hy, va_up_s⟩
    · rw [va_up_n hj2]; exact l3 j (by omega)
  · rw [e 114 (by omega) (by omega)]; exact OkN_c h3 (e _ (by omega) (by omega)) (e _ (by omega) (by omega))
  · rw [e 114 (by omega) (by omega)]; exact h4
set_option maxHeartbeats 4000000 in
set_option maxRecDepth 100000 in
theorem c_type {x : Int32} {L : Nat} (hC : InvC I J ρ A T m no) (hx : isT 256 x = true) (hL : A 103 3 = nI L) (hL2 : L < 200) (hk : ∀ I', (∀ a, 103 ≤ a → I' a = I a) → InvC I' J ρ (aType A L x) T m no → k (nI (L + 1)) (I', J, vRR ρ)) : V (d + 2) 123 123 mX7_type 0 [.ref 0, .int x] [] (I, J, vRR ρ) (Ki k) := by
  refine st_iload rX7_type_0 rfl ?_
  refine st_c rX7_type_1 ?_
  refine st_c rX7_type_2 ?_
  refine cS3i rX7_type_5 (s_within ?_) rfl
  rw [inR_N (by decide), hx]
  first | refine st_if_neN rX7_type_8 (by omega) (fun _ => ?_) (fun h => absurd h (by first | decide | omega | (simp; done) | simp_all)) | refine st_if_ne rX7_type_8 (fun _ => ?_) (fun h => absurd h (by first | decide | omega | (simp; done) | simp_all))
  refine st_aload rX7_type_13 rfl ?_
  refine st_getR rX7_type_14 (by first | assumption | decide | exact ⟨by decide, rfl, by decide⟩) (by first | rfl | assumption) rfl ?_
  refine st_iload rX7_type_17 rfl ?_
  refine cV2i rX7_type_18 (by first | assumption | decide | exact ⟨by decide, rfl, by decide⟩) (s_textApp (hC.2.1.1.trans hL) hL2 (fun I1 g g2 g1 => ?_)) rfl (by decide)
  first | refine st_if_eqN rX7_type_21 (by omega) (fun h => absurd h (by first | decide | omega | (simp; done) | simp_all)) (fun _ => ?_) | refine st_if_eq rX7_type_21 (fun h => absurd h (by first | decide | omega | (simp; done) | simp_all)) (fun _ => ?_)
  refine st_aload rX7_type_24 rfl ?_
  refine st_getR rX7_type_25 (by first | assumption | decide | exact ⟨by decide, rfl, by decide⟩) (by first | rfl | assumption) rfl ?_
  refine st_getI rX7_type_28 (by first | assumption | decide | exact ⟨by decide, rfl, by decide⟩) rfl ?_
  refine st_top g1 ?_
  refine st_goto rX7_type_31 ?_
  refine st_iret rX7_type_36 rfl ?_
  obtain ⟨hT, hL0, hN, hU, hI, hF, hJ⟩ := hC
  have e := @aType_e A L x
  have f := @aType_f A L x
  have hρ : 2 < ρ := by rcases hT.1 with h | h <;> omega
  refine hk _ (fun a ha => g a (by omega) (by omega)) ⟨CT_c hT (fun a _ _ => g a (by omega) (by omega)) (fun a _ _ => e a (by omega) (by omega)), ⟨?_, fun L1 hL1 hL3 j hj => ?_⟩, ?_, CU_c hU (fun a ha => g a (by omega) (by omega)) (f _ (by omega)) (e _ (by omega) (by omega)), CI_c hI (fun a ha => g a (by omega) (by omega)) (e _ (by omega) (by omega)) (e _ (by omega) (by omega)), CF_c hF (fun a h1 h2 => g a (by omega) (by omega)) (f _ (by omega)) (e _ (by omega) (by omega)) (e _ (by omega) (by omega)), hJ⟩
  · rw [aType_3]; exact g1
  · rw [aType_3] at hL1
    have hl1 := (nI_eq (by omega) (by omega)).mp hL1
    rw [aType_4, g2]
    by_cases hj2 : j = L
    · subst hj2; rw [va_up_s, va_up_s]
    · rw [va_up_n hj2, va_up_n hj2]; exact hL0.2 L hL (by omega) j (by omega)
  · rw [e 114 (by omega) (by omega)]
    exact HV_cong hN (fun a _ _ => g a (by omega) (by omega))
set_option maxHeartbeats 4000000 in
set_option maxRecDepth 100000 in
theorem m_typeBad {x : Int32} (hM : InvM I J A T) (hx : isT 256 x = false) (hk : ∀ I', (∀ a, a < 103 ∨ 123 ≤ a → I' a = I a) → InvM I' J A T → k (-1) (I', J, vRR ρ)) : V (d + 1) 123 123 mX8_type 0 [.ref 103, .int x] [] (I, J, vRR ρ) (Ki k) := by
  refine s_thr rX8_type_0 rX8_type_1 rX8_type_2 hM (fun I1 e1 e2 hM1 => ?_)
  refine st_iload rX8_type_5 rfl ?_
  refine st_c rX8_type_6 ?_
  refine st_c rX8_type_7 ?_
  refine cS3i rX8_type_10 (s_in ?_) rfl
  rw [inR_N (by decide), hx]
  first | refine st_if_neN rX8_type_13 (by omega) (fun h => absurd h (by first | decide | omega | (simp; done) | simp_all)) (fun _ => ?_) | refine st_if_ne rX8_type_13 (fun h => absurd h (by first | decide | omega | (simp; done) | simp_all)) (fun _ => ?_)
  refine st_c rX8_type_16 ?_
  refine st_iret rX8_type_17 rfl ?_
  exact hk I1 (fun a ha => e1 a (by omega)) hM1
set_option maxHeartbeats 4000000 in
set_option maxRecDepth 100000 in
theorem m_typeFull {x : Int32} (hM : InvM I J A T) (hx : isT 256 x = true) (hL : A 103 3 = nI 200) (hk : ∀ I', (∀ a, a < 103 ∨ 123 ≤ a → I' a = I a) → InvM I' J A T → k (-3) (I', J, vRR ρ)) : V (d + 1) 123 123 mX8_type 0 [.ref 103, .int x] [] (I, J, vRR ρ) (Ki k) := by
  refine s_thr rX8_type_0 rX8_type_1 rX8_type_2 hM (fun I1 e1 e2 hM1 => ?_)
  refine st_iload rX8_type_5 rfl ?_
  refine st_c rX8_type_6 ?_
  refine st_c rX8_type_7 ?_
  refine cS3i rX8_type_10 (s_in ?_) rfl
  rw [inR_N (by decide), hx]
  first | refine st_if_neN rX8_type_13 (by omega) (fun _ => ?_) (fun h => absurd h (by first | decide | omega | (simp; done) | simp_all)) | refine st_if_ne rX8_type_13 (fun _ => ?_) (fun h => absurd h (by first | decide | omega | (simp; done) | simp_all))
  refine st_aload rX8_type_18 rfl ?_
  refine st_getI rX8_type_19 (by first | assumption | decide | exact ⟨by decide, rfl, by decide⟩) rfl ?_
  refine st_top (hM1.2.2.2.2.2.2.2.2.2.2.2.2.1.trans hL) ?_
  refine st_c rX8_type_22 ?_
  first | refine st_icmp_neN rX8_type_25 (by omega) (by omega) (fun h => absurd h (by first | decide | omega | (simp; done) | simp_all)) (fun _ => ?_) | refine st_icmp_ne rX8_type_25 (fun h => absurd h (by first | decide | omega | (simp; done) | simp_all)) (fun _ => ?_)
  refine st_c rX8_type_28 ?_
  refine st_iret rX8_type_30 rfl ?_
  exact hk I1 (fun a ha => e1 a (by omega)) hM1
set_option maxHeartbeats 4000000 in
set_option maxRecDepth 100000 in
theorem m_type {x : Int32} {L : Nat} (hM : InvM I J A T) (hx : isT 256 x = true) (hL : A 103 3 = nI L) (hL2 : L < 200) (hk : ∀ I', (∀ a, a < 103 ∨ 123 ≤ a → I' a = I a) → InvM I' J (aType A L x) T → k (nI (L + 1)) (I', J, vRR ρ)) : V (d + 1) 123 123 mX8_type 0 [.ref 103, .int x] [] (I, J, vRR ρ) (Ki k) := by
  refine s_thr rX8_type_0 rX8_type_1 rX8_type_2 hM (fun I1 e1 e2 hM1 => ?_)
  have hl : I1 103 3 = nI L := hM1.2.2.2.2.2.2.2.2.2.2.2.2.1.trans hL
  refine st_iload rX8_type_5 rfl ?_
  refine st_c rX8_type_6 ?_
  refine st_c rX8_type_7 ?_
  refine cS3i rX8_type_10 (s_in ?_) rfl
  rw [inR_N (by decide), hx]
  first | refine st_if_neN rX8_type_13 (by omega) (fun _ => ?_) (fun h => absurd h (by first | decide | omega | (simp; done) | simp_all)) | refine st_if_ne rX8_type_13 (fun _ => ?_) (fun h => absurd h (by first | decide | omega | (simp; done) | simp_all))
  refine st_aload rX8_type_18 rfl ?_
  refine st_getI rX8_type_19 (by first | assumption | decide | exact ⟨by decide, rfl, by decide⟩) rfl ?_
  refine st_top hl ?_
  refine st_c rX8_type_22 ?_
  first | refine st_icmp_neN rX8_type_25 (by omega) (by omega) (fun _ => ?_) (fun h => absurd h (by first | decide | omega | (simp; done) | simp_all)) | refine st_icmp_ne rX8_type_25 (fun _ => ?_) (fun h => absurd h (by first | decide | omega | (simp; done) | simp_all))
  refine st_aload rX8_type_31 rfl ?_
  refine st_getR rX8_type_32 (by first | assumption | decide | exact ⟨by decide, rfl, by decide⟩) (by first | rfl | assumption) rfl ?_
  refine st_aload rX8_type_35 rfl ?_
  refine st_getI rX8_type_36 (by first | assumption | decide | exact ⟨by decide, rfl, by decide⟩) rfl ?_
  refine st_top hl ?_
  refine st_iload rX8_type_39 rfl ?_
  refine st_iastN rX8_type_40 (by first | assumption | decide | exact ⟨by decide, rfl, by decide⟩) (by omega) ?_
  refine st_aload rX8_type_41 rfl ?_
  refine st_dup rX8_type_42 rfl ?_
  refine st_getI rX8_type_43 (by first | assumption | decide | exact ⟨by decide, rfl, by decide⟩) rfl ?_
  refine st_top (show up I1 104 _ 103 3 = nI L by rw [up_n (by decide)]; exact hl) ?_
  refine st_c rX8_type_46 ?_
  first | refine st_iaddN rX8_type_47 ?_ | refine st_iadd rX8_type_47 ?_
  refine st_putI rfl rX8_type_48 (by first | assumption | decide | exact ⟨by decide, rfl, by decide⟩) ?_
  refine st_aload rX8_type_51 rfl ?_
  refine st_getI rX8_type_52 (by first | assumption | decide | exact ⟨by decide, rfl, by decide⟩) rfl ?_
  refine st_top (show _ = nI (L + 1) by rw [up_s, va_up_s]) ?_
  refine st_iret rX8_type_55 rfl ?_
  obtain ⟨m1, m2, m3, m4, m5, m6, m7, m8, m9, m10, m11, m12, m13, m14, m15, m16⟩ := hM1
  have e := @aType_e A L x
  have f := @aType_f A L x
  generalize hI2 : up (up I1 104 (va_up (I1 104) L x)) 103 (va_up (up I1 104 (va_up (I1 104) L x) 103) 3 (nI (L + 1))) = I2
  have g : ∀ a, a ≠ 103 → a ≠ 104 → I2 a = I1 a := fun a h1 h2 => by rw [← hI2, up_n h1, up_n h2]
  have g4 : I2 104 = va_up (A 104) L x := by rw [← hI2, up_n (by decide), up_s, m1]
  have g3 : ∀ q, q ≠ 3 → I2 103 q = I1 103 q := fun q hq => by rw [← hI2, up_s, va_up_n hq, up_n (by decide)]
  have g5 : I2 103 3 = nI (L + 1) := by rw [← hI2, up_s, va_up_s]
  refine hk _ (fun a ha => by rw [g a (by omega) (by omega)]; exact e1 a (by omega)) ?_
  simp (disch := omega) only [InvM, e, g, f, g3, g4, g5, aType_3, aType_4]
  exact ⟨trivial, m2, m3, m4, m5, m6, m7, m8, m9, m10, m11, m12, trivial, m14, m15, m16⟩
abbrev aForget (A : Nat → Nat → Int32) : Nat → Nat → Int32 := up A 103 (va_up (A 103) 26 (nI 0))
theorem ok_forget (h : OkA A m no) : OkA (aForget A) m no := by
  obtain ⟨h1, h2, h3, h4, h5, h6, h7⟩ := h
  have e : ∀ a, a ≠ 103 → aForget A a = A a := fun a ha => up_n ha
  have f : ∀ q, q ≠ 26 → aForget A 103 q = A 103 q := fun q hq => by simp only [aForget]; rw [up_s, va_up_n hq]
  refine ⟨OkT_c h1 (by rw [e 105 (by omega)]) (by rw [e 105 (by omega)]) (fun a _ _ => e a (by omega)), OkL_c h2 (f _ (by omega)) (e _ (by omega)), ?_, ?_, OkU_c h5 (e _ (by omega)) (e _ (by omega)) (f _ (by omega)) (e _ (by omega)), OkI_c h6 (e _ (by omega)) (e _ (by omega)) (e _ (by omega)) (e _ (by omega)), ⟨0, by omega, by simp only [aForget]; rw [up_s, va_up_s], fun j hj => absurd hj (by omega)⟩⟩
  · rw [e 114 (by omega)]; exact OkN_c h3 (e _ (by omega)) (e _ (by omega))
  · rw [e 114 (by omega)]; exact h4
set_option maxHeartbeats 4000000 in
set_option maxRecDepth 100000 in
theorem s_findsEmpty {kk : Int32 → vS → Prop} (h : kk (I 97 2) (up I 97 (va_up (I 97) 2 (nI 0)), J, vRR ρ)) : V d 123 123 mX0_empty 0 [.ref 97, vJ] [] (I, J, vRR ρ) (Ki kk) := by
  refine st_aload rX0_empty_0 rfl ?_
  refine st_getI rX0_empty_1 (by first | assumption | decide | exact ⟨by decide, rfl, by decide⟩) rfl ?_
  refine st_istore1 rX0_empty_4 rfl ?_
  refine st_aload rX0_empty_5 rfl ?_
  refine st_c rX0_empty_6 ?_
  refine st_putI rfl rX0_empty_7 (by first | assumption | decide | exact ⟨by decide, rfl, by decide⟩) ?_
  refine st_iload rX0_empty_10 rfl ?_
  refine st_iret rX0_empty_11 rfl ?_
  exact h
set_option maxHeartbeats 4000000 in
set_option maxRecDepth 100000 in
theorem c_forget (hC : InvC I J ρ A T m no) (hk : ∀ I', (∀ a, 103 ≤ a → I' a = I a) → InvC I' J ρ (aForget A) T m no → k (A 103 26) (I', J, vRR ρ)) : V (d + 1) 123 123 mX7_forget 0 [.ref 0] [] (I, J, vRR ρ) (Ki k) := by
  refine st_aload rX7_forget_0 rfl ?_
  refine st_getR rX7_forget_1 (by first | assumption | decide | exact ⟨by decide, rfl, by decide⟩) (by first | rfl | assumption) rfl ?_
  refine cV1i rX7_forget_4 (by first | assumption | decide | exact ⟨by decide, rfl, by decide⟩) (s_findsEmpty ?_) rfl (by decide)
  refine st_iret rX7_forget_7 rfl ?_
  obtain ⟨hT, hL, hN, hU, hI, hF, hJ⟩ := hC
  rw [hF.1]
  have e : ∀ a, a ≠ 103 → aForget A a = A a := fun a ha => up_n ha
  have f : ∀ q, q ≠ 26 → aForget A 103 q = A 103 q := fun q hq => by simp only [aForget]; rw [up_s, va_up_n hq]
  have g : ∀ a, a ≠ 97 → up I 97 (va_up (I 97) 2 (nI 0)) a = I a := fun a ha => up_n ha
  have hρ : ρ ≤ 13 := by rcases hT.1 with h | h <;> omega
  refine hk _ (fun a ha => g a (by omega)) ⟨CT_c hT (fun a _ _ => g a (by omega)) (fun a _ _ => e a (by omega)), CL_c hL (by rw [g 1 (by omega)]) (g 2 (by omega)) (f _ (by omega)) (e _ (by omega)), ?_, CU_c hU (fun a ha => g a (by omega)) (f _ (by omega)) (e _ (by omega)), CI_c hI (fun a ha => g a (by omega)) (e _ (by omega)) (e _ (by omega)), ⟨?_, fun L hL1 hL2 j hj => ?_⟩, hJ⟩
  · rw [e 114 (by omega)]
    exact HV_cong hN (fun a _ _ => g a (by omega))
  · simp only [aForget]; rw [up_s, up_s, va_up_s, va_up_s]
  · simp only [aForget] at hL2
    rw [up_s, va_up_s] at hL2
    have := (nI_eq (by omega) (by omega)).mp hL2
    omega
set_option maxHeartbeats 4000000 in
set_option maxRecDepth 100000 in
theorem m_forget (hM : InvM I J A T) (hk : ∀ I', (∀ a, a < 103 ∨ 123 ≤ a → I' a = I a) → InvM I' J (aForget A) T → k (A 103 26) (I', J, vRR ρ)) : V d 123 123 mX8_forget 0 [.ref 103, vJ] [] (I, J, vRR ρ) (Ki k) := by
  refine s_thr rX8_forget_0 rX8_forget_1 rX8_forget_2 hM (fun I1 e1 e2 hM1 => ?_)
  refine st_aload rX8_forget_5 rfl ?_
  refine st_getI rX8_forget_6 (by first | assumption | decide | exact ⟨by decide, rfl, by decide⟩) rfl ?_
  refine st_top hM1.2.2.2.2.2.2.2.2.2.2.2.2.2.2.1 ?_
  refine st_istore1 rX8_forget_9 rfl ?_
  refine st_aload rX8_forget_10 rfl ?_
  refine st_c rX8_forget_11 ?_
  refine st_putI rfl rX8_forget_12 (by first | assumption | decide | exact ⟨by decide, rfl, by decide⟩) ?_
  refine st_iload rX8_forget_15 rfl ?_
  refine st_iret rX8_forget_16 rfl ?_
  obtain ⟨m1, m2, m3, m4, m5, m6, m7, m8, m9, m10, m11, m12, m13, m14, m15, m16⟩ := hM1
  have e : ∀ a, a ≠ 103 → aForget A a = A a := fun a ha => up_n ha
  have f : ∀ q, q ≠ 26 → aForget A 103 q = A 103 q := fun q hq => by simp only [aForget]; rw [up_s, va_up_n hq]
  have g : ∀ a, a ≠ 103 → up I1 103 (va_up (I1 103) 26 (nI 0)) a = I1 a := fun a ha => up_n ha
  have g3 : ∀ q, q ≠ 26 → up I1 103 (va_up (I1 103) 26 (nI 0)) 103 q = I1 103 q := fun q hq => by rw [up_s, va_up_n hq]
  refine hk _ (fun a ha => by rw [g a (by omega)]; exact e1 a (by omega)) ?_
  simp (disch := omega) only [InvM, e, g, f, g3]
  exact ⟨m1, m2, m3, m4, m5, m6, m7, m8, m9, m10, m11, m12, m13, m14, by simp only [aForget]; rw [up_s, up_s, va_up_s, va_up_s], m16⟩
end P15
