/-! ===== trace, clear, type, forget, found ===== -/
theorem isT_f {m : Nat} {x : Int32} (h : isT m x = false) : x.toInt < 0 ∨ (m : Int) ≤ x.toInt := by
  simp only [isT, Bool.and_eq_false_iff, decide_eq_false_iff_not] at h
  omega
section P14
variable {d : Nat} {I A : Nat → Nat → Int32} {J : Nat → Nat → Int64} {ρ m no : Nat} {T : Int64} {k : Int32 → vS → Prop} {kl : Int64 → vS → Prop}
set_option maxHeartbeats 4000000 in
set_option maxRecDepth 100000 in
theorem c_trace (hC : InvC I J ρ A T m no) (hk : kl T (I, J, vRR ρ)) : V d 123 123 mX7_trace 0 [.ref 0] [] (I, J, vRR ρ) (Kl kl) := by
  refine st_aload rX7_trace_0 rfl ?_
  refine st_getL rX7_trace_1 (by first | assumption | decide | exact ⟨by decide, rfl, by decide⟩) rfl ?_
  refine st_topl hC.2.2.2.2.2.2 ?_
  refine st_lret rX7_trace_4 rfl ?_
  exact hk
set_option maxHeartbeats 4000000 in
set_option maxRecDepth 100000 in
theorem m_trace (hM : InvM I J A T) (hk : ∀ I', (∀ a, a ≠ 103 → I' a = I a) → InvM I' J A T → kl T (I', J, vRR ρ)) : V d 123 123 mX8_trace 0 [.ref 103] [] (I, J, vRR ρ) (Kl kl) := by
  refine s_thr rX8_trace_0 rX8_trace_1 rX8_trace_2 hM (fun I1 e1 e2 hM1 => ?_)
  refine st_aload rX8_trace_5 rfl ?_
  refine st_getL rX8_trace_6 (by first | assumption | decide | exact ⟨by decide, rfl, by decide⟩) rfl ?_
  refine st_topl hM1.2.2.2.2.2.2.2.2.2.2.2.2.2.2.2 ?_
  refine st_lret rX8_trace_9 rfl ?_
  exact hk I1 e1 hM1
abbrev aClear (A : Nat → Nat → Int32) : Nat → Nat → Int32 := up A 103 (va_up (A 103) 3 (nI 0))
theorem ok_clear (h : OkA A m no) : OkA (aClear A) m no := by
  obtain ⟨h1, h2, h3, h4, h5, h6, h7⟩ := h
  have e : ∀ a, a ≠ 103 → aClear A a = A a := fun a ha => up_n ha
  have f : ∀ q, q ≠ 3 → aClear A 103 q = A 103 q := fun q hq => by simp only [aClear]; rw [up_s, va_up_n hq]
  refine ⟨OkT_c h1 (by rw [e 105 (by omega)]) (by rw [e 105 (by omega)]) (fun a _ _ => e a (by omega)), ⟨0, by omega, by simp only [aClear]; rw [up_s, va_up_s], fun j hj => absurd hj (by omega)⟩, ?_, ?_, OkU_c h5 (e _ (by omega)) (e _ (by omega)) (f _ (by omega)) (e _ (by omega)), OkI_c h6 (e _ (by omega)) (e _ (by omega)) (e _ (by omega)) (e _ (by omega)), OkF_c h7 (f _ (by omega)) (e _ (by omega)) (e _ (by omega))⟩
  · rw [e 114 (by omega)]; exact OkN_c h3 (e _ (by omega)) (e _ (by omega))
  · rw [e 114 (by omega)]; exact h4
set_option maxHeartbeats 4000000 in
set_option maxRecDepth 100000 in
theorem s_textEmpty {kk : Int32 → vS → Prop} (h : kk (I 1 1) (up I 1 (va_up (I 1) 1 (nI 0)), J, vRR ρ)) : V d 123 123 mX5_empty 0 [.ref 1, vJ] [] (I, J, vRR ρ) (Ki kk) := by
  refine st_aload rX5_empty_0 rfl ?_
  refine st_getI rX5_empty_1 (by first | assumption | decide | exact ⟨by decide, rfl, by decide⟩) rfl ?_
  refine st_istore1 rX5_empty_4 rfl ?_
  refine st_aload rX5_empty_5 rfl ?_
  refine st_c rX5_empty_6 ?_
  refine st_putI rfl rX5_empty_7 (by first | assumption | decide | exact ⟨by decide, rfl, by decide⟩) ?_
  refine st_iload rX5_empty_10 rfl ?_
  refine st_iret rX5_empty_11 rfl ?_
  exact h
set_option maxHeartbeats 4000000 in
set_option maxRecDepth 100000 in
theorem c_clear (hC : InvC I J ρ A T m no) (hk : ∀ I', (∀ a, 103 ≤ a → I' a = I a) → InvC I' J ρ (aClear A) T m no → k (A 103 3) (I', J, vRR ρ)) : V (d + 1) 123 123 mX7_clear 0 [.ref 0] [] (I, J, vRR ρ) (Ki k) := by
  refine st_aload rX7_clear_0 rfl ?_
  refine st_getR rX7_clear_1 (by first | assumption | decide | exact ⟨by decide, rfl, by decide⟩) (by first | rfl | assumption) rfl ?_
  refine cV1i rX7_clear_4 (by first | assumption | decide | exact ⟨by decide, rfl, by decide⟩) (s_textEmpty ?_) rfl (by decide)
  refine st_iret rX7_clear_7 rfl ?_
  obtain ⟨hT, hL, hN, hU, hI, hF, hJ⟩ := hC
  rw [hL.1]
  have e : ∀ a, a ≠ 103 → aClear A a = A a := fun a ha => up_n ha
  have f : ∀ q, q ≠ 3 → aClear A 103 q = A 103 q := fun q hq => by simp only [aClear]; rw [up_s, va_up_n hq]
  have g : ∀ a, a ≠ 1 → up I 1 (va_up (I 1) 1 (nI 0)) a = I a := fun a ha => up_n ha
  have hρ : 2 ≤ ρ := by rcases hT.1 with h | h <;> omega
  refine hk _ (fun a ha => g a (by omega)) ⟨CT_c hT (fun a _ _ => g a (by omega)) (fun a _ _ => e a (by omega)), ⟨?_, fun L hL1 hL2 j hj => ?_⟩, ?_, CU_c hU (fun a ha => g a (by omega)) (f _ (by omega)) (e _ (by omega)), CI_c hI (fun a ha => g a (by omega)) (e _ (by omega)) (e _ (by omega)), CF_c hF (fun a h1 h2 => g a (by omega)) (f _ (by omega)) (e _ (by omega)) (e _ (by omega)), hJ⟩
  · simp only [aClear]; rw [up_s, up_s, va_up_s, va_up_s]
  · simp only [aClear] at hL1
    rw [up_s, va_up_s] at hL1
    have := (nI_eq (by omega) (by omega)).mp hL1
    omega
  · rw [e 114 (by omega)]
    exact HV_cong hN (fun a _ _ => g a (by omega))
set_option maxHeartbeats 4000000 in
set_option maxRecDepth 100000 in
theorem m_clear (hM : InvM I J A T) (hk : ∀ I', (∀ a, a < 103 ∨ 123 ≤ a → I' a = I a) → InvM I' J (aClear A) T → k (A 103 3) (I', J, vRR ρ)) : V d 123 123 mX8_clear 0 [.ref 103, vJ] [] (I, J, vRR ρ) (Ki k) := by
  refine s_thr rX8_clear_0 rX8_clear_1 rX8_clear_2 hM (fun I1 e1 e2 hM1 => ?_)
  refine st_aload rX8_clear_5 rfl ?_
  refine st_getI rX8_clear_6 (by first | assumption | decide | exact ⟨by decide, rfl, by decide⟩) rfl ?_
  refine st_top hM1.2.2.2.2.2.2.2.2.2.2.2.2.1 ?_
  refine st_istore1 rX8_clear_9 rfl ?_
  refine st_aload rX8_clear_10 rfl ?_
  refine st_c rX8_clear_11 ?_
  refine st_putI rfl rX8_clear_12 (by first | assumption | decide | exact ⟨by decide, rfl, by decide⟩) ?_
  refine st_iload rX8_clear_15 rfl ?_
  refine st_iret rX8_clear_16 rfl ?_
  obtain ⟨m1, m2, m3, m4, m5, m6, m7, m8, m9, m10, m11, m12, m13, m14, m15, m16⟩ := hM1
  have e : ∀ a, a ≠ 103 → aClear A a = A a := fun a ha => up_n ha
  have f : ∀ q, q ≠ 3 → aClear A 103 q = A 103 q := fun q hq => by simp only [aClear]; rw [up_s, va_up_n hq]
  have g : ∀ a, a ≠ 103 → up I1 103 (va_up (I1 103) 3 (nI 0)) a = I1 a := fun a ha => up_n ha
  have g3 : ∀ q, q ≠ 3 → up I1 103 (va_up (I1 103) 3 (nI 0)) 103 q = I1 103 q := fun q hq => by rw [up_s, va_up_n hq]
  refine hk _ (fun a ha => by rw [g a (by omega)]; exact e1 a (by omega)) ?_
  simp (disch := omega) only [InvM, e, g, f, g3]
  exact ⟨m1, m2, m3, m4, m5, m6, m7, m8, m9, m10, m11, m12, by simp only [aClear]; rw [up_s, up_s, va_up_s, va_up_s], m14, m15, m16⟩
end P14
