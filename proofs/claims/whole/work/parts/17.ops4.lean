/-! ===== found, count, crossed, oaths ===== -/
section P17
variable {d : Nat} {I A : Nat → Nat → Int32} {J : Nat → Nat → Int64} {ρ m no : Nat} {T : Int64} {k : Int32 → vS → Prop} {kl : Int64 → vS → Prop} {kv : vS → Prop}
abbrev aFound (A : Nat → Nat → Int32) (f : Nat) (b t : Int32) : Nat → Nat → Int32 := up (up (up A 119 (va_up (A 119) f b)) 120 (va_up (A 120) f t)) 103 (va_up (A 103) 26 (nI (f + 1)))
theorem aFound_e {f : Nat} {b t : Int32} : ∀ a, a ≠ 103 → a ≠ 119 → a ≠ 120 → aFound A f b t a = A a := fun a h1 h2 h3 => by simp only [aFound]; rw [up_n h1, up_n h3, up_n h2]
theorem aFound_f {f : Nat} {b t : Int32} : ∀ q, q ≠ 26 → aFound A f b t 103 q = A 103 q := fun q hq => by simp only [aFound]; rw [up_s, va_up_n hq]
theorem aFound_6 {f : Nat} {b t : Int32} : aFound A f b t 103 26 = nI (f + 1) := by simp only [aFound]; rw [up_s, va_up_s]
theorem aFound_9 {f : Nat} {b t : Int32} : aFound A f b t 119 = va_up (A 119) f b := by simp only [aFound]; rw [up_n (by decide), up_n (by decide), up_s]
theorem aFound_0 {f : Nat} {b t : Int32} : aFound A f b t 120 = va_up (A 120) f t := by simp only [aFound]; rw [up_n (by decide), up_s]
theorem ok_found {f b t : Nat} (h : OkA A m no) (hf : A 103 26 = nI f) (hf5 : f < 5) (hb : b < m) (ht : t < m) : OkA (aFound A f (nI b) (nI t)) m no := by
  obtain ⟨h1, h2, h3, h4, h5, h6, ⟨f', l1, l2, l3⟩⟩ := h
  have hLL : f' = f := (nI_eq (by omega) (by omega)).mp (l2.symm.trans hf)
  subst hLL
  have e := @aFound_e A f' (nI b) (nI t)
  have f := @aFound_f A f' (nI b) (nI t)
  refine ⟨OkT_c h1 (by rw [e 105 (by omega) (by omega) (by omega)]) (by rw [e 105 (by omega) (by omega) (by omega)]) (fun a _ _ => e a (by omega) (by omega) (by omega)), OkL_c h2 (f _ (by omega)) (e _ (by omega) (by omega) (by omega)), ?_, ?_, OkU_c h5 (e _ (by omega) (by omega) (by omega)) (e _ (by omega) (by omega) (by omega)) (f _ (by omega)) (e _ (by omega) (by omega) (by omega)), OkI_c h6 (e _ (by omega) (by omega) (by omega)) (e _ (by omega) (by omega) (by omega)) (e _ (by omega) (by omega) (by omega)) (e _ (by omega) (by omega) (by omega)), ⟨f' + 1, by omega, aFound_6, fun j hj => ?_⟩⟩
  · rw [e 114 (by omega) (by omega) (by omega)]; exact OkN_c h3 (e _ (by omega) (by omega) (by omega)) (e _ (by omega) (by omega) (by omega))
  · rw [e 114 (by omega) (by omega) (by omega)]; exact h4
  · rw [aFound_9, aFound_0]
    by_cases hj2 : j = f'
    · subst hj2; exact ⟨⟨b, hb, va_up_s⟩, ⟨t, ht, va_up_s⟩⟩
    · rw [va_up_n hj2, va_up_n hj2]; exact l3 j (by omega)
set_option maxHeartbeats 4000000 in
set_option maxRecDepth 100000 in
theorem s_findsApp {f : Nat} {b t : Int32} {kk : Int32 → vS → Prop} (hf : I 97 2 = nI f) (hf5 : f < 5) (h : ∀ I', (∀ a, a < 97 ∨ 99 < a → I' a = I a) → I' 98 = va_up (I 98) f b → I' 99 = va_up (I 99) f t → I' 97 2 = nI (f + 1) → kk (nI 1) (I', J, vRR ρ)) : V (d + 1) 123 123 mX0_append 0 [.ref 97, .int b, .int t] [] (I, J, vRR ρ) (Ki kk) := by
  refine st_aload rX0_append_0 rfl ?_
  refine st_getI rX0_append_1 (by first | assumption | decide | exact ⟨by decide, rfl, by decide⟩) rfl ?_
  refine st_top hf ?_
  refine st_c rX0_append_4 ?_
  first | refine st_icmp_ltN rX0_append_5 (by omega) (by omega) (fun _ => ?_) (fun h => absurd h (by first | decide | omega | (simp; done) | simp_all)) | refine st_icmp_lt rX0_append_5 (fun _ => ?_) (fun h => absurd h (by first | decide | omega | (simp; done) | simp_all))
  refine st_aload rX0_append_10 rfl ?_
  refine st_getR rX0_append_11 (by first | assumption | decide | exact ⟨by decide, rfl, by decide⟩) (by first | rfl | assumption) rfl ?_
  refine st_aload rX0_append_14 rfl ?_
  refine st_getI rX0_append_15 (by first | assumption | decide | exact ⟨by decide, rfl, by decide⟩) rfl ?_
  refine st_top hf ?_
  refine st_iload rX0_append_18 rfl ?_
  refine cS3v rX0_append_19 (s_put (by first | assumption | decide | exact ⟨by decide, rfl, by decide⟩) (by omega) ?_) rfl
  refine st_aload rX0_append_22 rfl ?_
  refine st_getR rX0_append_23 (by first | assumption | decide | exact ⟨by decide, rfl, by decide⟩) (by first | rfl | assumption) rfl ?_
  refine st_aload rX0_append_26 rfl ?_
  refine st_getI rX0_append_27 (by first | assumption | decide | exact ⟨by decide, rfl, by decide⟩) rfl ?_
  refine st_top (show up I 98 _ 97 2 = nI f by rw [up_n (by decide)]; exact hf) ?_
  refine st_iload rX0_append_30 rfl ?_
  refine cS3v rX0_append_31 (s_put (by first | assumption | decide | exact ⟨by decide, rfl, by decide⟩) (by omega) ?_) rfl
  refine st_aload rX0_append_34 rfl ?_
  refine st_dup rX0_append_35 rfl ?_
  refine st_getI rX0_append_36 (by first | assumption | decide | exact ⟨by decide, rfl, by decide⟩) rfl ?_
  refine st_top (show _ = nI f by rw [up_n (by decide), up_n (by decide)]; exact hf) ?_
  refine st_c rX0_append_39 ?_
  first | refine st_iaddN rX0_append_40 ?_ | refine st_iadd rX0_append_40 ?_
  refine st_putI rfl rX0_append_41 (by first | assumption | decide | exact ⟨by decide, rfl, by decide⟩) ?_
  refine st_c rX0_append_44 ?_
  refine st_zret rX0_append_45 rfl (by first | rfl | exact vb_nar _) ?_
  refine h _ (fun a ha => by rw [up_n (by omega), up_n (by omega), up_n (by omega)]) (by rw [up_n (by decide), up_n (by decide), up_s]) (by rw [up_n (by decide), up_s, up_n (by decide)]) (by rw [up_s, va_up_s])
set_option maxHeartbeats 4000000 in
set_option maxRecDepth 100000 in
theorem s_findsFull {b t : Int32} {kk : Int32 → vS → Prop} (hf : I 97 2 = nI 5) (h : kk (nI 0) (I, J, vRR ρ)) : V d 123 123 mX0_append 0 [.ref 97, .int b, .int t] [] (I, J, vRR ρ) (Ki kk) := by
  refine st_aload rX0_append_0 rfl ?_
  refine st_getI rX0_append_1 (by first | assumption | decide | exact ⟨by decide, rfl, by decide⟩) rfl ?_
  refine st_top hf ?_
  refine st_c rX0_append_4 ?_
  first | refine st_icmp_ltN rX0_append_5 (by omega) (by omega) (fun h => absurd h (by first | decide | omega | (simp; done) | simp_all)) (fun _ => ?_) | refine st_icmp_lt rX0_append_5 (fun h => absurd h (by first | decide | omega | (simp; done) | simp_all)) (fun _ => ?_)
  refine st_c rX0_append_8 ?_
  refine st_zret rX0_append_9 rfl (by first | rfl | exact vb_nar _) ?_
  exact h
set_option maxHeartbeats 4000000 in
set_option maxRecDepth 100000 in
theorem c_foundFull {b t : Nat} (hC : InvC I J ρ A T m no) (hO : OkA A m no) (hb : b < m) (ht : t < m) (hf : A 103 26 = nI 5) (hk : k (-3) (I, J, vRR ρ)) : V (d + 2) 123 123 mX7_found 0 [.ref 0, .int (nI b), .int (nI t)] [] (I, J, vRR ρ) (Ki k) := by
  obtain ⟨ht0, ht1, ht2, ht3, ht4, ht5, ht6, ht7, ht8, ht9, ht10⟩ := id hC.1
  obtain ⟨hto, o1, o2, o3, o4, o5, o6, o7, o8⟩ := toldF ht0
  have hm6 : m ≤ 6 := hO.1.2.2.1
  have hno6 : no ≤ 6 := hO.1.2.2.2.1
  refine st_aload rX7_found_0 rfl ?_
  refine st_getR rX7_found_1 (by first | assumption | decide | exact ⟨by decide, rfl, by decide⟩) (by first | rfl | assumption) rfl ?_
  refine st_iload rX7_found_4 rfl ?_
  refine cV2i rX7_found_5 (by first | assumption | decide | exact ⟨by decide, rfl, by decide⟩) (s_hasTown ht0 ht1 hm6 ?_) rfl (by decide)
  rw [isT_n hb (by omega)]
  first | refine st_if_eqN rX7_found_8 (by omega) (fun h => absurd h (by first | decide | omega | (simp; done) | simp_all)) (fun _ => ?_) | refine st_if_eq rX7_found_8 (fun h => absurd h (by first | decide | omega | (simp; done) | simp_all)) (fun _ => ?_)
  refine st_aload rX7_found_11 rfl ?_
  refine st_getR rX7_found_12 (by first | assumption | decide | exact ⟨by decide, rfl, by decide⟩) (by first | rfl | assumption) rfl ?_
  refine st_iload rX7_found_15 rfl ?_
  refine cV2i rX7_found_16 (by first | assumption | decide | exact ⟨by decide, rfl, by decide⟩) (s_hasTown ht0 ht1 hm6 ?_) rfl (by decide)
  rw [isT_n ht (by omega)]
  first | refine st_if_neN rX7_found_19 (by omega) (fun _ => ?_) (fun h => absurd h (by first | decide | omega | (simp; done) | simp_all)) | refine st_if_ne rX7_found_19 (fun _ => ?_) (fun h => absurd h (by first | decide | omega | (simp; done) | simp_all))
  refine st_aload rX7_found_24 rfl ?_
  refine st_getR rX7_found_25 (by first | assumption | decide | exact ⟨by decide, rfl, by decide⟩) (by first | rfl | assumption) rfl ?_
  refine st_iload rX7_found_28 rfl ?_
  refine st_iload rX7_found_29 rfl ?_
  refine cV3i rX7_found_30 (by first | assumption | decide | exact ⟨by decide, rfl, by decide⟩) (s_findsFull (hC.2.2.2.2.2.1.1.trans hf) ?_) rfl (by decide)
  first | refine st_if_eqN rX7_found_33 (by omega) (fun _ => ?_) (fun h => absurd h (by first | decide | omega | (simp; done) | simp_all)) | refine st_if_eq rX7_found_33 (fun _ => ?_) (fun h => absurd h (by first | decide | omega | (simp; done) | simp_all))
  refine st_c rX7_found_46 ?_
  refine st_iret rX7_found_48 rfl ?_
  exact hk
set_option maxHeartbeats 4000000 in
set_option maxRecDepth 100000 in
theorem m_foundFull {b t : Nat} (hM : InvM I J A T) (hO : OkA A m no) (hb : b < m) (ht : t < m) (hf : A 103 26 = nI 5) (hk : ∀ I', (∀ a, a < 103 ∨ 123 ≤ a → I' a = I a) → InvM I' J A T → k (-3) (I', J, vRR ρ)) : V (d + 2) 123 123 mX8_found 0 [.ref 103, .int (nI b), .int (nI t)] [] (I, J, vRR ρ) (Ki k) := by
  refine s_thr rX8_found_0 rX8_found_1 rX8_found_2 hM (fun I1 e1 e2 hM1 => ?_)
  have hm6 : m ≤ 6 := hO.1.2.2.1
  have hno6 : no ≤ 6 := hO.1.2.2.2.1
  obtain ⟨m1, m2, m3, m4, m5, m6, m7, m8, m9, m10, m11, m12, m13, m14, m15, m16⟩ := id hM1
  have hmm : I1 105 0 = nI m := m11.trans hO.1.1
  have hmo : I1 105 1 = nI no := m12.trans hO.1.2.1
  refine st_aload rX8_found_5 rfl ?_
  refine st_iload rX8_found_6 rfl ?_
  refine cV2i rX8_found_7 (by first | assumption | decide | exact ⟨by decide, rfl, by decide⟩) (s_isTown hmm hm6 ?_) rfl (by decide)
  rw [isT_n hb (by omega)]
  first | refine st_if_eqN rX8_found_10 (by omega) (fun h => absurd h (by first | decide | omega | (simp; done) | simp_all)) (fun _ => ?_) | refine st_if_eq rX8_found_10 (fun h => absurd h (by first | decide | omega | (simp; done) | simp_all)) (fun _ => ?_)
  refine st_aload rX8_found_13 rfl ?_
  refine st_iload rX8_found_14 rfl ?_
  refine cV2i rX8_found_15 (by first | assumption | decide | exact ⟨by decide, rfl, by decide⟩) (s_isTown hmm hm6 ?_) rfl (by decide)
  rw [isT_n ht (by omega)]
  first | refine st_if_neN rX8_found_18 (by omega) (fun _ => ?_) (fun h => absurd h (by first | decide | omega | (simp; done) | simp_all)) | refine st_if_ne rX8_found_18 (fun _ => ?_) (fun h => absurd h (by first | decide | omega | (simp; done) | simp_all))
  refine st_aload rX8_found_23 rfl ?_
  refine st_getI rX8_found_24 (by first | assumption | decide | exact ⟨by decide, rfl, by decide⟩) rfl ?_
  refine st_top (m15.trans hf) ?_
  refine st_c rX8_found_27 ?_
  first | refine st_icmp_neN rX8_found_28 (by omega) (by omega) (fun h => absurd h (by first | decide | omega | (simp; done) | simp_all)) (fun _ => ?_) | refine st_icmp_ne rX8_found_28 (fun h => absurd h (by first | decide | omega | (simp; done) | simp_all)) (fun _ => ?_)
  refine st_c rX8_found_31 ?_
  refine st_iret rX8_found_33 rfl ?_
  exact hk I1 (fun a ha => e1 a (by omega)) hM1
set_option maxHeartbeats 4000000 in
set_option maxRecDepth 100000 in
theorem c_found {b t f : Nat} (hC : InvC I J ρ A T m no) (hO : OkA A m no) (hb : b < m) (ht : t < m) (hf : A 103 26 = nI f) (hf5 : f < 5) (hk : ∀ I', (∀ a, 103 ≤ a → I' a = I a) → InvC I' J ρ (aFound A f (nI b) (nI t)) T m no → k (nI (f + 1)) (I', J, vRR ρ)) : V (d + 2) 123 123 mX7_found 0 [.ref 0, .int (nI b), .int (nI t)] [] (I, J, vRR ρ) (Ki k) := by
  obtain ⟨ht0, ht1, ht2, ht3, ht4, ht5, ht6, ht7, ht8, ht9, ht10⟩ := id hC.1
  obtain ⟨hto, o1, o2, o3, o4, o5, o6, o7, o8⟩ := toldF ht0
  have hm6 : m ≤ 6 := hO.1.2.2.1
  have hno6 : no ≤ 6 := hO.1.2.2.2.1
  refine st_aload rX7_found_0 rfl ?_
  refine st_getR rX7_found_1 (by first | assumption | decide | exact ⟨by decide, rfl, by decide⟩) (by first | rfl | assumption) rfl ?_
  refine st_iload rX7_found_4 rfl ?_
  refine cV2i rX7_found_5 (by first | assumption | decide | exact ⟨by decide, rfl, by decide⟩) (s_hasTown ht0 ht1 hm6 ?_) rfl (by decide)
  rw [isT_n hb (by omega)]
  first | refine st_if_eqN rX7_found_8 (by omega) (fun h => absurd h (by first | decide | omega | (simp; done) | simp_all)) (fun _ => ?_) | refine st_if_eq rX7_found_8 (fun h => absurd h (by first | decide | omega | (simp; done) | simp_all)) (fun _ => ?_)
  refine st_aload rX7_found_11 rfl ?_
  refine st_getR rX7_found_12 (by first | assumption | decide | exact ⟨by decide, rfl, by decide⟩) (by first | rfl | assumption) rfl ?_
  refine st_iload rX7_found_15 rfl ?_
  refine cV2i rX7_found_16 (by first | assumption | decide | exact ⟨by decide, rfl, by decide⟩) (s_hasTown ht0 ht1 hm6 ?_) rfl (by decide)
  rw [isT_n ht (by omega)]
  first | refine st_if_neN rX7_found_19 (by omega) (fun _ => ?_) (fun h => absurd h (by first | decide | omega | (simp; done) | simp_all)) | refine st_if_ne rX7_found_19 (fun _ => ?_) (fun h => absurd h (by first | decide | omega | (simp; done) | simp_all))
  refine st_aload rX7_found_24 rfl ?_
  refine st_getR rX7_found_25 (by first | assumption | decide | exact ⟨by decide, rfl, by decide⟩) (by first | rfl | assumption) rfl ?_
  refine st_iload rX7_found_28 rfl ?_
  refine st_iload rX7_found_29 rfl ?_
  refine cV3i rX7_found_30 (by first | assumption | decide | exact ⟨by decide, rfl, by decide⟩) (s_findsApp (hC.2.2.2.2.2.1.1.trans hf) hf5 (fun I1 g g98 g99 g97 => ?_)) rfl (by decide)
  first | refine st_if_eqN rX7_found_33 (by omega) (fun h => absurd h (by first | decide | omega | (simp; done) | simp_all)) (fun _ => ?_) | refine st_if_eq rX7_found_33 (fun h => absurd h (by first | decide | omega | (simp; done) | simp_all)) (fun _ => ?_)
  refine st_aload rX7_found_36 rfl ?_
  refine st_getR rX7_found_37 (by first | assumption | decide | exact ⟨by decide, rfl, by decide⟩) (by first | rfl | assumption) rfl ?_
  refine st_getI rX7_found_40 (by first | assumption | decide | exact ⟨by decide, rfl, by decide⟩) rfl ?_
  refine st_top g97 ?_
  refine st_goto rX7_found_43 ?_
  refine st_iret rX7_found_48 rfl ?_
  obtain ⟨hT, hL, hN, hU, hI, hF, hJ⟩ := hC
  have e := @aFound_e A f (nI b) (nI t)
  have f' := @aFound_f A f (nI b) (nI t)
  have hρ : ρ ≤ 13 := by rcases hT.1 with h | h <;> omega
  refine hk _ (fun a ha => g a (by omega)) ⟨CT_c hT (fun a _ _ => g a (by omega)) (fun a _ _ => e a (by omega) (by omega) (by omega)), CL_c hL (by rw [g 1 (by omega)]) (g 2 (by omega)) (f' _ (by omega)) (e _ (by omega) (by omega) (by omega)), ?_, CU_c hU (fun a ha => g a (by omega)) (f' _ (by omega)) (e _ (by omega) (by omega) (by omega)), CI_c hI (fun a ha => g a (by omega)) (e _ (by omega) (by omega) (by omega)) (e _ (by omega) (by omega) (by omega)), ⟨?_, fun L hL1 hL2 j hj => ?_⟩, hJ⟩
  · rw [e 114 (by omega) (by omega) (by omega)]
    exact HV_cong hN (fun a _ _ => g a (by omega))
  · rw [aFound_6]; exact g97
  · rw [aFound_6] at hL2
    have := (nI_eq (by omega) (by omega)).mp hL2
    rw [aFound_9, aFound_0, g98, g99]
    by_cases hj2 : j = f
    · subst hj2; simp only [va_up_s]; exact ⟨trivial, trivial⟩
    · simp only [va_up_n hj2]
      exact hF.2 f (by omega) hf j (by omega)
set_option maxHeartbeats 4000000 in
set_option maxRecDepth 100000 in
theorem m_found {b t f : Nat} (hM : InvM I J A T) (hO : OkA A m no) (hb : b < m) (ht : t < m) (hf : A 103 26 = nI f) (hf5 : f < 5) (hk : ∀ I', (∀ a, a < 103 ∨ 123 ≤ a → I' a = I a) → InvM I' J (aFound A f (nI b) (nI t)) T → k (nI (f + 1)) (I', J, vRR ρ)) : V (d + 2) 123 123 mX8_found 0 [.ref 103, .int (nI b), .int (nI t)] [] (I, J, vRR ρ) (Ki k) := by
  refine s_thr rX8_found_0 rX8_found_1 rX8_found_2 hM (fun I1 e1 e2 hM1 => ?_)
  have hm6 : m ≤ 6 := hO.1.2.2.1
  have hno6 : no ≤ 6 := hO.1.2.2.2.1
  obtain ⟨m1, m2, m3, m4, m5, m6, m7, m8, m9, m10, m11, m12, m13, m14, m15, m16⟩ := id hM1
  have hmm : I1 105 0 = nI m := m11.trans hO.1.1
  have hmo : I1 105 1 = nI no := m12.trans hO.1.2.1
  have hl : I1 103 26 = nI f := m15.trans hf
  refine st_aload rX8_found_5 rfl ?_
  refine st_iload rX8_found_6 rfl ?_
  refine cV2i rX8_found_7 (by first | assumption | decide | exact ⟨by decide, rfl, by decide⟩) (s_isTown hmm hm6 ?_) rfl (by decide)
  rw [isT_n hb (by omega)]
  first | refine st_if_eqN rX8_found_10 (by omega) (fun h => absurd h (by first | decide | omega | (simp; done) | simp_all)) (fun _ => ?_) | refine st_if_eq rX8_found_10 (fun h => absurd h (by first | decide | omega | (simp; done) | simp_all)) (fun _ => ?_)
  refine st_aload rX8_found_13 rfl ?_
  refine st_iload rX8_found_14 rfl ?_
  refine cV2i rX8_found_15 (by first | assumption | decide | exact ⟨by decide, rfl, by decide⟩) (s_isTown hmm hm6 ?_) rfl (by decide)
  rw [isT_n ht (by omega)]
  first | refine st_if_neN rX8_found_18 (by omega) (fun _ => ?_) (fun h => absurd h (by first | decide | omega | (simp; done) | simp_all)) | refine st_if_ne rX8_found_18 (fun _ => ?_) (fun h => absurd h (by first | decide | omega | (simp; done) | simp_all))
  refine st_aload rX8_found_23 rfl ?_
  refine st_getI rX8_found_24 (by first | assumption | decide | exact ⟨by decide, rfl, by decide⟩) rfl ?_
  refine st_top hl ?_
  refine st_c rX8_found_27 ?_
  first | refine st_icmp_neN rX8_found_28 (by omega) (by omega) (fun _ => ?_) (fun h => absurd h (by first | decide | omega | (simp; done) | simp_all)) | refine st_icmp_ne rX8_found_28 (fun _ => ?_) (fun h => absurd h (by first | decide | omega | (simp; done) | simp_all))
  refine st_aload rX8_found_34 rfl ?_
  refine st_getR rX8_found_35 (by first | assumption | decide | exact ⟨by decide, rfl, by decide⟩) (by first | rfl | assumption) rfl ?_
  refine st_aload rX8_found_38 rfl ?_
  refine st_getI rX8_found_39 (by first | assumption | decide | exact ⟨by decide, rfl, by decide⟩) rfl ?_
  refine st_top hl ?_
  refine st_iload rX8_found_42 rfl ?_
  refine st_iastN rX8_found_43 (by first | assumption | decide | exact ⟨by decide, rfl, by decide⟩) (by omega) ?_
  refine st_aload rX8_found_44 rfl ?_
  refine st_getR rX8_found_45 (by first | assumption | decide | exact ⟨by decide, rfl, by decide⟩) (by first | rfl | assumption) rfl ?_
  refine st_aload rX8_found_48 rfl ?_
  refine st_getI rX8_found_49 (by first | assumption | decide | exact ⟨by decide, rfl, by decide⟩) rfl ?_
  refine st_top (show _ = nI f by rw [up_n (by decide)]; exact hl) ?_
  refine st_iload rX8_found_52 rfl ?_
  refine st_iastN rX8_found_53 (by first | assumption | decide | exact ⟨by decide, rfl, by decide⟩) (by omega) ?_
  refine st_aload rX8_found_54 rfl ?_
  refine st_dup rX8_found_55 rfl ?_
  refine st_getI rX8_found_56 (by first | assumption | decide | exact ⟨by decide, rfl, by decide⟩) rfl ?_
  refine st_top (show _ = nI f by rw [up_n (by decide), up_n (by decide)]; exact hl) ?_
  refine st_c rX8_found_59 ?_
  first | refine st_iaddN rX8_found_60 ?_ | refine st_iadd rX8_found_60 ?_
  refine st_putI rfl rX8_found_61 (by first | assumption | decide | exact ⟨by decide, rfl, by decide⟩) ?_
  refine st_aload rX8_found_64 rfl ?_
  refine st_getI rX8_found_65 (by first | assumption | decide | exact ⟨by decide, rfl, by decide⟩) rfl ?_
  refine st_top (show _ = nI (f + 1) by rw [up_s, va_up_s]) ?_
  refine st_iret rX8_found_68 rfl ?_
  have e := @aFound_e A f (nI b) (nI t)
  have f' := @aFound_f A f (nI b) (nI t)
  generalize hI2 : up (up (up I1 119 (va_up (I1 119) f (nI b))) 120 _) 103 _ = I2
  have g : ∀ a, a ≠ 103 → a ≠ 119 → a ≠ 120 → I2 a = I1 a := fun a h1 h2 h3 => by rw [← hI2, up_n h1, up_n h3, up_n h2]
  have g9 : I2 119 = va_up (A 119) f (nI b) := by rw [← hI2, up_n (by decide), up_n (by decide), up_s, m7]
  have g0 : I2 120 = va_up (A 120) f (nI t) := by rw [← hI2, up_n (by decide), up_s, up_n (by decide), m8]
  have g3 : ∀ q, q ≠ 26 → I2 103 q = I1 103 q := fun q hq => by rw [← hI2, up_s, va_up_n hq, up_n (by decide), up_n (by decide)]
  have g5 : I2 103 26 = nI (f + 1) := by rw [← hI2, up_s, va_up_s]
  refine hk _ (fun a ha => by rw [g a (by omega) (by omega) (by omega)]; exact e1 a (by omega)) ?_
  simp (disch := omega) only [InvM, e, g, f', g3, g5, g9, g0, aFound_6, aFound_9, aFound_0]
  exact ⟨m1, m2, m3, m4, m5, m6, trivial, trivial, m9, m10, m11, m12, m13, m14, trivial, m16⟩
def countR (A : Nat → Nat → Int32) (m no q : Nat) : Int32 := if q = 0 then nI m else if q = 1 then nI (cntP (A 109) 36 / 2) else if q = 2 then nI no else if q = 3 then A 103 26 else A 103 3
set_option maxHeartbeats 4000000 in
set_option maxRecDepth 100000 in
theorem c_count {q : Nat} (hC : InvC I J ρ A T m no) (hO : OkA A m no) (hq : q < 5) (hk : k (countR A m no q) (I, J, vRR ρ)) : V d 123 123 mX7_count 0 [.ref 0, .int (nI q)] [] (I, J, vRR ρ) (Ki k) := by
  obtain ⟨ht0, ht1, ht2, ht3, ht4, ht5, ht6, ht7, ht8, ht9, ht10⟩ := id hC.1
  obtain ⟨hto, o1, o2, o3, o4, o5, o6, o7, o8⟩ := toldF ht0
  have hm6 : m ≤ 6 := hO.1.2.2.1
  have hno6 : no ≤ 6 := hO.1.2.2.2.1
  rcases (show q = 0 ∨ q = 1 ∨ q = 2 ∨ q = 3 ∨ q = 4 by omega) with rfl | rfl | rfl | rfl | rfl
  · 
    refine st_iload rX7_count_0 rfl ?_
    refine st_tabI rX7_count_1 0 (by decide) rfl ?_
    refine st_aload rX7_count_36 rfl ?_
    refine st_getR rX7_count_37 (by first | assumption | decide | exact ⟨by decide, rfl, by decide⟩) (by first | rfl | assumption) rfl ?_
    refine st_getI rX7_count_40 (by first | assumption | decide | exact ⟨by decide, rfl, by decide⟩) rfl ?_
    refine st_iret rX7_count_43 rfl ?_
    rw [ht1]; exact hk
  · 
    refine st_iload rX7_count_0 rfl ?_
    refine st_tabI rX7_count_1 1 (by decide) rfl ?_
    refine st_aload rX7_count_44 rfl ?_
    refine st_getR rX7_count_45 (by first | assumption | decide | exact ⟨by decide, rfl, by decide⟩) (by first | rfl | assumption) rfl ?_
    refine st_getI rX7_count_48 (by first | assumption | decide | exact ⟨by decide, rfl, by decide⟩) rfl ?_
    refine st_iret rX7_count_51 rfl ?_
    rw [ht2]; exact hk
  · 
    refine st_iload rX7_count_0 rfl ?_
    refine st_tabI rX7_count_1 2 (by decide) rfl ?_
    refine st_aload rX7_count_52 rfl ?_
    refine st_getR rX7_count_53 (by first | assumption | decide | exact ⟨by decide, rfl, by decide⟩) (by first | rfl | assumption) rfl ?_
    refine st_getI rX7_count_56 (by first | assumption | decide | exact ⟨by decide, rfl, by decide⟩) rfl ?_
    refine st_iret rX7_count_59 rfl ?_
    rw [ht3]; exact hk
  · 
    refine st_iload rX7_count_0 rfl ?_
    refine st_tabI rX7_count_1 3 (by decide) rfl ?_
    refine st_aload rX7_count_60 rfl ?_
    refine st_getR rX7_count_61 (by first | assumption | decide | exact ⟨by decide, rfl, by decide⟩) (by first | rfl | assumption) rfl ?_
    refine st_getI rX7_count_64 (by first | assumption | decide | exact ⟨by decide, rfl, by decide⟩) rfl ?_
    refine st_iret rX7_count_67 rfl ?_
    rw [hC.2.2.2.2.2.1.1]; exact hk
  · 
    refine st_iload rX7_count_0 rfl ?_
    refine st_tabI rX7_count_1 4 (by decide) rfl ?_
    refine st_aload rX7_count_68 rfl ?_
    refine st_getR rX7_count_69 (by first | assumption | decide | exact ⟨by decide, rfl, by decide⟩) (by first | rfl | assumption) rfl ?_
    refine st_getI rX7_count_72 (by first | assumption | decide | exact ⟨by decide, rfl, by decide⟩) rfl ?_
    refine st_iret rX7_count_75 rfl ?_
    rw [hC.2.1.1]; exact hk
set_option maxHeartbeats 4000000 in
set_option maxRecDepth 100000 in
theorem c_countBad {q : Int32} (hq : isT 5 q = false) (hk : k (-1) (I, J, vRR ρ)) : V d 123 123 mX7_count 0 [.ref 0, .int q] [] (I, J, vRR ρ) (Ki k) := by
  refine st_iload rX7_count_0 rfl ?_
  refine st_tabO rX7_count_1 (by have := isT_f hq; simpa using this) ?_
  refine st_c rX7_count_76 ?_
  refine st_iret rX7_count_77 rfl ?_
  exact hk
set_option maxHeartbeats 4000000 in
set_option maxRecDepth 100000 in
theorem s_roads {kk : Int32 → vS → Prop} (hM1 : ∀ q, q < 36 → I 109 q = A 109 q) (h : kk (nI (cntP (A 109) 36 / 2)) (I, J, vRR ρ)) : V d 123 123 mX8_roads 0 [.ref 103, vJ, vJ] [] (I, J, vRR ρ) (Ki kk) := by
  have hle : ∀ q, cntP (A 109) q ≤ q := by
    intro q
    induction q with
    | zero => exact Nat.le_refl _
    | succ q ih => simp only [cntP]; split <;> omega
  refine st_c rX8_roads_0 ?_
  refine st_istore1 rX8_roads_1 rfl ?_
  refine st_c rX8_roads_2 ?_
  refine st_istore2 rX8_roads_3 rfl ?_
  have key : ∀ (i q : Nat), q + i = 36 → V d 123 123 mX8_roads 4 [.ref 103, .int (nI (cntP (A 109) q)), .int (nI q)] [] (I, J, vRR ρ) (Ki kk) := by
    intro i
    induction i with
    | zero =>
      intro q hq
      have hq : q = 36 := by omega
      subst hq
      have := hle 36
      refine st_iload rX8_roads_4 rfl ?_
      refine st_c rX8_roads_5 ?_
      first | refine st_icmp_geN rX8_roads_7 (by omega) (by omega) (fun _ => ?_) (fun h => absurd h (by first | decide | omega | (simp; done) | simp_all)) | refine st_icmp_ge rX8_roads_7 (fun _ => ?_) (fun h => absurd h (by first | decide | omega | (simp; done) | simp_all))
      refine st_iload rX8_roads_33 rfl ?_
      refine st_c rX8_roads_34 ?_
      refine st_idivN rX8_roads_35 (by omega) (by omega) ?_
      refine st_iret rX8_roads_36 rfl ?_
      exact h
    | succ i ih =>
      intro q hq
      have hn := ih (q + 1) (by omega)
      refine st_iload rX8_roads_4 rfl ?_
      refine st_c rX8_roads_5 ?_
      first | refine st_icmp_geN rX8_roads_7 (by omega) (by omega) (fun h => absurd h (by first | decide | omega | (simp; done) | simp_all)) (fun _ => ?_) | refine st_icmp_ge rX8_roads_7 (fun h => absurd h (by first | decide | omega | (simp; done) | simp_all)) (fun _ => ?_)
      refine st_iload rX8_roads_10 rfl ?_
      refine st_aload rX8_roads_11 rfl ?_
      refine st_getR rX8_roads_12 (by first | assumption | decide | exact ⟨by decide, rfl, by decide⟩) (by first | rfl | assumption) rfl ?_
      refine st_iload rX8_roads_15 rfl ?_
      refine st_ialdN rX8_roads_16 (by first | assumption | decide | exact ⟨by decide, rfl, by decide⟩) (by omega) ?_
      refine st_top (hM1 q (by omega)) ?_
      first | refine st_if_leN rX8_roads_17 (by omega) (fun h17 => ?_) (fun h17 => ?_) | refine st_if_le rX8_roads_17 (fun h17 => ?_) (fun h17 => ?_)
      · refine st_c rX8_roads_24 ?_
        first | refine st_iaddN rX8_roads_25 ?_ | refine st_iadd rX8_roads_25 ?_
        refine st_istore1 rX8_roads_26 rfl ?_
        first | refine st_iincN2 rX8_roads_27 rfl ?_ | refine st_iinc2 rX8_roads_27 rfl ?_
        refine st_goto rX8_roads_30 ?_
        first | (rw [show cntP (A 109) (q + 1) = cntP (A 109) q + 1 by simp only [cntP]; rw [if_pos (Int32.not_le.mp h17)]] at hn; exact hn) | (rw [show cntP (A 109) (q + 1) = cntP (A 109) q + 0 by simp only [cntP]; rw [if_neg (Int32.not_lt.mpr h17)]] at hn; exact hn)
      · refine st_c rX8_roads_20 ?_
        refine st_goto rX8_roads_21 ?_
        first | refine st_iaddN rX8_roads_25 ?_ | refine st_iadd rX8_roads_25 ?_
        refine st_istore1 rX8_roads_26 rfl ?_
        first | refine st_iincN2 rX8_roads_27 rfl ?_ | refine st_iinc2 rX8_roads_27 rfl ?_
        refine st_goto rX8_roads_30 ?_
        first | (rw [show cntP (A 109) (q + 1) = cntP (A 109) q + 1 by simp only [cntP]; rw [if_pos (Int32.not_le.mp h17)]] at hn; exact hn) | (rw [show cntP (A 109) (q + 1) = cntP (A 109) q + 0 by simp only [cntP]; rw [if_neg (Int32.not_lt.mpr h17)]] at hn; exact hn)
  exact key 36 0 (by omega)
set_option maxHeartbeats 4000000 in
set_option maxRecDepth 100000 in
theorem m_count {q : Nat} (hM : InvM I J A T) (hO : OkA A m no) (hq : q < 5) (hk : ∀ I', (∀ a, a < 103 ∨ 123 ≤ a → I' a = I a) → InvM I' J A T → k (countR A m no q) (I', J, vRR ρ)) : V (d + 1) 123 123 mX8_count 0 [.ref 103, .int (nI q)] [] (I, J, vRR ρ) (Ki k) := by
  refine s_thr rX8_count_0 rX8_count_1 rX8_count_2 hM (fun I1 e1 e2 hM1 => ?_)
  have hm6 : m ≤ 6 := hO.1.2.2.1
  have hno6 : no ≤ 6 := hO.1.2.2.2.1
  obtain ⟨m1, m2, m3, m4, m5, m6, m7, m8, m9, m10, m11, m12, m13, m14, m15, m16⟩ := id hM1
  have hmm : I1 105 0 = nI m := m11.trans hO.1.1
  have hmo : I1 105 1 = nI no := m12.trans hO.1.2.1
  rcases (show q = 0 ∨ q = 1 ∨ q = 2 ∨ q = 3 ∨ q = 4 by omega) with rfl | rfl | rfl | rfl | rfl
  · 
    refine st_iload rX8_count_5 rfl ?_
    first | refine st_if_neN rX8_count_6 (by omega) (fun h => absurd h (by first | decide | omega | (simp; done) | simp_all)) (fun _ => ?_) | refine st_if_ne rX8_count_6 (fun h => absurd h (by first | decide | omega | (simp; done) | simp_all)) (fun _ => ?_)
    refine st_aload rX8_count_9 rfl ?_
    refine st_getR rX8_count_10 (by first | assumption | decide | exact ⟨by decide, rfl, by decide⟩) (by first | rfl | assumption) rfl ?_
    refine st_c rX8_count_13 ?_
    refine st_ialdN rX8_count_14 (by first | assumption | decide | exact ⟨by decide, rfl, by decide⟩) (by omega) ?_
    refine st_goto rX8_count_15 ?_
    refine st_iret rX8_count_69 rfl ?_
    rw [hmm]; exact hk I1 (fun a ha => e1 a (by omega)) hM1
  · 
    refine st_iload rX8_count_5 rfl ?_
    first | refine st_if_neN rX8_count_6 (by omega) (fun _ => ?_) (fun h => absurd h (by first | decide | omega | (simp; done) | simp_all)) | refine st_if_ne rX8_count_6 (fun _ => ?_) (fun h => absurd h (by first | decide | omega | (simp; done) | simp_all))
    refine st_iload rX8_count_18 rfl ?_
    refine st_c rX8_count_19 ?_
    first | refine st_icmp_neN rX8_count_20 (by omega) (by omega) (fun h => absurd h (by first | decide | omega | (simp; done) | simp_all)) (fun _ => ?_) | refine st_icmp_ne rX8_count_20 (fun h => absurd h (by first | decide | omega | (simp; done) | simp_all)) (fun _ => ?_)
    refine st_aload rX8_count_23 rfl ?_
    refine cV1i rX8_count_24 (by first | assumption | decide | exact ⟨by decide, rfl, by decide⟩) (s_roads m10 ?_) rfl (by decide)
    refine st_goto rX8_count_27 ?_
    refine st_iret rX8_count_69 rfl ?_
    skip; exact hk I1 (fun a ha => e1 a (by omega)) hM1
  · 
    refine st_iload rX8_count_5 rfl ?_
    first | refine st_if_neN rX8_count_6 (by omega) (fun _ => ?_) (fun h => absurd h (by first | decide | omega | (simp; done) | simp_all)) | refine st_if_ne rX8_count_6 (fun _ => ?_) (fun h => absurd h (by first | decide | omega | (simp; done) | simp_all))
    refine st_iload rX8_count_18 rfl ?_
    refine st_c rX8_count_19 ?_
    first | refine st_icmp_neN rX8_count_20 (by omega) (by omega) (fun _ => ?_) (fun h => absurd h (by first | decide | omega | (simp; done) | simp_all)) | refine st_icmp_ne rX8_count_20 (fun _ => ?_) (fun h => absurd h (by first | decide | omega | (simp; done) | simp_all))
    refine st_iload rX8_count_30 rfl ?_
    refine st_c rX8_count_31 ?_
    first | refine st_icmp_neN rX8_count_32 (by omega) (by omega) (fun h => absurd h (by first | decide | omega | (simp; done) | simp_all)) (fun _ => ?_) | refine st_icmp_ne rX8_count_32 (fun h => absurd h (by first | decide | omega | (simp; done) | simp_all)) (fun _ => ?_)
    refine st_aload rX8_count_35 rfl ?_
    refine st_getR rX8_count_36 (by first | assumption | decide | exact ⟨by decide, rfl, by decide⟩) (by first | rfl | assumption) rfl ?_
    refine st_c rX8_count_39 ?_
    refine st_ialdN rX8_count_40 (by first | assumption | decide | exact ⟨by decide, rfl, by decide⟩) (by omega) ?_
    refine st_goto rX8_count_41 ?_
    refine st_iret rX8_count_69 rfl ?_
    rw [hmo]; exact hk I1 (fun a ha => e1 a (by omega)) hM1
  · 
    refine st_iload rX8_count_5 rfl ?_
    first | refine st_if_neN rX8_count_6 (by omega) (fun _ => ?_) (fun h => absurd h (by first | decide | omega | (simp; done) | simp_all)) | refine st_if_ne rX8_count_6 (fun _ => ?_) (fun h => absurd h (by first | decide | omega | (simp; done) | simp_all))
    refine st_iload rX8_count_18 rfl ?_
    refine st_c rX8_count_19 ?_
    first | refine st_icmp_neN rX8_count_20 (by omega) (by omega) (fun _ => ?_) (fun h => absurd h (by first | decide | omega | (simp; done) | simp_all)) | refine st_icmp_ne rX8_count_20 (fun _ => ?_) (fun h => absurd h (by first | decide | omega | (simp; done) | simp_all))
    refine st_iload rX8_count_30 rfl ?_
    refine st_c rX8_count_31 ?_
    first | refine st_icmp_neN rX8_count_32 (by omega) (by omega) (fun _ => ?_) (fun h => absurd h (by first | decide | omega | (simp; done) | simp_all)) | refine st_icmp_ne rX8_count_32 (fun _ => ?_) (fun h => absurd h (by first | decide | omega | (simp; done) | simp_all))
    refine st_iload rX8_count_44 rfl ?_
    refine st_c rX8_count_45 ?_
    first | refine st_icmp_neN rX8_count_46 (by omega) (by omega) (fun h => absurd h (by first | decide | omega | (simp; done) | simp_all)) (fun _ => ?_) | refine st_icmp_ne rX8_count_46 (fun h => absurd h (by first | decide | omega | (simp; done) | simp_all)) (fun _ => ?_)
    refine st_aload rX8_count_49 rfl ?_
    refine st_getI rX8_count_50 (by first | assumption | decide | exact ⟨by decide, rfl, by decide⟩) rfl ?_
    refine st_goto rX8_count_53 ?_
    refine st_iret rX8_count_69 rfl ?_
    rw [m15]; exact hk I1 (fun a ha => e1 a (by omega)) hM1
  · 
    refine st_iload rX8_count_5 rfl ?_
    first | refine st_if_neN rX8_count_6 (by omega) (fun _ => ?_) (fun h => absurd h (by first | decide | omega | (simp; done) | simp_all)) | refine st_if_ne rX8_count_6 (fun _ => ?_) (fun h => absurd h (by first | decide | omega | (simp; done) | simp_all))
    refine st_iload rX8_count_18 rfl ?_
    refine st_c rX8_count_19 ?_
    first | refine st_icmp_neN rX8_count_20 (by omega) (by omega) (fun _ => ?_) (fun h => absurd h (by first | decide | omega | (simp; done) | simp_all)) | refine st_icmp_ne rX8_count_20 (fun _ => ?_) (fun h => absurd h (by first | decide | omega | (simp; done) | simp_all))
    refine st_iload rX8_count_30 rfl ?_
    refine st_c rX8_count_31 ?_
    first | refine st_icmp_neN rX8_count_32 (by omega) (by omega) (fun _ => ?_) (fun h => absurd h (by first | decide | omega | (simp; done) | simp_all)) | refine st_icmp_ne rX8_count_32 (fun _ => ?_) (fun h => absurd h (by first | decide | omega | (simp; done) | simp_all))
    refine st_iload rX8_count_44 rfl ?_
    refine st_c rX8_count_45 ?_
    first | refine st_icmp_neN rX8_count_46 (by omega) (by omega) (fun _ => ?_) (fun h => absurd h (by first | decide | omega | (simp; done) | simp_all)) | refine st_icmp_ne rX8_count_46 (fun _ => ?_) (fun h => absurd h (by first | decide | omega | (simp; done) | simp_all))
    refine st_iload rX8_count_56 rfl ?_
    refine st_c rX8_count_57 ?_
    first | refine st_icmp_neN rX8_count_58 (by omega) (by omega) (fun h => absurd h (by first | decide | omega | (simp; done) | simp_all)) (fun _ => ?_) | refine st_icmp_ne rX8_count_58 (fun h => absurd h (by first | decide | omega | (simp; done) | simp_all)) (fun _ => ?_)
    refine st_aload rX8_count_61 rfl ?_
    refine st_getI rX8_count_62 (by first | assumption | decide | exact ⟨by decide, rfl, by decide⟩) rfl ?_
    refine st_goto rX8_count_65 ?_
    refine st_iret rX8_count_69 rfl ?_
    rw [m13]; exact hk I1 (fun a ha => e1 a (by omega)) hM1
set_option maxHeartbeats 4000000 in
set_option maxRecDepth 100000 in
theorem m_countBad {q : Int32} (hM : InvM I J A T) (hq : isT 5 q = false) (hk : ∀ I', (∀ a, a < 103 ∨ 123 ≤ a → I' a = I a) → InvM I' J A T → k (-1) (I', J, vRR ρ)) : V (d + 1) 123 123 mX8_count 0 [.ref 103, .int q] [] (I, J, vRR ρ) (Ki k) := by
  refine s_thr rX8_count_0 rX8_count_1 rX8_count_2 hM (fun I1 e1 e2 hM1 => ?_)
  have hn : ∀ j, j < 5 → q ≠ nI j := fun j hj e => by rw [e, isT_n hj (by decide)] at hq; cases hq
  have hn0 : ¬ q = 0 := hn 0 (by omega)
  have hn1 := hn 1 (by omega)
  have hn2 := hn 2 (by omega)
  have hn3 := hn 3 (by omega)
  have hn4 := hn 4 (by omega)
  refine st_iload rX8_count_5 rfl ?_
  refine st_if_ne rX8_count_6 (fun _ => ?_) (fun h => absurd h hn0)
  refine st_iload rX8_count_18 rfl ?_
  refine st_c rX8_count_19 ?_
  refine st_icmp_ne rX8_count_20 (fun _ => ?_) (fun h => absurd h hn1)
  refine st_iload rX8_count_30 rfl ?_
  refine st_c rX8_count_31 ?_
  refine st_icmp_ne rX8_count_32 (fun _ => ?_) (fun h => absurd h hn2)
  refine st_iload rX8_count_44 rfl ?_
  refine st_c rX8_count_45 ?_
  refine st_icmp_ne rX8_count_46 (fun _ => ?_) (fun h => absurd h hn3)
  refine st_iload rX8_count_56 rfl ?_
  refine st_c rX8_count_57 ?_
  refine st_icmp_ne rX8_count_58 (fun _ => ?_) (fun h => absurd h hn4)
  refine st_c rX8_count_68 ?_
  refine st_iret rX8_count_69 rfl ?_
  exact hk I1 (fun a ha => e1 a (by omega)) hM1
end P17
