/-! ===== lots, inLots ===== -/
def ltN (A : Nat → Nat → Int32) (m no z : Nat) (N : Nat → Int32) : Nat → Int32 := cutF A m (psN A m no (gD (rD m z)) N)
def ltC (A : Nat → Nat → Int32) (m no z : Nat) (N : Nat → Int32) : Nat := ctF A (psN A m no (gD (rD m z)) N) m
def ilN (A : Nat → Nat → Int32) (m no z : Nat) (N : Nat → Int32) : Nat → Nat → Int32
  | 0 => N
  | i + 1 => ltN A m no ((z + i) % 10000) (ilN A m no z N i)
def ilC (A : Nat → Nat → Int32) (m no z : Nat) (N : Nat → Int32) : Nat → Nat
  | 0 => 0
  | i + 1 => ilC A m no z N i + ltC A m no ((z + i) % 10000) (ilN A m no z N i)
theorem ilC_le (A : Nat → Nat → Int32) {m : Nat} (hm : m ≤ 6) (no z : Nat) (N : Nat → Int32) : ∀ i, ilC A m no z N i ≤ 6 * i := by
  intro i
  induction i with
  | zero => exact Nat.le_refl _
  | succ i ih =>
    have := ctF_le A (psN A m no (gD (rD m ((z + i) % 10000))) (ilN A m no z N i)) m
    simp only [ilC, ltC]
    omega
theorem ok_lt {A : Nat → Nat → Int32} {m no te z : Nat} {N : Nat → Int32} (hA : OkT A m no) (h : OkN A m no N) (h0 : N 0 = nI te) (h80 : te < 80) : OkN A m no (ltN A m no z N) ∧ ltN A m no z N 0 = nI (te + 1) := by
  have q := ok_pass (g := gD (rD m z)) hA.2.2.1 hA.2.2.2.1 h h0 h80 (drPerm hA.2.2.1 (fun t ht => rD_lt ht))
  exact ⟨q.1, q.2.1⟩
theorem ok_il {A : Nat → Nat → Int32} {m no te z : Nat} {N : Nat → Int32} (hA : OkT A m no) (h : OkN A m no N) (h0 : N 0 = nI te) (h60 : te ≤ 60) : ∀ i, i ≤ 20 → OkN A m no (ilN A m no z N i) ∧ ilN A m no z N i 0 = nI (te + i) := by
  intro i
  induction i with
  | zero => intro _; exact ⟨h, h0⟩
  | succ i ih =>
    intro hi
    obtain ⟨h1, h2⟩ := ih (by omega)
    exact ok_lt (te := te + i) hA h1 h2 (by omega)
section P32
variable {d : Nat} {I A : Nat → Nat → Int32} {J : Nat → Nat → Int64} {ρ m no : Nat} {T : Int64} {k : Int32 → vS → Prop} {kl : Int64 → vS → Prop} {kv : vS → Prop}
theorem ok_lots {z u te : Nat} (h : OkA A m no) (hu : A 103 23 = nI u) (hu10 : u ≤ 10) (h0 : A 114 0 = nI te) (h60 : te < 60) : OkA (aDo A u (ltN A m no z (A 114))) m no := by
  obtain ⟨h1, h2⟩ := ok_lt (z := z) h.1 h.2.2.1 h0 (by omega)
  exact ok_do h hu hu10 h1 ⟨te + 1, by omega, h2⟩
set_option maxHeartbeats 4000000 in
set_option maxRecDepth 100000 in
theorem c_lotsBad {z : Int32} (hz : isT 10000 z = false) (hk : k (-1) (I, J, vRR ρ)) : V (d + 1) 123 123 mX7_lots 0 [.ref 0, .int z] [] (I, J, vRR ρ) (Ki k) := by
  refine st_iload rX7_lots_0 rfl ?_
  refine st_c rX7_lots_1 ?_
  refine st_c rX7_lots_2 ?_
  refine cS3i rX7_lots_5 (s_within ?_) rfl
  rw [inR_N (by decide), hz]
  first | with_reducible refine st_if_neN rX7_lots_8 (by omega) (fun h => absurd h (by first | decide | omega | (simp; done) | simp_all)) (fun _ => ?_) | refine st_if_ne rX7_lots_8 (fun h => absurd h (by first | decide | omega | (simp; done) | simp_all)) (fun _ => ?_)
  refine st_c rX7_lots_11 ?_
  refine st_iret rX7_lots_12 rfl ?_
  exact hk
set_option maxHeartbeats 4000000 in
set_option maxRecDepth 100000 in
theorem m_lotsBad {z : Int32} (hM : InvM I J A T) (hz : isT 10000 z = false) (hk : ∀ I', (∀ a, a < 103 ∨ 123 ≤ a → I' a = I a) → InvM I' J A T → k (-1) (I', J, vRR ρ)) : V (d + 1) 123 123 mX8_lots 0 [.ref 103, .int z] [] (I, J, vRR ρ) (Ki k) := by
  refine s_thr rX8_lots_0 rX8_lots_1 rX8_lots_2 hM (fun I1 e1 e2 hM1 => ?_)
  refine st_iload rX8_lots_5 rfl ?_
  refine st_c rX8_lots_6 ?_
  refine st_c rX8_lots_7 ?_
  refine cS3i rX8_lots_10 (s_in ?_) rfl
  rw [inR_N (by decide), hz]
  first | with_reducible refine st_if_neN rX8_lots_13 (by omega) (fun h => absurd h (by first | decide | omega | (simp; done) | simp_all)) (fun _ => ?_) | refine st_if_ne rX8_lots_13 (fun h => absurd h (by first | decide | omega | (simp; done) | simp_all)) (fun _ => ?_)
  refine st_c rX8_lots_16 ?_
  refine st_iret rX8_lots_17 rfl ?_
  exact hk I1 (fun a ha => e1 a (by omega)) hM1
set_option maxHeartbeats 4000000 in
set_option maxRecDepth 100000 in
theorem c_lotsNo {z : Nat} (hC : InvC I J ρ A T m no) (hO : OkA A m no) (hz : z < 10000) (h0 : A 114 0 = nI 60) (hk : k (-2) (I, J, vRR ρ)) : V (d + 1) 123 123 mX7_lots 0 [.ref 0, .int (nI z)] [] (I, J, vRR ρ) (Ki k) := by
  refine st_iload rX7_lots_0 rfl ?_
  refine st_c rX7_lots_1 ?_
  refine st_c rX7_lots_2 ?_
  refine cS3i rX7_lots_5 (s_within ?_) rfl
  rw [inR_N (by decide), isT_n hz (by decide)]
  first | with_reducible refine st_if_neN rX7_lots_8 (by omega) (fun _ => ?_) (fun h => absurd h (by first | decide | omega | (simp; done) | simp_all)) | refine st_if_ne rX7_lots_8 (fun _ => ?_) (fun h => absurd h (by first | decide | omega | (simp; done) | simp_all))
  refine st_aload rX7_lots_13 rfl ?_
  refine st_getR rX7_lots_14 (by first | assumption | decide | exact ⟨by decide, rfl, by decide⟩) (by first | rfl | assumption) rfl ?_
  refine st_getI rX7_lots_17 (by first | assumption | decide | exact ⟨by decide, rfl, by decide⟩) rfl ?_
  refine st_top (hC.2.2.1.1.trans h0) ?_
  refine st_c rX7_lots_20 ?_
  first | with_reducible refine st_icmp_ltN rX7_lots_22 (by omega) (by omega) (fun h => absurd h (by first | decide | omega | (simp; done) | simp_all)) (fun _ => ?_) | refine st_icmp_lt rX7_lots_22 (fun h => absurd h (by first | decide | omega | (simp; done) | simp_all)) (fun _ => ?_)
  refine st_c rX7_lots_25 ?_
  refine st_iret rX7_lots_27 rfl ?_
  exact hk
set_option maxHeartbeats 4000000 in
set_option maxRecDepth 100000 in
theorem m_lotsNo {z : Nat} (hM : InvM I J A T) (hz : z < 10000) (h0 : A 114 0 = nI 60) (hk : ∀ I', (∀ a, a < 103 ∨ 123 ≤ a → I' a = I a) → InvM I' J A T → k (-2) (I', J, vRR ρ)) : V (d + 1) 123 123 mX8_lots 0 [.ref 103, .int (nI z)] [] (I, J, vRR ρ) (Ki k) := by
  refine s_thr rX8_lots_0 rX8_lots_1 rX8_lots_2 hM (fun I1 e1 e2 hM1 => ?_)
  refine st_iload rX8_lots_5 rfl ?_
  refine st_c rX8_lots_6 ?_
  refine st_c rX8_lots_7 ?_
  refine cS3i rX8_lots_10 (s_in ?_) rfl
  rw [inR_N (by decide), isT_n hz (by decide)]
  first | with_reducible refine st_if_neN rX8_lots_13 (by omega) (fun _ => ?_) (fun h => absurd h (by first | decide | omega | (simp; done) | simp_all)) | refine st_if_ne rX8_lots_13 (fun _ => ?_) (fun h => absurd h (by first | decide | omega | (simp; done) | simp_all))
  refine st_aload rX8_lots_18 rfl ?_
  refine st_getR rX8_lots_19 (by first | assumption | decide | exact ⟨by decide, rfl, by decide⟩) (by first | rfl | assumption) rfl ?_
  refine st_c rX8_lots_22 ?_
  refine st_ialdN rX8_lots_23 (by first | assumption | decide | exact ⟨by decide, rfl, by decide⟩) (by omega) ?_
  refine st_top (show I1 114 0 = nI 60 by rw [hM1.2.2.1]; exact h0) ?_
  refine st_c rX8_lots_24 ?_
  first | with_reducible refine st_icmp_neN rX8_lots_26 (by omega) (by omega) (fun h => absurd h (by first | decide | omega | (simp; done) | simp_all)) (fun _ => ?_) | refine st_icmp_ne rX8_lots_26 (fun h => absurd h (by first | decide | omega | (simp; done) | simp_all)) (fun _ => ?_)
  refine st_c rX8_lots_29 ?_
  refine st_iret rX8_lots_31 rfl ?_
  exact hk I1 (fun a ha => e1 a (by omega)) hM1
set_option maxHeartbeats 4000000 in
set_option maxRecDepth 100000 in
theorem c_lots {z u te : Nat} (hC : InvC I J ρ A T m no) (hO : OkA A m no) (hz : z < 10000) (hu : A 103 23 = nI u) (hu10 : u ≤ 10) (h0 : A 114 0 = nI te) (h60 : te < 60) (hk : ∀ I', (∀ a, 103 ≤ a → I' a = I a) → InvC I' J ρ (aDo A u (ltN A m no z (A 114))) T m no → k (nI (ltC A m no z (A 114))) (I', J, vRR ρ)) : V (d + 4) 123 123 mX7_lots 0 [.ref 0, .int (nI z)] [] (I, J, vRR ρ) (Ki k) := by
  obtain ⟨ht0, ht1, ht2, ht3, ht4, ht5, ht6, ht7, ht8, ht9, ht10⟩ := id hC.1
  obtain ⟨hto, o1, o2, o3, o4, o5, o6, o7, o8⟩ := toldF ht0
  have hm6 : m ≤ 6 := hO.1.2.2.1
  have hno6 : no ≤ 6 := hO.1.2.2.2.1
  have hv := hC.2.2.1
  obtain ⟨q, u0, u1, u2, u3⟩ := hC.2.2.2.1
  have hg : vHg 22 := ⟨by decide, rfl⟩
  have hρ : ρ ≤ 13 := by rcases ht0 with h | h <;> omega
  refine st_iload rX7_lots_0 rfl ?_
  refine st_c rX7_lots_1 ?_
  refine st_c rX7_lots_2 ?_
  refine cS3i rX7_lots_5 (s_within ?_) rfl
  rw [inR_N (by decide), isT_n hz (by decide)]
  first | with_reducible refine st_if_neN rX7_lots_8 (by omega) (fun _ => ?_) (fun h => absurd h (by first | decide | omega | (simp; done) | simp_all)) | refine st_if_ne rX7_lots_8 (fun _ => ?_) (fun h => absurd h (by first | decide | omega | (simp; done) | simp_all))
  refine st_aload rX7_lots_13 rfl ?_
  refine st_getR rX7_lots_14 (by first | assumption | decide | exact ⟨by decide, rfl, by decide⟩) (by first | rfl | assumption) rfl ?_
  refine st_getI rX7_lots_17 (by first | assumption | decide | exact ⟨by decide, rfl, by decide⟩) rfl ?_
  refine st_top (hv.1.trans h0) ?_
  refine st_c rX7_lots_20 ?_
  first | with_reducible refine st_icmp_ltN rX7_lots_22 (by omega) (by omega) (fun _ => ?_) (fun h => absurd h (by first | decide | omega | (simp; done) | simp_all)) | refine st_icmp_lt rX7_lots_22 (fun _ => ?_) (fun h => absurd h (by first | decide | omega | (simp; done) | simp_all))
  refine st_aload rX7_lots_28 rfl ?_
  refine st_getR rX7_lots_29 (by first | assumption | decide | exact ⟨by decide, rfl, by decide⟩) (by first | rfl | assumption) rfl ?_
  refine st_aload rX7_lots_32 rfl ?_
  refine st_getR rX7_lots_33 (by first | assumption | decide | exact ⟨by decide, rfl, by decide⟩) (by first | rfl | assumption) rfl ?_
  refine cV2v rX7_lots_36 (by first | assumption | decide | exact ⟨by decide, rfl, by decide⟩) (s_remember u1 u0 (u2.trans hu) hu10 (fun I1 g gq gu gv => ?_)) rfl (by decide)
  refine st_aload rX7_lots_39 rfl ?_
  refine st_getR rX7_lots_40 (by first | assumption | decide | exact ⟨by decide, rfl, by decide⟩) (by first | rfl | assumption) rfl ?_
  refine st_aload rX7_lots_43 rfl ?_
  refine st_getR rX7_lots_44 (by first | assumption | decide | exact ⟨by decide, rfl, by decide⟩) (by first | rfl | assumption) rfl ?_
  refine st_aload rX7_lots_47 rfl ?_
  refine st_getR rX7_lots_48 (by first | assumption | decide | exact ⟨by decide, rfl, by decide⟩) (by first | rfl | assumption) rfl ?_
  refine st_iload rX7_lots_51 rfl ?_
  refine cV4i rX7_lots_52 (by first | assumption | decide | exact ⟨by decide, rfl, by decide⟩) (s_passTerm (N := A 114) (A := A) (m := m) (no := no) hg (CT_c hC.1 (fun a _ _ => g a (by omega) (by omega)) (fun a _ _ => rfl)) hO.1 ⟨by omega, by omega, by omega⟩ (HV_cong hv (fun a _ _ => g a (by omega) (by omega))) hO.2.2.1 h0 (by omega) hz (fun I2 g2 hv2 => ?_)) rfl (by decide)
  refine st_iret rX7_lots_55 rfl ?_
  refine hk I2 (fun x hx => by rw [g2 x (by omega) (by omega), g x (by omega) (by omega)]) ?_
  exact C_do hC hm6 hu hu10 u1 u0 (u3 u hu10 hu) g gq gu gv (fun x h1 h2 => g2 x (by omega) (by omega)) hv2
set_option maxHeartbeats 4000000 in
set_option maxRecDepth 100000 in
theorem m_lots {z u te : Nat} (hM : InvM I J A T) (hO : OkA A m no) (hz : z < 10000) (hu : A 103 23 = nI u) (hu10 : u ≤ 10) (h0 : A 114 0 = nI te) (h60 : te < 60) (hk : ∀ I', (∀ a, a < 103 ∨ 123 ≤ a → I' a = I a) → InvM I' J (aDo A u (ltN A m no z (A 114))) T → k (nI (ltC A m no z (A 114))) (I', J, vRR ρ)) : V (d + 2) 123 123 mX8_lots 0 [.ref 103, .int (nI z)] [] (I, J, vRR ρ) (Ki k) := by
  refine s_thr rX8_lots_0 rX8_lots_1 rX8_lots_2 hM (fun I1 e1 e2 hM1 => ?_)
  have hm6 : m ≤ 6 := hO.1.2.2.1
  have hno6 : no ≤ 6 := hO.1.2.2.2.1
  obtain ⟨m1, m2, m3, m4, m5, m6, m7, m8, m9, m10, m11, m12, m13, m14, m15, m16⟩ := id hM1
  have hmm : I1 105 0 = nI m := m11.trans hO.1.1
  have hmo : I1 105 1 = nI no := m12.trans hO.1.2.1
  refine st_iload rX8_lots_5 rfl ?_
  refine st_c rX8_lots_6 ?_
  refine st_c rX8_lots_7 ?_
  refine cS3i rX8_lots_10 (s_in ?_) rfl
  rw [inR_N (by decide), isT_n hz (by decide)]
  first | with_reducible refine st_if_neN rX8_lots_13 (by omega) (fun _ => ?_) (fun h => absurd h (by first | decide | omega | (simp; done) | simp_all)) | refine st_if_ne rX8_lots_13 (fun _ => ?_) (fun h => absurd h (by first | decide | omega | (simp; done) | simp_all))
  refine st_aload rX8_lots_18 rfl ?_
  refine st_getR rX8_lots_19 (by first | assumption | decide | exact ⟨by decide, rfl, by decide⟩) (by first | rfl | assumption) rfl ?_
  refine st_c rX8_lots_22 ?_
  refine st_ialdN rX8_lots_23 (by first | assumption | decide | exact ⟨by decide, rfl, by decide⟩) (by omega) ?_
  refine st_top (show I1 114 0 = nI te by rw [m3]; exact h0) ?_
  refine st_c rX8_lots_24 ?_
  first | with_reducible refine st_icmp_neN rX8_lots_26 (by omega) (by omega) (fun _ => ?_) (fun h => absurd h (by first | decide | omega | (simp; done) | simp_all)) | refine st_icmp_ne rX8_lots_26 (fun _ => ?_) (fun h => absurd h (by first | decide | omega | (simp; done) | simp_all))
  refine st_aload rX8_lots_32 rfl ?_
  refine cV1v rX8_lots_33 (by first | assumption | decide | exact ⟨by decide, rfl, by decide⟩) (s_notes (A := A) (m14.trans hu) hu10 m3 m6 (fun I2 g g3 g23 g8 => ?_)) rfl (by decide)
  refine st_aload rX8_lots_36 rfl ?_
  refine st_aload rX8_lots_37 rfl ?_
  refine st_getR rX8_lots_38 (by first | assumption | decide | exact ⟨by decide, rfl, by decide⟩) (by first | rfl | assumption) rfl ?_
  refine st_iload rX8_lots_41 rfl ?_
  refine cV3i rX8_lots_42 (by first | assumption | decide | exact ⟨by decide, rfl, by decide⟩) (s_drawn (A := A) (N := A 114) (m := m) (no := no) (Or.inl rfl) hO.1 (by rw [g 105 (by decide) (by decide)]; exact hmm) (by rw [g 105 (by decide) (by decide)]; exact hmo) (fun j hj => by rw [g 107 (by decide) (by decide), g 108 (by decide) (by decide), g 110 (by decide) (by decide), g 111 (by decide) (by decide), g 112 (by decide) (by decide)]; exact m9 j hj) (by rw [g 114 (by decide) (by decide)]; exact m3) hO.2.2.1 h0 (by omega) hz (fun I4 h4 h44 => ?_)) rfl (by decide)
  refine st_iret rX8_lots_45 rfl ?_
  have e := @aDo_e A u (ltN A m no z (A 114))
  have f := @aDo_f A u (ltN A m no z (A 114))
  have gg : ∀ x, x ≠ 103 → x ≠ 114 → x ≠ 118 → x ≠ 121 → x ≠ 122 → I4 x = I1 x := fun x h1 h2 h3 h5 h6 => by rw [h4 x h2 h5 h6, g x h1 h3]
  have gg3 : ∀ q, q ≠ 23 → I4 103 q = I1 103 q := fun q hq => by rw [h4 103 (by decide) (by decide) (by decide), g3 q hq]
  have gg23 : I4 103 23 = nI (min 10 (u + 1)) := by rw [h4 103 (by decide) (by decide) (by decide), g23]
  have gg8 : I4 118 = wNt A u := by rw [h4 118 (by decide) (by decide) (by decide), g8]
  have h45 : I4 114 = ltN A m no z (A 114) := h44
  refine hk _ (fun x hx => by rw [gg x (by omega) (by omega) (by omega) (by omega) (by omega)]; exact e1 x (by omega)) ?_
  simp (disch := omega) only [InvM, e, f, gg, gg3, gg23, gg8, h45, aDo_3, aDo_4, aDo_8]
  exact ⟨m1, m2, trivial, m4, m5, trivial, m7, m8, m9, m10, m11, m12, m13, trivial, m15, m16⟩
/-- what inLots asks of its numbers -/
def ilBad (m : Nat) (z c t : Int32) : Prop := isT 10000 z = false ∨ isT 21 c = false ∨ (t ≠ -1 ∧ isT m t = false)
set_option maxHeartbeats 4000000 in
set_option maxRecDepth 100000 in
theorem c_inLotsBad {z c t : Int32} (hC : InvC I J ρ A T m no) (hO : OkA A m no) (hb : ilBad m z c t) (hk : k (-1) (I, J, vRR ρ)) : V (d + 2) 123 123 mX7_inLots 0 [.ref 0, .int z, .int c, .int t, vJ, vJ] [] (I, J, vRR ρ) (Ki k) := by
  obtain ⟨ht0, ht1, ht2, ht3, ht4, ht5, ht6, ht7, ht8, ht9, ht10⟩ := id hC.1
  obtain ⟨hto, o1, o2, o3, o4, o5, o6, o7, o8⟩ := toldF ht0
  have hm6 : m ≤ 6 := hO.1.2.2.1
  have hno6 : no ≤ 6 := hO.1.2.2.2.1
  by_cases h1 : isT 10000 z = true
  · by_cases h2 : isT 21 c = true
    · have h3 : t ≠ -1 ∧ isT m t = false := by rcases hb with h | h | h; exact absurd h1 (by rw [h]; decide); exact absurd h2 (by rw [h]; decide); exact h
      refine st_iload rX7_inLots_0 rfl ?_
      refine st_c rX7_inLots_1 ?_
      refine st_c rX7_inLots_2 ?_
      refine cS3i rX7_inLots_5 (s_within ?_) rfl
      rw [inR_N (by decide), h1]
      first | with_reducible refine st_if_eqN rX7_inLots_8 (by omega) (fun h => absurd h (by first | decide | omega | (simp; done) | simp_all)) (fun _ => ?_) | refine st_if_eq rX7_inLots_8 (fun h => absurd h (by first | decide | omega | (simp; done) | simp_all)) (fun _ => ?_)
      refine st_iload rX7_inLots_11 rfl ?_
      refine st_c rX7_inLots_12 ?_
      refine st_c rX7_inLots_13 ?_
      refine cS3i rX7_inLots_15 (s_within ?_) rfl
      rw [inR_N (by decide), h2]
      first | with_reducible refine st_if_eqN rX7_inLots_18 (by omega) (fun h => absurd h (by first | decide | omega | (simp; done) | simp_all)) (fun _ => ?_) | refine st_if_eq rX7_inLots_18 (fun h => absurd h (by first | decide | omega | (simp; done) | simp_all)) (fun _ => ?_)
      refine st_iload rX7_inLots_21 rfl ?_
      refine st_c rX7_inLots_22 ?_
      refine st_icmp_eq rX7_inLots_23 (fun h => absurd h h3.1) (fun _ => ?_)
      refine st_aload rX7_inLots_26 rfl ?_
      refine st_getR rX7_inLots_27 (by first | assumption | decide | exact ⟨by decide, rfl, by decide⟩) (by first | rfl | assumption) rfl ?_
      refine st_iload rX7_inLots_30 rfl ?_
      refine cV2i rX7_inLots_31 (by first | assumption | decide | exact ⟨by decide, rfl, by decide⟩) (s_hasTown ht0 ht1 hm6 ?_) rfl (by decide)
      rw [h3.2]
      first | with_reducible refine st_if_neN rX7_inLots_34 (by omega) (fun h => absurd h (by first | decide | omega | (simp; done) | simp_all)) (fun _ => ?_) | refine st_if_ne rX7_inLots_34 (fun h => absurd h (by first | decide | omega | (simp; done) | simp_all)) (fun _ => ?_)
      refine st_c rX7_inLots_37 ?_
      refine st_iret rX7_inLots_38 rfl ?_
      exact hk
    · have h2 : isT 21 c = false := by simpa using h2
      refine st_iload rX7_inLots_0 rfl ?_
      refine st_c rX7_inLots_1 ?_
      refine st_c rX7_inLots_2 ?_
      refine cS3i rX7_inLots_5 (s_within ?_) rfl
      rw [inR_N (by decide), h1]
      first | with_reducible refine st_if_eqN rX7_inLots_8 (by omega) (fun h => absurd h (by first | decide | omega | (simp; done) | simp_all)) (fun _ => ?_) | refine st_if_eq rX7_inLots_8 (fun h => absurd h (by first | decide | omega | (simp; done) | simp_all)) (fun _ => ?_)
      refine st_iload rX7_inLots_11 rfl ?_
      refine st_c rX7_inLots_12 ?_
      refine st_c rX7_inLots_13 ?_
      refine cS3i rX7_inLots_15 (s_within ?_) rfl
      rw [inR_N (by decide), h2]
      first | with_reducible refine st_if_eqN rX7_inLots_18 (by omega) (fun _ => ?_) (fun h => absurd h (by first | decide | omega | (simp; done) | simp_all)) | refine st_if_eq rX7_inLots_18 (fun _ => ?_) (fun h => absurd h (by first | decide | omega | (simp; done) | simp_all))
      refine st_c rX7_inLots_37 ?_
      refine st_iret rX7_inLots_38 rfl ?_
      exact hk
  · have h1 : isT 10000 z = false := by simpa using h1
    refine st_iload rX7_inLots_0 rfl ?_
    refine st_c rX7_inLots_1 ?_
    refine st_c rX7_inLots_2 ?_
    refine cS3i rX7_inLots_5 (s_within ?_) rfl
    rw [inR_N (by decide), h1]
    first | with_reducible refine st_if_eqN rX7_inLots_8 (by omega) (fun _ => ?_) (fun h => absurd h (by first | decide | omega | (simp; done) | simp_all)) | refine st_if_eq rX7_inLots_8 (fun _ => ?_) (fun h => absurd h (by first | decide | omega | (simp; done) | simp_all))
    refine st_c rX7_inLots_37 ?_
    refine st_iret rX7_inLots_38 rfl ?_
    exact hk
set_option maxHeartbeats 4000000 in
set_option maxRecDepth 100000 in
theorem m_inLotsBad {z c t : Int32} (hM : InvM I J A T) (hO : OkA A m no) (hb : ilBad m z c t) (hk : ∀ I', (∀ a, a < 103 ∨ 123 ≤ a → I' a = I a) → InvM I' J A T → k (-1) (I', J, vRR ρ)) : V (d + 2) 123 123 mX8_inLots 0 [.ref 103, .int z, .int c, .int t, vJ, vJ] [] (I, J, vRR ρ) (Ki k) := by
  refine s_thr rX8_inLots_0 rX8_inLots_1 rX8_inLots_2 hM (fun I1 e1 e2 hM1 => ?_)
  have hm6 : m ≤ 6 := hO.1.2.2.1
  have hno6 : no ≤ 6 := hO.1.2.2.2.1
  obtain ⟨m1, m2, m3, m4, m5, m6, m7, m8, m9, m10, m11, m12, m13, m14, m15, m16⟩ := id hM1
  have hmm : I1 105 0 = nI m := m11.trans hO.1.1
  have hmo : I1 105 1 = nI no := m12.trans hO.1.2.1
  by_cases h1 : isT 10000 z = true
  · by_cases h2 : isT 21 c = true
    · have h3 : t ≠ -1 ∧ isT m t = false := by rcases hb with h | h | h; exact absurd h1 (by rw [h]; decide); exact absurd h2 (by rw [h]; decide); exact h
      refine st_iload rX8_inLots_5 rfl ?_
      refine st_c rX8_inLots_6 ?_
      refine st_c rX8_inLots_7 ?_
      refine cS3i rX8_inLots_10 (s_in ?_) rfl
      rw [inR_N (by decide), h1]
      first | with_reducible refine st_if_eqN rX8_inLots_13 (by omega) (fun h => absurd h (by first | decide | omega | (simp; done) | simp_all)) (fun _ => ?_) | refine st_if_eq rX8_inLots_13 (fun h => absurd h (by first | decide | omega | (simp; done) | simp_all)) (fun _ => ?_)
      refine st_iload rX8_inLots_16 rfl ?_
      refine st_c rX8_inLots_17 ?_
      refine st_c rX8_inLots_18 ?_
      refine cS3i rX8_inLots_20 (s_in ?_) rfl
      rw [inR_N (by decide), h2]
      first | with_reducible refine st_if_eqN rX8_inLots_23 (by omega) (fun h => absurd h (by first | decide | omega | (simp; done) | simp_all)) (fun _ => ?_) | refine st_if_eq rX8_inLots_23 (fun h => absurd h (by first | decide | omega | (simp; done) | simp_all)) (fun _ => ?_)
      refine st_iload rX8_inLots_26 rfl ?_
      refine st_c rX8_inLots_27 ?_
      refine st_icmp_eq rX8_inLots_28 (fun h => absurd h h3.1) (fun _ => ?_)
      refine st_aload rX8_inLots_31 rfl ?_
      refine st_iload rX8_inLots_32 rfl ?_
      refine cV2i rX8_inLots_33 (by first | assumption | decide | exact ⟨by decide, rfl, by decide⟩) (s_isTown hmm hm6 ?_) rfl (by decide)
      rw [h3.2]
      first | with_reducible refine st_if_neN rX8_inLots_36 (by omega) (fun h => absurd h (by first | decide | omega | (simp; done) | simp_all)) (fun _ => ?_) | refine st_if_ne rX8_inLots_36 (fun h => absurd h (by first | decide | omega | (simp; done) | simp_all)) (fun _ => ?_)
      refine st_c rX8_inLots_39 ?_
      refine st_iret rX8_inLots_40 rfl ?_
      exact hk I1 (fun a ha => e1 a (by omega)) hM1
    · have h2 : isT 21 c = false := by simpa using h2
      refine st_iload rX8_inLots_5 rfl ?_
      refine st_c rX8_inLots_6 ?_
      refine st_c rX8_inLots_7 ?_
      refine cS3i rX8_inLots_10 (s_in ?_) rfl
      rw [inR_N (by decide), h1]
      first | with_reducible refine st_if_eqN rX8_inLots_13 (by omega) (fun h => absurd h (by first | decide | omega | (simp; done) | simp_all)) (fun _ => ?_) | refine st_if_eq rX8_inLots_13 (fun h => absurd h (by first | decide | omega | (simp; done) | simp_all)) (fun _ => ?_)
      refine st_iload rX8_inLots_16 rfl ?_
      refine st_c rX8_inLots_17 ?_
      refine st_c rX8_inLots_18 ?_
      refine cS3i rX8_inLots_20 (s_in ?_) rfl
      rw [inR_N (by decide), h2]
      first | with_reducible refine st_if_eqN rX8_inLots_23 (by omega) (fun _ => ?_) (fun h => absurd h (by first | decide | omega | (simp; done) | simp_all)) | refine st_if_eq rX8_inLots_23 (fun _ => ?_) (fun h => absurd h (by first | decide | omega | (simp; done) | simp_all))
      refine st_c rX8_inLots_39 ?_
      refine st_iret rX8_inLots_40 rfl ?_
      exact hk I1 (fun a ha => e1 a (by omega)) hM1
  · have h1 : isT 10000 z = false := by simpa using h1
    refine st_iload rX8_inLots_5 rfl ?_
    refine st_c rX8_inLots_6 ?_
    refine st_c rX8_inLots_7 ?_
    refine cS3i rX8_inLots_10 (s_in ?_) rfl
    rw [inR_N (by decide), h1]
    first | with_reducible refine st_if_eqN rX8_inLots_13 (by omega) (fun _ => ?_) (fun h => absurd h (by first | decide | omega | (simp; done) | simp_all)) | refine st_if_eq rX8_inLots_13 (fun _ => ?_) (fun h => absurd h (by first | decide | omega | (simp; done) | simp_all))
    refine st_c rX8_inLots_39 ?_
    refine st_iret rX8_inLots_40 rfl ?_
    exact hk I1 (fun a ha => e1 a (by omega)) hM1
def ilR (A : Nat → Nat → Int32) (m no z c : Nat) (t : Int32) (N : Nat → Int32) : Int32 := if t = -1 then nI (ilC A m no z N c) else ilN A m no z N c (2 + t.toNatClampNeg)
set_option maxHeartbeats 4000000 in
set_option maxRecDepth 100000 in
theorem c_inLots {z c te : Nat} {t : Int32} {N : Nat → Int32} (hC : InvC I J ρ A T m no) (hO : OkA A m no) (hz : z < 10000) (hc : c < 21) (htt : t = -1 ∨ ∃ x, x < m ∧ t = nI x) (eN : ∀ q, q < 56 → N q = A 114 q) (h0 : N 0 = nI te) (h60 : te ≤ 60) (hk : ∀ I', (∀ a, 103 ≤ a → I' a = I a) → InvC I' J ρ A T m no → k (ilR A m no z c t N) (I', J, vRR ρ)) : V (d + 4) 123 123 mX7_inLots 0 [.ref 0, .int (nI z), .int (nI c), .int t, vJ, vJ] [] (I, J, vRR ρ) (Ki k) := by
  obtain ⟨ht0, ht1, ht2, ht3, ht4, ht5, ht6, ht7, ht8, ht9, ht10⟩ := id hC.1
  obtain ⟨hto, o1, o2, o3, o4, o5, o6, o7, o8⟩ := toldF ht0
  have hm6 : m ≤ 6 := hO.1.2.2.1
  have hno6 : no ≤ 6 := hO.1.2.2.2.1
  have hN := OkN_N hO.2.2.1 hm6 hno6 eN
  have hρ : ρ ≤ 13 := by rcases ht0 with h | h <;> omega
  rcases id htt with ht9 | ⟨x, hx, ht9⟩
  · 
    refine st_iload rX7_inLots_0 rfl ?_
    refine st_c rX7_inLots_1 ?_
    refine st_c rX7_inLots_2 ?_
    refine cS3i rX7_inLots_5 (s_within ?_) rfl
    rw [inR_N (by decide), isT_n hz (by decide)]
    first | with_reducible refine st_if_eqN rX7_inLots_8 (by omega) (fun h => absurd h (by first | decide | omega | (simp; done) | simp_all)) (fun _ => ?_) | refine st_if_eq rX7_inLots_8 (fun h => absurd h (by first | decide | omega | (simp; done) | simp_all)) (fun _ => ?_)
    refine st_iload rX7_inLots_11 rfl ?_
    refine st_c rX7_inLots_12 ?_
    refine st_c rX7_inLots_13 ?_
    refine cS3i rX7_inLots_15 (s_within ?_) rfl
    rw [inR_N (by decide), isT_n hc (by decide)]
    first | with_reducible refine st_if_eqN rX7_inLots_18 (by omega) (fun h => absurd h (by first | decide | omega | (simp; done) | simp_all)) (fun _ => ?_) | refine st_if_eq rX7_inLots_18 (fun h => absurd h (by first | decide | omega | (simp; done) | simp_all)) (fun _ => ?_)
    refine st_iload rX7_inLots_21 rfl ?_
    refine st_c rX7_inLots_22 ?_
    refine st_icmp_eq rX7_inLots_23 (fun _ => ?_) (fun h => absurd ht9 h)
    refine st_aload rX7_inLots_39 rfl ?_
    refine st_getR rX7_inLots_40 (by first | assumption | decide | exact ⟨by decide, rfl, by decide⟩) (by first | rfl | assumption) rfl ?_
    refine st_aload rX7_inLots_43 rfl ?_
    refine st_getR rX7_inLots_44 (by first | assumption | decide | exact ⟨by decide, rfl, by decide⟩) (by first | rfl | assumption) rfl ?_
    refine cV2v rX7_inLots_47 (by first | assumption | decide | exact ⟨by decide, rfl, by decide⟩) (s_copyFrom (h := 27) (o := 22) ⟨by decide, rfl⟩ ⟨by decide, rfl⟩ (by decide) (fun I1 g gv => ?_)) rfl (by decide)
    refine st_c rX7_inLots_50 ?_
    refine st_istore4 rX7_inLots_51 rfl ?_
    refine st_c rX7_inLots_53 ?_
    refine st_istore5 rX7_inLots_54 rfl ?_
    skip
    have hv1 : HV I1 27 m N := HV_N (gv m (A 114) hm6 hC.2.2.1) hm6 eN
    have key : ∀ (r i : Nat) (I2 : Nat → Nat → Int32), i + r = c → (∀ a, a < 27 ∨ 31 < a → a < 100 ∨ 102 < a → I2 a = I a) → HV I2 27 m (ilN A m no z N i) → V (d + 4) 123 123 mX7_inLots 56 [.ref 0, .int (nI z), .int (nI c), .int t, .int (nI (ilC A m no z N i)), .int (nI i)] [] (I2, J, vRR ρ) (Ki k) := by
      intro r
      induction r with
      | zero =>
        intro i I2 he g2 hv2
        have he : i = c := by omega
        subst he
        have hfin := hk I2 (fun a ha => g2 a (by omega) (by omega)) (InvC_same hC (fun a h1 h2 => g2 a (by omega) (by omega)))
        rcases htt with rfl | ⟨x, hx, rfl⟩
        · rw [ilR, if_pos rfl] at hfin
          refine st_iload rX7_inLots_56 rfl ?_
          refine st_iload rX7_inLots_58 rfl ?_
          first | with_reducible refine st_icmp_geN rX7_inLots_59 (by omega) (by omega) (fun _ => ?_) (fun h => absurd h (by first | decide | omega | (simp; done) | simp_all)) | refine st_icmp_ge rX7_inLots_59 (fun _ => ?_) (fun h => absurd h (by first | decide | omega | (simp; done) | simp_all))
          refine st_iload rX7_inLots_96 rfl ?_
          refine st_c rX7_inLots_97 ?_
          refine st_icmp_ne rX7_inLots_98 (fun h => absurd rfl h) (fun _ => ?_)
          refine st_iload rX7_inLots_101 rfl ?_
          refine st_goto rX7_inLots_103 ?_
          refine st_iret rX7_inLots_117 rfl ?_
          exact hfin
        · have hne : ¬ nI x = -1 := fun e => by have := congrArg Int32.toInt e; rw [nI_toInt (by omega)] at this; have e9 : (-1 : Int32).toInt = -1 := rfl; rw [e9] at this; omega
          rw [ilR, if_neg hne, nI_clamp (by omega)] at hfin
          refine st_iload rX7_inLots_56 rfl ?_
          refine st_iload rX7_inLots_58 rfl ?_
          first | with_reducible refine st_icmp_geN rX7_inLots_59 (by omega) (by omega) (fun _ => ?_) (fun h => absurd h (by first | decide | omega | (simp; done) | simp_all)) | refine st_icmp_ge rX7_inLots_59 (fun _ => ?_) (fun h => absurd h (by first | decide | omega | (simp; done) | simp_all))
          refine st_iload rX7_inLots_96 rfl ?_
          refine st_c rX7_inLots_97 ?_
          refine st_icmp_ne rX7_inLots_98 (fun _ => ?_) (fun h => absurd h hne)
          refine st_aload rX7_inLots_106 rfl ?_
          refine st_getR rX7_inLots_107 (by first | assumption | decide | exact ⟨by decide, rfl, by decide⟩) (by first | rfl | assumption) rfl ?_
          refine st_getR rX7_inLots_110 (by first | assumption | decide) (by first | rfl | exact hR2 (by assumption)) rfl ?_
          refine st_iload rX7_inLots_113 rfl ?_
          refine cS2i rX7_inLots_114 (s_at (by first | assumption | decide | exact ⟨by decide, rfl, by decide⟩) (by omega) ?_) rfl
          refine st_top (hv2.2.2.1 x (by omega)) ?_
          refine st_iret rX7_inLots_117 rfl ?_
          exact hfin
      | succ r ih =>
        intro i I2 he g2 hv2
        obtain ⟨k1, k2⟩ := ok_il (z := z) hO.1 hN h0 h60 i (by omega)
        refine st_iload rX7_inLots_56 rfl ?_
        refine st_iload rX7_inLots_58 rfl ?_
        first | with_reducible refine st_icmp_geN rX7_inLots_59 (by omega) (by omega) (fun h => absurd h (by first | decide | omega | (simp; done) | simp_all)) (fun _ => ?_) | refine st_icmp_ge rX7_inLots_59 (fun h => absurd h (by first | decide | omega | (simp; done) | simp_all)) (fun _ => ?_)
        refine st_iload rX7_inLots_62 rfl ?_
        refine st_aload rX7_inLots_64 rfl ?_
        refine st_getR rX7_inLots_65 (by first | assumption | decide | exact ⟨by decide, rfl, by decide⟩) (by first | rfl | assumption) rfl ?_
        refine st_aload rX7_inLots_68 rfl ?_
        refine st_getR rX7_inLots_69 (by first | assumption | decide | exact ⟨by decide, rfl, by decide⟩) (by first | rfl | assumption) rfl ?_
        refine st_aload rX7_inLots_72 rfl ?_
        refine st_getR rX7_inLots_73 (by first | assumption | decide | exact ⟨by decide, rfl, by decide⟩) (by first | rfl | assumption) rfl ?_
        refine st_iload rX7_inLots_76 rfl ?_
        refine st_iload rX7_inLots_77 rfl ?_
        first | with_reducible refine st_iaddN rX7_inLots_79 ?_ | refine st_iadd rX7_inLots_79 ?_
        refine st_c rX7_inLots_80 ?_
        refine st_iremN rX7_inLots_83 (by omega) (by omega) ?_
        refine cV4i rX7_inLots_84 (by first | assumption | decide | exact ⟨by decide, rfl, by decide⟩) (s_passTerm (N := ilN A m no z N i) (A := A) (m := m) (no := no) ⟨by decide, rfl⟩ (CT_c hC.1 (fun a _ _ => g2 a (by omega) (by omega)) (fun a _ _ => rfl)) hO.1 ⟨by omega, by omega, by omega⟩ hv2 k1 k2 (by omega) (Nat.mod_lt _ (by decide)) (fun I3 g3 hv3 => ?_)) rfl (by decide)
        first | with_reducible refine st_iaddN rX7_inLots_87 ?_ | refine st_iadd rX7_inLots_87 ?_
        refine st_istore4 rX7_inLots_88 rfl ?_
        first | with_reducible refine st_iincN5 rX7_inLots_90 rfl ?_ | refine st_iinc5 rX7_inLots_90 rfl ?_
        refine st_goto rX7_inLots_93 ?_
        exact ih (i + 1) I3 (by omega) (fun a h1 h2 => by rw [g3 a h1 h2, g2 a h1 h2]) hv3
    exact key c 0 I1 (by omega) (fun a h1 _ => g a (by omega)) hv1
  · have hne : ¬ t = -1 := fun e => by have := congrArg Int32.toInt (ht9.symm.trans e); rw [nI_toInt (by omega)] at this; have e9 : (-1 : Int32).toInt = -1 := rfl; rw [e9] at this; omega
    refine st_iload rX7_inLots_0 rfl ?_
    refine st_c rX7_inLots_1 ?_
    refine st_c rX7_inLots_2 ?_
    refine cS3i rX7_inLots_5 (s_within ?_) rfl
    rw [inR_N (by decide), isT_n hz (by decide)]
    first | with_reducible refine st_if_eqN rX7_inLots_8 (by omega) (fun h => absurd h (by first | decide | omega | (simp; done) | simp_all)) (fun _ => ?_) | refine st_if_eq rX7_inLots_8 (fun h => absurd h (by first | decide | omega | (simp; done) | simp_all)) (fun _ => ?_)
    refine st_iload rX7_inLots_11 rfl ?_
    refine st_c rX7_inLots_12 ?_
    refine st_c rX7_inLots_13 ?_
    refine cS3i rX7_inLots_15 (s_within ?_) rfl
    rw [inR_N (by decide), isT_n hc (by decide)]
    first | with_reducible refine st_if_eqN rX7_inLots_18 (by omega) (fun h => absurd h (by first | decide | omega | (simp; done) | simp_all)) (fun _ => ?_) | refine st_if_eq rX7_inLots_18 (fun h => absurd h (by first | decide | omega | (simp; done) | simp_all)) (fun _ => ?_)
    refine st_iload rX7_inLots_21 rfl ?_
    refine st_c rX7_inLots_22 ?_
    refine st_icmp_eq rX7_inLots_23 (fun h => absurd h hne) (fun _ => ?_)
    refine st_aload rX7_inLots_26 rfl ?_
    refine st_getR rX7_inLots_27 (by first | assumption | decide | exact ⟨by decide, rfl, by decide⟩) (by first | rfl | assumption) rfl ?_
    refine st_iload rX7_inLots_30 rfl ?_
    refine cV2i rX7_inLots_31 (by first | assumption | decide | exact ⟨by decide, rfl, by decide⟩) (s_hasTown ht0 ht1 hm6 ?_) rfl (by decide)
    rw [ht9, isT_n hx (by omega), ← ht9]
    first | with_reducible refine st_if_neN rX7_inLots_34 (by omega) (fun _ => ?_) (fun h => absurd h (by first | decide | omega | (simp; done) | simp_all)) | refine st_if_ne rX7_inLots_34 (fun _ => ?_) (fun h => absurd h (by first | decide | omega | (simp; done) | simp_all))
    refine st_aload rX7_inLots_39 rfl ?_
    refine st_getR rX7_inLots_40 (by first | assumption | decide | exact ⟨by decide, rfl, by decide⟩) (by first | rfl | assumption) rfl ?_
    refine st_aload rX7_inLots_43 rfl ?_
    refine st_getR rX7_inLots_44 (by first | assumption | decide | exact ⟨by decide, rfl, by decide⟩) (by first | rfl | assumption) rfl ?_
    refine cV2v rX7_inLots_47 (by first | assumption | decide | exact ⟨by decide, rfl, by decide⟩) (s_copyFrom (h := 27) (o := 22) ⟨by decide, rfl⟩ ⟨by decide, rfl⟩ (by decide) (fun I1 g gv => ?_)) rfl (by decide)
    refine st_c rX7_inLots_50 ?_
    refine st_istore4 rX7_inLots_51 rfl ?_
    refine st_c rX7_inLots_53 ?_
    refine st_istore5 rX7_inLots_54 rfl ?_
    skip
    have hv1 : HV I1 27 m N := HV_N (gv m (A 114) hm6 hC.2.2.1) hm6 eN
    have key : ∀ (r i : Nat) (I2 : Nat → Nat → Int32), i + r = c → (∀ a, a < 27 ∨ 31 < a → a < 100 ∨ 102 < a → I2 a = I a) → HV I2 27 m (ilN A m no z N i) → V (d + 4) 123 123 mX7_inLots 56 [.ref 0, .int (nI z), .int (nI c), .int t, .int (nI (ilC A m no z N i)), .int (nI i)] [] (I2, J, vRR ρ) (Ki k) := by
      intro r
      induction r with
      | zero =>
        intro i I2 he g2 hv2
        have he : i = c := by omega
        subst he
        have hfin := hk I2 (fun a ha => g2 a (by omega) (by omega)) (InvC_same hC (fun a h1 h2 => g2 a (by omega) (by omega)))
        rcases htt with rfl | ⟨x, hx, rfl⟩
        · rw [ilR, if_pos rfl] at hfin
          refine st_iload rX7_inLots_56 rfl ?_
          refine st_iload rX7_inLots_58 rfl ?_
          first | with_reducible refine st_icmp_geN rX7_inLots_59 (by omega) (by omega) (fun _ => ?_) (fun h => absurd h (by first | decide | omega | (simp; done) | simp_all)) | refine st_icmp_ge rX7_inLots_59 (fun _ => ?_) (fun h => absurd h (by first | decide | omega | (simp; done) | simp_all))
          refine st_iload rX7_inLots_96 rfl ?_
          refine st_c rX7_inLots_97 ?_
          refine st_icmp_ne rX7_inLots_98 (fun h => absurd rfl h) (fun _ => ?_)
          refine st_iload rX7_inLots_101 rfl ?_
          refine st_goto rX7_inLots_103 ?_
          refine st_iret rX7_inLots_117 rfl ?_
          exact hfin
        · have hne : ¬ nI x = -1 := fun e => by have := congrArg Int32.toInt e; rw [nI_toInt (by omega)] at this; have e9 : (-1 : Int32).toInt = -1 := rfl; rw [e9] at this; omega
          rw [ilR, if_neg hne, nI_clamp (by omega)] at hfin
          refine st_iload rX7_inLots_56 rfl ?_
          refine st_iload rX7_inLots_58 rfl ?_
          first | with_reducible refine st_icmp_geN rX7_inLots_59 (by omega) (by omega) (fun _ => ?_) (fun h => absurd h (by first | decide | omega | (simp; done) | simp_all)) | refine st_icmp_ge rX7_inLots_59 (fun _ => ?_) (fun h => absurd h (by first | decide | omega | (simp; done) | simp_all))
          refine st_iload rX7_inLots_96 rfl ?_
          refine st_c rX7_inLots_97 ?_
          refine st_icmp_ne rX7_inLots_98 (fun _ => ?_) (fun h => absurd h hne)
          refine st_aload rX7_inLots_106 rfl ?_
          refine st_getR rX7_inLots_107 (by first | assumption | decide | exact ⟨by decide, rfl, by decide⟩) (by first | rfl | assumption) rfl ?_
          refine st_getR rX7_inLots_110 (by first | assumption | decide) (by first | rfl | exact hR2 (by assumption)) rfl ?_
          refine st_iload rX7_inLots_113 rfl ?_
          refine cS2i rX7_inLots_114 (s_at (by first | assumption | decide | exact ⟨by decide, rfl, by decide⟩) (by omega) ?_) rfl
          refine st_top (hv2.2.2.1 x (by omega)) ?_
          refine st_iret rX7_inLots_117 rfl ?_
          exact hfin
      | succ r ih =>
        intro i I2 he g2 hv2
        obtain ⟨k1, k2⟩ := ok_il (z := z) hO.1 hN h0 h60 i (by omega)
        refine st_iload rX7_inLots_56 rfl ?_
        refine st_iload rX7_inLots_58 rfl ?_
        first | with_reducible refine st_icmp_geN rX7_inLots_59 (by omega) (by omega) (fun h => absurd h (by first | decide | omega | (simp; done) | simp_all)) (fun _ => ?_) | refine st_icmp_ge rX7_inLots_59 (fun h => absurd h (by first | decide | omega | (simp; done) | simp_all)) (fun _ => ?_)
        refine st_iload rX7_inLots_62 rfl ?_
        refine st_aload rX7_inLots_64 rfl ?_
        refine st_getR rX7_inLots_65 (by first | assumption | decide | exact ⟨by decide, rfl, by decide⟩) (by first | rfl | assumption) rfl ?_
        refine st_aload rX7_inLots_68 rfl ?_
        refine st_getR rX7_inLots_69 (by first | assumption | decide | exact ⟨by decide, rfl, by decide⟩) (by first | rfl | assumption) rfl ?_
        refine st_aload rX7_inLots_72 rfl ?_
        refine st_getR rX7_inLots_73 (by first | assumption | decide | exact ⟨by decide, rfl, by decide⟩) (by first | rfl | assumption) rfl ?_
        refine st_iload rX7_inLots_76 rfl ?_
        refine st_iload rX7_inLots_77 rfl ?_
        first | with_reducible refine st_iaddN rX7_inLots_79 ?_ | refine st_iadd rX7_inLots_79 ?_
        refine st_c rX7_inLots_80 ?_
        refine st_iremN rX7_inLots_83 (by omega) (by omega) ?_
        refine cV4i rX7_inLots_84 (by first | assumption | decide | exact ⟨by decide, rfl, by decide⟩) (s_passTerm (N := ilN A m no z N i) (A := A) (m := m) (no := no) ⟨by decide, rfl⟩ (CT_c hC.1 (fun a _ _ => g2 a (by omega) (by omega)) (fun a _ _ => rfl)) hO.1 ⟨by omega, by omega, by omega⟩ hv2 k1 k2 (by omega) (Nat.mod_lt _ (by decide)) (fun I3 g3 hv3 => ?_)) rfl (by decide)
        first | with_reducible refine st_iaddN rX7_inLots_87 ?_ | refine st_iadd rX7_inLots_87 ?_
        refine st_istore4 rX7_inLots_88 rfl ?_
        first | with_reducible refine st_iincN5 rX7_inLots_90 rfl ?_ | refine st_iinc5 rX7_inLots_90 rfl ?_
        refine st_goto rX7_inLots_93 ?_
        exact ih (i + 1) I3 (by omega) (fun a h1 h2 => by rw [g3 a h1 h2, g2 a h1 h2]) hv3
    exact key c 0 I1 (by omega) (fun a h1 _ => g a (by omega)) hv1
set_option maxHeartbeats 4000000 in
set_option maxRecDepth 100000 in
theorem s_asNow (h4 : I 114 = A 114) (hk : ∀ I', (∀ a, a ≠ 115 → I' a = I a) → I' 115 = cpR (I 115) (A 114) 0 56 → kv (I', J, vRR ρ)) : V d 123 123 mX8_asNow 0 [.ref 103, vJ] [] (I, J, vRR ρ) (Kv kv) := by
  refine st_c rX8_asNow_0 ?_
  refine st_istore1 rX8_asNow_1 rfl ?_
  have key : ∀ (r q : Nat) (I2 : Nat → Nat → Int32), q + r = 56 → (∀ a, a ≠ 115 → I2 a = I a) → I2 115 = cpR (I 115) (A 114) 0 q → V d 123 123 mX8_asNow 2 [.ref 103, .int (nI q)] [] (I2, J, vRR ρ) (Kv kv) := by
    intro r
    induction r with
    | zero =>
      intro q I2 hq g g6
      have hq : q = 56 := by omega
      subst hq
      refine st_iload rX8_asNow_2 rfl ?_
      refine st_c rX8_asNow_3 ?_
      first | with_reducible refine st_icmp_geN rX8_asNow_5 (by omega) (by omega) (fun _ => ?_) (fun h => absurd h (by first | decide | omega | (simp; done) | simp_all)) | refine st_icmp_ge rX8_asNow_5 (fun _ => ?_) (fun h => absurd h (by first | decide | omega | (simp; done) | simp_all))
      refine st_vret rX8_asNow_26 rfl ?_
      exact hk I2 g g6
    | succ r ih =>
      intro q I2 hq g g6
      refine st_iload rX8_asNow_2 rfl ?_
      refine st_c rX8_asNow_3 ?_
      first | with_reducible refine st_icmp_geN rX8_asNow_5 (by omega) (by omega) (fun h => absurd h (by first | decide | omega | (simp; done) | simp_all)) (fun _ => ?_) | refine st_icmp_ge rX8_asNow_5 (fun h => absurd h (by first | decide | omega | (simp; done) | simp_all)) (fun _ => ?_)
      refine st_aload rX8_asNow_8 rfl ?_
      refine st_getR rX8_asNow_9 (by first | assumption | decide | exact ⟨by decide, rfl, by decide⟩) (by first | rfl | assumption) rfl ?_
      refine st_iload rX8_asNow_12 rfl ?_
      refine st_aload rX8_asNow_13 rfl ?_
      refine st_getR rX8_asNow_14 (by first | assumption | decide | exact ⟨by decide, rfl, by decide⟩) (by first | rfl | assumption) rfl ?_
      refine st_iload rX8_asNow_17 rfl ?_
      refine st_ialdN rX8_asNow_18 (by first | assumption | decide | exact ⟨by decide, rfl, by decide⟩) (by omega) ?_
      refine st_iastN rX8_asNow_19 (by first | assumption | decide | exact ⟨by decide, rfl, by decide⟩) (by omega) ?_
      first | with_reducible refine st_iincN1 rX8_asNow_20 rfl ?_ | refine st_iinc1 rX8_asNow_20 rfl ?_
      refine st_goto rX8_asNow_23 ?_
      refine ih (q + 1) _ (by omega) (fun a ha => by rw [up_n ha, g a ha]) ?_
      rw [up_s, g6, g 114 (by decide), h4]
      have := cpR_s (I 115) (A 114) 0 q
      rw [Nat.zero_add] at this
      exact this
  exact key 56 0 I (by omega) (fun a _ => rfl) (by rw [cpR_0])
set_option maxHeartbeats 4000000 in
set_option maxRecDepth 100000 in
theorem m_inLots {z c te : Nat} {t : Int32} {N : Nat → Int32} (hM : InvM I J A T) (hO : OkA A m no) (hz : z < 10000) (hc : c < 21) (htt : t = -1 ∨ ∃ x, x < m ∧ t = nI x) (eN : N = cpR (I 115) (A 114) 0 56) (hN : OkN A m no N) (h0 : N 0 = nI te) (h60 : te ≤ 60) (hk : ∀ I', (∀ a, a < 103 ∨ 123 ≤ a → I' a = I a) → InvM I' J A T → k (ilR A m no z c t N) (I', J, vRR ρ)) : V (d + 2) 123 123 mX8_inLots 0 [.ref 103, .int (nI z), .int (nI c), .int t, vJ, vJ] [] (I, J, vRR ρ) (Ki k) := by
  refine s_thr rX8_inLots_0 rX8_inLots_1 rX8_inLots_2 hM (fun I1 e1 e2 hM1 => ?_)
  have hm6 : m ≤ 6 := hO.1.2.2.1
  have hno6 : no ≤ 6 := hO.1.2.2.2.1
  obtain ⟨m1, m2, m3, m4, m5, m6, m7, m8, m9, m10, m11, m12, m13, m14, m15, m16⟩ := id hM1
  have hmm : I1 105 0 = nI m := m11.trans hO.1.1
  have hmo : I1 105 1 = nI no := m12.trans hO.1.2.1
  rcases id htt with ht9 | ⟨x, hx, ht9⟩
  · 
    refine st_iload rX8_inLots_5 rfl ?_
    refine st_c rX8_inLots_6 ?_
    refine st_c rX8_inLots_7 ?_
    refine cS3i rX8_inLots_10 (s_in ?_) rfl
    rw [inR_N (by decide), isT_n hz (by decide)]
    first | with_reducible refine st_if_eqN rX8_inLots_13 (by omega) (fun h => absurd h (by first | decide | omega | (simp; done) | simp_all)) (fun _ => ?_) | refine st_if_eq rX8_inLots_13 (fun h => absurd h (by first | decide | omega | (simp; done) | simp_all)) (fun _ => ?_)
    refine st_iload rX8_inLots_16 rfl ?_
    refine st_c rX8_inLots_17 ?_
    refine st_c rX8_inLots_18 ?_
    refine cS3i rX8_inLots_20 (s_in ?_) rfl
    rw [inR_N (by decide), isT_n hc (by decide)]
    first | with_reducible refine st_if_eqN rX8_inLots_23 (by omega) (fun h => absurd h (by first | decide | omega | (simp; done) | simp_all)) (fun _ => ?_) | refine st_if_eq rX8_inLots_23 (fun h => absurd h (by first | decide | omega | (simp; done) | simp_all)) (fun _ => ?_)
    refine st_iload rX8_inLots_26 rfl ?_
    refine st_c rX8_inLots_27 ?_
    refine st_icmp_eq rX8_inLots_28 (fun _ => ?_) (fun h => absurd ht9 h)
    refine st_aload rX8_inLots_41 rfl ?_
    refine cV1v rX8_inLots_42 (by first | assumption | decide | exact ⟨by decide, rfl, by decide⟩) (s_asNow (A := A) m3 (fun I2 g g5 => ?_)) rfl (by decide)
    refine st_c rX8_inLots_45 ?_
    refine st_istore4 rX8_inLots_46 rfl ?_
    refine st_c rX8_inLots_48 ?_
    refine st_istore5 rX8_inLots_49 rfl ?_
    skip
    have key : ∀ (r i : Nat) (I3 : Nat → Nat → Int32), i + r = c → (∀ a, a ≠ 115 → a ≠ 121 → a ≠ 122 → I3 a = I1 a) → I3 115 = ilN A m no z N i → V (d + 2) 123 123 mX8_inLots 51 [.ref 103, .int (nI z), .int (nI c), .int t, .int (nI (ilC A m no z N i)), .int (nI i)] [] (I3, J, vRR ρ) (Ki k) := by
      intro r
      induction r with
      | zero =>
        intro i I3 he g3 hv3
        have he : i = c := by omega
        subst he
        have hfin := hk I3 (fun a ha => by rw [g3 a (by omega) (by omega) (by omega)]; exact e1 a (by omega)) (InvM_same hM1 (fun a h1 h2 h3 h4 h5 => g3 a h3 h4 h5) (fun q _ => by rw [g3 103 (by decide) (by decide) (by decide)]))
        rcases htt with rfl | ⟨x, hx, rfl⟩
        · rw [ilR, if_pos rfl] at hfin
          refine st_iload rX8_inLots_51 rfl ?_
          refine st_iload rX8_inLots_53 rfl ?_
          first | with_reducible refine st_icmp_geN rX8_inLots_54 (by omega) (by omega) (fun _ => ?_) (fun h => absurd h (by first | decide | omega | (simp; done) | simp_all)) | refine st_icmp_ge rX8_inLots_54 (fun _ => ?_) (fun h => absurd h (by first | decide | omega | (simp; done) | simp_all))
          refine st_iload rX8_inLots_84 rfl ?_
          refine st_c rX8_inLots_85 ?_
          refine st_icmp_ne rX8_inLots_86 (fun h => absurd rfl h) (fun _ => ?_)
          refine st_iload rX8_inLots_89 rfl ?_
          refine st_goto rX8_inLots_91 ?_
          refine st_iret rX8_inLots_102 rfl ?_
          exact hfin
        · have hne : ¬ nI x = -1 := fun e => by have := congrArg Int32.toInt e; rw [nI_toInt (by omega)] at this; have e9 : (-1 : Int32).toInt = -1 := rfl; rw [e9] at this; omega
          rw [ilR, if_neg hne, nI_clamp (by omega)] at hfin
          refine st_iload rX8_inLots_51 rfl ?_
          refine st_iload rX8_inLots_53 rfl ?_
          first | with_reducible refine st_icmp_geN rX8_inLots_54 (by omega) (by omega) (fun _ => ?_) (fun h => absurd h (by first | decide | omega | (simp; done) | simp_all)) | refine st_icmp_ge rX8_inLots_54 (fun _ => ?_) (fun h => absurd h (by first | decide | omega | (simp; done) | simp_all))
          refine st_iload rX8_inLots_84 rfl ?_
          refine st_c rX8_inLots_85 ?_
          refine st_icmp_ne rX8_inLots_86 (fun _ => ?_) (fun h => absurd h hne)
          refine st_aload rX8_inLots_94 rfl ?_
          refine st_getR rX8_inLots_95 (by first | assumption | decide | exact ⟨by decide, rfl, by decide⟩) (by first | rfl | assumption) rfl ?_
          refine st_c rX8_inLots_98 ?_
          refine st_iload rX8_inLots_99 rfl ?_
          first | with_reducible refine st_iaddN rX8_inLots_100 ?_ | refine st_iadd rX8_inLots_100 ?_
          refine st_ialdN rX8_inLots_101 (by first | assumption | decide | exact ⟨by decide, rfl, by decide⟩) (by omega) ?_
          rw [hv3]
          refine st_iret rX8_inLots_102 rfl ?_
          exact hfin
      | succ r ih =>
        intro i I3 he g3 hv3
        obtain ⟨k1, k2⟩ := ok_il (z := z) hO.1 hN h0 h60 i (by omega)
        refine st_iload rX8_inLots_51 rfl ?_
        refine st_iload rX8_inLots_53 rfl ?_
        first | with_reducible refine st_icmp_geN rX8_inLots_54 (by omega) (by omega) (fun h => absurd h (by first | decide | omega | (simp; done) | simp_all)) (fun _ => ?_) | refine st_icmp_ge rX8_inLots_54 (fun h => absurd h (by first | decide | omega | (simp; done) | simp_all)) (fun _ => ?_)
        refine st_iload rX8_inLots_57 rfl ?_
        refine st_aload rX8_inLots_59 rfl ?_
        refine st_aload rX8_inLots_60 rfl ?_
        refine st_getR rX8_inLots_61 (by first | assumption | decide | exact ⟨by decide, rfl, by decide⟩) (by first | rfl | assumption) rfl ?_
        refine st_iload rX8_inLots_64 rfl ?_
        refine st_iload rX8_inLots_65 rfl ?_
        first | with_reducible refine st_iaddN rX8_inLots_67 ?_ | refine st_iadd rX8_inLots_67 ?_
        refine st_c rX8_inLots_68 ?_
        refine st_iremN rX8_inLots_71 (by omega) (by omega) ?_
        refine cV3i rX8_inLots_72 (by first | assumption | decide | exact ⟨by decide, rfl, by decide⟩) (s_drawn (A := A) (N := ilN A m no z N i) (m := m) (no := no) (Or.inr rfl) hO.1 (by rw [g3 105 (by decide) (by decide) (by decide)]; exact hmm) (by rw [g3 105 (by decide) (by decide) (by decide)]; exact hmo) (fun j hj => by rw [g3 107 (by decide) (by decide) (by decide), g3 108 (by decide) (by decide) (by decide), g3 110 (by decide) (by decide) (by decide), g3 111 (by decide) (by decide) (by decide), g3 112 (by decide) (by decide) (by decide)]; exact m9 j hj) hv3 k1 k2 (by omega) (Nat.mod_lt _ (by decide)) (fun I4 g4 hv4 => ?_)) rfl (by decide)
        first | with_reducible refine st_iaddN rX8_inLots_75 ?_ | refine st_iadd rX8_inLots_75 ?_
        refine st_istore4 rX8_inLots_76 rfl ?_
        first | with_reducible refine st_iincN5 rX8_inLots_78 rfl ?_ | refine st_iinc5 rX8_inLots_78 rfl ?_
        refine st_goto rX8_inLots_81 ?_
        exact ih (i + 1) I4 (by omega) (fun a h1 h2 h3 => by rw [g4 a h1 h2 h3, g3 a h1 h2 h3]) hv4
    exact key c 0 I2 (by omega) (fun a h1 _ _ => g a h1) (by rw [g5, e1 115 (by decide)]; exact eN.symm)
  · have hne : ¬ t = -1 := fun e => by have := congrArg Int32.toInt (ht9.symm.trans e); rw [nI_toInt (by omega)] at this; have e9 : (-1 : Int32).toInt = -1 := rfl; rw [e9] at this; omega
    refine st_iload rX8_inLots_5 rfl ?_
    refine st_c rX8_inLots_6 ?_
    refine st_c rX8_inLots_7 ?_
    refine cS3i rX8_inLots_10 (s_in ?_) rfl
    rw [inR_N (by decide), isT_n hz (by decide)]
    first | with_reducible refine st_if_eqN rX8_inLots_13 (by omega) (fun h => absurd h (by first | decide | omega | (simp; done) | simp_all)) (fun _ => ?_) | refine st_if_eq rX8_inLots_13 (fun h => absurd h (by first | decide | omega | (simp; done) | simp_all)) (fun _ => ?_)
    refine st_iload rX8_inLots_16 rfl ?_
    refine st_c rX8_inLots_17 ?_
    refine st_c rX8_inLots_18 ?_
    refine cS3i rX8_inLots_20 (s_in ?_) rfl
    rw [inR_N (by decide), isT_n hc (by decide)]
    first | with_reducible refine st_if_eqN rX8_inLots_23 (by omega) (fun h => absurd h (by first | decide | omega | (simp; done) | simp_all)) (fun _ => ?_) | refine st_if_eq rX8_inLots_23 (fun h => absurd h (by first | decide | omega | (simp; done) | simp_all)) (fun _ => ?_)
    refine st_iload rX8_inLots_26 rfl ?_
    refine st_c rX8_inLots_27 ?_
    refine st_icmp_eq rX8_inLots_28 (fun h => absurd h hne) (fun _ => ?_)
    refine st_aload rX8_inLots_31 rfl ?_
    refine st_iload rX8_inLots_32 rfl ?_
    refine cV2i rX8_inLots_33 (by first | assumption | decide | exact ⟨by decide, rfl, by decide⟩) (s_isTown hmm hm6 ?_) rfl (by decide)
    rw [ht9, isT_n hx (by omega), ← ht9]
    first | with_reducible refine st_if_neN rX8_inLots_36 (by omega) (fun _ => ?_) (fun h => absurd h (by first | decide | omega | (simp; done) | simp_all)) | refine st_if_ne rX8_inLots_36 (fun _ => ?_) (fun h => absurd h (by first | decide | omega | (simp; done) | simp_all))
    refine st_aload rX8_inLots_41 rfl ?_
    refine cV1v rX8_inLots_42 (by first | assumption | decide | exact ⟨by decide, rfl, by decide⟩) (s_asNow (A := A) m3 (fun I2 g g5 => ?_)) rfl (by decide)
    refine st_c rX8_inLots_45 ?_
    refine st_istore4 rX8_inLots_46 rfl ?_
    refine st_c rX8_inLots_48 ?_
    refine st_istore5 rX8_inLots_49 rfl ?_
    skip
    have key : ∀ (r i : Nat) (I3 : Nat → Nat → Int32), i + r = c → (∀ a, a ≠ 115 → a ≠ 121 → a ≠ 122 → I3 a = I1 a) → I3 115 = ilN A m no z N i → V (d + 2) 123 123 mX8_inLots 51 [.ref 103, .int (nI z), .int (nI c), .int t, .int (nI (ilC A m no z N i)), .int (nI i)] [] (I3, J, vRR ρ) (Ki k) := by
      intro r
      induction r with
      | zero =>
        intro i I3 he g3 hv3
        have he : i = c := by omega
        subst he
        have hfin := hk I3 (fun a ha => by rw [g3 a (by omega) (by omega) (by omega)]; exact e1 a (by omega)) (InvM_same hM1 (fun a h1 h2 h3 h4 h5 => g3 a h3 h4 h5) (fun q _ => by rw [g3 103 (by decide) (by decide) (by decide)]))
        rcases htt with rfl | ⟨x, hx, rfl⟩
        · rw [ilR, if_pos rfl] at hfin
          refine st_iload rX8_inLots_51 rfl ?_
          refine st_iload rX8_inLots_53 rfl ?_
          first | with_reducible refine st_icmp_geN rX8_inLots_54 (by omega) (by omega) (fun _ => ?_) (fun h => absurd h (by first | decide | omega | (simp; done) | simp_all)) | refine st_icmp_ge rX8_inLots_54 (fun _ => ?_) (fun h => absurd h (by first | decide | omega | (simp; done) | simp_all))
          refine st_iload rX8_inLots_84 rfl ?_
          refine st_c rX8_inLots_85 ?_
          refine st_icmp_ne rX8_inLots_86 (fun h => absurd rfl h) (fun _ => ?_)
          refine st_iload rX8_inLots_89 rfl ?_
          refine st_goto rX8_inLots_91 ?_
          refine st_iret rX8_inLots_102 rfl ?_
          exact hfin
        · have hne : ¬ nI x = -1 := fun e => by have := congrArg Int32.toInt e; rw [nI_toInt (by omega)] at this; have e9 : (-1 : Int32).toInt = -1 := rfl; rw [e9] at this; omega
          rw [ilR, if_neg hne, nI_clamp (by omega)] at hfin
          refine st_iload rX8_inLots_51 rfl ?_
          refine st_iload rX8_inLots_53 rfl ?_
          first | with_reducible refine st_icmp_geN rX8_inLots_54 (by omega) (by omega) (fun _ => ?_) (fun h => absurd h (by first | decide | omega | (simp; done) | simp_all)) | refine st_icmp_ge rX8_inLots_54 (fun _ => ?_) (fun h => absurd h (by first | decide | omega | (simp; done) | simp_all))
          refine st_iload rX8_inLots_84 rfl ?_
          refine st_c rX8_inLots_85 ?_
          refine st_icmp_ne rX8_inLots_86 (fun _ => ?_) (fun h => absurd h hne)
          refine st_aload rX8_inLots_94 rfl ?_
          refine st_getR rX8_inLots_95 (by first | assumption | decide | exact ⟨by decide, rfl, by decide⟩) (by first | rfl | assumption) rfl ?_
          refine st_c rX8_inLots_98 ?_
          refine st_iload rX8_inLots_99 rfl ?_
          first | with_reducible refine st_iaddN rX8_inLots_100 ?_ | refine st_iadd rX8_inLots_100 ?_
          refine st_ialdN rX8_inLots_101 (by first | assumption | decide | exact ⟨by decide, rfl, by decide⟩) (by omega) ?_
          rw [hv3]
          refine st_iret rX8_inLots_102 rfl ?_
          exact hfin
      | succ r ih =>
        intro i I3 he g3 hv3
        obtain ⟨k1, k2⟩ := ok_il (z := z) hO.1 hN h0 h60 i (by omega)
        refine st_iload rX8_inLots_51 rfl ?_
        refine st_iload rX8_inLots_53 rfl ?_
        first | with_reducible refine st_icmp_geN rX8_inLots_54 (by omega) (by omega) (fun h => absurd h (by first | decide | omega | (simp; done) | simp_all)) (fun _ => ?_) | refine st_icmp_ge rX8_inLots_54 (fun h => absurd h (by first | decide | omega | (simp; done) | simp_all)) (fun _ => ?_)
        refine st_iload rX8_inLots_57 rfl ?_
        refine st_aload rX8_inLots_59 rfl ?_
        refine st_aload rX8_inLots_60 rfl ?_
        refine st_getR rX8_inLots_61 (by first | assumption | decide | exact ⟨by decide, rfl, by decide⟩) (by first | rfl | assumption) rfl ?_
        refine st_iload rX8_inLots_64 rfl ?_
        refine st_iload rX8_inLots_65 rfl ?_
        first | with_reducible refine st_iaddN rX8_inLots_67 ?_ | refine st_iadd rX8_inLots_67 ?_
        refine st_c rX8_inLots_68 ?_
        refine st_iremN rX8_inLots_71 (by omega) (by omega) ?_
        refine cV3i rX8_inLots_72 (by first | assumption | decide | exact ⟨by decide, rfl, by decide⟩) (s_drawn (A := A) (N := ilN A m no z N i) (m := m) (no := no) (Or.inr rfl) hO.1 (by rw [g3 105 (by decide) (by decide) (by decide)]; exact hmm) (by rw [g3 105 (by decide) (by decide) (by decide)]; exact hmo) (fun j hj => by rw [g3 107 (by decide) (by decide) (by decide), g3 108 (by decide) (by decide) (by decide), g3 110 (by decide) (by decide) (by decide), g3 111 (by decide) (by decide) (by decide), g3 112 (by decide) (by decide) (by decide)]; exact m9 j hj) hv3 k1 k2 (by omega) (Nat.mod_lt _ (by decide)) (fun I4 g4 hv4 => ?_)) rfl (by decide)
        first | with_reducible refine st_iaddN rX8_inLots_75 ?_ | refine st_iadd rX8_inLots_75 ?_
        refine st_istore4 rX8_inLots_76 rfl ?_
        first | with_reducible refine st_iincN5 rX8_inLots_78 rfl ?_ | refine st_iinc5 rX8_inLots_78 rfl ?_
        refine st_goto rX8_inLots_81 ?_
        exact ih (i + 1) I4 (by omega) (fun a h1 h2 h3 => by rw [g4 a h1 h2 h3, g3 a h1 h2 h3]) hv4
    exact key c 0 I2 (by omega) (fun a h1 _ _ => g a h1) (by rw [g5, e1 115 (by decide)]; exact eN.symm)
end P32
