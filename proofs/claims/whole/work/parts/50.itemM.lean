/-! ===== the reference reads an item ===== -/
def FrS (I I' : Nat → Nat → Int32) : Prop := (∀ a, a ≠ 103 → a ≠ 105 → a < 106 ∨ 112 < a → I' a = I a) ∧ (∀ q, q < 4 ∨ 8 < q → I' 103 q = I 103 q) ∧ (∀ q, q < 2 → I' 105 q = I 105 q) ∧ (∀ a k, 106 ≤ a → a ≤ 112 → a ≠ 109 → k < 6 → I' a k = I a k) ∧ ∀ k, k < 36 → I' 109 k = I 109 k
theorem FrS_t {I I' I2 : Nat → Nat → Int32} (h : FrS I I') (g : FrS I' I2) : FrS I I2 := ⟨fun a h1 h2 h3 => (g.1 a h1 h2 h3).trans (h.1 a h1 h2 h3), fun q hq => (g.2.1 q hq).trans (h.2.1 q hq), fun q hq => (g.2.2.1 q hq).trans (h.2.2.1 q hq), fun a k h1 h2 h3 h4 => (g.2.2.2.1 a k h1 h2 h3 h4).trans (h.2.2.2.1 a k h1 h2 h3 h4), fun k hk => (g.2.2.2.2 k hk).trans (h.2.2.2.2 k hk)⟩
theorem FrS_M {I I' : Nat → Nat → Int32} (h : FrM I I') : FrS I I' := ⟨fun a h1 _ _ => h.1 a h1, h.2, fun q _ => by rw [h.1 105 (by decide)], fun a k h1 _ _ _ => by rw [h.1 a (by omega)], fun k _ => by rw [h.1 109 (by decide)]⟩
theorem FrS_u {I : Nat → Nat → Int32} {a j : Nat} {x : Int32} (h1 : 106 ≤ a) (h2 : a ≤ 112) (h3 : a ≠ 109) (hj : 6 ≤ j) : FrS I (up I a (va_up (I a) j x)) := by
  refine ⟨fun b _ _ hb => up_n (by omega), fun q _ => by rw [up_n (by omega)], fun q _ => by rw [up_n (by omega)], fun b k _ _ _ hk => ?_, fun k _ => by rw [up_n (by omega)]⟩
  by_cases e : b = a
  · subst e; rw [up_s, va_up_n (by omega)]
  · rw [up_n e]
theorem FrS_r {I : Nat → Nat → Int32} {j : Nat} {x : Int32} (hj : 36 ≤ j) : FrS I (up I 109 (va_up (I 109) j x)) :=
  ⟨fun b _ _ hb => up_n (by omega), fun q _ => by rw [up_n (by omega)], fun q _ => by rw [up_n (by omega)], fun b k _ _ hb _ => by rw [up_n hb], fun k _ => by rw [up_s, va_up_n (by omega)]⟩
theorem FrS_n {I : Nat → Nat → Int32} {j : Nat} {x : Int32} (hj : 2 ≤ j) : FrS I (up I 105 (va_up (I 105) j x)) :=
  ⟨fun b _ hb _ => up_n hb, fun q _ => by rw [up_n (by omega)], fun q _ => by rw [up_s, va_up_n (by omega)], fun b k _ _ hb _ => by rw [up_n (by omega)], fun k _ => by rw [up_n (by omega)]⟩
/-- the reference's second rows against what is told -/
def SD (I : Nat → Nat → Int32) (D : Nat → Nat → Nat) : Prop := I 105 2 = nI (D 0 0) ∧ I 105 3 = nI (D 0 1) ∧ (∀ t, t < D 0 0 → I 106 (6 + t) = nI (D 1 t) ∧ I 107 (6 + t) = nI (D 2 t) ∧ I 108 (6 + t) = nI (D 3 t)) ∧ (∀ k, k < 36 → I 109 (36 + k) = nI (D 4 k)) ∧ ∀ i, i < D 0 1 → I 110 (6 + i) = nI (D 5 i) ∧ I 111 (6 + i) = nI (D 6 i) ∧ I 112 (6 + i) = nI (D 7 i)
theorem SD_c {I I' : Nat → Nat → Int32} {D : Nat → Nat → Nat} (h : SD I D) (g : ∀ a, 105 ≤ a → a ≤ 112 → I' a = I a) : SD I' D := by
  obtain ⟨c1, c2, c3, c4, c5⟩ := h
  simp (disch := omega) only [SD, g]
  exact ⟨c1, c2, c3, c4, c5⟩
def itF (l : Nat → Nat) (L : Nat) (D : Nat → Nat → Nat) (p : Nat) : Option Nat := fN (fN (fN none (nmO l L D p 0) (tS l L (pN l L p 1))) (nmO l L D p 1) (tS l L (pN l L p 2))) (nmO l L D p 2) (tS l L (pN l L p 3))
theorem itF_n {l : Nat → Nat} {L p : Nat} {D : Nat → Nat → Nat} (h : itF l L D p = none) : nmO l L D p 0 = true ∧ nmO l L D p 1 = true ∧ nmO l L D p 2 = true := by
  simp only [itF] at h
  cases h0 : nmO l L D p 0
  · rw [h0, fN_f, fN_some, fN_some] at h; cases h
  · rw [h0, fN_t] at h
    cases h1 : nmO l L D p 1
    · rw [h1, fN_f, fN_some] at h; cases h
    · rw [h1, fN_t] at h
      cases h2 : nmO l L D p 2
      · rw [h2, fN_f] at h; cases h
      · exact ⟨rfl, rfl, rfl⟩
theorem in2 {l : Nat → Nat} {L q lo hi : Nat} (h1 : lo < 2147483648) (h2 : hi < 2147483648) : (decide (tC l L q = 2) && inR (nI (tV l L q)) (nI lo) (nI hi)) = (decide (tC l L q = 2) && (decide (lo ≤ tV l L q) && decide (tV l L q ≤ hi))) := by
  by_cases h : tC l L q = 2
  · rw [inR_d (by have := tV_2 l h; omega) h1 h2]
  · rw [decide_eq_false h, Bool.false_and, Bool.false_and]
theorem in2T {l : Nat → Nat} {L q m : Nat} (hm : m ≤ 6) : (decide (tC l L q = 2) && inR (nI (tV l L q)) (nI 0) (nI m - nI 1)) = (decide (tC l L q = 2) && decide (tV l L q < m)) := by
  by_cases h : tC l L q = 2
  · rw [inR_T (by omega), isT_d (by have := tV_2 l h; omega)]
  · rw [decide_eq_false h, Bool.false_and, Bool.false_and]
section P50
variable {d : Nat} {I A : Nat → Nat → Int32} {J : Nat → Nat → Int64} {ρ m no : Nat} {T : Int64} {k : Int32 → vS → Prop} {kl : Int64 → vS → Prop} {kv : vS → Prop}
variable {l : Nat → Nat} {L p : Nat} {D : Nat → Nat → Nat}
set_option maxHeartbeats 4000000 in
set_option maxRecDepth 100000 in
theorem s_riT (hT : MT I l L) (hp : p ≤ L) (h : PS I l L (pN l L p 1) none) (hS : SD I D) (hO : OkD D) (h6 : D 0 0 < 6) (hx : tV l L p = 116) (hk : ∀ I', FrS I I' → PS I' l L (pN l L p 4) (itF l L D p) → (itF l L D p = none → SD I' (stD l L D p)) → kv (I', J, vRR ρ)) : V (d + 4) 123 123 mX8_readsItem 0 [.ref 103, .int (nI 116), vJ, vJ, vJ] [] (I, J, vRR ρ) (Kv kv) := by
  obtain ⟨s1, s2, s3, s4, s5⟩ := hS
  have d1 := hO.1
  have n0 : (decide (tC l L (pN l L p 1) = 2) && inR (nI (tV l L (pN l L p 1))) (nI 1) (nI 99)) = nmO l L D p 0 := by
    rw [in2 (by decide) (by decide)]
    simp [nmO, numOk, hx]
  have n1 : (decide (tC l L (pN l L p 2) = 2) && inR (nI (tV l L (pN l L p 2))) (nI 1) (nI 99)) = nmO l L D p 1 := by
    rw [in2 (by decide) (by decide)]
    simp [nmO, numOk, hx]
  have n2 : (decide (tC l L (pN l L p 3) = 2) && inR (nI (tV l L (pN l L p 3))) (nI 0) (nI 6)) = nmO l L D p 2 := by
    rw [in2 (by decide) (by decide)]
    simp [nmO, numOk, hx]
  refine st_iload rX8_readsItem_0 rfl ?_
  refine st_c rX8_readsItem_1 ?_
  first | with_reducible refine st_icmp_neN rX8_readsItem_3 (by omega) (by omega) (fun h => absurd h (by first | decide | omega | (simp; done) | simp_all)) (fun _ => ?_) | refine st_icmp_ne rX8_readsItem_3 (fun h => absurd h (by first | decide | omega | (simp; done) | simp_all)) (fun _ => ?_)
  refine st_c rX8_readsItem_6 ?_
  refine st_aload rX8_readsItem_8 rfl ?_
  refine st_getR rX8_readsItem_9 (by first | assumption | decide | exact ⟨by decide, rfl, by decide⟩) (by first | rfl | assumption) rfl ?_
  refine st_c rX8_readsItem_12 ?_
  refine st_ialdN rX8_readsItem_13 (by first | assumption | decide | exact ⟨by decide, rfl, by decide⟩) (by omega) ?_
  refine st_top s1 ?_
  first | with_reducible refine st_iaddN rX8_readsItem_14 ?_ | refine st_iadd rX8_readsItem_14 ?_
  refine st_istore2 rX8_readsItem_15 rfl ?_
  refine st_aload rX8_readsItem_16 rfl ?_
  refine st_getR rX8_readsItem_17 (by first | assumption | decide | exact ⟨by decide, rfl, by decide⟩) (by first | rfl | assumption) rfl ?_
  refine st_iload rX8_readsItem_20 rfl ?_
  refine st_aload rX8_readsItem_21 rfl ?_
  refine st_c rX8_readsItem_22 ?_
  refine st_c rX8_readsItem_23 ?_
  refine cV3i rX8_readsItem_25 (by first | assumption | decide | exact ⟨by decide, rfl, by decide⟩) (s_nmb (p := pN l L p 1) hT (pN_le l hp 1) h (fun I2 g2 P2 => ?_)) rfl (by decide)
  rw [n0] at P2 ⊢
  have P2 : PS I2 l L (pN l L p 2) (fN none (nmO l L D p 0) (tS l L (pN l L p 1))) := P2
  generalize hx1 : (if (fN none (nmO l L D p 0) (tS l L (pN l L p 1))).isNone = true then nI (tV l L (pN l L p 1)) else nI 0) = x1
  refine st_iastN rX8_readsItem_28 (by first | assumption | decide | exact ⟨by decide, rfl, by decide⟩) (by omega) ?_
  refine st_aload rX8_readsItem_29 rfl ?_
  refine st_getR rX8_readsItem_30 (by first | assumption | decide | exact ⟨by decide, rfl, by decide⟩) (by first | rfl | assumption) rfl ?_
  refine st_iload rX8_readsItem_33 rfl ?_
  refine st_aload rX8_readsItem_34 rfl ?_
  refine st_c rX8_readsItem_35 ?_
  refine st_c rX8_readsItem_36 ?_
  refine cV3i rX8_readsItem_38 (by first | assumption | decide | exact ⟨by decide, rfl, by decide⟩) (s_nmb (p := pN l L p 2) (MT_f (MT_M hT g2) (up_n (by decide)) (by rw [up_n (by decide)])) (pN_le l hp 2) (PS_c P2 (up_n (by decide))) (fun I4 g4 P4 => ?_)) rfl (by decide)
  rw [n1] at P4 ⊢
  have P4 : PS I4 l L (pN l L p 3) (fN (fN none (nmO l L D p 0) (tS l L (pN l L p 1))) (nmO l L D p 1) (tS l L (pN l L p 2))) := P4
  generalize hx2 : (if (fN (fN none (nmO l L D p 0) (tS l L (pN l L p 1))) (nmO l L D p 1) (tS l L (pN l L p 2))).isNone = true then nI (tV l L (pN l L p 2)) else nI 0) = x2
  refine st_iastN rX8_readsItem_41 (by first | assumption | decide | exact ⟨by decide, rfl, by decide⟩) (by omega) ?_
  refine st_aload rX8_readsItem_42 rfl ?_
  refine st_getR rX8_readsItem_43 (by first | assumption | decide | exact ⟨by decide, rfl, by decide⟩) (by first | rfl | assumption) rfl ?_
  refine st_iload rX8_readsItem_46 rfl ?_
  refine st_aload rX8_readsItem_47 rfl ?_
  refine st_c rX8_readsItem_48 ?_
  refine st_c rX8_readsItem_49 ?_
  refine cV3i rX8_readsItem_51 (by first | assumption | decide | exact ⟨by decide, rfl, by decide⟩) (s_nmb (p := pN l L p 3) (MT_f (MT_M (MT_f (MT_M hT g2) (up_n (by decide)) (by rw [up_n (by decide)])) g4) (up_n (by decide)) (by rw [up_n (by decide)])) (pN_le l hp 3) (PS_c P4 (up_n (by decide))) (fun I6 g6 P6 => ?_)) rfl (by decide)
  rw [n2] at P6 ⊢
  have P6 : PS I6 l L (pN l L p 4) (fN (fN (fN none (nmO l L D p 0) (tS l L (pN l L p 1))) (nmO l L D p 1) (tS l L (pN l L p 2))) (nmO l L D p 2) (tS l L (pN l L p 3))) := P6
  generalize hx3 : (if (fN (fN (fN none (nmO l L D p 0) (tS l L (pN l L p 1))) (nmO l L D p 1) (tS l L (pN l L p 2))) (nmO l L D p 2) (tS l L (pN l L p 3))).isNone = true then nI (tV l L (pN l L p 3)) else nI 0) = x3
  refine st_iastN rX8_readsItem_54 (by first | assumption | decide | exact ⟨by decide, rfl, by decide⟩) (by omega) ?_
  refine st_aload rX8_readsItem_55 rfl ?_
  refine st_getR rX8_readsItem_56 (by first | assumption | decide | exact ⟨by decide, rfl, by decide⟩) (by first | rfl | assumption) rfl ?_
  refine st_c rX8_readsItem_59 ?_
  refine st_dup2 rX8_readsItem_60 rfl rfl ?_
  refine st_ialdN rX8_readsItem_61 (by first | assumption | decide | exact ⟨by decide, rfl, by decide⟩) (by omega) ?_
  refine st_top (show _ = nI (D 0 0) by (first | (simp (disch := omega) only [up_n, g2.1, g4.1, g6.1]; exact s1) | exact s1)) ?_
  refine st_c rX8_readsItem_62 ?_
  first | with_reducible refine st_iaddN rX8_readsItem_63 ?_ | refine st_iadd rX8_readsItem_63 ?_
  refine st_iastN rX8_readsItem_64 (by first | assumption | decide | exact ⟨by decide, rfl, by decide⟩) (by omega) ?_
  refine st_goto rX8_readsItem_65 ?_
  refine st_vret rX8_readsItem_269 rfl ?_
  refine hk _ ?_ (PS_c P6 (by rw [up_n (by decide), up_n (by decide)])) (fun hn => ?_)
  · exact FrS_t (FrS_M g2) (FrS_t (FrS_u (by decide) (by decide) (by decide) (by omega)) (FrS_t (FrS_M g4) (FrS_t (FrS_u (by decide) (by decide) (by decide) (by omega)) (FrS_t (FrS_M g6) (FrS_t (FrS_u (by decide) (by decide) (by decide) (by omega)) (FrS_n (by omega)))))))
  · obtain ⟨q0, q1, q2⟩ := itF_n hn
    have hx1' : nI (tV l L (pN l L p 1)) = x1 := by rw [q0, fN_t] at hx1; exact hx1
    have hx2' : nI (tV l L (pN l L p 2)) = x2 := by rw [q0, q1, fN_t, fN_t] at hx2; exact hx2
    have hx3' : nI (tV l L (pN l L p 3)) = x3 := by rw [q0, q1, q2, fN_t, fN_t, fN_t] at hx3; exact hx3
    subst hx1' hx2' hx3'
    rw [show stD l L D p = adT D (tV l L (pN l L p 1)) (tV l L (pN l L p 2)) (tV l L (pN l L p 3)) by simp [stD, adD, hx]]
    simp (disch := omega) only [SD, adT, up_s, up_n, va_up_s, va_up_n, g2.1, g4.1, g6.1]
    refine ⟨trivial, s2, fun t ht => ?_, s4, s5⟩
    by_cases e : t = D 0 0
    · subst e; simp only [va_up_s]; exact ⟨trivial, trivial, trivial⟩
    · simp (disch := omega) only [va_up_n]; exact s3 t (by omega)
set_option maxHeartbeats 4000000 in
set_option maxRecDepth 100000 in
theorem s_riO (hT : MT I l L) (hp : p ≤ L) (h : PS I l L (pN l L p 1) none) (hS : SD I D) (hO : OkD D) (h6 : D 0 1 < 6) (hx : tV l L p = 111) (hk : ∀ I', FrS I I' → PS I' l L (pN l L p 4) (itF l L D p) → (itF l L D p = none → SD I' (stD l L D p)) → kv (I', J, vRR ρ)) : V (d + 4) 123 123 mX8_readsItem 0 [.ref 103, .int (nI 111), vJ, vJ, vJ] [] (I, J, vRR ρ) (Kv kv) := by
  obtain ⟨s1, s2, s3, s4, s5⟩ := hS
  have d1 := hO.1
  have n0 : (decide (tC l L (pN l L p 1) = 2) && inR (nI (tV l L (pN l L p 1))) (nI 0) (nI (D 0 0) - nI 1)) = nmO l L D p 0 := by
    rw [in2T d1]
    simp [nmO, numOk, hx]
  have n1 : (decide (tC l L (pN l L p 2) = 2) && inR (nI (tV l L (pN l L p 2))) (nI 0) (nI (D 0 0) - nI 1)) = nmO l L D p 1 := by
    rw [in2T d1]
    simp [nmO, numOk, hx]
  have n2 : (decide (tC l L (pN l L p 3) = 2) && inR (nI (tV l L (pN l L p 3))) (nI 0) (nI 60)) = nmO l L D p 2 := by
    rw [in2 (by decide) (by decide)]
    simp [nmO, numOk, hx]
  refine st_iload rX8_readsItem_0 rfl ?_
  refine st_c rX8_readsItem_1 ?_
  first | with_reducible refine st_icmp_neN rX8_readsItem_3 (by omega) (by omega) (fun _ => ?_) (fun h => absurd h (by first | decide | omega | (simp; done) | simp_all)) | refine st_icmp_ne rX8_readsItem_3 (fun _ => ?_) (fun h => absurd h (by first | decide | omega | (simp; done) | simp_all))
  refine st_iload rX8_readsItem_68 rfl ?_
  refine st_c rX8_readsItem_69 ?_
  first | with_reducible refine st_icmp_neN rX8_readsItem_71 (by omega) (by omega) (fun _ => ?_) (fun h => absurd h (by first | decide | omega | (simp; done) | simp_all)) | refine st_icmp_ne rX8_readsItem_71 (fun _ => ?_) (fun h => absurd h (by first | decide | omega | (simp; done) | simp_all))
  refine st_aload rX8_readsItem_184 rfl ?_
  refine st_getR rX8_readsItem_185 (by first | assumption | decide | exact ⟨by decide, rfl, by decide⟩) (by first | rfl | assumption) rfl ?_
  refine st_c rX8_readsItem_188 ?_
  refine st_aload rX8_readsItem_190 rfl ?_
  refine st_getR rX8_readsItem_191 (by first | assumption | decide | exact ⟨by decide, rfl, by decide⟩) (by first | rfl | assumption) rfl ?_
  refine st_c rX8_readsItem_194 ?_
  refine st_ialdN rX8_readsItem_195 (by first | assumption | decide | exact ⟨by decide, rfl, by decide⟩) (by omega) ?_
  refine st_top s2 ?_
  first | with_reducible refine st_iaddN rX8_readsItem_196 ?_ | refine st_iadd rX8_readsItem_196 ?_
  refine st_aload rX8_readsItem_197 rfl ?_
  refine st_c rX8_readsItem_198 ?_
  refine st_aload rX8_readsItem_199 rfl ?_
  refine st_getR rX8_readsItem_200 (by first | assumption | decide | exact ⟨by decide, rfl, by decide⟩) (by first | rfl | assumption) rfl ?_
  refine st_c rX8_readsItem_203 ?_
  refine st_ialdN rX8_readsItem_204 (by first | assumption | decide | exact ⟨by decide, rfl, by decide⟩) (by omega) ?_
  refine st_top s1 ?_
  refine st_c rX8_readsItem_205 ?_
  first | with_reducible refine st_isubN rX8_readsItem_206 (by omega) ?_ | refine st_isub rX8_readsItem_206 ?_
  refine cV3i rX8_readsItem_207 (by first | assumption | decide | exact ⟨by decide, rfl, by decide⟩) (s_nmb (p := pN l L p 1) hT (pN_le l hp 1) h (fun I2 g2 P2 => ?_)) rfl (by decide)
  rw [n0] at P2 ⊢
  have P2 : PS I2 l L (pN l L p 2) (fN none (nmO l L D p 0) (tS l L (pN l L p 1))) := P2
  generalize hx1 : (if (fN none (nmO l L D p 0) (tS l L (pN l L p 1))).isNone = true then nI (tV l L (pN l L p 1)) else nI 0) = x1
  refine st_iastN rX8_readsItem_210 (by first | assumption | decide | exact ⟨by decide, rfl, by decide⟩) (by omega) ?_
  refine st_aload rX8_readsItem_211 rfl ?_
  refine st_getR rX8_readsItem_212 (by first | assumption | decide | exact ⟨by decide, rfl, by decide⟩) (by first | rfl | assumption) rfl ?_
  refine st_c rX8_readsItem_215 ?_
  refine st_aload rX8_readsItem_217 rfl ?_
  refine st_getR rX8_readsItem_218 (by first | assumption | decide | exact ⟨by decide, rfl, by decide⟩) (by first | rfl | assumption) rfl ?_
  refine st_c rX8_readsItem_221 ?_
  refine st_ialdN rX8_readsItem_222 (by first | assumption | decide | exact ⟨by decide, rfl, by decide⟩) (by omega) ?_
  refine st_top (show _ = nI (D 0 1) by (first | (simp (disch := omega) only [up_n, g2.1]; exact s2) | exact s2)) ?_
  first | with_reducible refine st_iaddN rX8_readsItem_223 ?_ | refine st_iadd rX8_readsItem_223 ?_
  refine st_aload rX8_readsItem_224 rfl ?_
  refine st_c rX8_readsItem_225 ?_
  refine st_aload rX8_readsItem_226 rfl ?_
  refine st_getR rX8_readsItem_227 (by first | assumption | decide | exact ⟨by decide, rfl, by decide⟩) (by first | rfl | assumption) rfl ?_
  refine st_c rX8_readsItem_230 ?_
  refine st_ialdN rX8_readsItem_231 (by first | assumption | decide | exact ⟨by decide, rfl, by decide⟩) (by omega) ?_
  refine st_top (show _ = nI (D 0 0) by (first | (simp (disch := omega) only [up_n, g2.1]; exact s1) | exact s1)) ?_
  refine st_c rX8_readsItem_232 ?_
  first | with_reducible refine st_isubN rX8_readsItem_233 (by omega) ?_ | refine st_isub rX8_readsItem_233 ?_
  refine cV3i rX8_readsItem_234 (by first | assumption | decide | exact ⟨by decide, rfl, by decide⟩) (s_nmb (p := pN l L p 2) (MT_f (MT_M hT g2) (up_n (by decide)) (by rw [up_n (by decide)])) (pN_le l hp 2) (PS_c P2 (up_n (by decide))) (fun I4 g4 P4 => ?_)) rfl (by decide)
  rw [n1] at P4 ⊢
  have P4 : PS I4 l L (pN l L p 3) (fN (fN none (nmO l L D p 0) (tS l L (pN l L p 1))) (nmO l L D p 1) (tS l L (pN l L p 2))) := P4
  generalize hx2 : (if (fN (fN none (nmO l L D p 0) (tS l L (pN l L p 1))) (nmO l L D p 1) (tS l L (pN l L p 2))).isNone = true then nI (tV l L (pN l L p 2)) else nI 0) = x2
  refine st_iastN rX8_readsItem_237 (by first | assumption | decide | exact ⟨by decide, rfl, by decide⟩) (by omega) ?_
  refine st_aload rX8_readsItem_238 rfl ?_
  refine st_getR rX8_readsItem_239 (by first | assumption | decide | exact ⟨by decide, rfl, by decide⟩) (by first | rfl | assumption) rfl ?_
  refine st_c rX8_readsItem_242 ?_
  refine st_aload rX8_readsItem_244 rfl ?_
  refine st_getR rX8_readsItem_245 (by first | assumption | decide | exact ⟨by decide, rfl, by decide⟩) (by first | rfl | assumption) rfl ?_
  refine st_c rX8_readsItem_248 ?_
  refine st_ialdN rX8_readsItem_249 (by first | assumption | decide | exact ⟨by decide, rfl, by decide⟩) (by omega) ?_
  refine st_top (show _ = nI (D 0 1) by (first | (simp (disch := omega) only [up_n, g2.1, g4.1]; exact s2) | exact s2)) ?_
  first | with_reducible refine st_iaddN rX8_readsItem_250 ?_ | refine st_iadd rX8_readsItem_250 ?_
  refine st_aload rX8_readsItem_251 rfl ?_
  refine st_c rX8_readsItem_252 ?_
  refine st_c rX8_readsItem_253 ?_
  refine cV3i rX8_readsItem_255 (by first | assumption | decide | exact ⟨by decide, rfl, by decide⟩) (s_nmb (p := pN l L p 3) (MT_f (MT_M (MT_f (MT_M hT g2) (up_n (by decide)) (by rw [up_n (by decide)])) g4) (up_n (by decide)) (by rw [up_n (by decide)])) (pN_le l hp 3) (PS_c P4 (up_n (by decide))) (fun I6 g6 P6 => ?_)) rfl (by decide)
  rw [n2] at P6 ⊢
  have P6 : PS I6 l L (pN l L p 4) (fN (fN (fN none (nmO l L D p 0) (tS l L (pN l L p 1))) (nmO l L D p 1) (tS l L (pN l L p 2))) (nmO l L D p 2) (tS l L (pN l L p 3))) := P6
  generalize hx3 : (if (fN (fN (fN none (nmO l L D p 0) (tS l L (pN l L p 1))) (nmO l L D p 1) (tS l L (pN l L p 2))) (nmO l L D p 2) (tS l L (pN l L p 3))).isNone = true then nI (tV l L (pN l L p 3)) else nI 0) = x3
  refine st_iastN rX8_readsItem_258 (by first | assumption | decide | exact ⟨by decide, rfl, by decide⟩) (by omega) ?_
  refine st_aload rX8_readsItem_259 rfl ?_
  refine st_getR rX8_readsItem_260 (by first | assumption | decide | exact ⟨by decide, rfl, by decide⟩) (by first | rfl | assumption) rfl ?_
  refine st_c rX8_readsItem_263 ?_
  refine st_dup2 rX8_readsItem_264 rfl rfl ?_
  refine st_ialdN rX8_readsItem_265 (by first | assumption | decide | exact ⟨by decide, rfl, by decide⟩) (by omega) ?_
  refine st_top (show _ = nI (D 0 1) by (first | (simp (disch := omega) only [up_n, g2.1, g4.1, g6.1]; exact s2) | exact s2)) ?_
  refine st_c rX8_readsItem_266 ?_
  first | with_reducible refine st_iaddN rX8_readsItem_267 ?_ | refine st_iadd rX8_readsItem_267 ?_
  refine st_iastN rX8_readsItem_268 (by first | assumption | decide | exact ⟨by decide, rfl, by decide⟩) (by omega) ?_
  refine st_vret rX8_readsItem_269 rfl ?_
  refine hk _ ?_ (PS_c P6 (by rw [up_n (by decide), up_n (by decide)])) (fun hn => ?_)
  · exact FrS_t (FrS_M g2) (FrS_t (FrS_u (by decide) (by decide) (by decide) (by omega)) (FrS_t (FrS_M g4) (FrS_t (FrS_u (by decide) (by decide) (by decide) (by omega)) (FrS_t (FrS_M g6) (FrS_t (FrS_u (by decide) (by decide) (by decide) (by omega)) (FrS_n (by omega)))))))
  · obtain ⟨q0, q1, q2⟩ := itF_n hn
    have hx1' : nI (tV l L (pN l L p 1)) = x1 := by rw [q0, fN_t] at hx1; exact hx1
    have hx2' : nI (tV l L (pN l L p 2)) = x2 := by rw [q0, q1, fN_t, fN_t] at hx2; exact hx2
    have hx3' : nI (tV l L (pN l L p 3)) = x3 := by rw [q0, q1, q2, fN_t, fN_t, fN_t] at hx3; exact hx3
    subst hx1' hx2' hx3'
    rw [show stD l L D p = adO D (tV l L (pN l L p 1)) (tV l L (pN l L p 2)) (tV l L (pN l L p 3)) by simp [stD, adD, hx]]
    simp (disch := omega) only [SD, adO, up_s, up_n, va_up_s, va_up_n, g2.1, g4.1, g6.1]
    refine ⟨s1, trivial, s3, s4, fun t ht => ?_⟩
    by_cases e : t = D 0 1
    · subst e; simp only [va_up_s]; exact ⟨trivial, trivial, trivial⟩
    · simp (disch := omega) only [va_up_n]; exact s5 t (by omega)
set_option maxHeartbeats 4000000 in
set_option maxRecDepth 100000 in
theorem s_riD (hT : MT I l L) (hp : p ≤ L) (h : PS I l L (pN l L p 1) none) (hS : SD I D) (hO : OkD D) (hx : tV l L p = 100) (hk : ∀ I', FrS I I' → PS I' l L (pN l L p 4) (itF l L D p) → (itF l L D p = none → SD I' (stD l L D p)) → kv (I', J, vRR ρ)) : V (d + 4) 123 123 mX8_readsItem 0 [.ref 103, .int (nI 100), vJ, vJ, vJ] [] (I, J, vRR ρ) (Kv kv) := by
  obtain ⟨s1, s2, s3, s4, s5⟩ := hS
  have d1 := hO.1
  have n0 : (decide (tC l L (pN l L p 1) = 2) && inR (nI (tV l L (pN l L p 1))) (nI 0) (nI (D 0 0) - nI 1)) = nmO l L D p 0 := by
    rw [in2T d1]
    simp [nmO, numOk, hx]
  have n2 : (decide (tC l L (pN l L p 3) = 2) && inR (nI (tV l L (pN l L p 3))) (nI 1) (nI 9)) = nmO l L D p 2 := by
    rw [in2 (by decide) (by decide)]
    simp [nmO, numOk, hx]
  refine st_iload rX8_readsItem_0 rfl ?_
  refine st_c rX8_readsItem_1 ?_
  first | with_reducible refine st_icmp_neN rX8_readsItem_3 (by omega) (by omega) (fun _ => ?_) (fun h => absurd h (by first | decide | omega | (simp; done) | simp_all)) | refine st_icmp_ne rX8_readsItem_3 (fun _ => ?_) (fun h => absurd h (by first | decide | omega | (simp; done) | simp_all))
  refine st_iload rX8_readsItem_68 rfl ?_
  refine st_c rX8_readsItem_69 ?_
  first | with_reducible refine st_icmp_neN rX8_readsItem_71 (by omega) (by omega) (fun h => absurd h (by first | decide | omega | (simp; done) | simp_all)) (fun _ => ?_) | refine st_icmp_ne rX8_readsItem_71 (fun h => absurd h (by first | decide | omega | (simp; done) | simp_all)) (fun _ => ?_)
  refine st_aload rX8_readsItem_74 rfl ?_
  refine st_c rX8_readsItem_75 ?_
  refine st_aload rX8_readsItem_76 rfl ?_
  refine st_getR rX8_readsItem_77 (by first | assumption | decide | exact ⟨by decide, rfl, by decide⟩) (by first | rfl | assumption) rfl ?_
  refine st_c rX8_readsItem_80 ?_
  refine st_ialdN rX8_readsItem_81 (by first | assumption | decide | exact ⟨by decide, rfl, by decide⟩) (by omega) ?_
  refine st_top s1 ?_
  refine st_c rX8_readsItem_82 ?_
  first | with_reducible refine st_isubN rX8_readsItem_83 (by omega) ?_ | refine st_isub rX8_readsItem_83 ?_
  refine cV3i rX8_readsItem_84 (by first | assumption | decide | exact ⟨by decide, rfl, by decide⟩) (s_nmb (p := pN l L p 1) hT (pN_le l hp 1) h (fun I2 g2 P2 => ?_)) rfl (by decide)
  rw [n0] at P2 ⊢
  have P2 : PS I2 l L (pN l L p 2) (fN none (nmO l L D p 0) (tS l L (pN l L p 1))) := P2
  generalize hx1 : (if (fN none (nmO l L D p 0) (tS l L (pN l L p 1))).isNone = true then nI (tV l L (pN l L p 1)) else nI 0) = x1
  refine st_istore2 rX8_readsItem_87 rfl ?_
  skip
  have t2 := MT_M hT g2
  have z1 : I2 105 2 = nI (D 0 0) := by rw [g2.1 105 (by decide)]; exact s1
  have hF1 : fN none (nmO l L D p 0) (tS l L (pN l L p 1)) = none → x1 = nI (tV l L (pN l L p 1)) ∧ nmO l L D p 0 = true ∧ tV l L (pN l L p 1) ≤ 99 := by
    intro e
    cases q0 : nmO l L D p 0 with
    | false => rw [q0, fN_f] at e; cases e
    | true =>
      rw [q0, fN_t] at hx1
      exact ⟨(show nI (tV l L (pN l L p 1)) = x1 from hx1).symm, rfl, tV_2 l (nmO_num q0).1⟩
  have tail : ∀ b : Bool, (fN none (nmO l L D p 0) (tS l L (pN l L p 1)) = none → b = nmO l L D p 1) → V (d + 4) 123 123 mX8_readsItem 129 [.ref 103, .int (nI 100), .int x1, vJ, vJ] [.int (vb b), .ref 103] (I2, J, vRR ρ) (Kv kv) := by
    intro b hb
    have eb : fN (fN none (nmO l L D p 0) (tS l L (pN l L p 1))) b (tS l L (pN l L p 2)) = fN (fN none (nmO l L D p 0) (tS l L (pN l L p 1))) (nmO l L D p 1) (tS l L (pN l L p 2)) := by
      cases hf : fN none (nmO l L D p 0) (tS l L (pN l L p 1)) with
      | none => rw [hb hf]
      | some s => rfl
    refine cV2i rX8_readsItem_129 (by first | assumption | decide | exact ⟨by decide, rfl, by decide⟩) (s_takes (p := pN l L p 2) t2 (pN_le l hp 2) P2 (fun I4 g4 P4 => ?_)) rfl (by decide)
    rw [eb] at P4 ⊢
    have P4 : PS I4 l L (pN l L p 3) (fN (fN none (nmO l L D p 0) (tS l L (pN l L p 1))) (nmO l L D p 1) (tS l L (pN l L p 2))) := P4
    generalize hx2 : (if (fN (fN none (nmO l L D p 0) (tS l L (pN l L p 1))) (nmO l L D p 1) (tS l L (pN l L p 2))).isNone = true then I2 103 7 else nI 0) = x2
    refine st_istore3 rX8_readsItem_132 rfl ?_
    refine st_aload rX8_readsItem_133 rfl ?_
    refine st_c rX8_readsItem_134 ?_
    refine st_c rX8_readsItem_135 ?_
    refine cV3i rX8_readsItem_137 (by first | assumption | decide | exact ⟨by decide, rfl, by decide⟩) (s_nmb (p := pN l L p 3) (MT_M t2 g4) (pN_le l hp 3) P4 (fun I6 g6 P6 => ?_)) rfl (by decide)
    rw [n2] at P6 ⊢
    have P6 : PS I6 l L (pN l L p 4) (fN (fN (fN none (nmO l L D p 0) (tS l L (pN l L p 1))) (nmO l L D p 1) (tS l L (pN l L p 2))) (nmO l L D p 2) (tS l L (pN l L p 3))) := P6
    generalize hx3 : (if (fN (fN (fN none (nmO l L D p 0) (tS l L (pN l L p 1))) (nmO l L D p 1) (tS l L (pN l L p 2))) (nmO l L D p 2) (tS l L (pN l L p 3))).isNone = true then nI (tV l L (pN l L p 3)) else nI 0) = x3
    refine st_istore4 rX8_readsItem_140 rfl ?_
    skip
    have P6 : PS I6 l L (pN l L p 4) (itF l L D p) := P6
    cases hF : itF l L D p with
    | some s =>
      rw [hF] at P6
      refine st_aload rX8_readsItem_142 rfl ?_
      refine cV1i rX8_readsItem_143 (by first | assumption | decide | exact ⟨by decide, rfl, by decide⟩) (s_isWell P6 ?_) rfl (by decide)
      rw [show (some s).isNone = false from rfl]
      first | with_reducible refine st_if_eqN rX8_readsItem_146 (by omega) (fun _ => ?_) (fun h => absurd h (by first | decide | omega | (simp; done) | simp_all)) | refine st_if_eq rX8_readsItem_146 (fun _ => ?_) (fun h => absurd h (by first | decide | omega | (simp; done) | simp_all))
      refine st_goto rX8_readsItem_181 ?_
      refine st_vret rX8_readsItem_269 rfl ?_
      refine hk _ (FrS_t (FrS_M g2) (FrS_t (FrS_M g4) (FrS_M g6))) (by rw [hF]; exact P6) (fun hn => ?_)
      rw [hF] at hn; cases hn
    | none =>
      rw [hF] at P6
      obtain ⟨q0, q1, q2⟩ := itF_n hF
      have r0 := nmO_num q0
      have r1 := nmO_num q1
      have r2 := nmO_num q2
      have u0 : tV l L (pN l L p 1) < D 0 0 := by have := r0.2; simp [numOk, hx] at this; exact this
      have u1 : tV l L (pN l L p 2) < D 0 0 ∧ ¬ tV l L (pN l L p 2) = tV l L (pN l L p 1) := by have := r1.2; simp [numOk, hx] at this; exact this
      have hx1' : nI (tV l L (pN l L p 1)) = x1 := by rw [q0, fN_t] at hx1; exact hx1
      have hx2' : nI (tV l L (pN l L p 2)) = x2 := by
        rw [q0, q1, fN_t, fN_t] at hx2
        have hx2 : I2 103 7 = x2 := hx2
        rw [q0, fN_t] at P2
        rw [← hx2]
        exact (P2.2.2.2.2 (Or.inr r1.1)).symm
      have hx3' : nI (tV l L (pN l L p 3)) = x3 := by rw [q0, q1, q2, fN_t, fN_t, fN_t] at hx3; exact hx3
      rw [← hx1', ← hx2', ← hx3']
      have key : ∀ k, k < 36 → va_up (va_up (I 109) (36 + 6 * tV l L (pN l L p 1) + tV l L (pN l L p 2)) (nI (tV l L (pN l L p 3)))) (36 + 6 * tV l L (pN l L p 2) + tV l L (pN l L p 1)) (nI (tV l L (pN l L p 3))) (36 + k) = nI (va_up (va_up (D 4) (6 * tV l L (pN l L p 1) + tV l L (pN l L p 2)) (tV l L (pN l L p 3))) (6 * tV l L (pN l L p 2) + tV l L (pN l L p 1)) (tV l L (pN l L p 3)) k) := by
        intro k hk
        generalize tV l L (pN l L p 1) = a at *
        generalize tV l L (pN l L p 2) = b at *
        generalize tV l L (pN l L p 3) = c at *
        simp only [va_up]
        by_cases e1 : k = 6 * b + a
        · rw [if_pos (by omega), if_pos e1]
        · rw [if_neg (by omega), if_neg e1]
          by_cases e2 : k = 6 * a + b
          · rw [if_pos (by omega), if_pos e2]
          · rw [if_neg (by omega), if_neg e2]
            exact s4 k hk
      refine st_aload rX8_readsItem_142 rfl ?_
      refine cV1i rX8_readsItem_143 (by first | assumption | decide | exact ⟨by decide, rfl, by decide⟩) (s_isWell P6 ?_) rfl (by decide)
      first | with_reducible refine st_if_eqN rX8_readsItem_146 (by omega) (fun h => absurd h (by first | decide | omega | (simp; done) | simp_all)) (fun _ => ?_) | refine st_if_eq rX8_readsItem_146 (fun h => absurd h (by first | decide | omega | (simp; done) | simp_all)) (fun _ => ?_)
      refine st_aload rX8_readsItem_149 rfl ?_
      refine st_getR rX8_readsItem_150 (by first | assumption | decide | exact ⟨by decide, rfl, by decide⟩) (by first | rfl | assumption) rfl ?_
      refine st_c rX8_readsItem_153 ?_
      refine st_c rX8_readsItem_155 ?_
      refine st_iload rX8_readsItem_157 rfl ?_
      first | with_reducible refine st_imulN rX8_readsItem_158 ?_ | refine st_imul rX8_readsItem_158 ?_
      first | with_reducible refine st_iaddN rX8_readsItem_159 ?_ | refine st_iadd rX8_readsItem_159 ?_
      refine st_iload rX8_readsItem_160 rfl ?_
      first | with_reducible refine st_iaddN rX8_readsItem_161 ?_ | refine st_iadd rX8_readsItem_161 ?_
      refine st_iload rX8_readsItem_162 rfl ?_
      refine st_iastN rX8_readsItem_164 (by first | assumption | decide | exact ⟨by decide, rfl, by decide⟩) (by omega) ?_
      refine st_aload rX8_readsItem_165 rfl ?_
      refine st_getR rX8_readsItem_166 (by first | assumption | decide | exact ⟨by decide, rfl, by decide⟩) (by first | rfl | assumption) rfl ?_
      refine st_c rX8_readsItem_169 ?_
      refine st_c rX8_readsItem_171 ?_
      refine st_iload rX8_readsItem_173 rfl ?_
      first | with_reducible refine st_imulN rX8_readsItem_174 ?_ | refine st_imul rX8_readsItem_174 ?_
      first | with_reducible refine st_iaddN rX8_readsItem_175 ?_ | refine st_iadd rX8_readsItem_175 ?_
      refine st_iload rX8_readsItem_176 rfl ?_
      first | with_reducible refine st_iaddN rX8_readsItem_177 ?_ | refine st_iadd rX8_readsItem_177 ?_
      refine st_iload rX8_readsItem_178 rfl ?_
      refine st_iastN rX8_readsItem_180 (by first | assumption | decide | exact ⟨by decide, rfl, by decide⟩) (by omega) ?_
      refine st_goto rX8_readsItem_181 ?_
      refine st_vret rX8_readsItem_269 rfl ?_
      refine hk _ (FrS_t (FrS_M g2) (FrS_t (FrS_M g4) (FrS_t (FrS_M g6) (FrS_t (FrS_r (by omega)) (FrS_r (by omega)))))) (by rw [hF]; exact PS_c P6 (by rw [up_n (by decide), up_n (by decide)])) (fun hn => ?_)
      rw [show stD l L D p = adR D (tV l L (pN l L p 1)) (tV l L (pN l L p 2)) (tV l L (pN l L p 3)) by simp [stD, adD, hx]]
      simp (disch := omega) only [SD, adR, up_s, up_n, va_up_s, va_up_n, g2.1, g4.1, g6.1]
      exact ⟨s1, s2, s3, key, s5⟩
  cases hf : fN none (nmO l L D p 0) (tS l L (pN l L p 1)) with
  | some s =>
    refine st_aload rX8_readsItem_88 rfl ?_
    refine st_aload rX8_readsItem_89 rfl ?_
    refine st_getI rX8_readsItem_90 (by first | assumption | decide | exact ⟨by decide, rfl, by decide⟩) rfl ?_
    refine st_c rX8_readsItem_93 ?_
    first | with_reducible refine st_icmp_neN rX8_readsItem_94 (by omega) (by omega) (fun h94 => ?_) (fun h94 => ?_) | refine st_icmp_ne rX8_readsItem_94 (fun h94 => ?_) (fun h94 => ?_)
    · refine st_c rX8_readsItem_128 ?_
      first | exact tail true (fun h => by rw [hf] at h; cases h) | exact tail false (fun h => by rw [hf] at h; cases h)
    · refine st_aload rX8_readsItem_97 rfl ?_
      refine st_getI rX8_readsItem_98 (by first | assumption | decide | exact ⟨by decide, rfl, by decide⟩) rfl ?_
      refine st_c rX8_readsItem_101 ?_
      refine st_aload rX8_readsItem_102 rfl ?_
      refine st_getR rX8_readsItem_103 (by first | assumption | decide | exact ⟨by decide, rfl, by decide⟩) (by first | rfl | assumption) rfl ?_
      refine st_c rX8_readsItem_106 ?_
      refine st_ialdN rX8_readsItem_107 (by first | assumption | decide | exact ⟨by decide, rfl, by decide⟩) (by omega) ?_
      refine st_c rX8_readsItem_108 ?_
      first | with_reducible refine st_isubN rX8_readsItem_109 (by omega) ?_ | refine st_isub rX8_readsItem_109 ?_
      refine cS3i rX8_readsItem_110 (s_in ?_) rfl
      first | with_reducible refine st_if_eqN rX8_readsItem_113 (by omega) (fun h113 => ?_) (fun h113 => ?_) | refine st_if_eq rX8_readsItem_113 (fun h113 => ?_) (fun h113 => ?_)
      · refine st_c rX8_readsItem_128 ?_
        first | exact tail true (fun h => by rw [hf] at h; cases h) | exact tail false (fun h => by rw [hf] at h; cases h)
      · refine st_aload rX8_readsItem_116 rfl ?_
        refine st_getI rX8_readsItem_117 (by first | assumption | decide | exact ⟨by decide, rfl, by decide⟩) rfl ?_
        refine st_iload rX8_readsItem_120 rfl ?_
        first | with_reducible refine st_icmp_eqN rX8_readsItem_121 (by omega) (by omega) (fun h121 => ?_) (fun h121 => ?_) | refine st_icmp_eq rX8_readsItem_121 (fun h121 => ?_) (fun h121 => ?_)
        · refine st_c rX8_readsItem_128 ?_
          first | exact tail true (fun h => by rw [hf] at h; cases h) | exact tail false (fun h => by rw [hf] at h; cases h)
        · refine st_c rX8_readsItem_124 ?_
          refine st_goto rX8_readsItem_125 ?_
          first | exact tail true (fun h => by rw [hf] at h; cases h) | exact tail false (fun h => by rw [hf] at h; cases h)
  | none =>
    obtain ⟨e1, q0, le1⟩ := hF1 hf
    have P2' := P2
    rw [hf] at P2'
    obtain ⟨-, -, h5, -, h7⟩ := P2'
    have htc := tC_le l L (pN l L p 2)
    by_cases h2 : tC l L (pN l L p 2) = 2
    · have h7 := h7 (Or.inr h2)
      have le2 := tV_2 l h2
      rw [h2] at h5
      have hin : inR (nI (tV l L (pN l L p 2))) (nI 0) (nI (D 0 0) - nI 1) = decide (tV l L (pN l L p 2) < D 0 0) := by rw [inR_T (by omega), isT_d (by omega)]
      by_cases hlt : tV l L (pN l L p 2) < D 0 0
      · by_cases hne : tV l L (pN l L p 2) = tV l L (pN l L p 1)
        · have ht : V (d + 4) 123 123 mX8_readsItem 129 [.ref 103, .int (nI 100), .int x1, vJ, vJ] [.int (vb false), .ref 103] (I2, J, vRR ρ) (Kv kv) := tail false (fun _ => by simp [nmO, numOk, hx, hne])
          rw [e1] at ht ⊢
          refine st_aload rX8_readsItem_88 rfl ?_
          refine st_aload rX8_readsItem_89 rfl ?_
          refine st_getI rX8_readsItem_90 (by first | assumption | decide | exact ⟨by decide, rfl, by decide⟩) rfl ?_
          refine st_top h5 ?_
          refine st_c rX8_readsItem_93 ?_
          first | with_reducible refine st_icmp_neN rX8_readsItem_94 (by omega) (by omega) (fun h => absurd h (by first | decide | omega | (simp; done) | simp_all)) (fun _ => ?_) | refine st_icmp_ne rX8_readsItem_94 (fun h => absurd h (by first | decide | omega | (simp; done) | simp_all)) (fun _ => ?_)
          refine st_aload rX8_readsItem_97 rfl ?_
          refine st_getI rX8_readsItem_98 (by first | assumption | decide | exact ⟨by decide, rfl, by decide⟩) rfl ?_
          refine st_top h7 ?_
          refine st_c rX8_readsItem_101 ?_
          refine st_aload rX8_readsItem_102 rfl ?_
          refine st_getR rX8_readsItem_103 (by first | assumption | decide | exact ⟨by decide, rfl, by decide⟩) (by first | rfl | assumption) rfl ?_
          refine st_c rX8_readsItem_106 ?_
          refine st_ialdN rX8_readsItem_107 (by first | assumption | decide | exact ⟨by decide, rfl, by decide⟩) (by omega) ?_
          refine st_top z1 ?_
          refine st_c rX8_readsItem_108 ?_
          refine st_isub rX8_readsItem_109 ?_
          refine cS3i rX8_readsItem_110 (s_in ?_) rfl
          rw [hin, decide_eq_true hlt]
          first | with_reducible refine st_if_eqN rX8_readsItem_113 (by omega) (fun h => absurd h (by first | decide | omega | (simp; done) | simp_all)) (fun _ => ?_) | refine st_if_eq rX8_readsItem_113 (fun h => absurd h (by first | decide | omega | (simp; done) | simp_all)) (fun _ => ?_)
          refine st_aload rX8_readsItem_116 rfl ?_
          refine st_getI rX8_readsItem_117 (by first | assumption | decide | exact ⟨by decide, rfl, by decide⟩) rfl ?_
          refine st_top h7 ?_
          refine st_iload rX8_readsItem_120 rfl ?_
          first | with_reducible refine st_icmp_eqN rX8_readsItem_121 (by omega) (by omega) (fun _ => ?_) (fun h => absurd h (by first | decide | omega | (simp; done) | simp_all)) | refine st_icmp_eq rX8_readsItem_121 (fun _ => ?_) (fun h => absurd h (by first | decide | omega | (simp; done) | simp_all))
          refine st_c rX8_readsItem_128 ?_
          exact ht
        · have ht : V (d + 4) 123 123 mX8_readsItem 129 [.ref 103, .int (nI 100), .int x1, vJ, vJ] [.int (vb true), .ref 103] (I2, J, vRR ρ) (Kv kv) := tail true (fun _ => by simp [nmO, numOk, hx, h2, hlt, hne])
          rw [e1] at ht ⊢
          refine st_aload rX8_readsItem_88 rfl ?_
          refine st_aload rX8_readsItem_89 rfl ?_
          refine st_getI rX8_readsItem_90 (by first | assumption | decide | exact ⟨by decide, rfl, by decide⟩) rfl ?_
          refine st_top h5 ?_
          refine st_c rX8_readsItem_93 ?_
          first | with_reducible refine st_icmp_neN rX8_readsItem_94 (by omega) (by omega) (fun h => absurd h (by first | decide | omega | (simp; done) | simp_all)) (fun _ => ?_) | refine st_icmp_ne rX8_readsItem_94 (fun h => absurd h (by first | decide | omega | (simp; done) | simp_all)) (fun _ => ?_)
          refine st_aload rX8_readsItem_97 rfl ?_
          refine st_getI rX8_readsItem_98 (by first | assumption | decide | exact ⟨by decide, rfl, by decide⟩) rfl ?_
          refine st_top h7 ?_
          refine st_c rX8_readsItem_101 ?_
          refine st_aload rX8_readsItem_102 rfl ?_
          refine st_getR rX8_readsItem_103 (by first | assumption | decide | exact ⟨by decide, rfl, by decide⟩) (by first | rfl | assumption) rfl ?_
          refine st_c rX8_readsItem_106 ?_
          refine st_ialdN rX8_readsItem_107 (by first | assumption | decide | exact ⟨by decide, rfl, by decide⟩) (by omega) ?_
          refine st_top z1 ?_
          refine st_c rX8_readsItem_108 ?_
          refine st_isub rX8_readsItem_109 ?_
          refine cS3i rX8_readsItem_110 (s_in ?_) rfl
          rw [hin, decide_eq_true hlt]
          first | with_reducible refine st_if_eqN rX8_readsItem_113 (by omega) (fun h => absurd h (by first | decide | omega | (simp; done) | simp_all)) (fun _ => ?_) | refine st_if_eq rX8_readsItem_113 (fun h => absurd h (by first | decide | omega | (simp; done) | simp_all)) (fun _ => ?_)
          refine st_aload rX8_readsItem_116 rfl ?_
          refine st_getI rX8_readsItem_117 (by first | assumption | decide | exact ⟨by decide, rfl, by decide⟩) rfl ?_
          refine st_top h7 ?_
          refine st_iload rX8_readsItem_120 rfl ?_
          first | with_reducible refine st_icmp_eqN rX8_readsItem_121 (by omega) (by omega) (fun h => absurd h (by first | decide | omega | (simp; done) | simp_all)) (fun _ => ?_) | refine st_icmp_eq rX8_readsItem_121 (fun h => absurd h (by first | decide | omega | (simp; done) | simp_all)) (fun _ => ?_)
          refine st_c rX8_readsItem_124 ?_
          refine st_goto rX8_readsItem_125 ?_
          exact ht
      · have ht : V (d + 4) 123 123 mX8_readsItem 129 [.ref 103, .int (nI 100), .int x1, vJ, vJ] [.int (vb false), .ref 103] (I2, J, vRR ρ) (Kv kv) := tail false (fun _ => by simp [nmO, numOk, hx, hlt])
        refine st_aload rX8_readsItem_88 rfl ?_
        refine st_aload rX8_readsItem_89 rfl ?_
        refine st_getI rX8_readsItem_90 (by first | assumption | decide | exact ⟨by decide, rfl, by decide⟩) rfl ?_
        refine st_top h5 ?_
        refine st_c rX8_readsItem_93 ?_
        first | with_reducible refine st_icmp_neN rX8_readsItem_94 (by omega) (by omega) (fun h => absurd h (by first | decide | omega | (simp; done) | simp_all)) (fun _ => ?_) | refine st_icmp_ne rX8_readsItem_94 (fun h => absurd h (by first | decide | omega | (simp; done) | simp_all)) (fun _ => ?_)
        refine st_aload rX8_readsItem_97 rfl ?_
        refine st_getI rX8_readsItem_98 (by first | assumption | decide | exact ⟨by decide, rfl, by decide⟩) rfl ?_
        refine st_top h7 ?_
        refine st_c rX8_readsItem_101 ?_
        refine st_aload rX8_readsItem_102 rfl ?_
        refine st_getR rX8_readsItem_103 (by first | assumption | decide | exact ⟨by decide, rfl, by decide⟩) (by first | rfl | assumption) rfl ?_
        refine st_c rX8_readsItem_106 ?_
        refine st_ialdN rX8_readsItem_107 (by first | assumption | decide | exact ⟨by decide, rfl, by decide⟩) (by omega) ?_
        refine st_top z1 ?_
        refine st_c rX8_readsItem_108 ?_
        refine st_isub rX8_readsItem_109 ?_
        refine cS3i rX8_readsItem_110 (s_in ?_) rfl
        rw [hin, decide_eq_false hlt]
        first | with_reducible refine st_if_eqN rX8_readsItem_113 (by omega) (fun _ => ?_) (fun h => absurd h (by first | decide | omega | (simp; done) | simp_all)) | refine st_if_eq rX8_readsItem_113 (fun _ => ?_) (fun h => absurd h (by first | decide | omega | (simp; done) | simp_all))
        refine st_c rX8_readsItem_128 ?_
        exact ht
    · have ht : V (d + 4) 123 123 mX8_readsItem 129 [.ref 103, .int (nI 100), .int x1, vJ, vJ] [.int (vb false), .ref 103] (I2, J, vRR ρ) (Kv kv) := tail false (fun _ => by simp [nmO, h2])
      refine st_aload rX8_readsItem_88 rfl ?_
      refine st_aload rX8_readsItem_89 rfl ?_
      refine st_getI rX8_readsItem_90 (by first | assumption | decide | exact ⟨by decide, rfl, by decide⟩) rfl ?_
      refine st_top h5 ?_
      refine st_c rX8_readsItem_93 ?_
      first | with_reducible refine st_icmp_neN rX8_readsItem_94 (by omega) (by omega) (fun _ => ?_) (fun h => absurd h (by first | decide | omega | (simp; done) | simp_all)) | refine st_icmp_ne rX8_readsItem_94 (fun _ => ?_) (fun h => absurd h (by first | decide | omega | (simp; done) | simp_all))
      refine st_c rX8_readsItem_128 ?_
      exact ht
theorem s_readsItem (hT : MT I l L) (hp : p ≤ L) (h : PS I l L (pN l L p 1) none) (hS : SD I D) (hO : OkD D) (hb : begOk D 1 (tV l L p) = true) (hx : tV l L p = 116 ∨ tV l L p = 100 ∨ tV l L p = 111) (hk : ∀ I', FrS I I' → PS I' l L (pN l L p 4) (itF l L D p) → (itF l L D p = none → SD I' (stD l L D p)) → kv (I', J, vRR ρ)) : V (d + 4) 123 123 mX8_readsItem 0 [.ref 103, .int (nI (tV l L p)), vJ, vJ, vJ] [] (I, J, vRR ρ) (Kv kv) := by
  rcases hx with hx | hx | hx
  · have h6 : D 0 0 < 6 := by simpa [begOk, hx] using hb
    rw [hx]
    exact s_riT hT hp h hS hO h6 hx hk
  · rw [hx]
    exact s_riD hT hp h hS hO hx hk
  · have h6 : D 0 1 < 6 := by simpa [begOk, hx] using hb
    rw [hx]
    exact s_riO hT hp h hS hO h6 hx hk
end P50
