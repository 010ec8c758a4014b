/-! ===== the class reads an item, the text ===== -/
theorem stI_f {l : Nat → Nat} {L p i : Nat} {D : Nat → Nat → Nat} (h0 : begOk D (tC l L p) (tV l L p) = true) (h1 : ∀ j, j < i → nmO l L D p j = true) (h2 : nmO l L D p i = false) (hi : i < 3) : stI l L D p = i + 1 := by
  simp only [stI]
  rw [if_neg (by rw [h0]; decide)]
  have hc : i = 0 ∨ i = 1 ∨ i = 2 := by omega
  rcases hc with hc | hc | hc
  · subst hc; rw [if_pos h2]
  · subst hc; rw [if_neg (by rw [h1 0 (by omega)]; decide), if_pos h2]
  · subst hc; rw [if_neg (by rw [h1 0 (by omega)]; decide), if_neg (by rw [h1 1 (by omega)]; decide), if_pos h2]
theorem stI_b {l : Nat → Nat} {L p : Nat} {D : Nat → Nat → Nat} (h0 : begOk D (tC l L p) (tV l L p) = false) : stI l L D p = 0 := by
  simp only [stI]
  rw [if_pos h0]
theorem stI_e {l : Nat → Nat} {L p : Nat} {D : Nat → Nat → Nat} (h0 : begOk D (tC l L p) (tV l L p) = true) (h1 : ∀ j, j < 3 → nmO l L D p j = true) : stI l L D p = if tC l L (pN l L p 4) ≠ 3 then 4 else 5 := by
  simp only [stI]
  rw [if_neg (by rw [h0]; decide), if_neg (by rw [h1 0 (by omega)]; decide), if_neg (by rw [h1 1 (by omega)]; decide), if_neg (by rw [h1 2 (by omega)]; decide)]
section P46
variable {d : Nat} {I A : Nat → Nat → Int32} {J : Nat → Nat → Int64} {ρ m no : Nat} {T : Int64} {k : Int32 → vS → Prop} {kl : Int64 → vS → Prop} {kv : vS → Prop}
variable {σ : Nat} {D : Nat → Nat → Nat}
set_option maxHeartbeats 4000000 in
set_option maxRecDepth 100000 in
theorem s_fill {a len : Nat} {x : Int32} (ha : vAr 123 a 100 len) (hl : len ≤ 200) (hk : ∀ I', (∀ b, b ≠ a → I' b = I b) → (∀ j, j < len → I' a j = x) → kv (I', J, vRR ρ)) : V d 123 123 mJ7_fill_53178 0 [.ref a, .int x, vJ, vJ] [] (I, J, vRR ρ) (Kv kv) := by
  refine st_c rJ7_fill_53178_0 ?_
  refine st_istore2 rJ7_fill_53178_1 rfl ?_
  refine st_aload rJ7_fill_53178_2 rfl ?_
  refine st_alen rJ7_fill_53178_3 (by first | assumption | decide | exact ⟨by decide, rfl, by decide⟩) ?_
  refine st_istore3 rJ7_fill_53178_4 rfl ?_
  skip
  have key : ∀ (r t : Nat) (I2 : Nat → Nat → Int32), t + r = len → (∀ b, b ≠ a → I2 b = I b) → (∀ j, j < t → I2 a j = x) → V d 123 123 mJ7_fill_53178 5 [.ref a, .int x, .int (nI t), .int (nI len)] [] (I2, J, vRR ρ) (Kv kv) := by
    intro r
    induction r with
    | zero =>
      intro t I2 he g g2
      have he : t = len := by omega
      subst he
      refine st_iload rJ7_fill_53178_5 rfl ?_
      refine st_iload rJ7_fill_53178_6 rfl ?_
      first | with_reducible refine st_icmp_geN rJ7_fill_53178_7 (by omega) (by omega) (fun _ => ?_) (fun h => absurd h (by first | decide | omega | (simp; done) | simp_all)) | refine st_icmp_ge rJ7_fill_53178_7 (fun _ => ?_) (fun h => absurd h (by first | decide | omega | (simp; done) | simp_all))
      refine st_vret rJ7_fill_53178_20 rfl ?_
      exact hk I2 g g2
    | succ r ih =>
      intro t I2 he g g2
      refine st_iload rJ7_fill_53178_5 rfl ?_
      refine st_iload rJ7_fill_53178_6 rfl ?_
      first | with_reducible refine st_icmp_geN rJ7_fill_53178_7 (by omega) (by omega) (fun h => absurd h (by first | decide | omega | (simp; done) | simp_all)) (fun _ => ?_) | refine st_icmp_ge rJ7_fill_53178_7 (fun h => absurd h (by first | decide | omega | (simp; done) | simp_all)) (fun _ => ?_)
      refine st_aload rJ7_fill_53178_10 rfl ?_
      refine st_iload rJ7_fill_53178_11 rfl ?_
      refine st_iload rJ7_fill_53178_12 rfl ?_
      refine st_iastN rJ7_fill_53178_13 (by first | assumption | decide | exact ⟨by decide, rfl, by decide⟩) (by omega) ?_
      first | with_reducible refine st_iincN2 rJ7_fill_53178_14 rfl ?_ | refine st_iinc2 rJ7_fill_53178_14 rfl ?_
      refine st_goto rJ7_fill_53178_17 ?_
      refine ih (t + 1) _ (by omega) (fun b hb => by rw [up_n hb, g b hb]) (fun j hj => ?_)
      rw [up_s]
      by_cases e : j = t
      · subst e; rw [va_up_s]
      · rw [va_up_n e]; exact g2 j (by omega)
  exact key len 0 I (by omega) (fun b _ => rfl) (fun j hj => absurd hj (by omega))
set_option maxHeartbeats 4000000 in
set_option maxRecDepth 100000 in
theorem s_temp (hσ : vTo σ) (hk : ∀ I', (∀ a, a ≠ σ → a ≠ σ + 4 → I' a = I a) → CD I' σ d0 → kv (I', J, vRR ρ)) : V (d + 1) 123 123 mX6_empty 0 [.ref σ] [] (I, J, vRR ρ) (Kv kv) := by
  obtain ⟨hto, o1, o2, o3, o4, o5, o6, o7, o8⟩ := toldF hσ
  refine st_aload rX6_empty_0 rfl ?_
  refine st_c rX6_empty_1 ?_
  refine st_putI rfl rX6_empty_2 (by first | assumption | decide | exact ⟨by decide, rfl, by decide⟩) ?_
  refine st_aload rX6_empty_5 rfl ?_
  refine st_c rX6_empty_6 ?_
  refine st_putI rfl rX6_empty_7 (by first | assumption | decide | exact ⟨by decide, rfl, by decide⟩) ?_
  refine st_aload rX6_empty_10 rfl ?_
  refine st_c rX6_empty_11 ?_
  refine st_putI rfl rX6_empty_12 (by first | assumption | decide | exact ⟨by decide, rfl, by decide⟩) ?_
  refine st_aload rX6_empty_15 rfl ?_
  refine st_getR rX6_empty_16 (by assumption) (tR6 (by assumption)) rfl ?_
  refine st_c rX6_empty_19 ?_
  refine cS2v rX6_empty_20 (s_fill o4 (by decide) (fun I2 g g4 => ?_)) rfl
  refine st_vret rX6_empty_23 rfl ?_
  refine hk I2 (fun a h1 h2 => by rw [g a h2, up_n h1, up_n h1, up_n h1]) ?_
  have gs : I2 σ = va_up (va_up (va_up (I σ) 0 (nI 0)) 1 (nI 0)) 2 (nI 0) := by rw [g σ (by omega), up_s, up_s, up_s]
  refine ⟨?_, ?_, ?_, fun t h => absurd h (Nat.not_lt_zero _), fun k hk => g4 k hk, fun i h => absurd h (Nat.not_lt_zero _)⟩
  · rw [gs, va_up_n (by decide), va_up_n (by decide), va_up_s]; rfl
  · rw [gs, va_up_n (by decide), va_up_s]
    have : ∀ n, cpN (d0 4) n = 0 := fun n => by
      induction n with
      | zero => rfl
      | succ n ih => simp only [cpN, ih]; rfl
    rw [this]
  · rw [gs, va_up_s]; rfl
set_option maxHeartbeats 4000000 in
set_option maxRecDepth 100000 in
theorem s_add {x a b c : Nat} (hσ : vTo σ) (hD : CD I σ D) (hO : OkD D) (hx : x = 116 ∨ x = 100 ∨ x = 111) (hb1 : begOk D 1 x = true) (h2 : numOk D x 0 a a = true) (h3 : numOk D x 1 b a = true) (h4 : numOk D x 2 c a = true) (hk : ∀ I', (∀ a, a < σ ∨ σ + 8 < a → I' a = I a) → CD I' σ (adD D x a b c) → kv (I', J, vRR ρ)) : V (d + 2) 123 123 mX6_add 0 [.ref σ, .int (nI x), .int (nI a), .int (nI b), .int (nI c)] [] (I, J, vRR ρ) (Kv kv) := by
  obtain ⟨hto, -⟩ := toldF hσ
  simp only [begOk, numOk] at hb1 h2 h3 h4
  simp only [adD] at hk
  rcases hx with rfl | rfl | rfl
  · simp at hb1 h2 h3 h4
    rw [if_pos rfl] at hk
    refine st_iload rX6_add_0 rfl ?_
    refine st_c rX6_add_1 ?_
    first | with_reducible refine st_icmp_neN rX6_add_3 (by omega) (by omega) (fun h => absurd h (by first | decide | omega | (simp; done) | simp_all)) (fun _ => ?_) | refine st_icmp_ne rX6_add_3 (fun h => absurd h (by first | decide | omega | (simp; done) | simp_all)) (fun _ => ?_)
    refine st_aload rX6_add_6 rfl ?_
    refine st_iload rX6_add_7 rfl ?_
    refine st_iload rX6_add_8 rfl ?_
    refine st_iload rX6_add_9 rfl ?_
    refine cV4v rX6_add_11 (by first | assumption | decide | exact ⟨by decide, rfl, by decide⟩) (s_addTown hσ hD hO hb1 (by omega) (by omega) (fun I2 g gd => ?_)) rfl (by decide)
    refine st_goto rX6_add_14 ?_
    refine st_vret rX6_add_42 rfl ?_
    exact hk I2 g gd
  · simp at hb1 h2 h3 h4
    rw [if_neg (by decide), if_pos rfl] at hk
    refine st_iload rX6_add_0 rfl ?_
    refine st_c rX6_add_1 ?_
    first | with_reducible refine st_icmp_neN rX6_add_3 (by omega) (by omega) (fun _ => ?_) (fun h => absurd h (by first | decide | omega | (simp; done) | simp_all)) | refine st_icmp_ne rX6_add_3 (fun _ => ?_) (fun h => absurd h (by first | decide | omega | (simp; done) | simp_all))
    refine st_iload rX6_add_17 rfl ?_
    refine st_c rX6_add_18 ?_
    first | with_reducible refine st_icmp_neN rX6_add_20 (by omega) (by omega) (fun h => absurd h (by first | decide | omega | (simp; done) | simp_all)) (fun _ => ?_) | refine st_icmp_ne rX6_add_20 (fun h => absurd h (by first | decide | omega | (simp; done) | simp_all)) (fun _ => ?_)
    refine st_aload rX6_add_23 rfl ?_
    refine st_iload rX6_add_24 rfl ?_
    refine st_iload rX6_add_25 rfl ?_
    refine st_iload rX6_add_26 rfl ?_
    refine cV4v rX6_add_28 (by first | assumption | decide | exact ⟨by decide, rfl, by decide⟩) (s_addRoad hσ hD hO (by omega) (by omega) (by omega) (by omega) (fun I2 g gd => ?_)) rfl (by decide)
    refine st_goto rX6_add_31 ?_
    refine st_vret rX6_add_42 rfl ?_
    exact hk I2 g gd
  · simp at hb1 h2 h3 h4
    rw [if_neg (by decide), if_neg (by decide)] at hk
    refine st_iload rX6_add_0 rfl ?_
    refine st_c rX6_add_1 ?_
    first | with_reducible refine st_icmp_neN rX6_add_3 (by omega) (by omega) (fun _ => ?_) (fun h => absurd h (by first | decide | omega | (simp; done) | simp_all)) | refine st_icmp_ne rX6_add_3 (fun _ => ?_) (fun h => absurd h (by first | decide | omega | (simp; done) | simp_all))
    refine st_iload rX6_add_17 rfl ?_
    refine st_c rX6_add_18 ?_
    first | with_reducible refine st_icmp_neN rX6_add_20 (by omega) (by omega) (fun _ => ?_) (fun h => absurd h (by first | decide | omega | (simp; done) | simp_all)) | refine st_icmp_ne rX6_add_20 (fun _ => ?_) (fun h => absurd h (by first | decide | omega | (simp; done) | simp_all))
    refine st_aload rX6_add_34 rfl ?_
    refine st_iload rX6_add_35 rfl ?_
    refine st_iload rX6_add_36 rfl ?_
    refine st_iload rX6_add_37 rfl ?_
    refine cV4v rX6_add_39 (by first | assumption | decide | exact ⟨by decide, rfl, by decide⟩) (s_addOath hσ hD hO hb1 (fun I2 g gd => ?_)) rfl (by decide)
    refine st_vret rX6_add_42 rfl ?_
    exact hk I2 g gd
end P46
