/-! ===== bits; dumb towns, bells at home, fits ===== -/
def bitsOf (f : Nat → Bool) : Nat → Nat
  | 0 => 0
  | t + 1 => bitsOf f t + (if f t = true then 2 ^ t else 0)
theorem bitsOf_lt (f : Nat → Bool) : ∀ n, bitsOf f n < 2 ^ n := by
  intro n
  induction n with
  | zero => simp [bitsOf]
  | succ n ih => simp only [bitsOf, Nat.pow_succ]; split <;> omega
theorem orB0 : (List.range 6).all (fun t => (List.range 64).all (fun x => !decide (x / 2 ^ t % 2 = 0) || decide ((nI x ||| (nI 1 <<< (nI t &&& 31))) = nI (x + 2 ^ t)))) = true := by decide +kernel
theorem orB {t x : Nat} (ht : t < 6) (hx : x < 64) (h : x / 2 ^ t % 2 = 0) : (nI x ||| (nI 1 <<< (nI t &&& 31))) = nI (x + 2 ^ t) := by
  have q := List.all_eq_true.mp (List.all_eq_true.mp orB0 t (List.mem_range.mpr ht)) x (List.mem_range.mpr hx)
  simpa [h] using q
theorem or00 : (List.range 64).all (fun x => decide ((nI x ||| nI 0) = nI x)) = true := by decide +kernel
theorem or0 {x : Nat} (hx : x < 64) : (nI x ||| nI 0) = nI x := by
  have q := List.all_eq_true.mp or00 x (List.mem_range.mpr hx)
  simpa using q
theorem bitB0 : (List.range 6).all (fun t => (List.range 64).all (fun x => decide ((nI x >>> (nI t &&& 31)) &&& nI 1 = nI (x / 2 ^ t % 2)))) = true := by decide +kernel
theorem bitB {t x : Nat} (ht : t < 6) (hx : x < 64) : (nI x >>> (nI t &&& 31)) &&& nI 1 = nI (x / 2 ^ t % 2) := by
  have q := List.all_eq_true.mp (List.all_eq_true.mp bitB0 t (List.mem_range.mpr ht)) x (List.mem_range.mpr hx)
  simpa using q
theorem bo_64 (f : Nat → Bool) {n : Nat} (h : n ≤ 6) : bitsOf f n < 64 := Nat.lt_of_lt_of_le (bitsOf_lt f n) (Nat.pow_le_pow_right (by decide) h)
theorem bo_t {f : Nat → Bool} {t : Nat} (ht : t < 6) (h : f t = true) : (nI (bitsOf f t) ||| (nI 1 <<< (nI t &&& 31))) = nI (bitsOf f (t + 1)) := by
  rw [orB ht (bo_64 f (by omega)) (by rw [Nat.div_eq_of_lt (bitsOf_lt f t)])]
  simp only [bitsOf, h, if_true]
theorem bo_f {f : Nat → Bool} {t : Nat} (h : f t = false) : bitsOf f (t + 1) = bitsOf f t := by
  simp [bitsOf, h]
theorem bo_f0 {f : Nat → Bool} {t : Nat} (ht : t < 6) (h : f t = false) : (nI (bitsOf f t) ||| nI 0) = nI (bitsOf f (t + 1)) := by
  rw [or0 (bo_64 f (by omega)), bo_f h]
theorem bo_bit {f : Nat → Bool} {t : Nat} : ∀ n, t < n → bitsOf f n / 2 ^ t % 2 = if f t = true then 1 else 0 := by
  intro n
  induction n with
  | zero => intro h; omega
  | succ n ih =>
    intro h
    simp only [bitsOf]
    by_cases hn : t = n
    · subst hn
      have hl := bitsOf_lt f t
      split
      · rw [Nat.add_div_right _ (Nat.two_pow_pos t), Nat.div_eq_of_lt hl]
      · rw [Nat.add_zero, Nat.div_eq_of_lt hl]
    · have h2 := ih (by omega)
      split
      · obtain ⟨q, rfl⟩ : ∃ q, n = t + 1 + q := ⟨n - t - 1, by omega⟩
        rw [show 2 ^ (t + 1 + q) = 2 ^ t * (2 * 2 ^ q) by rw [Nat.pow_add, Nat.pow_succ]; simp [Nat.mul_assoc], Nat.add_mul_div_left _ _ (Nat.two_pow_pos t), Nat.add_mul_mod_self_left]
        exact h2
      · exact h2
def ntB (A : Nat → Nat → Int32) (t : Nat) : Int32 := A 108 (A 114 (2 + t)).toNatClampNeg
def dmC (A : Nat → Nat → Int32) (t e : Nat) : Bool := decide (0 < A 109 (6 * t + e)) && decide (ntB A e = ntB A t)
def dmF (A : Nat → Nat → Int32) (t : Nat) : Nat → Bool
  | 0 => false
  | e + 1 => dmF A t e || dmC A t e
theorem dmF_mono {A : Nat → Nat → Int32} {t : Nat} : ∀ (r e : Nat), dmF A t e = true → dmF A t (e + r) = true := by
  intro r
  induction r with
  | zero => intro e h; exact h
  | succ r ih => intro e h; rw [show e + (r + 1) = (e + r) + 1 by omega]; simp only [dmF, ih e h, Bool.true_or]
section P22
variable {d : Nat} {I A : Nat → Nat → Int32} {J : Nat → Nat → Int64} {ρ m no : Nat} {T : Int64} {k : Int32 → vS → Prop} {kl : Int64 → vS → Prop} {kv : vS → Prop}
set_option maxHeartbeats 4000000 in
set_option maxRecDepth 100000 in
theorem s_noteIn {t : Nat} {kk : Int32 → vS → Prop} (hC : InvC I J ρ A T m no) (hO : OkA A m no) (ht : t < m) (h : kk (ntB A t) (I, J, vRR ρ)) : V (d + 1) 123 123 mX7_noteIn 0 [.ref 0, .int (nI t)] [] (I, J, vRR ρ) (Ki kk) := by
  obtain ⟨ht0, ht1, ht2, ht3, ht4, ht5, ht6, ht7, ht8, ht9, ht10⟩ := id hC.1
  obtain ⟨hto, o1, o2, o3, o4, o5, o6, o7, o8⟩ := toldF ht0
  have hm6 : m ≤ 6 := hO.1.2.2.1
  have hno6 : no ≤ 6 := hO.1.2.2.2.1
  obtain ⟨b, c, hp⟩ := hO.2.2.1.1
  have hv := hC.2.2.1
  have hg : vHg 22 := ⟨by decide, rfl⟩
  have hb := hp t ht
  have e9 : ntB A t = I (ρ + 3) (b t) := by rw [ntB, hb.1, nI_clamp (by omega), ht5 _ hb.2.1]
  rw [e9] at h
  refine st_aload rX7_noteIn_0 rfl ?_
  refine st_getR rX7_noteIn_1 (by first | assumption | decide | exact ⟨by decide, rfl, by decide⟩) (by first | rfl | assumption) rfl ?_
  refine st_getR rX7_noteIn_4 (by assumption) (tR5 (by assumption)) rfl ?_
  refine st_aload rX7_noteIn_7 rfl ?_
  refine st_getR rX7_noteIn_8 (by first | assumption | decide | exact ⟨by decide, rfl, by decide⟩) (by first | rfl | assumption) rfl ?_
  refine st_getR rX7_noteIn_11 (by first | assumption | decide) (by first | rfl | exact hR2 (by assumption)) rfl ?_
  refine st_iload rX7_noteIn_14 rfl ?_
  refine cS2i rX7_noteIn_15 (s_at (by first | assumption | decide | exact ⟨by decide, rfl, by decide⟩) (by omega) ?_) rfl
  refine st_top ((hv.2.2.1 t (by omega)).trans hb.1) ?_
  refine cS2i rX7_noteIn_18 (s_at (by first | assumption | decide | exact ⟨by decide, rfl, by decide⟩) (by omega) ?_) rfl
  refine st_iret rX7_noteIn_21 rfl ?_
  exact h
set_option maxHeartbeats 4000000 in
set_option maxRecDepth 100000 in
theorem s_like {t : Nat} {kk : Int32 → vS → Prop} (hC : InvC I J ρ A T m no) (hO : OkA A m no) (ht : t < m) (h : kk (vb (dmF A t m)) (I, J, vRR ρ)) : V (d + 2) 123 123 mX7_hasLikeNeighbour 0 [.ref 0, .int (nI t), vJ] [] (I, J, vRR ρ) (Ki kk) := by
  obtain ⟨ht0, ht1, ht2, ht3, ht4, ht5, ht6, ht7, ht8, ht9, ht10⟩ := id hC.1
  obtain ⟨hto, o1, o2, o3, o4, o5, o6, o7, o8⟩ := toldF ht0
  have hm6 : m ≤ 6 := hO.1.2.2.1
  have hno6 : no ≤ 6 := hO.1.2.2.2.1
  refine st_c rX7_hasLikeNeighbour_0 ?_
  refine st_istore2 rX7_hasLikeNeighbour_1 rfl ?_
  have key : ∀ (r e : Nat), e + r = m → dmF A t e = false → V (d + 2) 123 123 mX7_hasLikeNeighbour 2 [.ref 0, .int (nI t), .int (nI e)] [] (I, J, vRR ρ) (Ki kk) := by
    intro r
    induction r with
    | zero =>
      intro e he hf
      have he : e = m := by omega
      subst he
      rw [hf] at h
      refine st_iload rX7_hasLikeNeighbour_2 rfl ?_
      refine st_aload rX7_hasLikeNeighbour_3 rfl ?_
      refine st_getR rX7_hasLikeNeighbour_4 (by first | assumption | decide | exact ⟨by decide, rfl, by decide⟩) (by first | rfl | assumption) rfl ?_
      refine st_getI rX7_hasLikeNeighbour_7 (by first | assumption | decide | exact ⟨by decide, rfl, by decide⟩) rfl ?_
      refine st_top ht1 ?_
      first | refine st_icmp_geN rX7_hasLikeNeighbour_10 (by omega) (by omega) (fun _ => ?_) (fun h => absurd h (by first | decide | omega | (simp; done) | simp_all)) | refine st_icmp_ge rX7_hasLikeNeighbour_10 (fun _ => ?_) (fun h => absurd h (by first | decide | omega | (simp; done) | simp_all))
      refine st_c rX7_hasLikeNeighbour_52 ?_
      refine st_zret rX7_hasLikeNeighbour_53 rfl (by first | rfl | exact vb_nar _) ?_
      exact h
    | succ r ih =>
      intro e he hf
      have hem : e < m := by omega
      have e6 := ht6 t e ht hem
      refine st_iload rX7_hasLikeNeighbour_2 rfl ?_
      refine st_aload rX7_hasLikeNeighbour_3 rfl ?_
      refine st_getR rX7_hasLikeNeighbour_4 (by first | assumption | decide | exact ⟨by decide, rfl, by decide⟩) (by first | rfl | assumption) rfl ?_
      refine st_getI rX7_hasLikeNeighbour_7 (by first | assumption | decide | exact ⟨by decide, rfl, by decide⟩) rfl ?_
      refine st_top ht1 ?_
      first | refine st_icmp_geN rX7_hasLikeNeighbour_10 (by omega) (by omega) (fun h => absurd h (by first | decide | omega | (simp; done) | simp_all)) (fun _ => ?_) | refine st_icmp_ge rX7_hasLikeNeighbour_10 (fun h => absurd h (by first | decide | omega | (simp; done) | simp_all)) (fun _ => ?_)
      refine st_aload rX7_hasLikeNeighbour_13 rfl ?_
      refine st_getR rX7_hasLikeNeighbour_14 (by first | assumption | decide | exact ⟨by decide, rfl, by decide⟩) (by first | rfl | assumption) rfl ?_
      refine st_getR rX7_hasLikeNeighbour_17 (by assumption) (tR6 (by assumption)) rfl ?_
      refine st_iload rX7_hasLikeNeighbour_20 rfl ?_
      refine st_iload rX7_hasLikeNeighbour_21 rfl ?_
      refine cS2i rX7_hasLikeNeighbour_22 (s_pair ?_) rfl
      refine cS2i rX7_hasLikeNeighbour_25 (s_at (by first | assumption | decide | exact ⟨by decide, rfl, by decide⟩) (by omega) ?_) rfl
      refine st_top e6 ?_
      first | refine st_if_leN rX7_hasLikeNeighbour_28 (by omega) (fun h28 => ?_) (fun h28 => ?_) | refine st_if_le rX7_hasLikeNeighbour_28 (fun h28 => ?_) (fun h28 => ?_)
      · first | refine st_iincN2 rX7_hasLikeNeighbour_46 rfl ?_ | refine st_iinc2 rX7_hasLikeNeighbour_46 rfl ?_
        refine st_goto rX7_hasLikeNeighbour_49 ?_
        refine ih (e + 1) (by omega) ?_
        simp only [dmF, hf, Bool.false_or, dmC]
        first | (rw [decide_eq_false (Int32.not_lt.mpr h28)]; rfl) | (rw [decide_eq_false h41, Bool.and_false])
      · refine st_aload rX7_hasLikeNeighbour_31 rfl ?_
        refine st_iload rX7_hasLikeNeighbour_32 rfl ?_
        refine cV2i rX7_hasLikeNeighbour_33 (by first | assumption | decide | exact ⟨by decide, rfl, by decide⟩) (s_noteIn hC hO (by assumption) ?_) rfl (by decide)
        refine st_aload rX7_hasLikeNeighbour_36 rfl ?_
        refine st_iload rX7_hasLikeNeighbour_37 rfl ?_
        refine cV2i rX7_hasLikeNeighbour_38 (by first | assumption | decide | exact ⟨by decide, rfl, by decide⟩) (s_noteIn hC hO (by assumption) ?_) rfl (by decide)
        first | refine st_icmp_neN rX7_hasLikeNeighbour_41 (by omega) (by omega) (fun h41 => ?_) (fun h41 => ?_) | refine st_icmp_ne rX7_hasLikeNeighbour_41 (fun h41 => ?_) (fun h41 => ?_)
        · first | refine st_iincN2 rX7_hasLikeNeighbour_46 rfl ?_ | refine st_iinc2 rX7_hasLikeNeighbour_46 rfl ?_
          refine st_goto rX7_hasLikeNeighbour_49 ?_
          refine ih (e + 1) (by omega) ?_
          simp only [dmF, hf, Bool.false_or, dmC]
          first | (rw [decide_eq_false (Int32.not_lt.mpr h28)]; rfl) | (rw [decide_eq_false h41, Bool.and_false])
        · refine st_c rX7_hasLikeNeighbour_44 ?_
          refine st_zret rX7_hasLikeNeighbour_45 rfl (by first | rfl | exact vb_nar _) ?_
          have h9 : dmF A t (e + 1) = true := by
            simp only [dmF, hf, Bool.false_or, dmC]
            rw [decide_eq_true (Int32.not_le.mp h28), decide_eq_true h41]
            rfl
          have h8 := dmF_mono r (e + 1) h9
          rw [show e + 1 + r = m by omega] at h8
          rw [h8] at h
          exact h
  exact key m 0 (by omega) rfl
set_option maxHeartbeats 4000000 in
set_option maxRecDepth 100000 in
theorem s_dumbTowns {kk : Int32 → vS → Prop} (hC : InvC I J ρ A T m no) (hO : OkA A m no) (h : kk (nI (bitsOf (fun t => dmF A t m) m)) (I, J, vRR ρ)) : V (d + 3) 123 123 mX7_dumbTowns 0 [.ref 0, vJ, vJ] [] (I, J, vRR ρ) (Ki kk) := by
  obtain ⟨ht0, ht1, ht2, ht3, ht4, ht5, ht6, ht7, ht8, ht9, ht10⟩ := id hC.1
  obtain ⟨hto, o1, o2, o3, o4, o5, o6, o7, o8⟩ := toldF ht0
  have hm6 : m ≤ 6 := hO.1.2.2.1
  have hno6 : no ≤ 6 := hO.1.2.2.2.1
  refine st_c rX7_dumbTowns_0 ?_
  refine st_istore1 rX7_dumbTowns_1 rfl ?_
  refine st_c rX7_dumbTowns_2 ?_
  refine st_istore2 rX7_dumbTowns_3 rfl ?_
  skip
  have key : ∀ (r t : Nat), t + r = m → V (d + 3) 123 123 mX7_dumbTowns 4 [.ref 0, .int (nI (bitsOf (fun t => dmF A t m) t)), .int (nI t)] [] (I, J, vRR ρ) (Ki kk) := by
    intro r
    induction r with
    | zero =>
      intro t he
      have he : t = m := by omega
      subst he
      refine st_iload rX7_dumbTowns_4 rfl ?_
      refine st_aload rX7_dumbTowns_5 rfl ?_
      refine st_getR rX7_dumbTowns_6 (by first | assumption | decide | exact ⟨by decide, rfl, by decide⟩) (by first | rfl | assumption) rfl ?_
      refine st_getI rX7_dumbTowns_9 (by first | assumption | decide | exact ⟨by decide, rfl, by decide⟩) rfl ?_
      refine st_top ht1 ?_
      first | refine st_icmp_geN rX7_dumbTowns_12 (by omega) (by omega) (fun _ => ?_) (fun h => absurd h (by first | decide | omega | (simp; done) | simp_all)) | refine st_icmp_ge rX7_dumbTowns_12 (fun _ => ?_) (fun h => absurd h (by first | decide | omega | (simp; done) | simp_all))
      refine st_iload rX7_dumbTowns_35 rfl ?_
      refine st_iret rX7_dumbTowns_36 rfl ?_
      exact h
    | succ r ih =>
      intro t he
      have htm : t < m := by omega
      have hn := ih (t + 1) (by omega)
      cases hd : dmF A t m with
      | true =>
        refine st_iload rX7_dumbTowns_4 rfl ?_
        refine st_aload rX7_dumbTowns_5 rfl ?_
        refine st_getR rX7_dumbTowns_6 (by first | assumption | decide | exact ⟨by decide, rfl, by decide⟩) (by first | rfl | assumption) rfl ?_
        refine st_getI rX7_dumbTowns_9 (by first | assumption | decide | exact ⟨by decide, rfl, by decide⟩) rfl ?_
        refine st_top ht1 ?_
        first | refine st_icmp_geN rX7_dumbTowns_12 (by omega) (by omega) (fun h => absurd h (by first | decide | omega | (simp; done) | simp_all)) (fun _ => ?_) | refine st_icmp_ge rX7_dumbTowns_12 (fun h => absurd h (by first | decide | omega | (simp; done) | simp_all)) (fun _ => ?_)
        refine st_aload rX7_dumbTowns_15 rfl ?_
        refine st_iload rX7_dumbTowns_16 rfl ?_
        refine cV2i rX7_dumbTowns_17 (by first | assumption | decide | exact ⟨by decide, rfl, by decide⟩) (s_like hC hO htm ?_) rfl (by decide)
        rw [hd]
        first | refine st_if_eqN rX7_dumbTowns_20 (by omega) (fun h => absurd h (by first | decide | omega | (simp; done) | simp_all)) (fun _ => ?_) | refine st_if_eq rX7_dumbTowns_20 (fun h => absurd h (by first | decide | omega | (simp; done) | simp_all)) (fun _ => ?_)
        refine st_iload rX7_dumbTowns_23 rfl ?_
        refine st_c rX7_dumbTowns_24 ?_
        refine st_iload rX7_dumbTowns_25 rfl ?_
        refine st_ishl rX7_dumbTowns_26 ?_
        refine st_ior rX7_dumbTowns_27 ?_
        refine st_top (bo_t (f := fun t => dmF A t m) (by omega) hd) ?_
        refine st_istore1 rX7_dumbTowns_28 rfl ?_
        first | refine st_iincN2 rX7_dumbTowns_29 rfl ?_ | refine st_iinc2 rX7_dumbTowns_29 rfl ?_
        refine st_goto rX7_dumbTowns_32 ?_
        exact hn
      | false =>
        refine st_iload rX7_dumbTowns_4 rfl ?_
        refine st_aload rX7_dumbTowns_5 rfl ?_
        refine st_getR rX7_dumbTowns_6 (by first | assumption | decide | exact ⟨by decide, rfl, by decide⟩) (by first | rfl | assumption) rfl ?_
        refine st_getI rX7_dumbTowns_9 (by first | assumption | decide | exact ⟨by decide, rfl, by decide⟩) rfl ?_
        refine st_top ht1 ?_
        first | refine st_icmp_geN rX7_dumbTowns_12 (by omega) (by omega) (fun h => absurd h (by first | decide | omega | (simp; done) | simp_all)) (fun _ => ?_) | refine st_icmp_ge rX7_dumbTowns_12 (fun h => absurd h (by first | decide | omega | (simp; done) | simp_all)) (fun _ => ?_)
        refine st_aload rX7_dumbTowns_15 rfl ?_
        refine st_iload rX7_dumbTowns_16 rfl ?_
        refine cV2i rX7_dumbTowns_17 (by first | assumption | decide | exact ⟨by decide, rfl, by decide⟩) (s_like hC hO htm ?_) rfl (by decide)
        rw [hd]
        first | refine st_if_eqN rX7_dumbTowns_20 (by omega) (fun _ => ?_) (fun h => absurd h (by first | decide | omega | (simp; done) | simp_all)) | refine st_if_eq rX7_dumbTowns_20 (fun _ => ?_) (fun h => absurd h (by first | decide | omega | (simp; done) | simp_all))
        first | refine st_iincN2 rX7_dumbTowns_29 rfl ?_ | refine st_iinc2 rX7_dumbTowns_29 rfl ?_
        refine st_goto rX7_dumbTowns_32 ?_
        rw [bo_f (f := fun t => dmF A t m) hd] at hn; exact hn
  exact key m 0 (by omega)
set_option maxHeartbeats 4000000 in
set_option maxRecDepth 100000 in
theorem s_atHome {kk : Int32 → vS → Prop} (hC : InvC I J ρ A T m no) (hO : OkA A m no) (h : kk (nI (bitsOf (fun t => decide (A 114 (2 + t) = nI t)) m)) (I, J, vRR ρ)) : V (d + 1) 123 123 mX7_bellsAtHome 0 [.ref 0, vJ, vJ] [] (I, J, vRR ρ) (Ki kk) := by
  obtain ⟨ht0, ht1, ht2, ht3, ht4, ht5, ht6, ht7, ht8, ht9, ht10⟩ := id hC.1
  obtain ⟨hto, o1, o2, o3, o4, o5, o6, o7, o8⟩ := toldF ht0
  have hm6 : m ≤ 6 := hO.1.2.2.1
  have hno6 : no ≤ 6 := hO.1.2.2.2.1
  have hv := hC.2.2.1
  have hg : vHg 22 := ⟨by decide, rfl⟩
  refine st_c rX7_bellsAtHome_0 ?_
  refine st_istore1 rX7_bellsAtHome_1 rfl ?_
  refine st_c rX7_bellsAtHome_2 ?_
  refine st_istore2 rX7_bellsAtHome_3 rfl ?_
  skip
  have key : ∀ (r t : Nat), t + r = m → V (d + 1) 123 123 mX7_bellsAtHome 4 [.ref 0, .int (nI (bitsOf (fun t => decide (A 114 (2 + t) = nI t)) t)), .int (nI t)] [] (I, J, vRR ρ) (Ki kk) := by
    intro r
    induction r with
    | zero =>
      intro t he
      have he : t = m := by omega
      subst he
      refine st_iload rX7_bellsAtHome_4 rfl ?_
      refine st_aload rX7_bellsAtHome_5 rfl ?_
      refine st_getR rX7_bellsAtHome_6 (by first | assumption | decide | exact ⟨by decide, rfl, by decide⟩) (by first | rfl | assumption) rfl ?_
      refine st_getI rX7_bellsAtHome_9 (by first | assumption | decide | exact ⟨by decide, rfl, by decide⟩) rfl ?_
      refine st_top ht1 ?_
      first | refine st_icmp_geN rX7_bellsAtHome_12 (by omega) (by omega) (fun _ => ?_) (fun h => absurd h (by first | decide | omega | (simp; done) | simp_all)) | refine st_icmp_ge rX7_bellsAtHome_12 (fun _ => ?_) (fun h => absurd h (by first | decide | omega | (simp; done) | simp_all))
      refine st_iload rX7_bellsAtHome_42 rfl ?_
      refine st_iret rX7_bellsAtHome_43 rfl ?_
      exact h
    | succ r ih =>
      intro t he
      have htm : t < m := by omega
      have hn := ih (t + 1) (by omega)
      refine st_iload rX7_bellsAtHome_4 rfl ?_
      refine st_aload rX7_bellsAtHome_5 rfl ?_
      refine st_getR rX7_bellsAtHome_6 (by first | assumption | decide | exact ⟨by decide, rfl, by decide⟩) (by first | rfl | assumption) rfl ?_
      refine st_getI rX7_bellsAtHome_9 (by first | assumption | decide | exact ⟨by decide, rfl, by decide⟩) rfl ?_
      refine st_top ht1 ?_
      first | refine st_icmp_geN rX7_bellsAtHome_12 (by omega) (by omega) (fun h => absurd h (by first | decide | omega | (simp; done) | simp_all)) (fun _ => ?_) | refine st_icmp_ge rX7_bellsAtHome_12 (fun h => absurd h (by first | decide | omega | (simp; done) | simp_all)) (fun _ => ?_)
      refine st_aload rX7_bellsAtHome_15 rfl ?_
      refine st_getR rX7_bellsAtHome_16 (by first | assumption | decide | exact ⟨by decide, rfl, by decide⟩) (by first | rfl | assumption) rfl ?_
      refine st_getR rX7_bellsAtHome_19 (by first | assumption | decide) (by first | rfl | exact hR2 (by assumption)) rfl ?_
      refine st_iload rX7_bellsAtHome_22 rfl ?_
      refine cS2i rX7_bellsAtHome_23 (s_at (by first | assumption | decide | exact ⟨by decide, rfl, by decide⟩) (by omega) ?_) rfl
      refine st_top (hv.2.2.1 t (by omega)) ?_
      refine st_iload rX7_bellsAtHome_26 rfl ?_
      first | refine st_icmp_neN rX7_bellsAtHome_27 (by omega) (by omega) (fun h27 => ?_) (fun h27 => ?_) | refine st_icmp_ne rX7_bellsAtHome_27 (fun h27 => ?_) (fun h27 => ?_)
      · first | refine st_iincN2 rX7_bellsAtHome_36 rfl ?_ | refine st_iinc2 rX7_bellsAtHome_36 rfl ?_
        refine st_goto rX7_bellsAtHome_39 ?_
        first | exact hn | (rw [bo_f (f := fun t => decide (A 114 (2 + t) = nI t)) (decide_eq_false h27)] at hn; exact hn)
      · refine st_iload rX7_bellsAtHome_30 rfl ?_
        refine st_c rX7_bellsAtHome_31 ?_
        refine st_iload rX7_bellsAtHome_32 rfl ?_
        refine st_ishl rX7_bellsAtHome_33 ?_
        refine st_ior rX7_bellsAtHome_34 ?_
        refine st_top (bo_t (f := fun t => decide (A 114 (2 + t) = nI t)) (by omega) (decide_eq_true h27)) ?_
        refine st_istore1 rX7_bellsAtHome_35 rfl ?_
        first | refine st_iincN2 rX7_bellsAtHome_36 rfl ?_ | refine st_iinc2 rX7_bellsAtHome_36 rfl ?_
        refine st_goto rX7_bellsAtHome_39 ?_
        first | exact hn | (rw [bo_f (f := fun t => decide (A 114 (2 + t) = nI t)) (decide_eq_false h27)] at hn; exact hn)
  exact key m 0 (by omega)
def fitB (A : Nat → Nat → Int32) (b t : Nat) : Bool := decide (A 107 b ≤ A 114 (8 + t))
set_option maxHeartbeats 4000000 in
set_option maxRecDepth 100000 in
theorem s_bears {t b : Nat} {kk : Int32 → vS → Prop} {N : Nat → Int32} {h : Nat} (hg : vHg h) (ht0 : vTo ρ) (hb : I (ρ + 2) b = A 107 b) (hv : I (h + 2) t = N (8 + t)) (ht : t < 6) (hb6 : b < 6) (hk : kk (vb (decide (A 107 b ≤ N (8 + t)))) (I, J, vRR ρ)) : V (d + 1) 123 123 mX1_bearsBell 0 [.ref h, .ref ρ, .int (nI t), .int (nI b)] [] (I, J, vRR ρ) (Ki kk) := by
  obtain ⟨hto, o1, o2, o3, o4, o5, o6, o7, o8⟩ := toldF ht0
  obtain ⟨a0, a1, a2, a3, a4⟩ := hangF hg
  refine st_aload rX1_bearsBell_0 rfl ?_
  refine st_getR rX1_bearsBell_1 (by first | assumption | decide) (by first | rfl | exact hR3 (by assumption)) rfl ?_
  refine st_iload rX1_bearsBell_4 rfl ?_
  refine cS2i rX1_bearsBell_5 (s_at (by first | assumption | decide | exact ⟨by decide, rfl, by decide⟩) (by omega) ?_) rfl
  refine st_top hv ?_
  refine st_aload rX1_bearsBell_8 rfl ?_
  refine st_getR rX1_bearsBell_9 (by assumption) (tR4 (by assumption)) rfl ?_
  refine st_iload rX1_bearsBell_12 rfl ?_
  refine cS2i rX1_bearsBell_13 (s_at (by first | assumption | decide | exact ⟨by decide, rfl, by decide⟩) (by omega) ?_) rfl
  refine st_top hb ?_
  first | refine st_icmp_ltN rX1_bearsBell_16 (by omega) (by omega) (fun h16 => ?_) (fun h16 => ?_) | refine st_icmp_lt rX1_bearsBell_16 (fun h16 => ?_) (fun h16 => ?_)
  · refine st_c rX1_bearsBell_23 ?_
    refine st_zret rX1_bearsBell_24 rfl (by first | rfl | exact vb_nar _) ?_
    first | (rw [decide_eq_false (Int32.not_le.mpr h16)] at hk; exact hk) | (rw [decide_eq_true (Int32.not_lt.mp h16)] at hk; exact hk)
  · refine st_c rX1_bearsBell_19 ?_
    refine st_goto rX1_bearsBell_20 ?_
    refine st_zret rX1_bearsBell_24 rfl (by first | rfl | exact vb_nar _) ?_
    first | (rw [decide_eq_false (Int32.not_le.mpr h16)] at hk; exact hk) | (rw [decide_eq_true (Int32.not_lt.mp h16)] at hk; exact hk)
set_option maxHeartbeats 4000000 in
set_option maxRecDepth 100000 in
theorem s_fitsOf {b : Nat} {kk : Int32 → vS → Prop} (hC : InvC I J ρ A T m no) (hO : OkA A m no) (hb : b < m) (h : kk (nI (bitsOf (fitB A b) m)) (I, J, vRR ρ)) : V (d + 2) 123 123 mX7_fitsOf 0 [.ref 0, .int (nI b), vJ, vJ] [] (I, J, vRR ρ) (Ki kk) := by
  obtain ⟨ht0, ht1, ht2, ht3, ht4, ht5, ht6, ht7, ht8, ht9, ht10⟩ := id hC.1
  obtain ⟨hto, o1, o2, o3, o4, o5, o6, o7, o8⟩ := toldF ht0
  have hm6 : m ≤ 6 := hO.1.2.2.1
  have hno6 : no ≤ 6 := hO.1.2.2.2.1
  have hv := hC.2.2.1
  have hg : vHg 22 := ⟨by decide, rfl⟩
  refine st_c rX7_fitsOf_0 ?_
  refine st_istore2 rX7_fitsOf_1 rfl ?_
  refine st_c rX7_fitsOf_2 ?_
  refine st_istore3 rX7_fitsOf_3 rfl ?_
  skip
  have key : ∀ (r t : Nat), t + r = m → V (d + 2) 123 123 mX7_fitsOf 4 [.ref 0, .int (nI b), .int (nI (bitsOf (fitB A b) t)), .int (nI t)] [] (I, J, vRR ρ) (Ki kk) := by
    intro r
    induction r with
    | zero =>
      intro t he
      have he : t = m := by omega
      subst he
      refine st_iload rX7_fitsOf_4 rfl ?_
      refine st_aload rX7_fitsOf_5 rfl ?_
      refine st_getR rX7_fitsOf_6 (by first | assumption | decide | exact ⟨by decide, rfl, by decide⟩) (by first | rfl | assumption) rfl ?_
      refine st_getI rX7_fitsOf_9 (by first | assumption | decide | exact ⟨by decide, rfl, by decide⟩) rfl ?_
      refine st_top ht1 ?_
      first | refine st_icmp_geN rX7_fitsOf_12 (by omega) (by omega) (fun _ => ?_) (fun h => absurd h (by first | decide | omega | (simp; done) | simp_all)) | refine st_icmp_ge rX7_fitsOf_12 (fun _ => ?_) (fun h => absurd h (by first | decide | omega | (simp; done) | simp_all))
      refine st_iload rX7_fitsOf_43 rfl ?_
      refine st_iret rX7_fitsOf_44 rfl ?_
      exact h
    | succ r ih =>
      intro t he
      have htm : t < m := by omega
      have hn := ih (t + 1) (by omega)
      cases hd : fitB A b t with
      | true =>
        have hd' : decide (A 107 b ≤ A 114 (8 + t)) = true := hd
        refine st_iload rX7_fitsOf_4 rfl ?_
        refine st_aload rX7_fitsOf_5 rfl ?_
        refine st_getR rX7_fitsOf_6 (by first | assumption | decide | exact ⟨by decide, rfl, by decide⟩) (by first | rfl | assumption) rfl ?_
        refine st_getI rX7_fitsOf_9 (by first | assumption | decide | exact ⟨by decide, rfl, by decide⟩) rfl ?_
        refine st_top ht1 ?_
        first | refine st_icmp_geN rX7_fitsOf_12 (by omega) (by omega) (fun h => absurd h (by first | decide | omega | (simp; done) | simp_all)) (fun _ => ?_) | refine st_icmp_ge rX7_fitsOf_12 (fun h => absurd h (by first | decide | omega | (simp; done) | simp_all)) (fun _ => ?_)
        refine st_aload rX7_fitsOf_15 rfl ?_
        refine st_getR rX7_fitsOf_16 (by first | assumption | decide | exact ⟨by decide, rfl, by decide⟩) (by first | rfl | assumption) rfl ?_
        refine st_aload rX7_fitsOf_19 rfl ?_
        refine st_getR rX7_fitsOf_20 (by first | assumption | decide | exact ⟨by decide, rfl, by decide⟩) (by first | rfl | assumption) rfl ?_
        refine st_iload rX7_fitsOf_23 rfl ?_
        refine st_iload rX7_fitsOf_24 rfl ?_
        refine cV4i rX7_fitsOf_25 (by first | assumption | decide | exact ⟨by decide, rfl, by decide⟩) (s_bears (N := A 114) (h := 22) hg ht0 (ht4 b hb) (hv.2.2.2.1 t htm) (by omega) (by omega) ?_) rfl (by decide)
        rw [hd']
        first | refine st_if_eqN rX7_fitsOf_28 (by omega) (fun h => absurd h (by first | decide | omega | (simp; done) | simp_all)) (fun _ => ?_) | refine st_if_eq rX7_fitsOf_28 (fun h => absurd h (by first | decide | omega | (simp; done) | simp_all)) (fun _ => ?_)
        refine st_iload rX7_fitsOf_31 rfl ?_
        refine st_c rX7_fitsOf_32 ?_
        refine st_iload rX7_fitsOf_33 rfl ?_
        refine st_ishl rX7_fitsOf_34 ?_
        refine st_ior rX7_fitsOf_35 ?_
        refine st_top (bo_t (f := fitB A b) (by omega) hd) ?_
        refine st_istore2 rX7_fitsOf_36 rfl ?_
        first | refine st_iincN3 rX7_fitsOf_37 rfl ?_ | refine st_iinc3 rX7_fitsOf_37 rfl ?_
        refine st_goto rX7_fitsOf_40 ?_
        exact hn
      | false =>
        have hd' : decide (A 107 b ≤ A 114 (8 + t)) = false := hd
        refine st_iload rX7_fitsOf_4 rfl ?_
        refine st_aload rX7_fitsOf_5 rfl ?_
        refine st_getR rX7_fitsOf_6 (by first | assumption | decide | exact ⟨by decide, rfl, by decide⟩) (by first | rfl | assumption) rfl ?_
        refine st_getI rX7_fitsOf_9 (by first | assumption | decide | exact ⟨by decide, rfl, by decide⟩) rfl ?_
        refine st_top ht1 ?_
        first | refine st_icmp_geN rX7_fitsOf_12 (by omega) (by omega) (fun h => absurd h (by first | decide | omega | (simp; done) | simp_all)) (fun _ => ?_) | refine st_icmp_ge rX7_fitsOf_12 (fun h => absurd h (by first | decide | omega | (simp; done) | simp_all)) (fun _ => ?_)
        refine st_aload rX7_fitsOf_15 rfl ?_
        refine st_getR rX7_fitsOf_16 (by first | assumption | decide | exact ⟨by decide, rfl, by decide⟩) (by first | rfl | assumption) rfl ?_
        refine st_aload rX7_fitsOf_19 rfl ?_
        refine st_getR rX7_fitsOf_20 (by first | assumption | decide | exact ⟨by decide, rfl, by decide⟩) (by first | rfl | assumption) rfl ?_
        refine st_iload rX7_fitsOf_23 rfl ?_
        refine st_iload rX7_fitsOf_24 rfl ?_
        refine cV4i rX7_fitsOf_25 (by first | assumption | decide | exact ⟨by decide, rfl, by decide⟩) (s_bears (N := A 114) (h := 22) hg ht0 (ht4 b hb) (hv.2.2.2.1 t htm) (by omega) (by omega) ?_) rfl (by decide)
        rw [hd']
        first | refine st_if_eqN rX7_fitsOf_28 (by omega) (fun _ => ?_) (fun h => absurd h (by first | decide | omega | (simp; done) | simp_all)) | refine st_if_eq rX7_fitsOf_28 (fun _ => ?_) (fun h => absurd h (by first | decide | omega | (simp; done) | simp_all))
        first | refine st_iincN3 rX7_fitsOf_37 rfl ?_ | refine st_iinc3 rX7_fitsOf_37 rfl ?_
        refine st_goto rX7_fitsOf_40 ?_
        rw [bo_f (f := fitB A b) hd] at hn; exact hn
  exact key m 0 (by omega)
end P22
