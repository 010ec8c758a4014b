/-! ===== odds ===== -/
def bc1 (x : Int32) : Int32 := x - ((x.toUInt32 >>> ((nI 1).toUInt32 &&& Int32.toUInt32 31)).toInt32 &&& nI 1431655765)
def bc2 (x : Int32) : Int32 := (x &&& nI 858993459) + ((x.toUInt32 >>> ((nI 2).toUInt32 &&& Int32.toUInt32 31)).toInt32 &&& nI 858993459)
def bc3 (x : Int32) : Int32 := (x + (x.toUInt32 >>> ((nI 4).toUInt32 &&& Int32.toUInt32 31)).toInt32) &&& nI 252645135
def bc4 (x : Int32) : Int32 := x + (x.toUInt32 >>> ((nI 8).toUInt32 &&& Int32.toUInt32 31)).toInt32
def bc5 (x : Int32) : Int32 := x + (x.toUInt32 >>> ((nI 16).toUInt32 &&& Int32.toUInt32 31)).toInt32
theorem bc0 : (List.range 64).all (fun x => decide ((bc5 (bc4 (bc3 (bc2 (bc1 (nI x))))) &&& nI 63) = nI (popM x 6))) = true := by decide +kernel
theorem bcN {x : Nat} (hx : x < 64) : (bc5 (bc4 (bc3 (bc2 (bc1 (nI x))))) &&& nI 63) = nI (popM x 6) := by
  have q := List.all_eq_true.mp bc0 x (List.mem_range.mpr hx)
  simpa using q
section P40
variable {d : Nat} {I A : Nat → Nat → Int32} {J : Nat → Nat → Int64} {ρ m no : Nat} {T : Int64} {k : Int32 → vS → Prop} {kl : Int64 → vS → Prop} {kv : vS → Prop}
set_option maxHeartbeats 4000000 in
set_option maxRecDepth 100000 in
theorem s_bitCount {x : Nat} {kk : Int32 → vS → Prop} (hx : x < 64) (h : kk (nI (popM x 6)) (I, J, vRR ρ)) : V d 123 123 mJ6_bitCount_0f7a4 0 [.int (nI x)] [] (I, J, vRR ρ) (Ki kk) := by
  refine st_iload rJ6_bitCount_0f7a4_0 rfl ?_
  refine st_iload rJ6_bitCount_0f7a4_1 rfl ?_
  refine st_c rJ6_bitCount_0f7a4_2 ?_
  refine st_iushr rJ6_bitCount_0f7a4_3 ?_
  refine st_c rJ6_bitCount_0f7a4_4 ?_
  refine st_iand rJ6_bitCount_0f7a4_7 ?_
  refine st_isub rJ6_bitCount_0f7a4_8 ?_
  refine st_top (show _ = bc1 (nI x) from rfl) ?_
  refine st_istore0 rJ6_bitCount_0f7a4_9 ?_
  refine st_iload rJ6_bitCount_0f7a4_10 rfl ?_
  refine st_c rJ6_bitCount_0f7a4_11 ?_
  refine st_iand rJ6_bitCount_0f7a4_14 ?_
  refine st_iload rJ6_bitCount_0f7a4_15 rfl ?_
  refine st_c rJ6_bitCount_0f7a4_16 ?_
  refine st_iushr rJ6_bitCount_0f7a4_17 ?_
  refine st_c rJ6_bitCount_0f7a4_18 ?_
  refine st_iand rJ6_bitCount_0f7a4_21 ?_
  refine st_iadd rJ6_bitCount_0f7a4_22 ?_
  refine st_top (show _ = bc2 (bc1 (nI x)) from rfl) ?_
  refine st_istore0 rJ6_bitCount_0f7a4_23 ?_
  refine st_iload rJ6_bitCount_0f7a4_24 rfl ?_
  refine st_iload rJ6_bitCount_0f7a4_25 rfl ?_
  refine st_c rJ6_bitCount_0f7a4_26 ?_
  refine st_iushr rJ6_bitCount_0f7a4_27 ?_
  refine st_iadd rJ6_bitCount_0f7a4_28 ?_
  refine st_c rJ6_bitCount_0f7a4_29 ?_
  refine st_iand rJ6_bitCount_0f7a4_32 ?_
  refine st_top (show _ = bc3 (bc2 (bc1 (nI x))) from rfl) ?_
  refine st_istore0 rJ6_bitCount_0f7a4_33 ?_
  refine st_iload rJ6_bitCount_0f7a4_34 rfl ?_
  refine st_iload rJ6_bitCount_0f7a4_35 rfl ?_
  refine st_c rJ6_bitCount_0f7a4_36 ?_
  refine st_iushr rJ6_bitCount_0f7a4_38 ?_
  refine st_iadd rJ6_bitCount_0f7a4_39 ?_
  refine st_top (show _ = bc4 (bc3 (bc2 (bc1 (nI x)))) from rfl) ?_
  refine st_istore0 rJ6_bitCount_0f7a4_40 ?_
  refine st_iload rJ6_bitCount_0f7a4_41 rfl ?_
  refine st_iload rJ6_bitCount_0f7a4_42 rfl ?_
  refine st_c rJ6_bitCount_0f7a4_43 ?_
  refine st_iushr rJ6_bitCount_0f7a4_45 ?_
  refine st_iadd rJ6_bitCount_0f7a4_46 ?_
  refine st_top (show _ = bc5 (bc4 (bc3 (bc2 (bc1 (nI x))))) from rfl) ?_
  refine st_istore0 rJ6_bitCount_0f7a4_47 ?_
  refine st_iload rJ6_bitCount_0f7a4_48 rfl ?_
  refine st_c rJ6_bitCount_0f7a4_49 ?_
  refine st_iand rJ6_bitCount_0f7a4_51 ?_
  refine st_top (bcN hx) ?_
  refine st_iret rJ6_bitCount_0f7a4_52 rfl ?_
  exact h
set_option maxHeartbeats 4000000 in
set_option maxRecDepth 100000 in
theorem s_before {b : Nat} {kk : Int32 → vS → Prop} (hC : InvC I J ρ A T m no) (hO : OkA A m no) (hb : b < m) (h : kk (nI (slF (fun x => ob1 (bfA A x b)) (dn m))) (I, J, vRR ρ)) : V (d + 1) 123 123 mX6_bellsHungBefore 0 [.ref ρ, .int (nI b), vJ, vJ, vJ] [] (I, J, vRR ρ) (Ki kk) := by
  obtain ⟨ht0, ht1, ht2, ht3, ht4, ht5, ht6, ht7, ht8, ht9, ht10⟩ := id hC.1
  obtain ⟨hto, o1, o2, o3, o4, o5, o6, o7, o8⟩ := toldF ht0
  have hm6 : m ≤ 6 := hO.1.2.2.1
  have hno6 : no ≤ 6 := hO.1.2.2.2.1
  have wb := wN_ok hO hb
  have qb : I (ρ + 2) b = nI (wN A b) := (ht4 b hb).trans wb.1
  refine st_c rX6_bellsHungBefore_0 ?_
  refine st_istore2 rX6_bellsHungBefore_1 rfl ?_
  refine st_c rX6_bellsHungBefore_2 ?_
  refine st_istore3 rX6_bellsHungBefore_3 rfl ?_
  skip
  have key : ∀ (r t : Nat) (x4 : Value), t + r = m → V (d + 1) 123 123 mX6_bellsHungBefore 4 [.ref ρ, .int (nI b), .int (nI (slF (fun x => ob1 (bfA A x b)) (dn t))), .int (nI t), x4] [] (I, J, vRR ρ) (Ki kk) := by
    intro r
    induction r with
    | zero =>
      intro t x4 he
      have he : t = m := by omega
      subst he
      refine st_iload rX6_bellsHungBefore_4 rfl ?_
      refine st_aload rX6_bellsHungBefore_5 rfl ?_
      refine st_getI rX6_bellsHungBefore_6 (by first | assumption | decide | exact ⟨by decide, rfl, by decide⟩) rfl ?_
      refine st_top ht1 ?_
      first | with_reducible refine st_icmp_geN rX6_bellsHungBefore_9 (by omega) (by omega) (fun _ => ?_) (fun h => absurd h (by first | decide | omega | (simp; done) | simp_all)) | refine st_icmp_ge rX6_bellsHungBefore_9 (fun _ => ?_) (fun h => absurd h (by first | decide | omega | (simp; done) | simp_all))
      refine st_iload rX6_bellsHungBefore_55 rfl ?_
      refine st_iret rX6_bellsHungBefore_56 rfl ?_
      exact h
    | succ r ih =>
      intro t x4 he
      have htm : t < m := by omega
      have wt := wN_ok hO htm
      have qt : I (ρ + 2) t = nI (wN A t) := (ht4 t htm).trans wt.1
      have hn := ih (t + 1)
      simp only [dn, slF] at hn
      have hd : (nI (wN A t) - nI (wN A b)).toInt = (wN A t : Int) - wN A b := pk_sub_toInt (by omega) (by omega)
      have z0 : (0 : Int32).toInt = 0 := rfl
      by_cases c1 : wN A b < wN A t
      · have hbf : ob1 (bfA A t b) = 1 := by rw [bfA, decide_eq_true (Or.inl c1)]; rfl
        rw [hbf, Nat.add_comm 1] at hn
        refine st_iload rX6_bellsHungBefore_4 rfl ?_
        refine st_aload rX6_bellsHungBefore_5 rfl ?_
        refine st_getI rX6_bellsHungBefore_6 (by first | assumption | decide | exact ⟨by decide, rfl, by decide⟩) rfl ?_
        refine st_top ht1 ?_
        first | with_reducible refine st_icmp_geN rX6_bellsHungBefore_9 (by omega) (by omega) (fun h => absurd h (by first | decide | omega | (simp; done) | simp_all)) (fun _ => ?_) | refine st_icmp_ge rX6_bellsHungBefore_9 (fun h => absurd h (by first | decide | omega | (simp; done) | simp_all)) (fun _ => ?_)
        refine st_aload rX6_bellsHungBefore_12 rfl ?_
        refine st_getR rX6_bellsHungBefore_13 (by assumption) (tR4 (by assumption)) rfl ?_
        refine st_iload rX6_bellsHungBefore_16 rfl ?_
        refine cS2i rX6_bellsHungBefore_17 (s_at (by first | assumption | decide | exact ⟨by decide, rfl, by decide⟩) (by omega) ?_) rfl
        refine st_top qt ?_
        refine st_aload rX6_bellsHungBefore_20 rfl ?_
        refine st_getR rX6_bellsHungBefore_21 (by assumption) (tR4 (by assumption)) rfl ?_
        refine st_iload rX6_bellsHungBefore_24 rfl ?_
        refine cS2i rX6_bellsHungBefore_25 (s_at (by first | assumption | decide | exact ⟨by decide, rfl, by decide⟩) (by omega) ?_) rfl
        refine st_top qb ?_
        refine st_isub rX6_bellsHungBefore_28 ?_
        refine st_istore4 rX6_bellsHungBefore_29 rfl ?_
        refine st_iload rX6_bellsHungBefore_31 rfl ?_
        refine st_if_gt rX6_bellsHungBefore_33 (fun _ => ?_) (fun h => absurd (by rw [Int32.lt_iff_toInt_lt, hd, z0]; omega) h)
        first | with_reducible refine st_iincN2 rX6_bellsHungBefore_46 rfl ?_ | refine st_iinc2 rX6_bellsHungBefore_46 rfl ?_
        first | with_reducible refine st_iincN3 rX6_bellsHungBefore_49 rfl ?_ | refine st_iinc3 rX6_bellsHungBefore_49 rfl ?_
        refine st_goto rX6_bellsHungBefore_52 ?_
        exact hn _ (by omega)
      · have hgt : ¬ (0 : Int32) < nI (wN A t) - nI (wN A b) := by rw [Int32.lt_iff_toInt_lt, hd, z0]; omega
        by_cases c2 : wN A t = wN A b
        · have hz : nI (wN A t) - nI (wN A b) = 0 := by apply Int32.toInt_inj.mp; rw [hd, z0]; omega
          by_cases c3 : t < b
          · have hbf : ob1 (bfA A t b) = 1 := by rw [bfA, decide_eq_true (Or.inr ⟨c2, c3⟩)]; rfl
            rw [hbf, Nat.add_comm 1] at hn
            refine st_iload rX6_bellsHungBefore_4 rfl ?_
            refine st_aload rX6_bellsHungBefore_5 rfl ?_
            refine st_getI rX6_bellsHungBefore_6 (by first | assumption | decide | exact ⟨by decide, rfl, by decide⟩) rfl ?_
            refine st_top ht1 ?_
            first | with_reducible refine st_icmp_geN rX6_bellsHungBefore_9 (by omega) (by omega) (fun h => absurd h (by first | decide | omega | (simp; done) | simp_all)) (fun _ => ?_) | refine st_icmp_ge rX6_bellsHungBefore_9 (fun h => absurd h (by first | decide | omega | (simp; done) | simp_all)) (fun _ => ?_)
            refine st_aload rX6_bellsHungBefore_12 rfl ?_
            refine st_getR rX6_bellsHungBefore_13 (by assumption) (tR4 (by assumption)) rfl ?_
            refine st_iload rX6_bellsHungBefore_16 rfl ?_
            refine cS2i rX6_bellsHungBefore_17 (s_at (by first | assumption | decide | exact ⟨by decide, rfl, by decide⟩) (by omega) ?_) rfl
            refine st_top qt ?_
            refine st_aload rX6_bellsHungBefore_20 rfl ?_
            refine st_getR rX6_bellsHungBefore_21 (by assumption) (tR4 (by assumption)) rfl ?_
            refine st_iload rX6_bellsHungBefore_24 rfl ?_
            refine cS2i rX6_bellsHungBefore_25 (s_at (by first | assumption | decide | exact ⟨by decide, rfl, by decide⟩) (by omega) ?_) rfl
            refine st_top qb ?_
            refine st_isub rX6_bellsHungBefore_28 ?_
            refine st_istore4 rX6_bellsHungBefore_29 rfl ?_
            refine st_iload rX6_bellsHungBefore_31 rfl ?_
            refine st_if_gt rX6_bellsHungBefore_33 (fun h => absurd h hgt) (fun _ => ?_)
            refine st_iload rX6_bellsHungBefore_36 rfl ?_
            refine st_if_ne rX6_bellsHungBefore_38 (fun h => absurd hz h) (fun _ => ?_)
            refine st_iload rX6_bellsHungBefore_41 rfl ?_
            refine st_iload rX6_bellsHungBefore_42 rfl ?_
            first | with_reducible refine st_icmp_geN rX6_bellsHungBefore_43 (by omega) (by omega) (fun h => absurd h (by first | decide | omega | (simp; done) | simp_all)) (fun _ => ?_) | refine st_icmp_ge rX6_bellsHungBefore_43 (fun h => absurd h (by first | decide | omega | (simp; done) | simp_all)) (fun _ => ?_)
            first | with_reducible refine st_iincN2 rX6_bellsHungBefore_46 rfl ?_ | refine st_iinc2 rX6_bellsHungBefore_46 rfl ?_
            first | with_reducible refine st_iincN3 rX6_bellsHungBefore_49 rfl ?_ | refine st_iinc3 rX6_bellsHungBefore_49 rfl ?_
            refine st_goto rX6_bellsHungBefore_52 ?_
            exact hn _ (by omega)
          · have hbf : ob1 (bfA A t b) = 0 := by rw [bfA, decide_eq_false (by omega)]; rfl
            rw [hbf, Nat.zero_add] at hn
            refine st_iload rX6_bellsHungBefore_4 rfl ?_
            refine st_aload rX6_bellsHungBefore_5 rfl ?_
            refine st_getI rX6_bellsHungBefore_6 (by first | assumption | decide | exact ⟨by decide, rfl, by decide⟩) rfl ?_
            refine st_top ht1 ?_
            first | with_reducible refine st_icmp_geN rX6_bellsHungBefore_9 (by omega) (by omega) (fun h => absurd h (by first | decide | omega | (simp; done) | simp_all)) (fun _ => ?_) | refine st_icmp_ge rX6_bellsHungBefore_9 (fun h => absurd h (by first | decide | omega | (simp; done) | simp_all)) (fun _ => ?_)
            refine st_aload rX6_bellsHungBefore_12 rfl ?_
            refine st_getR rX6_bellsHungBefore_13 (by assumption) (tR4 (by assumption)) rfl ?_
            refine st_iload rX6_bellsHungBefore_16 rfl ?_
            refine cS2i rX6_bellsHungBefore_17 (s_at (by first | assumption | decide | exact ⟨by decide, rfl, by decide⟩) (by omega) ?_) rfl
            refine st_top qt ?_
            refine st_aload rX6_bellsHungBefore_20 rfl ?_
            refine st_getR rX6_bellsHungBefore_21 (by assumption) (tR4 (by assumption)) rfl ?_
            refine st_iload rX6_bellsHungBefore_24 rfl ?_
            refine cS2i rX6_bellsHungBefore_25 (s_at (by first | assumption | decide | exact ⟨by decide, rfl, by decide⟩) (by omega) ?_) rfl
            refine st_top qb ?_
            refine st_isub rX6_bellsHungBefore_28 ?_
            refine st_istore4 rX6_bellsHungBefore_29 rfl ?_
            refine st_iload rX6_bellsHungBefore_31 rfl ?_
            refine st_if_gt rX6_bellsHungBefore_33 (fun h => absurd h hgt) (fun _ => ?_)
            refine st_iload rX6_bellsHungBefore_36 rfl ?_
            refine st_if_ne rX6_bellsHungBefore_38 (fun h => absurd hz h) (fun _ => ?_)
            refine st_iload rX6_bellsHungBefore_41 rfl ?_
            refine st_iload rX6_bellsHungBefore_42 rfl ?_
            first | with_reducible refine st_icmp_geN rX6_bellsHungBefore_43 (by omega) (by omega) (fun _ => ?_) (fun h => absurd h (by first | decide | omega | (simp; done) | simp_all)) | refine st_icmp_ge rX6_bellsHungBefore_43 (fun _ => ?_) (fun h => absurd h (by first | decide | omega | (simp; done) | simp_all))
            first | with_reducible refine st_iincN3 rX6_bellsHungBefore_49 rfl ?_ | refine st_iinc3 rX6_bellsHungBefore_49 rfl ?_
            refine st_goto rX6_bellsHungBefore_52 ?_
            exact hn _ (by omega)
        · have hz : nI (wN A t) - nI (wN A b) ≠ 0 := fun e => by rw [e, z0] at hd; omega
          have hbf : ob1 (bfA A t b) = 0 := by rw [bfA, decide_eq_false (by omega)]; rfl
          rw [hbf, Nat.zero_add] at hn
          refine st_iload rX6_bellsHungBefore_4 rfl ?_
          refine st_aload rX6_bellsHungBefore_5 rfl ?_
          refine st_getI rX6_bellsHungBefore_6 (by first | assumption | decide | exact ⟨by decide, rfl, by decide⟩) rfl ?_
          refine st_top ht1 ?_
          first | with_reducible refine st_icmp_geN rX6_bellsHungBefore_9 (by omega) (by omega) (fun h => absurd h (by first | decide | omega | (simp; done) | simp_all)) (fun _ => ?_) | refine st_icmp_ge rX6_bellsHungBefore_9 (fun h => absurd h (by first | decide | omega | (simp; done) | simp_all)) (fun _ => ?_)
          refine st_aload rX6_bellsHungBefore_12 rfl ?_
          refine st_getR rX6_bellsHungBefore_13 (by assumption) (tR4 (by assumption)) rfl ?_
          refine st_iload rX6_bellsHungBefore_16 rfl ?_
          refine cS2i rX6_bellsHungBefore_17 (s_at (by first | assumption | decide | exact ⟨by decide, rfl, by decide⟩) (by omega) ?_) rfl
          refine st_top qt ?_
          refine st_aload rX6_bellsHungBefore_20 rfl ?_
          refine st_getR rX6_bellsHungBefore_21 (by assumption) (tR4 (by assumption)) rfl ?_
          refine st_iload rX6_bellsHungBefore_24 rfl ?_
          refine cS2i rX6_bellsHungBefore_25 (s_at (by first | assumption | decide | exact ⟨by decide, rfl, by decide⟩) (by omega) ?_) rfl
          refine st_top qb ?_
          refine st_isub rX6_bellsHungBefore_28 ?_
          refine st_istore4 rX6_bellsHungBefore_29 rfl ?_
          refine st_iload rX6_bellsHungBefore_31 rfl ?_
          refine st_if_gt rX6_bellsHungBefore_33 (fun h => absurd h hgt) (fun _ => ?_)
          refine st_iload rX6_bellsHungBefore_36 rfl ?_
          refine st_if_ne rX6_bellsHungBefore_38 (fun _ => ?_) (fun h => absurd h hz)
          first | with_reducible refine st_iincN3 rX6_bellsHungBefore_49 rfl ?_ | refine st_iinc3 rX6_bellsHungBefore_49 rfl ?_
          refine st_goto rX6_bellsHungBefore_52 ?_
          exact hn _ (by omega)
  exact key m 0 _ (by omega)
set_option maxHeartbeats 4000000 in
set_option maxRecDepth 100000 in
theorem s_harmless {kk : Int32 → vS → Prop} (hC : InvC I J ρ A T m no) (hO : OkA A m no) (h : kk (nI (plF (hmG A m) (dn m))) (I, J, vRR ρ)) : V (d + 3) 123 123 mX7_harmlessWays 0 [.ref 0, vJ, vJ] [] (I, J, vRR ρ) (Ki kk) := by
  obtain ⟨ht0, ht1, ht2, ht3, ht4, ht5, ht6, ht7, ht8, ht9, ht10⟩ := id hC.1
  obtain ⟨hto, o1, o2, o3, o4, o5, o6, o7, o8⟩ := toldF ht0
  have hm6 : m ≤ 6 := hO.1.2.2.1
  have hno6 : no ≤ 6 := hO.1.2.2.2.1
  have hp := pl_pos _ (hm_pos hO)
  refine st_c rX7_harmlessWays_0 ?_
  refine st_istore1 rX7_harmlessWays_1 rfl ?_
  refine st_c rX7_harmlessWays_2 ?_
  refine st_istore2 rX7_harmlessWays_3 rfl ?_
  skip
  have key : ∀ (r t : Nat), t + r = m → V (d + 3) 123 123 mX7_harmlessWays 4 [.ref 0, .int (nI (plF (hmG A m) (dn t))), .int (nI t)] [] (I, J, vRR ρ) (Ki kk) := by
    intro r
    induction r with
    | zero =>
      intro t he
      have he : t = m := by omega
      subst he
      refine st_iload rX7_harmlessWays_4 rfl ?_
      refine st_aload rX7_harmlessWays_5 rfl ?_
      refine st_getR rX7_harmlessWays_6 (by first | assumption | decide | exact ⟨by decide, rfl, by decide⟩) (by first | rfl | assumption) rfl ?_
      refine st_getI rX7_harmlessWays_9 (by first | assumption | decide | exact ⟨by decide, rfl, by decide⟩) rfl ?_
      refine st_top ht1 ?_
      first | with_reducible refine st_icmp_geN rX7_harmlessWays_12 (by omega) (by omega) (fun _ => ?_) (fun h => absurd h (by first | decide | omega | (simp; done) | simp_all)) | refine st_icmp_ge rX7_harmlessWays_12 (fun _ => ?_) (fun h => absurd h (by first | decide | omega | (simp; done) | simp_all))
      refine st_iload rX7_harmlessWays_41 rfl ?_
      refine st_iret rX7_harmlessWays_42 rfl ?_
      exact h
    | succ r ih =>
      intro t he
      have htm : t < m := by omega
      have hg := hp t ((dn_mem m).mpr htm)
      have hb6 := bo_64 (fitB A t) hm6
      have hpop := pop_6 (fitB A t) hm6
      have hn := ih (t + 1) (by omega)
      simp only [dn, plF] at hn
      rw [Nat.mul_comm] at hn
      have hge : slF (fun x => ob1 (bfA A x t)) (dn m) ≤ slF (fun u => ob1 (fitB A t u)) (dn m) := by
        simp only [hmG] at hg
        omega
      refine st_iload rX7_harmlessWays_4 rfl ?_
      refine st_aload rX7_harmlessWays_5 rfl ?_
      refine st_getR rX7_harmlessWays_6 (by first | assumption | decide | exact ⟨by decide, rfl, by decide⟩) (by first | rfl | assumption) rfl ?_
      refine st_getI rX7_harmlessWays_9 (by first | assumption | decide | exact ⟨by decide, rfl, by decide⟩) rfl ?_
      refine st_top ht1 ?_
      first | with_reducible refine st_icmp_geN rX7_harmlessWays_12 (by omega) (by omega) (fun h => absurd h (by first | decide | omega | (simp; done) | simp_all)) (fun _ => ?_) | refine st_icmp_ge rX7_harmlessWays_12 (fun h => absurd h (by first | decide | omega | (simp; done) | simp_all)) (fun _ => ?_)
      refine st_iload rX7_harmlessWays_15 rfl ?_
      refine st_aload rX7_harmlessWays_16 rfl ?_
      refine st_iload rX7_harmlessWays_17 rfl ?_
      refine cV2i rX7_harmlessWays_18 (by first | assumption | decide | exact ⟨by decide, rfl, by decide⟩) (s_fitsOf hC hO htm ?_) rfl (by decide)
      refine cS1i rX7_harmlessWays_21 (s_bitCount hb6 ?_) rfl
      refine st_top (congrArg nI hpop) ?_
      refine st_aload rX7_harmlessWays_24 rfl ?_
      refine st_getR rX7_harmlessWays_25 (by first | assumption | decide | exact ⟨by decide, rfl, by decide⟩) (by first | rfl | assumption) rfl ?_
      refine st_iload rX7_harmlessWays_28 rfl ?_
      refine cV2i rX7_harmlessWays_29 (by first | assumption | decide | exact ⟨by decide, rfl, by decide⟩) (s_before hC hO htm ?_) rfl (by decide)
      refine st_isubN rX7_harmlessWays_32 hge ?_
      first | with_reducible refine st_imulN rX7_harmlessWays_33 ?_ | refine st_imul rX7_harmlessWays_33 ?_
      refine st_istore1 rX7_harmlessWays_34 rfl ?_
      first | with_reducible refine st_iincN2 rX7_harmlessWays_35 rfl ?_ | refine st_iinc2 rX7_harmlessWays_35 rfl ?_
      refine st_goto rX7_harmlessWays_38 ?_
      exact hn
  exact key m 0 (by omega)
set_option maxHeartbeats 4000000 in
set_option maxRecDepth 100000 in
theorem s_allWays {kk : Int32 → vS → Prop} (hC : InvC I J ρ A T m no) (hO : OkA A m no) (h : kk (nI (faF m)) (I, J, vRR ρ)) : V d 123 123 mX7_allWays 0 [.ref 0, vJ, vJ] [] (I, J, vRR ρ) (Ki kk) := by
  obtain ⟨ht0, ht1, ht2, ht3, ht4, ht5, ht6, ht7, ht8, ht9, ht10⟩ := id hC.1
  obtain ⟨hto, o1, o2, o3, o4, o5, o6, o7, o8⟩ := toldF ht0
  have hm6 : m ≤ 6 := hO.1.2.2.1
  have hno6 : no ≤ 6 := hO.1.2.2.2.1
  refine st_c rX7_allWays_0 ?_
  refine st_istore1 rX7_allWays_1 rfl ?_
  refine st_c rX7_allWays_2 ?_
  refine st_istore2 rX7_allWays_3 rfl ?_
  skip
  have key : ∀ (r j : Nat), 1 ≤ j → (j + r = m ∨ r = 0 ∧ j = 1 ∧ m = 0) → V d 123 123 mX7_allWays 4 [.ref 0, .int (nI (faF j)), .int (nI (j + 1))] [] (I, J, vRR ρ) (Ki kk) := by
    intro r
    induction r with
    | zero =>
      intro j hj he
      have hf : faF j = faF m := by
        rcases he with he | ⟨-, h1, h2⟩
        · rw [show j = m by omega]
        · rw [h1, h2]; rfl
      rw [hf]
      refine st_iload rX7_allWays_4 rfl ?_
      refine st_aload rX7_allWays_5 rfl ?_
      refine st_getR rX7_allWays_6 (by first | assumption | decide | exact ⟨by decide, rfl, by decide⟩) (by first | rfl | assumption) rfl ?_
      refine st_getI rX7_allWays_9 (by first | assumption | decide | exact ⟨by decide, rfl, by decide⟩) rfl ?_
      refine st_top ht1 ?_
      first | with_reducible refine st_icmp_gtN rX7_allWays_12 (by omega) (by omega) (fun _ => ?_) (fun h => absurd h (by first | decide | omega | (simp; done) | simp_all)) | refine st_icmp_gt rX7_allWays_12 (fun _ => ?_) (fun h => absurd h (by first | decide | omega | (simp; done) | simp_all))
      refine st_iload rX7_allWays_25 rfl ?_
      refine st_iret rX7_allWays_26 rfl ?_
      exact h
    | succ r ih =>
      intro j hj he
      have hn := ih (j + 1) (by omega) (by omega)
      simp only [faF] at hn
      rw [Nat.mul_comm] at hn
      refine st_iload rX7_allWays_4 rfl ?_
      refine st_aload rX7_allWays_5 rfl ?_
      refine st_getR rX7_allWays_6 (by first | assumption | decide | exact ⟨by decide, rfl, by decide⟩) (by first | rfl | assumption) rfl ?_
      refine st_getI rX7_allWays_9 (by first | assumption | decide | exact ⟨by decide, rfl, by decide⟩) rfl ?_
      refine st_top ht1 ?_
      first | with_reducible refine st_icmp_gtN rX7_allWays_12 (by omega) (by omega) (fun h => absurd h (by first | decide | omega | (simp; done) | simp_all)) (fun _ => ?_) | refine st_icmp_gt rX7_allWays_12 (fun h => absurd h (by first | decide | omega | (simp; done) | simp_all)) (fun _ => ?_)
      refine st_iload rX7_allWays_15 rfl ?_
      refine st_iload rX7_allWays_16 rfl ?_
      first | with_reducible refine st_imulN rX7_allWays_17 ?_ | refine st_imul rX7_allWays_17 ?_
      refine st_istore1 rX7_allWays_18 rfl ?_
      first | with_reducible refine st_iincN2 rX7_allWays_19 rfl ?_ | refine st_iinc2 rX7_allWays_19 rfl ?_
      refine st_goto rX7_allWays_22 ?_
      exact hn
  by_cases hm0 : m = 0
  · exact key 0 1 (by omega) (by omega)
  · exact key (m - 1) 1 (by omega) (by omega)
set_option maxHeartbeats 4000000 in
set_option maxRecDepth 100000 in
theorem s_gcdM {kk : Int32 → vS → Prop} {a b : Nat} (ha : a < 2147483648) (hb : b < 2147483648) (h : kk (nI (Nat.gcd a b)) (I, J, vRR ρ)) : V d 123 123 mX8_gcd 0 [.int (nI a), .int (nI b), vJ, vJ, vJ] [] (I, J, vRR ρ) (Ki kk) := by
  refine st_iload rX8_gcd_0 rfl ?_
  refine st_istore2 rX8_gcd_1 rfl ?_
  refine st_iload rX8_gcd_2 rfl ?_
  refine st_istore3 rX8_gcd_3 rfl ?_
  skip
  have key : ∀ (r x y : Nat) (x4 : Value), y ≤ r → x < 2147483648 → y < 2147483648 → Nat.gcd x y = Nat.gcd a b → V d 123 123 mX8_gcd 4 [.int (nI a), .int (nI b), .int (nI x), .int (nI y), x4] [] (I, J, vRR ρ) (Ki kk) := by
    intro r
    induction r with
    | zero =>
      intro x y x4 hy hx hy2 hg
      have hy : y = 0 := by omega
      subst hy
      rw [← hg, Nat.gcd_zero_right] at h
      refine st_iload rX8_gcd_4 rfl ?_
      first | with_reducible refine st_if_eqN rX8_gcd_5 (by omega) (fun _ => ?_) (fun h => absurd h (by first | decide | omega | (simp; done) | simp_all)) | refine st_if_eq rX8_gcd_5 (fun _ => ?_) (fun h => absurd h (by first | decide | omega | (simp; done) | simp_all))
      refine st_iload rX8_gcd_21 rfl ?_
      refine st_iret rX8_gcd_22 rfl ?_
      exact h
    | succ r ih =>
      intro x y x4 hy hx hy2 hg
      by_cases h0 : y = 0
      · subst h0
        rw [← hg, Nat.gcd_zero_right] at h
        refine st_iload rX8_gcd_4 rfl ?_
        first | with_reducible refine st_if_eqN rX8_gcd_5 (by omega) (fun _ => ?_) (fun h => absurd h (by first | decide | omega | (simp; done) | simp_all)) | refine st_if_eq rX8_gcd_5 (fun _ => ?_) (fun h => absurd h (by first | decide | omega | (simp; done) | simp_all))
        refine st_iload rX8_gcd_21 rfl ?_
        refine st_iret rX8_gcd_22 rfl ?_
        exact h
      · have hr : x % y < y := Nat.mod_lt _ (by omega)
        have e : Nat.gcd y (x % y) = Nat.gcd a b := by rw [← hg, Nat.gcd_comm x y, Nat.gcd_rec y x, Nat.gcd_comm]
        refine st_iload rX8_gcd_4 rfl ?_
        first | with_reducible refine st_if_eqN rX8_gcd_5 (by omega) (fun h => absurd h (by first | decide | omega | (simp; done) | simp_all)) (fun _ => ?_) | refine st_if_eq rX8_gcd_5 (fun h => absurd h (by first | decide | omega | (simp; done) | simp_all)) (fun _ => ?_)
        refine st_iload rX8_gcd_8 rfl ?_
        refine st_iload rX8_gcd_9 rfl ?_
        refine st_iremN rX8_gcd_10 hx ⟨by omega, hy2⟩ ?_
        refine st_istore4 rX8_gcd_11 rfl ?_
        refine st_iload rX8_gcd_13 rfl ?_
        refine st_istore2 rX8_gcd_14 rfl ?_
        refine st_iload rX8_gcd_15 rfl ?_
        refine st_istore3 rX8_gcd_17 rfl ?_
        refine st_goto rX8_gcd_18 ?_
        exact ih y (x % y) _ (by omega) hy2 (by omega) e
  exact key b a b _ (Nat.le_refl _) ha hb rfl
set_option maxHeartbeats 4000000 in
set_option maxRecDepth 100000 in
theorem c_oddsBad {z : Int32} (hz : isT 2 z = false) (hk : k (-1) (I, J, vRR ρ)) : V (d + 1) 123 123 mX7_odds 0 [.ref 0, .int z, vJ, vJ, vJ] [] (I, J, vRR ρ) (Ki k) := by
  refine st_iload rX7_odds_0 rfl ?_
  refine st_c rX7_odds_1 ?_
  refine st_c rX7_odds_2 ?_
  refine cS3i rX7_odds_3 (s_within ?_) rfl
  rw [inR_N (by decide), hz]
  first | with_reducible refine st_if_neN rX7_odds_6 (by omega) (fun h => absurd h (by first | decide | omega | (simp; done) | simp_all)) (fun _ => ?_) | refine st_if_ne rX7_odds_6 (fun h => absurd h (by first | decide | omega | (simp; done) | simp_all)) (fun _ => ?_)
  refine st_c rX7_odds_9 ?_
  refine st_iret rX7_odds_10 rfl ?_
  exact hk
set_option maxHeartbeats 4000000 in
set_option maxRecDepth 100000 in
theorem m_oddsBad {z : Int32} (hM : InvM I J A T) (hz : isT 2 z = false) (hk : ∀ I', (∀ a, a < 103 ∨ 123 ≤ a → I' a = I a) → InvM I' J A T → k (-1) (I', J, vRR ρ)) : V (d + 1) 123 123 mX8_odds 0 [.ref 103, .int z, vJ, vJ, vJ] [] (I, J, vRR ρ) (Ki k) := by
  refine s_thr rX8_odds_0 rX8_odds_1 rX8_odds_2 hM (fun I1 e1 e2 hM1 => ?_)
  refine st_iload rX8_odds_5 rfl ?_
  refine st_c rX8_odds_6 ?_
  refine st_c rX8_odds_7 ?_
  refine cS3i rX8_odds_8 (s_in ?_) rfl
  rw [inR_N (by decide), hz]
  first | with_reducible refine st_if_neN rX8_odds_11 (by omega) (fun h => absurd h (by first | decide | omega | (simp; done) | simp_all)) (fun _ => ?_) | refine st_if_ne rX8_odds_11 (fun h => absurd h (by first | decide | omega | (simp; done) | simp_all)) (fun _ => ?_)
  refine st_c rX8_odds_14 ?_
  refine st_iret rX8_odds_15 rfl ?_
  exact hk I1 (fun a ha => e1 a (by omega)) hM1
def odH (A : Nat → Nat → Int32) (m : Nat) : Nat := whC (fun x => okE (eD m x) m && brF A (dg m x) m) (m ^ m)
def odA (m : Nat) : Nat := whC (fun x => okE (eD m x) m) (m ^ m)
def odR (A : Nat → Nat → Int32) (m : Nat) (x : Int32) : Int32 := if x = nI 0 then nI (odH A m / Nat.gcd (odH A m) (odA m)) else nI (odA m / Nat.gcd (odH A m) (odA m))
theorem od_ok {A : Nat → Nat → Int32} {m no : Nat} (hO : OkA A m no) : odH A m ≤ 46656 ∧ odA m ≤ 46656 ∧ 0 < odA m := by
  have hm6 := hO.1.2.2.1
  have h1 := mm_le hm6
  obtain ⟨x, h2, h3⟩ := dg_all hO
  exact ⟨Nat.le_trans (whC_le _ _) h1, Nat.le_trans (whC_le _ _) h1, cw_pos (P := fun x => okE (eD m x) m) (x := x) (okE_b hO h3) _ h2⟩
set_option maxHeartbeats 4000000 in
set_option maxRecDepth 100000 in
theorem c_odds {x : Int32} (hC : InvC I J ρ A T m no) (hO : OkA A m no) (hx : x = nI 0 ∨ x = nI 1) (hk : ∀ I', (∀ a, 103 ≤ a → I' a = I a) → InvC I' J ρ A T m no → k (odR A m x) (I', J, vRR ρ)) : V (d + 4) 123 123 mX7_odds 0 [.ref 0, .int x, vJ, vJ, vJ] [] (I, J, vRR ρ) (Ki k) := by
  have hin : isT 2 x = true := by rcases hx with rfl | rfl <;> decide
  have hm6 : m ≤ 6 := hO.1.2.2.1
  obtain ⟨b1, b2, b3⟩ := od_ok hO
  have eh : plF (hmG A m) (dn m) = odH A m := (hm_count hO).symm
  have ea : faF m = odA m := (al_count hm6).symm
  have eg : gcF 64 (odH A m) (odA m) = Nat.gcd (odH A m) (odA m) := gcF_ok 16 64 _ _ (by omega) (by omega)
  have hgp : 0 < Nat.gcd (odH A m) (odA m) := Nat.gcd_pos_of_pos_right _ b3
  have hgl : Nat.gcd (odH A m) (odA m) ≤ odA m := Nat.gcd_le_right _ b3
  have hfin := hk I (fun _ _ => rfl) hC
  refine st_iload rX7_odds_0 rfl ?_
  refine st_c rX7_odds_1 ?_
  refine st_c rX7_odds_2 ?_
  refine cS3i rX7_odds_3 (s_within ?_) rfl
  rw [inR_N (by decide), hin]
  first | with_reducible refine st_if_neN rX7_odds_6 (by omega) (fun _ => ?_) (fun h => absurd h (by first | decide | omega | (simp; done) | simp_all)) | refine st_if_ne rX7_odds_6 (fun _ => ?_) (fun h => absurd h (by first | decide | omega | (simp; done) | simp_all))
  refine st_aload rX7_odds_11 rfl ?_
  refine cV1i rX7_odds_12 (by first | assumption | decide | exact ⟨by decide, rfl, by decide⟩) (s_harmless hC hO ?_) rfl (by decide)
  rw [eh]
  refine st_istore2 rX7_odds_15 rfl ?_
  refine st_aload rX7_odds_16 rfl ?_
  refine cV1i rX7_odds_17 (by first | assumption | decide | exact ⟨by decide, rfl, by decide⟩) (s_allWays hC hO ?_) rfl (by decide)
  rw [ea]
  refine st_istore3 rX7_odds_20 rfl ?_
  refine st_iload rX7_odds_21 rfl ?_
  refine st_iload rX7_odds_22 rfl ?_
  refine cS2i rX7_odds_23 (s_cd (by omega) (by omega) ?_) rfl
  rw [eg]
  refine st_istore4 rX7_odds_26 rfl ?_
  refine st_iload rX7_odds_28 rfl ?_
  first | with_reducible refine st_if_gtN rX7_odds_30 (by omega) (fun _ => ?_) (fun h => absurd h (by first | decide | omega | (simp; done) | simp_all)) | refine st_if_gt rX7_odds_30 (fun _ => ?_) (fun h => absurd h (by first | decide | omega | (simp; done) | simp_all))
  skip
  rcases hx with rfl | rfl
  · rw [odR, if_pos rfl] at hfin
    refine st_iload rX7_odds_35 rfl ?_
    first | with_reducible refine st_if_neN rX7_odds_36 (by omega) (fun h => absurd h (by first | decide | omega | (simp; done) | simp_all)) (fun _ => ?_) | refine st_if_ne rX7_odds_36 (fun h => absurd h (by first | decide | omega | (simp; done) | simp_all)) (fun _ => ?_)
    refine st_iload rX7_odds_39 rfl ?_
    refine st_goto rX7_odds_40 ?_
    refine st_iload rX7_odds_44 rfl ?_
    refine st_idivN rX7_odds_46 (by omega) ⟨hgp, by omega⟩ ?_
    refine st_iret rX7_odds_47 rfl ?_
    exact hfin
  · rw [odR, if_neg (by decide)] at hfin
    refine st_iload rX7_odds_35 rfl ?_
    first | with_reducible refine st_if_neN rX7_odds_36 (by omega) (fun _ => ?_) (fun h => absurd h (by first | decide | omega | (simp; done) | simp_all)) | refine st_if_ne rX7_odds_36 (fun _ => ?_) (fun h => absurd h (by first | decide | omega | (simp; done) | simp_all))
    refine st_iload rX7_odds_43 rfl ?_
    refine st_iload rX7_odds_44 rfl ?_
    refine st_idivN rX7_odds_46 (by omega) ⟨hgp, by omega⟩ ?_
    refine st_iret rX7_odds_47 rfl ?_
    exact hfin
set_option maxHeartbeats 4000000 in
set_option maxRecDepth 100000 in
theorem m_odds {x : Int32} (hM : InvM I J A T) (hO : OkA A m no) (hx : x = nI 0 ∨ x = nI 1) (hk : ∀ I', (∀ a, a < 103 ∨ 123 ≤ a → I' a = I a) → InvM I' J A T → k (odR A m x) (I', J, vRR ρ)) : V (d + 2) 123 123 mX8_odds 0 [.ref 103, .int x, vJ, vJ, vJ] [] (I, J, vRR ρ) (Ki k) := by
  refine s_thr rX8_odds_0 rX8_odds_1 rX8_odds_2 hM (fun I1 e1 e2 hM1 => ?_)
  have hm6 : m ≤ 6 := hO.1.2.2.1
  have hno6 : no ≤ 6 := hO.1.2.2.2.1
  obtain ⟨m1, m2, m3, m4, m5, m6, m7, m8, m9, m10, m11, m12, m13, m14, m15, m16⟩ := id hM1
  have hmm : I1 105 0 = nI m := m11.trans hO.1.1
  have hmo : I1 105 1 = nI no := m12.trans hO.1.2.1
  have hin : isT 2 x = true := by rcases hx with rfl | rfl <;> decide
  obtain ⟨b1, b2, b3⟩ := od_ok hO
  have hgp : 0 < Nat.gcd (odH A m) (odA m) := Nat.gcd_pos_of_pos_right _ b3
  have hgl : Nat.gcd (odH A m) (odA m) ≤ odA m := Nat.gcd_le_right _ b3
  have hmm6 := mm_le hm6
  refine st_iload rX8_odds_5 rfl ?_
  refine st_c rX8_odds_6 ?_
  refine st_c rX8_odds_7 ?_
  refine cS3i rX8_odds_8 (s_in ?_) rfl
  rw [inR_N (by decide), hin]
  first | with_reducible refine st_if_neN rX8_odds_11 (by omega) (fun _ => ?_) (fun h => absurd h (by first | decide | omega | (simp; done) | simp_all)) | refine st_if_ne rX8_odds_11 (fun _ => ?_) (fun h => absurd h (by first | decide | omega | (simp; done) | simp_all))
  refine st_c rX8_odds_16 ?_
  refine st_istore2 rX8_odds_17 rfl ?_
  refine st_c rX8_odds_18 ?_
  refine st_istore3 rX8_odds_19 rfl ?_
  refine st_c rX8_odds_20 ?_
  refine st_istore4 rX8_odds_21 rfl ?_
  skip
  have key : ∀ (r w : Nat) (I2 : Nat → Nat → Int32), w + r = m ^ m → (∀ a, a ≠ 121 → I2 a = I1 a) → V (d + 2) 123 123 mX8_odds 23 [.ref 103, .int x, .int (nI (whC (fun x => okE (eD m x) m && brF A (dg m x) m) w)), .int (nI (whC (fun x => okE (eD m x) m) w)), .int (nI w)] [] (I2, J, vRR ρ) (Ki k) := by
    intro r
    induction r with
    | zero =>
      intro w I2 he g
      have he : w = m ^ m := by omega
      subst he
      have q5 : I2 105 0 = nI m := by rw [g 105 (by decide)]; exact hmm
      have hfin := hk I2 (fun a ha => by rw [g a (by omega)]; exact e1 a (by omega)) (InvM_same hM1 (fun a _ _ _ h _ => g a h) (fun q _ => by rw [g 103 (by decide)]))
      have eH : whC (fun x => okE (eD m x) m && brF A (dg m x) m) (m ^ m) = odH A m := rfl
      have eA : whC (fun x => okE (eD m x) m) (m ^ m) = odA m := rfl
      rw [eH, eA]
      refine st_iload rX8_odds_23 rfl ?_
      refine st_aload rX8_odds_25 rfl ?_
      refine cV1i rX8_odds_26 (by first | assumption | decide | exact ⟨by decide, rfl, by decide⟩) (s_rows q5 hm6 ?_) rfl (by decide)
      first | with_reducible refine st_icmp_geN rX8_odds_29 (by omega) (by omega) (fun _ => ?_) (fun h => absurd h (by first | decide | omega | (simp; done) | simp_all)) | refine st_icmp_ge rX8_odds_29 (fun _ => ?_) (fun h => absurd h (by first | decide | omega | (simp; done) | simp_all))
      refine st_iload rX8_odds_65 rfl ?_
      refine st_iload rX8_odds_66 rfl ?_
      refine cS2i rX8_odds_67 (s_gcdM (by omega) (by omega) ?_) rfl
      refine st_istore4 rX8_odds_70 rfl ?_
      skip
      rcases hx with rfl | rfl
      · rw [odR, if_pos rfl] at hfin
        refine st_iload rX8_odds_72 rfl ?_
        first | with_reducible refine st_if_neN rX8_odds_73 (by omega) (fun h => absurd h (by first | decide | omega | (simp; done) | simp_all)) (fun _ => ?_) | refine st_if_ne rX8_odds_73 (fun h => absurd h (by first | decide | omega | (simp; done) | simp_all)) (fun _ => ?_)
        refine st_iload rX8_odds_76 rfl ?_
        refine st_iload rX8_odds_77 rfl ?_
        refine st_idivN rX8_odds_79 (by omega) ⟨hgp, by omega⟩ ?_
        refine st_goto rX8_odds_80 ?_
        refine st_iret rX8_odds_87 rfl ?_
        exact hfin
      · rw [odR, if_neg (by decide)] at hfin
        refine st_iload rX8_odds_72 rfl ?_
        first | with_reducible refine st_if_neN rX8_odds_73 (by omega) (fun _ => ?_) (fun h => absurd h (by first | decide | omega | (simp; done) | simp_all)) | refine st_if_ne rX8_odds_73 (fun _ => ?_) (fun h => absurd h (by first | decide | omega | (simp; done) | simp_all))
        refine st_iload rX8_odds_83 rfl ?_
        refine st_iload rX8_odds_84 rfl ?_
        refine st_idivN rX8_odds_86 (by omega) ⟨hgp, by omega⟩ ?_
        refine st_iret rX8_odds_87 rfl ?_
        exact hfin
    | succ r ih =>
      intro w I2 he g
      have hwm : w < m ^ m := by omega
      have q5 : I2 105 0 = nI m := by rw [g 105 (by decide)]; exact hmm
      have hdl : ∀ s, s < m → dg m w s < m := fun s hs => eD_lt (by omega)
      refine st_iload rX8_odds_23 rfl ?_
      refine st_aload rX8_odds_25 rfl ?_
      refine cV1i rX8_odds_26 (by first | assumption | decide | exact ⟨by decide, rfl, by decide⟩) (s_rows q5 hm6 ?_) rfl (by decide)
      first | with_reducible refine st_icmp_geN rX8_odds_29 (by omega) (by omega) (fun h => absurd h (by first | decide | omega | (simp; done) | simp_all)) (fun _ => ?_) | refine st_icmp_ge rX8_odds_29 (fun h => absurd h (by first | decide | omega | (simp; done) | simp_all)) (fun _ => ?_)
      refine st_aload rX8_odds_32 rfl ?_
      refine st_iload rX8_odds_33 rfl ?_
      refine cV2i rX8_odds_35 (by first | assumption | decide | exact ⟨by decide, rfl, by decide⟩) (s_isRow q5 hm6 (by omega) (fun I3 g3 gd => ?_)) rfl (by decide)
      skip
      have gg : ∀ a, a ≠ 121 → I3 a = I1 a := fun a h => by rw [g3 a h, g a h]
      have hM3 : InvM I3 J A T := InvM_same hM1 (fun a _ _ _ h _ => gg a h) (fun q _ => by rw [gg 103 (by decide)])
      have hn := ih (w + 1) I3 (by omega) gg
      simp only [whC] at hn
      cases hok : okE (eD m w) m with
      | false =>
        simp only [hok, Bool.false_and, Bool.false_eq_true, if_false, Nat.add_zero] at hn
        first | with_reducible refine st_if_eqN rX8_odds_38 (by omega) (fun _ => ?_) (fun h => absurd h (by first | decide | omega | (simp; done) | simp_all)) | refine st_if_eq rX8_odds_38 (fun _ => ?_) (fun h => absurd h (by first | decide | omega | (simp; done) | simp_all))
        first | with_reducible refine st_iincN4 rX8_odds_59 rfl ?_ | refine st_iinc4 rX8_odds_59 rfl ?_
        refine st_goto rX8_odds_62 ?_
        exact hn
      | true =>
        simp only [hok, Bool.true_and, if_true] at hn
        first | with_reducible refine st_if_eqN rX8_odds_38 (by omega) (fun h => absurd h (by first | decide | omega | (simp; done) | simp_all)) (fun _ => ?_) | refine st_if_eq rX8_odds_38 (fun h => absurd h (by first | decide | omega | (simp; done) | simp_all)) (fun _ => ?_)
        first | with_reducible refine st_iincN3 rX8_odds_41 rfl ?_ | refine st_iinc3 rX8_odds_41 rfl ?_
        refine st_iload rX8_odds_44 rfl ?_
        refine st_aload rX8_odds_45 rfl ?_
        refine cV1i rX8_odds_46 (by first | assumption | decide | exact ⟨by decide, rfl, by decide⟩) (s_isBorne hM3 hO gd hdl ?_) rfl (by decide)
        skip
        cases hbr : brF A (dg m w) m with
        | false =>
          simp only [hbr, Bool.false_eq_true, if_false] at hn
          first | with_reducible refine st_if_eqN rX8_odds_49 (by omega) (fun _ => ?_) (fun h => absurd h (by first | decide | omega | (simp; done) | simp_all)) | refine st_if_eq rX8_odds_49 (fun _ => ?_) (fun h => absurd h (by first | decide | omega | (simp; done) | simp_all))
          refine st_c rX8_odds_56 ?_
          first | with_reducible refine st_iaddN rX8_odds_57 ?_ | refine st_iadd rX8_odds_57 ?_
          refine st_istore2 rX8_odds_58 rfl ?_
          first | with_reducible refine st_iincN4 rX8_odds_59 rfl ?_ | refine st_iinc4 rX8_odds_59 rfl ?_
          refine st_goto rX8_odds_62 ?_
          exact hn
        | true =>
          simp only [hbr, if_true] at hn
          first | with_reducible refine st_if_eqN rX8_odds_49 (by omega) (fun h => absurd h (by first | decide | omega | (simp; done) | simp_all)) (fun _ => ?_) | refine st_if_eq rX8_odds_49 (fun h => absurd h (by first | decide | omega | (simp; done) | simp_all)) (fun _ => ?_)
          refine st_c rX8_odds_52 ?_
          refine st_goto rX8_odds_53 ?_
          first | with_reducible refine st_iaddN rX8_odds_57 ?_ | refine st_iadd rX8_odds_57 ?_
          refine st_istore2 rX8_odds_58 rfl ?_
          first | with_reducible refine st_iincN4 rX8_odds_59 rfl ?_ | refine st_iinc4 rX8_odds_59 rfl ?_
          refine st_goto rX8_odds_62 ?_
          exact hn
  exact key (m ^ m) 0 I1 (by omega) (fun a _ => rfl)
end P40
