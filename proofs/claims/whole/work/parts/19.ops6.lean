/-! ===== crossed; the past; the images ===== -/
/-- two oaths that can not both be kept -/
def xrO (A : Nat → Nat → Int32) (i j : Nat) : Bool := decide (A 112 i = A 112 j) && (decide (A 110 i = A 110 j) != decide (A 111 i = A 111 j))
def crJ (A : Nat → Nat → Int32) (i : Nat) : Nat → Nat → Option Nat
  | 0, _ => none
  | c + 1, j => if xrO A i j = true then some j else crJ A i c (j + 1)
def crX (A : Nat → Nat → Int32) (no : Nat) : Nat → Nat → Int32
  | 0, _ => -9
  | c + 1, i => match crJ A i (no - (i + 1)) (i + 1) with
    | some j => nI (10 * i + j)
    | none => crX A no c (i + 1)
section P19
variable {d : Nat} {I A : Nat → Nat → Int32} {J : Nat → Nat → Int64} {ρ m no : Nat} {T : Int64} {k : Int32 → vS → Prop} {kl : Int64 → vS → Prop} {kv : vS → Prop}
set_option maxHeartbeats 4000000 in
set_option maxRecDepth 100000 in
theorem s_oathsCross {i j : Nat} {kk : Int32 → vS → Prop} (hC : InvC I J ρ A T m no) (hO : OkA A m no) (hi : i < no) (hj : j < no) (h : kk (vb (xrO A i j)) (I, J, vRR ρ)) : V (d + 1) 123 123 mX6_oathsCross 0 [.ref ρ, .int (nI i), .int (nI j), vJ, vJ] [] (I, J, vRR ρ) (Ki kk) := by
  obtain ⟨ht0, ht1, ht2, ht3, ht4, ht5, ht6, ht7, ht8, ht9, ht10⟩ := id hC.1
  obtain ⟨hto, o1, o2, o3, o4, o5, o6, o7, o8⟩ := toldF ht0
  have hm6 : m ≤ 6 := hO.1.2.2.1
  have hno6 : no ≤ 6 := hO.1.2.2.2.1
  refine st_aload rX6_oathsCross_0 rfl ?_
  refine st_getR rX6_oathsCross_1 (by assumption) (tR8 (by assumption)) rfl ?_
  refine st_iload rX6_oathsCross_4 rfl ?_
  refine cS2i rX6_oathsCross_5 (s_at (by first | assumption | decide | exact ⟨by decide, rfl, by decide⟩) (by omega) ?_) rfl
  refine st_top (ht8 i hi) ?_
  refine st_aload rX6_oathsCross_8 rfl ?_
  refine st_getR rX6_oathsCross_9 (by assumption) (tR8 (by assumption)) rfl ?_
  refine st_iload rX6_oathsCross_12 rfl ?_
  refine cS2i rX6_oathsCross_13 (s_at (by first | assumption | decide | exact ⟨by decide, rfl, by decide⟩) (by omega) ?_) rfl
  refine st_top (ht8 j hj) ?_
  first | refine st_icmp_neN rX6_oathsCross_16 (by omega) (by omega) (fun h16 => ?_) (fun h16 => ?_) | refine st_icmp_ne rX6_oathsCross_16 (fun h16 => ?_) (fun h16 => ?_)
  · refine st_c rX6_oathsCross_23 ?_
    refine st_istore3 rX6_oathsCross_24 rfl ?_
    refine st_aload rX6_oathsCross_25 rfl ?_
    refine st_getR rX6_oathsCross_26 (by assumption) (tR9 (by assumption)) rfl ?_
    refine st_iload rX6_oathsCross_29 rfl ?_
    refine cS2i rX6_oathsCross_30 (s_at (by first | assumption | decide | exact ⟨by decide, rfl, by decide⟩) (by omega) ?_) rfl
    refine st_top (ht9 i hi) ?_
    refine st_aload rX6_oathsCross_33 rfl ?_
    refine st_getR rX6_oathsCross_34 (by assumption) (tR9 (by assumption)) rfl ?_
    refine st_iload rX6_oathsCross_37 rfl ?_
    refine cS2i rX6_oathsCross_38 (s_at (by first | assumption | decide | exact ⟨by decide, rfl, by decide⟩) (by omega) ?_) rfl
    refine st_top (ht9 j hj) ?_
    first | refine st_icmp_neN rX6_oathsCross_41 (by omega) (by omega) (fun h41 => ?_) (fun h41 => ?_) | refine st_icmp_ne rX6_oathsCross_41 (fun h41 => ?_) (fun h41 => ?_)
    · refine st_c rX6_oathsCross_48 ?_
      refine st_istore4 rX6_oathsCross_49 rfl ?_
      refine st_aload rX6_oathsCross_51 rfl ?_
      refine st_getR rX6_oathsCross_52 (by assumption) (tR10 (by assumption)) rfl ?_
      refine st_iload rX6_oathsCross_55 rfl ?_
      refine cS2i rX6_oathsCross_56 (s_at (by first | assumption | decide | exact ⟨by decide, rfl, by decide⟩) (by omega) ?_) rfl
      refine st_top (ht10 i hi) ?_
      refine st_aload rX6_oathsCross_59 rfl ?_
      refine st_getR rX6_oathsCross_60 (by assumption) (tR10 (by assumption)) rfl ?_
      refine st_iload rX6_oathsCross_63 rfl ?_
      refine cS2i rX6_oathsCross_64 (s_at (by first | assumption | decide | exact ⟨by decide, rfl, by decide⟩) (by omega) ?_) rfl
      refine st_top (ht10 j hj) ?_
      first | refine st_icmp_neN rX6_oathsCross_67 (by omega) (by omega) (fun h67 => ?_) (fun h67 => ?_) | refine st_icmp_ne rX6_oathsCross_67 (fun h67 => ?_) (fun h67 => ?_)
      · refine st_c rX6_oathsCross_80 ?_
        refine st_zret rX6_oathsCross_81 rfl (by first | rfl | exact vb_nar _) ?_
        first | (exfalso; omega) | simp_all [xrO, vb]
      · refine st_iload rX6_oathsCross_70 rfl ?_
        refine st_iload rX6_oathsCross_71 rfl ?_
        first | refine st_icmp_eqN rX6_oathsCross_73 (by omega) (by omega) (fun h73 => ?_) (fun h73 => ?_) | refine st_icmp_eq rX6_oathsCross_73 (fun h73 => ?_) (fun h73 => ?_)
        · refine st_c rX6_oathsCross_80 ?_
          refine st_zret rX6_oathsCross_81 rfl (by first | rfl | exact vb_nar _) ?_
          first | (exfalso; omega) | simp_all [xrO, vb]
        · refine st_c rX6_oathsCross_76 ?_
          refine st_goto rX6_oathsCross_77 ?_
          refine st_zret rX6_oathsCross_81 rfl (by first | rfl | exact vb_nar _) ?_
          first | (exfalso; omega) | simp_all [xrO, vb]
    · refine st_c rX6_oathsCross_44 ?_
      refine st_goto rX6_oathsCross_45 ?_
      refine st_istore4 rX6_oathsCross_49 rfl ?_
      refine st_aload rX6_oathsCross_51 rfl ?_
      refine st_getR rX6_oathsCross_52 (by assumption) (tR10 (by assumption)) rfl ?_
      refine st_iload rX6_oathsCross_55 rfl ?_
      refine cS2i rX6_oathsCross_56 (s_at (by first | assumption | decide | exact ⟨by decide, rfl, by decide⟩) (by omega) ?_) rfl
      refine st_top (ht10 i hi) ?_
      refine st_aload rX6_oathsCross_59 rfl ?_
      refine st_getR rX6_oathsCross_60 (by assumption) (tR10 (by assumption)) rfl ?_
      refine st_iload rX6_oathsCross_63 rfl ?_
      refine cS2i rX6_oathsCross_64 (s_at (by first | assumption | decide | exact ⟨by decide, rfl, by decide⟩) (by omega) ?_) rfl
      refine st_top (ht10 j hj) ?_
      first | refine st_icmp_neN rX6_oathsCross_67 (by omega) (by omega) (fun h67 => ?_) (fun h67 => ?_) | refine st_icmp_ne rX6_oathsCross_67 (fun h67 => ?_) (fun h67 => ?_)
      · refine st_c rX6_oathsCross_80 ?_
        refine st_zret rX6_oathsCross_81 rfl (by first | rfl | exact vb_nar _) ?_
        first | (exfalso; omega) | simp_all [xrO, vb]
      · refine st_iload rX6_oathsCross_70 rfl ?_
        refine st_iload rX6_oathsCross_71 rfl ?_
        first | refine st_icmp_eqN rX6_oathsCross_73 (by omega) (by omega) (fun h73 => ?_) (fun h73 => ?_) | refine st_icmp_eq rX6_oathsCross_73 (fun h73 => ?_) (fun h73 => ?_)
        · refine st_c rX6_oathsCross_80 ?_
          refine st_zret rX6_oathsCross_81 rfl (by first | rfl | exact vb_nar _) ?_
          first | (exfalso; omega) | simp_all [xrO, vb]
        · refine st_c rX6_oathsCross_76 ?_
          refine st_goto rX6_oathsCross_77 ?_
          refine st_zret rX6_oathsCross_81 rfl (by first | rfl | exact vb_nar _) ?_
          first | (exfalso; omega) | simp_all [xrO, vb]
  · refine st_c rX6_oathsCross_19 ?_
    refine st_goto rX6_oathsCross_20 ?_
    refine st_istore3 rX6_oathsCross_24 rfl ?_
    refine st_aload rX6_oathsCross_25 rfl ?_
    refine st_getR rX6_oathsCross_26 (by assumption) (tR9 (by assumption)) rfl ?_
    refine st_iload rX6_oathsCross_29 rfl ?_
    refine cS2i rX6_oathsCross_30 (s_at (by first | assumption | decide | exact ⟨by decide, rfl, by decide⟩) (by omega) ?_) rfl
    refine st_top (ht9 i hi) ?_
    refine st_aload rX6_oathsCross_33 rfl ?_
    refine st_getR rX6_oathsCross_34 (by assumption) (tR9 (by assumption)) rfl ?_
    refine st_iload rX6_oathsCross_37 rfl ?_
    refine cS2i rX6_oathsCross_38 (s_at (by first | assumption | decide | exact ⟨by decide, rfl, by decide⟩) (by omega) ?_) rfl
    refine st_top (ht9 j hj) ?_
    first | refine st_icmp_neN rX6_oathsCross_41 (by omega) (by omega) (fun h41 => ?_) (fun h41 => ?_) | refine st_icmp_ne rX6_oathsCross_41 (fun h41 => ?_) (fun h41 => ?_)
    · refine st_c rX6_oathsCross_48 ?_
      refine st_istore4 rX6_oathsCross_49 rfl ?_
      refine st_aload rX6_oathsCross_51 rfl ?_
      refine st_getR rX6_oathsCross_52 (by assumption) (tR10 (by assumption)) rfl ?_
      refine st_iload rX6_oathsCross_55 rfl ?_
      refine cS2i rX6_oathsCross_56 (s_at (by first | assumption | decide | exact ⟨by decide, rfl, by decide⟩) (by omega) ?_) rfl
      refine st_top (ht10 i hi) ?_
      refine st_aload rX6_oathsCross_59 rfl ?_
      refine st_getR rX6_oathsCross_60 (by assumption) (tR10 (by assumption)) rfl ?_
      refine st_iload rX6_oathsCross_63 rfl ?_
      refine cS2i rX6_oathsCross_64 (s_at (by first | assumption | decide | exact ⟨by decide, rfl, by decide⟩) (by omega) ?_) rfl
      refine st_top (ht10 j hj) ?_
      first | refine st_icmp_neN rX6_oathsCross_67 (by omega) (by omega) (fun h67 => ?_) (fun h67 => ?_) | refine st_icmp_ne rX6_oathsCross_67 (fun h67 => ?_) (fun h67 => ?_)
      · refine st_c rX6_oathsCross_80 ?_
        refine st_zret rX6_oathsCross_81 rfl (by first | rfl | exact vb_nar _) ?_
        first | (exfalso; omega) | simp_all [xrO, vb]
      · refine st_iload rX6_oathsCross_70 rfl ?_
        refine st_iload rX6_oathsCross_71 rfl ?_
        first | refine st_icmp_eqN rX6_oathsCross_73 (by omega) (by omega) (fun h73 => ?_) (fun h73 => ?_) | refine st_icmp_eq rX6_oathsCross_73 (fun h73 => ?_) (fun h73 => ?_)
        · refine st_c rX6_oathsCross_80 ?_
          refine st_zret rX6_oathsCross_81 rfl (by first | rfl | exact vb_nar _) ?_
          first | (exfalso; omega) | simp_all [xrO, vb]
        · refine st_c rX6_oathsCross_76 ?_
          refine st_goto rX6_oathsCross_77 ?_
          refine st_zret rX6_oathsCross_81 rfl (by first | rfl | exact vb_nar _) ?_
          first | (exfalso; omega) | simp_all [xrO, vb]
    · refine st_c rX6_oathsCross_44 ?_
      refine st_goto rX6_oathsCross_45 ?_
      refine st_istore4 rX6_oathsCross_49 rfl ?_
      refine st_aload rX6_oathsCross_51 rfl ?_
      refine st_getR rX6_oathsCross_52 (by assumption) (tR10 (by assumption)) rfl ?_
      refine st_iload rX6_oathsCross_55 rfl ?_
      refine cS2i rX6_oathsCross_56 (s_at (by first | assumption | decide | exact ⟨by decide, rfl, by decide⟩) (by omega) ?_) rfl
      refine st_top (ht10 i hi) ?_
      refine st_aload rX6_oathsCross_59 rfl ?_
      refine st_getR rX6_oathsCross_60 (by assumption) (tR10 (by assumption)) rfl ?_
      refine st_iload rX6_oathsCross_63 rfl ?_
      refine cS2i rX6_oathsCross_64 (s_at (by first | assumption | decide | exact ⟨by decide, rfl, by decide⟩) (by omega) ?_) rfl
      refine st_top (ht10 j hj) ?_
      first | refine st_icmp_neN rX6_oathsCross_67 (by omega) (by omega) (fun h67 => ?_) (fun h67 => ?_) | refine st_icmp_ne rX6_oathsCross_67 (fun h67 => ?_) (fun h67 => ?_)
      · refine st_c rX6_oathsCross_80 ?_
        refine st_zret rX6_oathsCross_81 rfl (by first | rfl | exact vb_nar _) ?_
        first | (exfalso; omega) | simp_all [xrO, vb]
      · refine st_iload rX6_oathsCross_70 rfl ?_
        refine st_iload rX6_oathsCross_71 rfl ?_
        first | refine st_icmp_eqN rX6_oathsCross_73 (by omega) (by omega) (fun h73 => ?_) (fun h73 => ?_) | refine st_icmp_eq rX6_oathsCross_73 (fun h73 => ?_) (fun h73 => ?_)
        · refine st_c rX6_oathsCross_80 ?_
          refine st_zret rX6_oathsCross_81 rfl (by first | rfl | exact vb_nar _) ?_
          first | (exfalso; omega) | simp_all [xrO, vb]
        · refine st_c rX6_oathsCross_76 ?_
          refine st_goto rX6_oathsCross_77 ?_
          refine st_zret rX6_oathsCross_81 rfl (by first | rfl | exact vb_nar _) ?_
          first | (exfalso; omega) | simp_all [xrO, vb]
set_option maxHeartbeats 4000000 in
set_option maxRecDepth 100000 in
theorem c_crossed {R : Int32} (hC : InvC I J ρ A T m no) (hO : OkA A m no) (hR : crX A no no 0 = R) (hk : k R (I, J, vRR ρ)) : V (d + 2) 123 123 mX7_crossed 0 [.ref 0, vJ, vJ] [] (I, J, vRR ρ) (Ki k) := by
  obtain ⟨ht0, ht1, ht2, ht3, ht4, ht5, ht6, ht7, ht8, ht9, ht10⟩ := id hC.1
  obtain ⟨hto, o1, o2, o3, o4, o5, o6, o7, o8⟩ := toldF ht0
  have hm6 : m ≤ 6 := hO.1.2.2.1
  have hno6 : no ≤ 6 := hO.1.2.2.2.1
  refine st_c rX7_crossed_0 ?_
  refine st_istore1 rX7_crossed_1 rfl ?_
  have outer : ∀ (r i : Nat) (v2 : Value), i + r = no → crX A no r i = R → V (d + 2) 123 123 mX7_crossed 2 [.ref 0, .int (nI i), v2] [] (I, J, vRR ρ) (Ki k) := by
    intro r
    induction r with
    | zero =>
      intro i v2 hi hR
      have hi : i = no := by omega
      subst hi
      simp only [crX] at hR
      subst hR
      refine st_iload rX7_crossed_2 rfl ?_
      refine st_aload rX7_crossed_3 rfl ?_
      refine st_getR rX7_crossed_4 (by first | assumption | decide | exact ⟨by decide, rfl, by decide⟩) (by first | rfl | assumption) rfl ?_
      refine st_getI rX7_crossed_7 (by first | assumption | decide | exact ⟨by decide, rfl, by decide⟩) rfl ?_
      refine st_top ht3 ?_
      first | refine st_icmp_geN rX7_crossed_10 (by omega) (by omega) (fun _ => ?_) (fun h => absurd h (by first | decide | omega | (simp; done) | simp_all)) | refine st_icmp_ge rX7_crossed_10 (fun _ => ?_) (fun h => absurd h (by first | decide | omega | (simp; done) | simp_all))
      refine st_c rX7_crossed_59 ?_
      refine st_iret rX7_crossed_61 rfl ?_
      exact hk
    | succ r ih =>
      intro i v2 hir hR
      have hi : i < no := by omega
      simp only [crX] at hR
      have inner : ∀ (c j : Nat), j + c = no → i < j → (match crJ A i c j with
          | some j => nI (10 * i + j)
          | none => crX A no r (i + 1)) = R → V (d + 2) 123 123 mX7_crossed 17 [.ref 0, .int (nI i), .int (nI j)] [] (I, J, vRR ρ) (Ki k) := by
        intro c
        induction c with
        | zero =>
          intro j hj hij hR2
          have hj : j = no := by omega
          subst hj
          simp only [crJ] at hR2
          refine st_iload rX7_crossed_17 rfl ?_
          refine st_aload rX7_crossed_18 rfl ?_
          refine st_getR rX7_crossed_19 (by first | assumption | decide | exact ⟨by decide, rfl, by decide⟩) (by first | rfl | assumption) rfl ?_
          refine st_getI rX7_crossed_22 (by first | assumption | decide | exact ⟨by decide, rfl, by decide⟩) rfl ?_
          refine st_top ht3 ?_
          first | refine st_icmp_geN rX7_crossed_25 (by omega) (by omega) (fun _ => ?_) (fun h => absurd h (by first | decide | omega | (simp; done) | simp_all)) | refine st_icmp_ge rX7_crossed_25 (fun _ => ?_) (fun h => absurd h (by first | decide | omega | (simp; done) | simp_all))
          first | refine st_iincN1 rX7_crossed_53 rfl ?_ | refine st_iinc1 rX7_crossed_53 rfl ?_
          refine st_goto rX7_crossed_56 ?_
          exact ih (i + 1) _ (by omega) hR2
        | succ c ihc =>
          intro j hjc hij hR2
          have hj : j < no := by omega
          simp only [crJ] at hR2
          by_cases hx : xrO A i j = true
          · rw [if_pos hx] at hR2
            simp only at hR2
            subst hR2
            refine st_iload rX7_crossed_17 rfl ?_
            refine st_aload rX7_crossed_18 rfl ?_
            refine st_getR rX7_crossed_19 (by first | assumption | decide | exact ⟨by decide, rfl, by decide⟩) (by first | rfl | assumption) rfl ?_
            refine st_getI rX7_crossed_22 (by first | assumption | decide | exact ⟨by decide, rfl, by decide⟩) rfl ?_
            refine st_top ht3 ?_
            first | refine st_icmp_geN rX7_crossed_25 (by omega) (by omega) (fun h => absurd h (by first | decide | omega | (simp; done) | simp_all)) (fun _ => ?_) | refine st_icmp_ge rX7_crossed_25 (fun h => absurd h (by first | decide | omega | (simp; done) | simp_all)) (fun _ => ?_)
            refine st_aload rX7_crossed_28 rfl ?_
            refine st_getR rX7_crossed_29 (by first | assumption | decide | exact ⟨by decide, rfl, by decide⟩) (by first | rfl | assumption) rfl ?_
            refine st_iload rX7_crossed_32 rfl ?_
            refine st_iload rX7_crossed_33 rfl ?_
            refine cV3i rX7_crossed_34 (by first | assumption | decide | exact ⟨by decide, rfl, by decide⟩) (s_oathsCross hC hO hi hj ?_) rfl (by decide)
            rw [hx]
            first | refine st_if_eqN rX7_crossed_37 (by omega) (fun h => absurd h (by first | decide | omega | (simp; done) | simp_all)) (fun _ => ?_) | refine st_if_eq rX7_crossed_37 (fun h => absurd h (by first | decide | omega | (simp; done) | simp_all)) (fun _ => ?_)
            refine st_c rX7_crossed_40 ?_
            refine st_iload rX7_crossed_42 rfl ?_
            first | refine st_imulN rX7_crossed_43 ?_ | refine st_imul rX7_crossed_43 ?_
            refine st_iload rX7_crossed_44 rfl ?_
            first | refine st_iaddN rX7_crossed_45 ?_ | refine st_iadd rX7_crossed_45 ?_
            refine st_iret rX7_crossed_46 rfl ?_
            exact hk
          · rw [if_neg hx] at hR2
            have hx : xrO A i j = false := by simpa using hx
            refine st_iload rX7_crossed_17 rfl ?_
            refine st_aload rX7_crossed_18 rfl ?_
            refine st_getR rX7_crossed_19 (by first | assumption | decide | exact ⟨by decide, rfl, by decide⟩) (by first | rfl | assumption) rfl ?_
            refine st_getI rX7_crossed_22 (by first | assumption | decide | exact ⟨by decide, rfl, by decide⟩) rfl ?_
            refine st_top ht3 ?_
            first | refine st_icmp_geN rX7_crossed_25 (by omega) (by omega) (fun h => absurd h (by first | decide | omega | (simp; done) | simp_all)) (fun _ => ?_) | refine st_icmp_ge rX7_crossed_25 (fun h => absurd h (by first | decide | omega | (simp; done) | simp_all)) (fun _ => ?_)
            refine st_aload rX7_crossed_28 rfl ?_
            refine st_getR rX7_crossed_29 (by first | assumption | decide | exact ⟨by decide, rfl, by decide⟩) (by first | rfl | assumption) rfl ?_
            refine st_iload rX7_crossed_32 rfl ?_
            refine st_iload rX7_crossed_33 rfl ?_
            refine cV3i rX7_crossed_34 (by first | assumption | decide | exact ⟨by decide, rfl, by decide⟩) (s_oathsCross hC hO hi hj ?_) rfl (by decide)
            rw [hx]
            first | refine st_if_eqN rX7_crossed_37 (by omega) (fun _ => ?_) (fun h => absurd h (by first | decide | omega | (simp; done) | simp_all)) | refine st_if_eq rX7_crossed_37 (fun _ => ?_) (fun h => absurd h (by first | decide | omega | (simp; done) | simp_all))
            first | refine st_iincN2 rX7_crossed_47 rfl ?_ | refine st_iinc2 rX7_crossed_47 rfl ?_
            refine st_goto rX7_crossed_50 ?_
            exact ihc (j + 1) (by omega) (by omega) hR2
      refine st_iload rX7_crossed_2 rfl ?_
      refine st_aload rX7_crossed_3 rfl ?_
      refine st_getR rX7_crossed_4 (by first | assumption | decide | exact ⟨by decide, rfl, by decide⟩) (by first | rfl | assumption) rfl ?_
      refine st_getI rX7_crossed_7 (by first | assumption | decide | exact ⟨by decide, rfl, by decide⟩) rfl ?_
      refine st_top ht3 ?_
      first | refine st_icmp_geN rX7_crossed_10 (by omega) (by omega) (fun h => absurd h (by first | decide | omega | (simp; done) | simp_all)) (fun _ => ?_) | refine st_icmp_ge rX7_crossed_10 (fun h => absurd h (by first | decide | omega | (simp; done) | simp_all)) (fun _ => ?_)
      refine st_iload rX7_crossed_13 rfl ?_
      refine st_c rX7_crossed_14 ?_
      first | refine st_iaddN rX7_crossed_15 ?_ | refine st_iadd rX7_crossed_15 ?_
      refine st_istore2 rX7_crossed_16 rfl ?_
      exact inner (no - (i + 1)) (i + 1) (by omega) (by omega) hR
  exact outer no 0 _ (by omega) hR
set_option maxHeartbeats 4000000 in
set_option maxRecDepth 100000 in
theorem m_crossed {R : Int32} (hM : InvM I J A T) (hO : OkA A m no) (hR : crX A no no 0 = R) (hk : ∀ I', (∀ a, a < 103 ∨ 123 ≤ a → I' a = I a) → InvM I' J A T → k (R) (I', J, vRR ρ)) : V d 123 123 mX8_crossed 0 [.ref 103, vJ, vJ, vJ, vJ] [] (I, J, vRR ρ) (Ki k) := by
  refine s_thr rX8_crossed_0 rX8_crossed_1 rX8_crossed_2 hM (fun I1 e1 e2 hM1 => ?_)
  have hm6 : m ≤ 6 := hO.1.2.2.1
  have hno6 : no ≤ 6 := hO.1.2.2.2.1
  obtain ⟨m1, m2, m3, m4, m5, m6, m7, m8, m9, m10, m11, m12, m13, m14, m15, m16⟩ := id hM1
  have hmm : I1 105 0 = nI m := m11.trans hO.1.1
  have hmo : I1 105 1 = nI no := m12.trans hO.1.2.1
  refine st_c rX8_crossed_5 ?_
  refine st_istore1 rX8_crossed_6 rfl ?_
  have outer : ∀ (r i : Nat) (v2 v3 v4 : Value), v2.category = 1 → v3.category = 1 → i + r = no → crX A no r i = R → V d 123 123 mX8_crossed 7 [.ref 103, .int (nI i), v2, v3, v4] [] (I1, J, vRR ρ) (Ki k) := by
    intro r
    induction r with
    | zero =>
      intro i v2 v3 v4 c2 c3 hi hR
      have hi : i = no := by omega
      subst hi
      simp only [crX] at hR
      subst hR
      refine st_iload rX8_crossed_7 rfl ?_
      refine st_aload rX8_crossed_8 rfl ?_
      refine st_getR rX8_crossed_9 (by first | assumption | decide | exact ⟨by decide, rfl, by decide⟩) (by first | rfl | assumption) rfl ?_
      refine st_c rX8_crossed_12 ?_
      refine st_ialdN rX8_crossed_13 (by first | assumption | decide | exact ⟨by decide, rfl, by decide⟩) (by omega) ?_
      refine st_top hmo ?_
      first | refine st_icmp_geN rX8_crossed_14 (by omega) (by omega) (fun _ => ?_) (fun h => absurd h (by first | decide | omega | (simp; done) | simp_all)) | refine st_icmp_ge rX8_crossed_14 (fun _ => ?_) (fun h => absurd h (by first | decide | omega | (simp; done) | simp_all))
      refine st_c rX8_crossed_114 ?_
      refine st_iret rX8_crossed_116 rfl ?_
      exact hk I1 (fun a ha => e1 a (by omega)) hM1
    | succ r ih =>
      intro i v2 v3 v4 c2 c3 hir hR
      have hi : i < no := by omega
      simp only [crX] at hR
      have inner : ∀ (c j : Nat) (v3 v4 : Value), v3.category = 1 → j + c = no → i < j → (match crJ A i c j with
          | some j => nI (10 * i + j)
          | none => crX A no r (i + 1)) = R → V d 123 123 mX8_crossed 21 [.ref 103, .int (nI i), .int (nI j), v3, v4] [] (I1, J, vRR ρ) (Ki k) := by
        intro c
        induction c with
        | zero =>
          intro j v3 v4 c3 hj hij hR2
          have hj : j = no := by omega
          subst hj
          simp only [crJ] at hR2
          refine st_iload rX8_crossed_21 rfl ?_
          refine st_aload rX8_crossed_22 rfl ?_
          refine st_getR rX8_crossed_23 (by first | assumption | decide | exact ⟨by decide, rfl, by decide⟩) (by first | rfl | assumption) rfl ?_
          refine st_c rX8_crossed_26 ?_
          refine st_ialdN rX8_crossed_27 (by first | assumption | decide | exact ⟨by decide, rfl, by decide⟩) (by omega) ?_
          refine st_top hmo ?_
          first | refine st_icmp_geN rX8_crossed_28 (by omega) (by omega) (fun _ => ?_) (fun h => absurd h (by first | decide | omega | (simp; done) | simp_all)) | refine st_icmp_ge rX8_crossed_28 (fun _ => ?_) (fun h => absurd h (by first | decide | omega | (simp; done) | simp_all))
          first | refine st_iincN1 rX8_crossed_108 rfl ?_ | refine st_iinc1 rX8_crossed_108 rfl ?_
          refine st_goto rX8_crossed_111 ?_
          exact ih (i + 1) _ _ _ rfl c3 (by omega) hR2
        | succ c ihc =>
          intro j v3 v4 c3 hjc hij hR2
          have hj : j < no := by omega
          simp only [crJ] at hR2
          refine st_iload rX8_crossed_21 rfl ?_
          refine st_aload rX8_crossed_22 rfl ?_
          refine st_getR rX8_crossed_23 (by first | assumption | decide | exact ⟨by decide, rfl, by decide⟩) (by first | rfl | assumption) rfl ?_
          refine st_c rX8_crossed_26 ?_
          refine st_ialdN rX8_crossed_27 (by first | assumption | decide | exact ⟨by decide, rfl, by decide⟩) (by omega) ?_
          refine st_top hmo ?_
          first | refine st_icmp_geN rX8_crossed_28 (by omega) (by omega) (fun h => absurd h (by first | decide | omega | (simp; done) | simp_all)) (fun _ => ?_) | refine st_icmp_ge rX8_crossed_28 (fun h => absurd h (by first | decide | omega | (simp; done) | simp_all)) (fun _ => ?_)
          refine st_aload rX8_crossed_31 rfl ?_
          refine st_getR rX8_crossed_32 (by first | assumption | decide | exact ⟨by decide, rfl, by decide⟩) (by first | rfl | assumption) rfl ?_
          refine st_iload rX8_crossed_35 rfl ?_
          refine st_ialdN rX8_crossed_36 (by first | assumption | decide | exact ⟨by decide, rfl, by decide⟩) (by omega) ?_
          refine st_top (m9 i (by omega)).2.2.1 ?_
          refine st_aload rX8_crossed_37 rfl ?_
          refine st_getR rX8_crossed_38 (by first | assumption | decide | exact ⟨by decide, rfl, by decide⟩) (by first | rfl | assumption) rfl ?_
          refine st_iload rX8_crossed_41 rfl ?_
          refine st_ialdN rX8_crossed_42 (by first | assumption | decide | exact ⟨by decide, rfl, by decide⟩) (by omega) ?_
          refine st_top (m9 j (by omega)).2.2.1 ?_
          first | refine st_icmp_neN rX8_crossed_43 (by omega) (by omega) (fun h43 => ?_) (fun h43 => ?_) | refine st_icmp_ne rX8_crossed_43 (fun h43 => ?_) (fun h43 => ?_)
          · refine st_c rX8_crossed_50 ?_
            refine st_istore3 rX8_crossed_51 rfl ?_
            refine st_aload rX8_crossed_52 rfl ?_
            refine st_getR rX8_crossed_53 (by first | assumption | decide | exact ⟨by decide, rfl, by decide⟩) (by first | rfl | assumption) rfl ?_
            refine st_iload rX8_crossed_56 rfl ?_
            refine st_ialdN rX8_crossed_57 (by first | assumption | decide | exact ⟨by decide, rfl, by decide⟩) (by omega) ?_
            refine st_top (m9 i (by omega)).2.2.2.1 ?_
            refine st_aload rX8_crossed_58 rfl ?_
            refine st_getR rX8_crossed_59 (by first | assumption | decide | exact ⟨by decide, rfl, by decide⟩) (by first | rfl | assumption) rfl ?_
            refine st_iload rX8_crossed_62 rfl ?_
            refine st_ialdN rX8_crossed_63 (by first | assumption | decide | exact ⟨by decide, rfl, by decide⟩) (by omega) ?_
            refine st_top (m9 j (by omega)).2.2.2.1 ?_
            first | refine st_icmp_neN rX8_crossed_64 (by omega) (by omega) (fun h64 => ?_) (fun h64 => ?_) | refine st_icmp_ne rX8_crossed_64 (fun h64 => ?_) (fun h64 => ?_)
            · refine st_c rX8_crossed_71 ?_
              refine st_istore4 rX8_crossed_72 rfl ?_
              refine st_aload rX8_crossed_74 rfl ?_
              refine st_getR rX8_crossed_75 (by first | assumption | decide | exact ⟨by decide, rfl, by decide⟩) (by first | rfl | assumption) rfl ?_
              refine st_iload rX8_crossed_78 rfl ?_
              refine st_ialdN rX8_crossed_79 (by first | assumption | decide | exact ⟨by decide, rfl, by decide⟩) (by omega) ?_
              refine st_top (m9 i (by omega)).2.2.2.2 ?_
              refine st_aload rX8_crossed_80 rfl ?_
              refine st_getR rX8_crossed_81 (by first | assumption | decide | exact ⟨by decide, rfl, by decide⟩) (by first | rfl | assumption) rfl ?_
              refine st_iload rX8_crossed_84 rfl ?_
              refine st_ialdN rX8_crossed_85 (by first | assumption | decide | exact ⟨by decide, rfl, by decide⟩) (by omega) ?_
              refine st_top (m9 j (by omega)).2.2.2.2 ?_
              first | refine st_icmp_neN rX8_crossed_86 (by omega) (by omega) (fun h86 => ?_) (fun h86 => ?_) | refine st_icmp_ne rX8_crossed_86 (fun h86 => ?_) (fun h86 => ?_)
              · first | refine st_iincN2 rX8_crossed_102 rfl ?_ | refine st_iinc2 rX8_crossed_102 rfl ?_
                refine st_goto rX8_crossed_105 ?_
                first | (exfalso; omega) | (rw [if_neg (by simp_all [xrO])] at hR2; exact ihc (j + 1) _ _ rfl (by omega) (by omega) hR2)
              · refine st_iload rX8_crossed_89 rfl ?_
                refine st_iload rX8_crossed_90 rfl ?_
                first | refine st_icmp_eqN rX8_crossed_92 (by omega) (by omega) (fun h92 => ?_) (fun h92 => ?_) | refine st_icmp_eq rX8_crossed_92 (fun h92 => ?_) (fun h92 => ?_)
                · first | refine st_iincN2 rX8_crossed_102 rfl ?_ | refine st_iinc2 rX8_crossed_102 rfl ?_
                  refine st_goto rX8_crossed_105 ?_
                  first | (exfalso; omega) | (rw [if_neg (by simp_all [xrO])] at hR2; exact ihc (j + 1) _ _ rfl (by omega) (by omega) hR2)
                · refine st_c rX8_crossed_95 ?_
                  refine st_iload rX8_crossed_97 rfl ?_
                  first | refine st_imulN rX8_crossed_98 ?_ | refine st_imul rX8_crossed_98 ?_
                  refine st_iload rX8_crossed_99 rfl ?_
                  first | refine st_iaddN rX8_crossed_100 ?_ | refine st_iadd rX8_crossed_100 ?_
                  refine st_iret rX8_crossed_101 rfl ?_
                  first | (exfalso; omega) | (rw [if_pos (by simp_all [xrO])] at hR2; simp only at hR2; subst hR2; exact hk I1 (fun a ha => e1 a (by omega)) hM1)
            · refine st_c rX8_crossed_67 ?_
              refine st_goto rX8_crossed_68 ?_
              refine st_istore4 rX8_crossed_72 rfl ?_
              refine st_aload rX8_crossed_74 rfl ?_
              refine st_getR rX8_crossed_75 (by first | assumption | decide | exact ⟨by decide, rfl, by decide⟩) (by first | rfl | assumption) rfl ?_
              refine st_iload rX8_crossed_78 rfl ?_
              refine st_ialdN rX8_crossed_79 (by first | assumption | decide | exact ⟨by decide, rfl, by decide⟩) (by omega) ?_
              refine st_top (m9 i (by omega)).2.2.2.2 ?_
              refine st_aload rX8_crossed_80 rfl ?_
              refine st_getR rX8_crossed_81 (by first | assumption | decide | exact ⟨by decide, rfl, by decide⟩) (by first | rfl | assumption) rfl ?_
              refine st_iload rX8_crossed_84 rfl ?_
              refine st_ialdN rX8_crossed_85 (by first | assumption | decide | exact ⟨by decide, rfl, by decide⟩) (by omega) ?_
              refine st_top (m9 j (by omega)).2.2.2.2 ?_
              first | refine st_icmp_neN rX8_crossed_86 (by omega) (by omega) (fun h86 => ?_) (fun h86 => ?_) | refine st_icmp_ne rX8_crossed_86 (fun h86 => ?_) (fun h86 => ?_)
              · first | refine st_iincN2 rX8_crossed_102 rfl ?_ | refine st_iinc2 rX8_crossed_102 rfl ?_
                refine st_goto rX8_crossed_105 ?_
                first | (exfalso; omega) | (rw [if_neg (by simp_all [xrO])] at hR2; exact ihc (j + 1) _ _ rfl (by omega) (by omega) hR2)
              · refine st_iload rX8_crossed_89 rfl ?_
                refine st_iload rX8_crossed_90 rfl ?_
                first | refine st_icmp_eqN rX8_crossed_92 (by omega) (by omega) (fun h92 => ?_) (fun h92 => ?_) | refine st_icmp_eq rX8_crossed_92 (fun h92 => ?_) (fun h92 => ?_)
                · first | refine st_iincN2 rX8_crossed_102 rfl ?_ | refine st_iinc2 rX8_crossed_102 rfl ?_
                  refine st_goto rX8_crossed_105 ?_
                  first | (exfalso; omega) | (rw [if_neg (by simp_all [xrO])] at hR2; exact ihc (j + 1) _ _ rfl (by omega) (by omega) hR2)
                · refine st_c rX8_crossed_95 ?_
                  refine st_iload rX8_crossed_97 rfl ?_
                  first | refine st_imulN rX8_crossed_98 ?_ | refine st_imul rX8_crossed_98 ?_
                  refine st_iload rX8_crossed_99 rfl ?_
                  first | refine st_iaddN rX8_crossed_100 ?_ | refine st_iadd rX8_crossed_100 ?_
                  refine st_iret rX8_crossed_101 rfl ?_
                  first | (exfalso; omega) | (rw [if_pos (by simp_all [xrO])] at hR2; simp only at hR2; subst hR2; exact hk I1 (fun a ha => e1 a (by omega)) hM1)
          · refine st_c rX8_crossed_46 ?_
            refine st_goto rX8_crossed_47 ?_
            refine st_istore3 rX8_crossed_51 rfl ?_
            refine st_aload rX8_crossed_52 rfl ?_
            refine st_getR rX8_crossed_53 (by first | assumption | decide | exact ⟨by decide, rfl, by decide⟩) (by first | rfl | assumption) rfl ?_
            refine st_iload rX8_crossed_56 rfl ?_
            refine st_ialdN rX8_crossed_57 (by first | assumption | decide | exact ⟨by decide, rfl, by decide⟩) (by omega) ?_
            refine st_top (m9 i (by omega)).2.2.2.1 ?_
            refine st_aload rX8_crossed_58 rfl ?_
            refine st_getR rX8_crossed_59 (by first | assumption | decide | exact ⟨by decide, rfl, by decide⟩) (by first | rfl | assumption) rfl ?_
            refine st_iload rX8_crossed_62 rfl ?_
            refine st_ialdN rX8_crossed_63 (by first | assumption | decide | exact ⟨by decide, rfl, by decide⟩) (by omega) ?_
            refine st_top (m9 j (by omega)).2.2.2.1 ?_
            first | refine st_icmp_neN rX8_crossed_64 (by omega) (by omega) (fun h64 => ?_) (fun h64 => ?_) | refine st_icmp_ne rX8_crossed_64 (fun h64 => ?_) (fun h64 => ?_)
            · refine st_c rX8_crossed_71 ?_
              refine st_istore4 rX8_crossed_72 rfl ?_
              refine st_aload rX8_crossed_74 rfl ?_
              refine st_getR rX8_crossed_75 (by first | assumption | decide | exact ⟨by decide, rfl, by decide⟩) (by first | rfl | assumption) rfl ?_
              refine st_iload rX8_crossed_78 rfl ?_
              refine st_ialdN rX8_crossed_79 (by first | assumption | decide | exact ⟨by decide, rfl, by decide⟩) (by omega) ?_
              refine st_top (m9 i (by omega)).2.2.2.2 ?_
              refine st_aload rX8_crossed_80 rfl ?_
              refine st_getR rX8_crossed_81 (by first | assumption | decide | exact ⟨by decide, rfl, by decide⟩) (by first | rfl | assumption) rfl ?_
              refine st_iload rX8_crossed_84 rfl ?_
              refine st_ialdN rX8_crossed_85 (by first | assumption | decide | exact ⟨by decide, rfl, by decide⟩) (by omega) ?_
              refine st_top (m9 j (by omega)).2.2.2.2 ?_
              first | refine st_icmp_neN rX8_crossed_86 (by omega) (by omega) (fun h86 => ?_) (fun h86 => ?_) | refine st_icmp_ne rX8_crossed_86 (fun h86 => ?_) (fun h86 => ?_)
              · first | refine st_iincN2 rX8_crossed_102 rfl ?_ | refine st_iinc2 rX8_crossed_102 rfl ?_
                refine st_goto rX8_crossed_105 ?_
                first | (exfalso; omega) | (rw [if_neg (by simp_all [xrO])] at hR2; exact ihc (j + 1) _ _ rfl (by omega) (by omega) hR2)
              · refine st_iload rX8_crossed_89 rfl ?_
                refine st_iload rX8_crossed_90 rfl ?_
                first | refine st_icmp_eqN rX8_crossed_92 (by omega) (by omega) (fun h92 => ?_) (fun h92 => ?_) | refine st_icmp_eq rX8_crossed_92 (fun h92 => ?_) (fun h92 => ?_)
                · first | refine st_iincN2 rX8_crossed_102 rfl ?_ | refine st_iinc2 rX8_crossed_102 rfl ?_
                  refine st_goto rX8_crossed_105 ?_
                  first | (exfalso; omega) | (rw [if_neg (by simp_all [xrO])] at hR2; exact ihc (j + 1) _ _ rfl (by omega) (by omega) hR2)
                · refine st_c rX8_crossed_95 ?_
                  refine st_iload rX8_crossed_97 rfl ?_
                  first | refine st_imulN rX8_crossed_98 ?_ | refine st_imul rX8_crossed_98 ?_
                  refine st_iload rX8_crossed_99 rfl ?_
                  first | refine st_iaddN rX8_crossed_100 ?_ | refine st_iadd rX8_crossed_100 ?_
                  refine st_iret rX8_crossed_101 rfl ?_
                  first | (exfalso; omega) | (rw [if_pos (by simp_all [xrO])] at hR2; simp only at hR2; subst hR2; exact hk I1 (fun a ha => e1 a (by omega)) hM1)
            · refine st_c rX8_crossed_67 ?_
              refine st_goto rX8_crossed_68 ?_
              refine st_istore4 rX8_crossed_72 rfl ?_
              refine st_aload rX8_crossed_74 rfl ?_
              refine st_getR rX8_crossed_75 (by first | assumption | decide | exact ⟨by decide, rfl, by decide⟩) (by first | rfl | assumption) rfl ?_
              refine st_iload rX8_crossed_78 rfl ?_
              refine st_ialdN rX8_crossed_79 (by first | assumption | decide | exact ⟨by decide, rfl, by decide⟩) (by omega) ?_
              refine st_top (m9 i (by omega)).2.2.2.2 ?_
              refine st_aload rX8_crossed_80 rfl ?_
              refine st_getR rX8_crossed_81 (by first | assumption | decide | exact ⟨by decide, rfl, by decide⟩) (by first | rfl | assumption) rfl ?_
              refine st_iload rX8_crossed_84 rfl ?_
              refine st_ialdN rX8_crossed_85 (by first | assumption | decide | exact ⟨by decide, rfl, by decide⟩) (by omega) ?_
              refine st_top (m9 j (by omega)).2.2.2.2 ?_
              first | refine st_icmp_neN rX8_crossed_86 (by omega) (by omega) (fun h86 => ?_) (fun h86 => ?_) | refine st_icmp_ne rX8_crossed_86 (fun h86 => ?_) (fun h86 => ?_)
              · first | refine st_iincN2 rX8_crossed_102 rfl ?_ | refine st_iinc2 rX8_crossed_102 rfl ?_
                refine st_goto rX8_crossed_105 ?_
                first | (exfalso; omega) | (rw [if_neg (by simp_all [xrO])] at hR2; exact ihc (j + 1) _ _ rfl (by omega) (by omega) hR2)
              · refine st_iload rX8_crossed_89 rfl ?_
                refine st_iload rX8_crossed_90 rfl ?_
                first | refine st_icmp_eqN rX8_crossed_92 (by omega) (by omega) (fun h92 => ?_) (fun h92 => ?_) | refine st_icmp_eq rX8_crossed_92 (fun h92 => ?_) (fun h92 => ?_)
                · first | refine st_iincN2 rX8_crossed_102 rfl ?_ | refine st_iinc2 rX8_crossed_102 rfl ?_
                  refine st_goto rX8_crossed_105 ?_
                  first | (exfalso; omega) | (rw [if_neg (by simp_all [xrO])] at hR2; exact ihc (j + 1) _ _ rfl (by omega) (by omega) hR2)
                · refine st_c rX8_crossed_95 ?_
                  refine st_iload rX8_crossed_97 rfl ?_
                  first | refine st_imulN rX8_crossed_98 ?_ | refine st_imul rX8_crossed_98 ?_
                  refine st_iload rX8_crossed_99 rfl ?_
                  first | refine st_iaddN rX8_crossed_100 ?_ | refine st_iadd rX8_crossed_100 ?_
                  refine st_iret rX8_crossed_101 rfl ?_
                  first | (exfalso; omega) | (rw [if_pos (by simp_all [xrO])] at hR2; simp only at hR2; subst hR2; exact hk I1 (fun a ha => e1 a (by omega)) hM1)
      refine st_iload rX8_crossed_7 rfl ?_
      refine st_aload rX8_crossed_8 rfl ?_
      refine st_getR rX8_crossed_9 (by first | assumption | decide | exact ⟨by decide, rfl, by decide⟩) (by first | rfl | assumption) rfl ?_
      refine st_c rX8_crossed_12 ?_
      refine st_ialdN rX8_crossed_13 (by first | assumption | decide | exact ⟨by decide, rfl, by decide⟩) (by omega) ?_
      refine st_top hmo ?_
      first | refine st_icmp_geN rX8_crossed_14 (by omega) (by omega) (fun h => absurd h (by first | decide | omega | (simp; done) | simp_all)) (fun _ => ?_) | refine st_icmp_ge rX8_crossed_14 (fun h => absurd h (by first | decide | omega | (simp; done) | simp_all)) (fun _ => ?_)
      refine st_iload rX8_crossed_17 rfl ?_
      refine st_c rX8_crossed_18 ?_
      first | refine st_iaddN rX8_crossed_19 ?_ | refine st_iadd rX8_crossed_19 ?_
      refine st_istore2 rX8_crossed_20 rfl ?_
      exact inner (no - (i + 1)) (i + 1) _ _ c3 (by omega) (by omega) hR
  exact outer no 0 _ _ _ rfl rfl (by omega) hR
end P19
