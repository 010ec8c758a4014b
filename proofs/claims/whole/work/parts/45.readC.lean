/-! ===== the class reads an item ===== -/
theorem tK_c (l : Nat → Nat) (L p : Nat) : tC l L p = 0 ∧ tK l L p = 0 ∨ tC l L p = 1 ∧ tK l L p = tV l L p ∨ tC l L p = 2 ∧ tK l L p = 1 ∨ tC l L p = 3 ∧ tK l L p = 59 ∨ tC l L p = 4 ∧ tK l L p = 2 := by
  simp only [tK]
  have h5 : tC l L p = 0 ∨ tC l L p = 1 ∨ tC l L p = 2 ∨ (tC l L p = 3 ∧ tV l L p = 59) ∨ tC l L p = 4 := by
    simp only [tC, tV]
    repeat' split
    all_goals first | omega | simp_all
  rcases h5 with h | h | h | ⟨h, h2⟩ | h
  · left; rw [h]; exact ⟨rfl, rfl⟩
  · right; left; rw [h]; exact ⟨rfl, rfl⟩
  · right; right; left; rw [h]; exact ⟨rfl, rfl⟩
  · right; right; right; left; rw [h, h2]; exact ⟨rfl, rfl⟩
  · right; right; right; right; rw [h]; exact ⟨rfl, rfl⟩
theorem isT_d {v m : Nat} (hv : v < 2147483648) : isT m (nI v) = decide (v < m) := by
  simp only [isT]
  rw [nI_toInt hv, decide_eq_true (show (0 : Int) ≤ (v : Int) by omega), Bool.true_and]
  congr 1
  apply propext
  constructor <;> intro h <;> omega
theorem inR_d {v lo hi : Nat} (hv : v < 2147483648) (h1 : lo < 2147483648) (h2 : hi < 2147483648) : inR (nI v) (nI lo) (nI hi) = (decide (lo ≤ v) && decide (v ≤ hi)) := by
  simp only [inR]
  rw [nI_toInt hv, nI_toInt h1, nI_toInt h2]
  congr 1 <;> (congr 1; apply propext; constructor <;> intro h <;> omega)
section P45
variable {d : Nat} {I A : Nat → Nat → Int32} {J : Nat → Nat → Int64} {ρ m no : Nat} {T : Int64} {k : Int32 → vS → Prop} {kl : Int64 → vS → Prop} {kv : vS → Prop}
variable {σ : Nat} {D : Nat → Nat → Nat}
set_option maxHeartbeats 4000000 in
set_option maxRecDepth 100000 in
theorem s_mayBegin {c x y : Nat} {kk : Int32 → vS → Prop} (hσ : vTo σ) (hD : CD I σ D) (hO : OkD D) (hc : c = 1 ∧ y = x ∧ (x = 116 ∨ x = 100 ∨ x = 111) ∨ c ≠ 1 ∧ (y = 0 ∨ y = 1 ∨ y = 2 ∨ y = 59)) (h : kk (vb (begOk D c x)) (I, J, vRR ρ)) : V d 123 123 mX5_mayBegin 0 [.ref σ, .int (nI y)] [] (I, J, vRR ρ) (Ki kk) := by
  obtain ⟨hto, o1, o2, o3, o4, o5, o6, o7, o8⟩ := toldF hσ
  have hσ13 : σ ≤ 13 := by rcases hσ with h | h <;> omega
  obtain ⟨c1, c2, c3, c4, c5, c6⟩ := id hD
  obtain ⟨d1, d2, d3, d4, d5, d6⟩ := id hO
  rcases hc with ⟨rfl, rfl, rfl | rfl | rfl⟩ | ⟨hc, hy⟩
  · by_cases h6 : D 0 0 < 6
    · rw [show begOk D 1 116 = true by simp [begOk, h6]] at h
      refine st_iload rX5_mayBegin_0 rfl ?_
      refine st_lkp (off := 35) (tgt := 36) rX5_mayBegin_1 (by decide) (by decide) ?_
      refine st_aload rX5_mayBegin_36 rfl ?_
      refine st_getI rX5_mayBegin_37 (by first | assumption | decide | exact ⟨by decide, rfl, by decide⟩) rfl ?_
      refine st_top c1 ?_
      refine st_c rX5_mayBegin_40 ?_
      first | with_reducible refine st_icmp_geN rX5_mayBegin_42 (by omega) (by omega) (fun h => absurd h (by first | decide | omega | (simp; done) | simp_all)) (fun _ => ?_) | refine st_icmp_ge rX5_mayBegin_42 (fun h => absurd h (by first | decide | omega | (simp; done) | simp_all)) (fun _ => ?_)
      refine st_c rX5_mayBegin_45 ?_
      refine st_goto rX5_mayBegin_46 ?_
      refine st_zret rX5_mayBegin_50 rfl (by first | rfl | exact vb_nar _) ?_
      exact h
    · rw [show begOk D 1 116 = false by simp [begOk, h6]] at h
      refine st_iload rX5_mayBegin_0 rfl ?_
      refine st_lkp (off := 35) (tgt := 36) rX5_mayBegin_1 (by decide) (by decide) ?_
      refine st_aload rX5_mayBegin_36 rfl ?_
      refine st_getI rX5_mayBegin_37 (by first | assumption | decide | exact ⟨by decide, rfl, by decide⟩) rfl ?_
      refine st_top c1 ?_
      refine st_c rX5_mayBegin_40 ?_
      first | with_reducible refine st_icmp_geN rX5_mayBegin_42 (by omega) (by omega) (fun _ => ?_) (fun h => absurd h (by first | decide | omega | (simp; done) | simp_all)) | refine st_icmp_ge rX5_mayBegin_42 (fun _ => ?_) (fun h => absurd h (by first | decide | omega | (simp; done) | simp_all))
      refine st_c rX5_mayBegin_49 ?_
      refine st_zret rX5_mayBegin_50 rfl (by first | rfl | exact vb_nar _) ?_
      exact h
  · rw [show begOk D 1 100 = true by simp [begOk]] at h
    refine st_iload rX5_mayBegin_0 rfl ?_
    refine st_lkp (off := 50) (tgt := 51) rX5_mayBegin_1 (by decide) (by decide) ?_
    refine st_c rX5_mayBegin_51 ?_
    refine st_zret rX5_mayBegin_52 rfl (by first | rfl | exact vb_nar _) ?_
    exact h
  · by_cases h6 : D 0 1 < 6
    · rw [show begOk D 1 111 = true by simp [begOk, h6]] at h
      refine st_iload rX5_mayBegin_0 rfl ?_
      refine st_lkp (off := 52) (tgt := 53) rX5_mayBegin_1 (by decide) (by decide) ?_
      refine st_aload rX5_mayBegin_53 rfl ?_
      refine st_getI rX5_mayBegin_54 (by first | assumption | decide | exact ⟨by decide, rfl, by decide⟩) rfl ?_
      refine st_top c3 ?_
      refine st_c rX5_mayBegin_57 ?_
      first | with_reducible refine st_icmp_geN rX5_mayBegin_59 (by omega) (by omega) (fun h => absurd h (by first | decide | omega | (simp; done) | simp_all)) (fun _ => ?_) | refine st_icmp_ge rX5_mayBegin_59 (fun h => absurd h (by first | decide | omega | (simp; done) | simp_all)) (fun _ => ?_)
      refine st_c rX5_mayBegin_62 ?_
      refine st_goto rX5_mayBegin_63 ?_
      refine st_zret rX5_mayBegin_67 rfl (by first | rfl | exact vb_nar _) ?_
      exact h
    · rw [show begOk D 1 111 = false by simp [begOk, h6]] at h
      refine st_iload rX5_mayBegin_0 rfl ?_
      refine st_lkp (off := 52) (tgt := 53) rX5_mayBegin_1 (by decide) (by decide) ?_
      refine st_aload rX5_mayBegin_53 rfl ?_
      refine st_getI rX5_mayBegin_54 (by first | assumption | decide | exact ⟨by decide, rfl, by decide⟩) rfl ?_
      refine st_top c3 ?_
      refine st_c rX5_mayBegin_57 ?_
      first | with_reducible refine st_icmp_geN rX5_mayBegin_59 (by omega) (by omega) (fun _ => ?_) (fun h => absurd h (by first | decide | omega | (simp; done) | simp_all)) | refine st_icmp_ge rX5_mayBegin_59 (fun _ => ?_) (fun h => absurd h (by first | decide | omega | (simp; done) | simp_all))
      refine st_c rX5_mayBegin_66 ?_
      refine st_zret rX5_mayBegin_67 rfl (by first | rfl | exact vb_nar _) ?_
      exact h
  · rw [show begOk D c x = false by simp [begOk, hc]] at h
    refine st_iload rX5_mayBegin_0 rfl ?_
    refine st_lkp (off := 67) (tgt := 68) rX5_mayBegin_1 (by rcases hy with rfl | rfl | rfl | rfl <;> decide) (by decide) ?_
    refine st_c rX5_mayBegin_68 ?_
    refine st_zret rX5_mayBegin_69 rfl (by first | rfl | exact vb_nar _) ?_
    exact h
set_option maxHeartbeats 4000000 in
set_option maxRecDepth 100000 in
theorem s_mayStand {x i v v1 : Nat} {kk : Int32 → vS → Prop} (hσ : vTo σ) (hD : CD I σ D) (hO : OkD D) (hx : x = 116 ∨ x = 100 ∨ x = 111) (hi : i < 3) (hv : v ≤ 99) (h6 : I 1 6 = nI v) (h3 : i = 1 → I 3 0 = nI v1) (hv1 : v1 ≤ 99) (h : kk (vb (numOk D x i v v1)) (I, J, vRR ρ)) : V (d + 2) 123 123 mX5_mayStand 0 [.ref 1, .ref σ, .int (nI x), .int (nI i), vJ] [] (I, J, vRR ρ) (Ki kk) := by
  obtain ⟨hto, o1, o2, o3, o4, o5, o6, o7, o8⟩ := toldF hσ
  have hσ13 : σ ≤ 13 := by rcases hσ with h | h <;> omega
  obtain ⟨c1, c2, c3, c4, c5, c6⟩ := id hD
  obtain ⟨d1, d2, d3, d4, d5, d6⟩ := id hO
  have tail : ∀ e : Int32, e = vb (decide (i = 2)) → V (d + 2) 123 123 mX5_mayStand 12 [.ref 1, .ref σ, .int (nI x), .int (nI i), .int e] [] (I, J, vRR ρ) (Ki kk) := by
    intro e he
    rcases hx with rfl | rfl | rfl
    · by_cases h2 : i = 2
      · rw [decide_eq_true h2] at he
        subst he
        rw [show numOk D 116 i v v1 = inR (nI v) (nI 0) (nI 6) by rw [inR_d (by omega) (by decide) (by decide)]; simp [numOk, h2]] at h
        refine st_iload rX5_mayStand_12 rfl ?_
        refine st_lkp (off := 27) (tgt := 40) rX5_mayStand_13 (by decide) (by decide) ?_
        refine st_iload rX5_mayStand_40 rfl ?_
        first | with_reducible refine st_if_eqN rX5_mayStand_42 (by omega) (fun h => absurd h (by first | decide | omega | (simp; done) | simp_all)) (fun _ => ?_) | refine st_if_eq rX5_mayStand_42 (fun h => absurd h (by first | decide | omega | (simp; done) | simp_all)) (fun _ => ?_)
        refine st_aload rX5_mayStand_45 rfl ?_
        refine st_getI rX5_mayStand_46 (by first | assumption | decide | exact ⟨by decide, rfl, by decide⟩) rfl ?_
        refine st_top h6 ?_
        refine st_c rX5_mayStand_49 ?_
        refine st_c rX5_mayStand_50 ?_
        refine cS3i rX5_mayStand_52 (s_within ?_) rfl
        refine st_goto rX5_mayStand_55 ?_
        refine st_zret rX5_mayStand_68 rfl (by first | rfl | exact vb_nar _) ?_
        exact h
      · rw [decide_eq_false h2] at he
        subst he
        rw [show numOk D 116 i v v1 = inR (nI v) (nI 1) (nI 99) by rw [inR_d (by omega) (by decide) (by decide)]; simp [numOk, h2]] at h
        refine st_iload rX5_mayStand_12 rfl ?_
        refine st_lkp (off := 27) (tgt := 40) rX5_mayStand_13 (by decide) (by decide) ?_
        refine st_iload rX5_mayStand_40 rfl ?_
        first | with_reducible refine st_if_eqN rX5_mayStand_42 (by omega) (fun _ => ?_) (fun h => absurd h (by first | decide | omega | (simp; done) | simp_all)) | refine st_if_eq rX5_mayStand_42 (fun _ => ?_) (fun h => absurd h (by first | decide | omega | (simp; done) | simp_all))
        refine st_aload rX5_mayStand_58 rfl ?_
        refine st_getI rX5_mayStand_59 (by first | assumption | decide | exact ⟨by decide, rfl, by decide⟩) rfl ?_
        refine st_top h6 ?_
        refine st_c rX5_mayStand_62 ?_
        refine st_c rX5_mayStand_63 ?_
        refine cS3i rX5_mayStand_65 (s_within ?_) rfl
        refine st_zret rX5_mayStand_68 rfl (by first | rfl | exact vb_nar _) ?_
        exact h
    · by_cases h2 : i = 2
      · rw [decide_eq_true h2] at he
        subst he
        rw [show numOk D 100 i v v1 = inR (nI v) (nI 1) (nI 9) by rw [inR_d (by omega) (by decide) (by decide)]; simp [numOk, h2]] at h
        refine st_iload rX5_mayStand_12 rfl ?_
        refine st_lkp (off := 56) (tgt := 69) rX5_mayStand_13 (by decide) (by decide) ?_
        refine st_iload rX5_mayStand_69 rfl ?_
        first | with_reducible refine st_if_eqN rX5_mayStand_71 (by omega) (fun h => absurd h (by first | decide | omega | (simp; done) | simp_all)) (fun _ => ?_) | refine st_if_eq rX5_mayStand_71 (fun h => absurd h (by first | decide | omega | (simp; done) | simp_all)) (fun _ => ?_)
        refine st_aload rX5_mayStand_74 rfl ?_
        refine st_getI rX5_mayStand_75 (by first | assumption | decide | exact ⟨by decide, rfl, by decide⟩) rfl ?_
        refine st_top h6 ?_
        refine st_c rX5_mayStand_78 ?_
        refine st_c rX5_mayStand_79 ?_
        refine cS3i rX5_mayStand_81 (s_within ?_) rfl
        refine st_goto rX5_mayStand_84 ?_
        refine st_zret rX5_mayStand_120 rfl (by first | rfl | exact vb_nar _) ?_
        exact h
      · rw [decide_eq_false h2] at he
        subst he
        by_cases hvt : v < D 0 0
        · by_cases h0 : i = 0
          · rw [show numOk D 100 i v v1 = true by simp [numOk, h0, hvt]] at h
            refine st_iload rX5_mayStand_12 rfl ?_
            refine st_lkp (off := 56) (tgt := 69) rX5_mayStand_13 (by decide) (by decide) ?_
            refine st_iload rX5_mayStand_69 rfl ?_
            first | with_reducible refine st_if_eqN rX5_mayStand_71 (by omega) (fun _ => ?_) (fun h => absurd h (by first | decide | omega | (simp; done) | simp_all)) | refine st_if_eq rX5_mayStand_71 (fun _ => ?_) (fun h => absurd h (by first | decide | omega | (simp; done) | simp_all))
            refine st_aload rX5_mayStand_87 rfl ?_
            refine st_aload rX5_mayStand_88 rfl ?_
            refine st_getI rX5_mayStand_89 (by first | assumption | decide | exact ⟨by decide, rfl, by decide⟩) rfl ?_
            refine st_top h6 ?_
            refine cV2i rX5_mayStand_92 (by first | assumption | decide | exact ⟨by decide, rfl, by decide⟩) (s_hasTown hσ c1 d1 ?_) rfl (by decide)
            rw [isT_d (by omega), decide_eq_true hvt]
            first | with_reducible refine st_if_eqN rX5_mayStand_95 (by omega) (fun h => absurd h (by first | decide | omega | (simp; done) | simp_all)) (fun _ => ?_) | refine st_if_eq rX5_mayStand_95 (fun h => absurd h (by first | decide | omega | (simp; done) | simp_all)) (fun _ => ?_)
            refine st_iload rX5_mayStand_98 rfl ?_
            first | with_reducible refine st_if_eqN rX5_mayStand_99 (by omega) (fun _ => ?_) (fun h => absurd h (by first | decide | omega | (simp; done) | simp_all)) | refine st_if_eq rX5_mayStand_99 (fun _ => ?_) (fun h => absurd h (by first | decide | omega | (simp; done) | simp_all))
            refine st_c rX5_mayStand_115 ?_
            refine st_goto rX5_mayStand_116 ?_
            refine st_zret rX5_mayStand_120 rfl (by first | rfl | exact vb_nar _) ?_
            exact h
          · have q3 := h3 (by omega)
            by_cases hvv : v = v1
            · rw [show numOk D 100 i v v1 = false by simp [numOk, h0, h2, hvt, hvv]] at h
              refine st_iload rX5_mayStand_12 rfl ?_
              refine st_lkp (off := 56) (tgt := 69) rX5_mayStand_13 (by decide) (by decide) ?_
              refine st_iload rX5_mayStand_69 rfl ?_
              first | with_reducible refine st_if_eqN rX5_mayStand_71 (by omega) (fun _ => ?_) (fun h => absurd h (by first | decide | omega | (simp; done) | simp_all)) | refine st_if_eq rX5_mayStand_71 (fun _ => ?_) (fun h => absurd h (by first | decide | omega | (simp; done) | simp_all))
              refine st_aload rX5_mayStand_87 rfl ?_
              refine st_aload rX5_mayStand_88 rfl ?_
              refine st_getI rX5_mayStand_89 (by first | assumption | decide | exact ⟨by decide, rfl, by decide⟩) rfl ?_
              refine st_top h6 ?_
              refine cV2i rX5_mayStand_92 (by first | assumption | decide | exact ⟨by decide, rfl, by decide⟩) (s_hasTown hσ c1 d1 ?_) rfl (by decide)
              rw [isT_d (by omega), decide_eq_true hvt]
              first | with_reducible refine st_if_eqN rX5_mayStand_95 (by omega) (fun h => absurd h (by first | decide | omega | (simp; done) | simp_all)) (fun _ => ?_) | refine st_if_eq rX5_mayStand_95 (fun h => absurd h (by first | decide | omega | (simp; done) | simp_all)) (fun _ => ?_)
              refine st_iload rX5_mayStand_98 rfl ?_
              first | with_reducible refine st_if_eqN rX5_mayStand_99 (by omega) (fun h => absurd h (by first | decide | omega | (simp; done) | simp_all)) (fun _ => ?_) | refine st_if_eq rX5_mayStand_99 (fun h => absurd h (by first | decide | omega | (simp; done) | simp_all)) (fun _ => ?_)
              refine st_aload rX5_mayStand_102 rfl ?_
              refine st_getI rX5_mayStand_103 (by first | assumption | decide | exact ⟨by decide, rfl, by decide⟩) rfl ?_
              refine st_top h6 ?_
              refine st_aload rX5_mayStand_106 rfl ?_
              refine st_getR rX5_mayStand_107 (by first | assumption | decide | exact ⟨by decide, rfl, by decide⟩) (by first | rfl | assumption) rfl ?_
              refine st_c rX5_mayStand_110 ?_
              refine st_ialdN rX5_mayStand_111 (by first | assumption | decide | exact ⟨by decide, rfl, by decide⟩) (by omega) ?_
              refine st_top q3 ?_
              first | with_reducible refine st_icmp_eqN rX5_mayStand_112 (by omega) (by omega) (fun _ => ?_) (fun h => absurd h (by first | decide | omega | (simp; done) | simp_all)) | refine st_icmp_eq rX5_mayStand_112 (fun _ => ?_) (fun h => absurd h (by first | decide | omega | (simp; done) | simp_all))
              refine st_c rX5_mayStand_119 ?_
              refine st_zret rX5_mayStand_120 rfl (by first | rfl | exact vb_nar _) ?_
              exact h
            · rw [show numOk D 100 i v v1 = true by simp [numOk, h0, h2, hvt, hvv]] at h
              refine st_iload rX5_mayStand_12 rfl ?_
              refine st_lkp (off := 56) (tgt := 69) rX5_mayStand_13 (by decide) (by decide) ?_
              refine st_iload rX5_mayStand_69 rfl ?_
              first | with_reducible refine st_if_eqN rX5_mayStand_71 (by omega) (fun _ => ?_) (fun h => absurd h (by first | decide | omega | (simp; done) | simp_all)) | refine st_if_eq rX5_mayStand_71 (fun _ => ?_) (fun h => absurd h (by first | decide | omega | (simp; done) | simp_all))
              refine st_aload rX5_mayStand_87 rfl ?_
              refine st_aload rX5_mayStand_88 rfl ?_
              refine st_getI rX5_mayStand_89 (by first | assumption | decide | exact ⟨by decide, rfl, by decide⟩) rfl ?_
              refine st_top h6 ?_
              refine cV2i rX5_mayStand_92 (by first | assumption | decide | exact ⟨by decide, rfl, by decide⟩) (s_hasTown hσ c1 d1 ?_) rfl (by decide)
              rw [isT_d (by omega), decide_eq_true hvt]
              first | with_reducible refine st_if_eqN rX5_mayStand_95 (by omega) (fun h => absurd h (by first | decide | omega | (simp; done) | simp_all)) (fun _ => ?_) | refine st_if_eq rX5_mayStand_95 (fun h => absurd h (by first | decide | omega | (simp; done) | simp_all)) (fun _ => ?_)
              refine st_iload rX5_mayStand_98 rfl ?_
              first | with_reducible refine st_if_eqN rX5_mayStand_99 (by omega) (fun h => absurd h (by first | decide | omega | (simp; done) | simp_all)) (fun _ => ?_) | refine st_if_eq rX5_mayStand_99 (fun h => absurd h (by first | decide | omega | (simp; done) | simp_all)) (fun _ => ?_)
              refine st_aload rX5_mayStand_102 rfl ?_
              refine st_getI rX5_mayStand_103 (by first | assumption | decide | exact ⟨by decide, rfl, by decide⟩) rfl ?_
              refine st_top h6 ?_
              refine st_aload rX5_mayStand_106 rfl ?_
              refine st_getR rX5_mayStand_107 (by first | assumption | decide | exact ⟨by decide, rfl, by decide⟩) (by first | rfl | assumption) rfl ?_
              refine st_c rX5_mayStand_110 ?_
              refine st_ialdN rX5_mayStand_111 (by first | assumption | decide | exact ⟨by decide, rfl, by decide⟩) (by omega) ?_
              refine st_top q3 ?_
              first | with_reducible refine st_icmp_eqN rX5_mayStand_112 (by omega) (by omega) (fun h => absurd h (by first | decide | omega | (simp; done) | simp_all)) (fun _ => ?_) | refine st_icmp_eq rX5_mayStand_112 (fun h => absurd h (by first | decide | omega | (simp; done) | simp_all)) (fun _ => ?_)
              refine st_c rX5_mayStand_115 ?_
              refine st_goto rX5_mayStand_116 ?_
              refine st_zret rX5_mayStand_120 rfl (by first | rfl | exact vb_nar _) ?_
              exact h
        · rw [show numOk D 100 i v v1 = false by simp [numOk, h2, hvt]] at h
          refine st_iload rX5_mayStand_12 rfl ?_
          refine st_lkp (off := 56) (tgt := 69) rX5_mayStand_13 (by decide) (by decide) ?_
          refine st_iload rX5_mayStand_69 rfl ?_
          first | with_reducible refine st_if_eqN rX5_mayStand_71 (by omega) (fun _ => ?_) (fun h => absurd h (by first | decide | omega | (simp; done) | simp_all)) | refine st_if_eq rX5_mayStand_71 (fun _ => ?_) (fun h => absurd h (by first | decide | omega | (simp; done) | simp_all))
          refine st_aload rX5_mayStand_87 rfl ?_
          refine st_aload rX5_mayStand_88 rfl ?_
          refine st_getI rX5_mayStand_89 (by first | assumption | decide | exact ⟨by decide, rfl, by decide⟩) rfl ?_
          refine st_top h6 ?_
          refine cV2i rX5_mayStand_92 (by first | assumption | decide | exact ⟨by decide, rfl, by decide⟩) (s_hasTown hσ c1 d1 ?_) rfl (by decide)
          rw [isT_d (by omega), decide_eq_false hvt]
          first | with_reducible refine st_if_eqN rX5_mayStand_95 (by omega) (fun _ => ?_) (fun h => absurd h (by first | decide | omega | (simp; done) | simp_all)) | refine st_if_eq rX5_mayStand_95 (fun _ => ?_) (fun h => absurd h (by first | decide | omega | (simp; done) | simp_all))
          refine st_c rX5_mayStand_119 ?_
          refine st_zret rX5_mayStand_120 rfl (by first | rfl | exact vb_nar _) ?_
          exact h
    · by_cases h2 : i = 2
      · rw [decide_eq_true h2] at he
        subst he
        rw [show numOk D 111 i v v1 = inR (nI v) (nI 0) (nI 60) by rw [inR_d (by omega) (by decide) (by decide)]; simp [numOk, h2]] at h
        refine st_iload rX5_mayStand_12 rfl ?_
        refine st_lkp (off := 108) (tgt := 121) rX5_mayStand_13 (by decide) (by decide) ?_
        refine st_iload rX5_mayStand_121 rfl ?_
        first | with_reducible refine st_if_eqN rX5_mayStand_123 (by omega) (fun h => absurd h (by first | decide | omega | (simp; done) | simp_all)) (fun _ => ?_) | refine st_if_eq rX5_mayStand_123 (fun h => absurd h (by first | decide | omega | (simp; done) | simp_all)) (fun _ => ?_)
        refine st_aload rX5_mayStand_126 rfl ?_
        refine st_getI rX5_mayStand_127 (by first | assumption | decide | exact ⟨by decide, rfl, by decide⟩) rfl ?_
        refine st_top h6 ?_
        refine st_c rX5_mayStand_130 ?_
        refine st_c rX5_mayStand_131 ?_
        refine cS3i rX5_mayStand_133 (s_within ?_) rfl
        refine st_goto rX5_mayStand_136 ?_
        refine st_zret rX5_mayStand_147 rfl (by first | rfl | exact vb_nar _) ?_
        exact h
      · rw [decide_eq_false h2] at he
        subst he
        rw [show numOk D 111 i v v1 = isT (D 0 0) (nI v) by rw [isT_d (by omega)]; simp [numOk, h2]] at h
        refine st_iload rX5_mayStand_12 rfl ?_
        refine st_lkp (off := 108) (tgt := 121) rX5_mayStand_13 (by decide) (by decide) ?_
        refine st_iload rX5_mayStand_121 rfl ?_
        first | with_reducible refine st_if_eqN rX5_mayStand_123 (by omega) (fun _ => ?_) (fun h => absurd h (by first | decide | omega | (simp; done) | simp_all)) | refine st_if_eq rX5_mayStand_123 (fun _ => ?_) (fun h => absurd h (by first | decide | omega | (simp; done) | simp_all))
        refine st_aload rX5_mayStand_139 rfl ?_
        refine st_aload rX5_mayStand_140 rfl ?_
        refine st_getI rX5_mayStand_141 (by first | assumption | decide | exact ⟨by decide, rfl, by decide⟩) rfl ?_
        refine st_top h6 ?_
        refine cV2i rX5_mayStand_144 (by first | assumption | decide | exact ⟨by decide, rfl, by decide⟩) (s_hasTown hσ c1 d1 ?_) rfl (by decide)
        refine st_zret rX5_mayStand_147 rfl (by first | rfl | exact vb_nar _) ?_
        exact h
  by_cases h2 : i = 2
  · refine st_iload rX5_mayStand_0 rfl ?_
    refine st_c rX5_mayStand_1 ?_
    first | with_reducible refine st_icmp_neN rX5_mayStand_2 (by omega) (by omega) (fun h => absurd h (by first | decide | omega | (simp; done) | simp_all)) (fun _ => ?_) | refine st_icmp_ne rX5_mayStand_2 (fun h => absurd h (by first | decide | omega | (simp; done) | simp_all)) (fun _ => ?_)
    refine st_c rX5_mayStand_5 ?_
    refine st_goto rX5_mayStand_6 ?_
    refine st_istore4 rX5_mayStand_10 rfl ?_
    exact tail _ (by rw [decide_eq_true h2]; rfl)
  · refine st_iload rX5_mayStand_0 rfl ?_
    refine st_c rX5_mayStand_1 ?_
    first | with_reducible refine st_icmp_neN rX5_mayStand_2 (by omega) (by omega) (fun _ => ?_) (fun h => absurd h (by first | decide | omega | (simp; done) | simp_all)) | refine st_icmp_ne rX5_mayStand_2 (fun _ => ?_) (fun h => absurd h (by first | decide | omega | (simp; done) | simp_all))
    refine st_c rX5_mayStand_9 ?_
    refine st_istore4 rX5_mayStand_10 rfl ?_
    exact tail _ (by rw [decide_eq_false h2]; rfl)
end P45
