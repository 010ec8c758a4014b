/-! ===== rate ===== -/
def rateR (A : Nat → Nat → Int32) (b p q : Nat) : Int32 := if q = 0 then A 107 b else if q = 1 then A 107 b + A 108 b else if q = 2 then A 107 b - A 114 (8 + p) else if q = 3 then nI 2 * (A 107 b + A 108 b) else if q = 4 then A 107 b - A 114 (8 + p) + nI b else A 107 b + A 114 0
def rateT (q : Nat) : Int64 := if q = 0 then lN 1 else if q = 1 then lN 11 else if q = 2 then lN 101 else if q = 3 then lN 1011 else if q = 4 then lN 10101 else lN 100001
section P24
variable {d : Nat} {I A : Nat → Nat → Int32} {J : Nat → Nat → Int64} {ρ m no : Nat} {T : Int64} {k : Int32 → vS → Prop} {kl : Int64 → vS → Prop} {kv : vS → Prop}
set_option maxHeartbeats 4000000 in
set_option maxRecDepth 100000 in
theorem c_rate {b p q : Nat} (hC : InvC I J ρ A T m no) (hO : OkA A m no) (hb : b < m) (hq : q < 6) (hp : p < m) (hpb : A 114 (2 + p) = nI b) (hpf : ∀ q, q < p → ∃ c, c < 6 ∧ A 114 (2 + q) = nI c ∧ c ≠ b) (hk : ∀ J', (∀ a, a ≠ 0 → J' a = J a) → J' 0 9 = T + rateT q → k (rateR A b p q) (I, J', vRR ρ)) : V (d + 4) 123 123 mX7_rate 0 [.ref 0, .int (nI q), .int (nI b)] [] (I, J, vRR ρ) (Ki k) := by
  obtain ⟨ht0, ht1, ht2, ht3, ht4, ht5, ht6, ht7, ht8, ht9, ht10⟩ := id hC.1
  obtain ⟨hto, o1, o2, o3, o4, o5, o6, o7, o8⟩ := toldF ht0
  have hm6 : m ≤ 6 := hO.1.2.2.1
  have hno6 : no ≤ 6 := hO.1.2.2.2.1
  have hv := hC.2.2.1
  have hJ := hC.2.2.2.2.2.2
  have hg : vHg 22 := ⟨by decide, rfl⟩
  rcases (show q = 0 ∨ q = 1 ∨ q = 2 ∨ q = 3 ∨ q = 4 ∨ q = 5 by omega) with rfl | rfl | rfl | rfl | rfl | rfl
  · 
    refine st_iload rX7_rate_0 rfl ?_
    refine st_c rX7_rate_1 ?_
    refine st_c rX7_rate_2 ?_
    refine cS3i rX7_rate_3 (s_within ?_) rfl
    rw [inR_N (by decide), isT_n hq (by decide)]
    first | with_reducible refine st_if_eqN rX7_rate_6 (by omega) (fun h => absurd h (by first | decide | omega | (simp; done) | simp_all)) (fun _ => ?_) | refine st_if_eq rX7_rate_6 (fun h => absurd h (by first | decide | omega | (simp; done) | simp_all)) (fun _ => ?_)
    refine st_aload rX7_rate_9 rfl ?_
    refine st_getR rX7_rate_10 (by first | assumption | decide | exact ⟨by decide, rfl, by decide⟩) (by first | rfl | assumption) rfl ?_
    refine st_iload rX7_rate_13 rfl ?_
    refine cV2i rX7_rate_14 (by first | assumption | decide | exact ⟨by decide, rfl, by decide⟩) (s_hasTown ht0 ht1 hm6 ?_) rfl (by decide)
    rw [isT_n hb (by omega)]
    first | with_reducible refine st_if_neN rX7_rate_17 (by omega) (fun _ => ?_) (fun h => absurd h (by first | decide | omega | (simp; done) | simp_all)) | refine st_if_ne rX7_rate_17 (fun _ => ?_) (fun h => absurd h (by first | decide | omega | (simp; done) | simp_all))
    refine st_iload rX7_rate_23 rfl ?_
    refine st_tabO rX7_rate_24 (by decide) ?_
    refine st_aload rX7_rate_90 rfl ?_
    refine st_iload rX7_rate_91 rfl ?_
    refine cV2i (js := []) rX7_rate_92 (by first | assumption | decide | exact ⟨by decide, rfl, by decide⟩) ?_ rfl (by decide)
    refine st_aload rX7_rateBell_0 rfl ?_
    refine st_dup rX7_rateBell_1 rfl ?_
    refine st_getL rX7_rateBell_2 (by first | assumption | decide | exact ⟨by decide, rfl, by decide⟩) rfl ?_
    refine st_cl rX7_rateBell_5 ?_
    refine st_ladd rX7_rateBell_6 ?_
    refine st_putL rfl rX7_rateBell_7 (by first | assumption | decide | exact ⟨by decide, rfl, by decide⟩) ?_
    refine st_aload rX7_rateBell_10 rfl ?_
    refine st_getR rX7_rateBell_11 (by first | assumption | decide | exact ⟨by decide, rfl, by decide⟩) (by first | rfl | assumption) rfl ?_
    refine st_getR rX7_rateBell_14 (by assumption) (tR4 (by assumption)) rfl ?_
    refine st_iload rX7_rateBell_17 rfl ?_
    refine cS2i rX7_rateBell_18 (s_at (by first | assumption | decide | exact ⟨by decide, rfl, by decide⟩) (by omega) ?_) rfl
    refine st_top (ht4 b hb) ?_
    refine st_iret rX7_rateBell_21 rfl ?_
    refine st_iret rX7_rate_95 rfl ?_
    refine hk _ (fun a ha => by simp only [up_n ha]) ?_
    simp only [up_s, va_up_s, hJ]
    try simp only [Int64.add_assoc]
    rfl
  · 
    refine st_iload rX7_rate_0 rfl ?_
    refine st_c rX7_rate_1 ?_
    refine st_c rX7_rate_2 ?_
    refine cS3i rX7_rate_3 (s_within ?_) rfl
    rw [inR_N (by decide), isT_n hq (by decide)]
    first | with_reducible refine st_if_eqN rX7_rate_6 (by omega) (fun h => absurd h (by first | decide | omega | (simp; done) | simp_all)) (fun _ => ?_) | refine st_if_eq rX7_rate_6 (fun h => absurd h (by first | decide | omega | (simp; done) | simp_all)) (fun _ => ?_)
    refine st_aload rX7_rate_9 rfl ?_
    refine st_getR rX7_rate_10 (by first | assumption | decide | exact ⟨by decide, rfl, by decide⟩) (by first | rfl | assumption) rfl ?_
    refine st_iload rX7_rate_13 rfl ?_
    refine cV2i rX7_rate_14 (by first | assumption | decide | exact ⟨by decide, rfl, by decide⟩) (s_hasTown ht0 ht1 hm6 ?_) rfl (by decide)
    rw [isT_n hb (by omega)]
    first | with_reducible refine st_if_neN rX7_rate_17 (by omega) (fun _ => ?_) (fun h => absurd h (by first | decide | omega | (simp; done) | simp_all)) | refine st_if_ne rX7_rate_17 (fun _ => ?_) (fun h => absurd h (by first | decide | omega | (simp; done) | simp_all))
    refine st_iload rX7_rate_23 rfl ?_
    refine st_tabI rX7_rate_24 0 (by decide) rfl ?_
    refine st_aload rX7_rate_60 rfl ?_
    refine st_iload rX7_rate_61 rfl ?_
    refine cV2i (js := []) rX7_rate_62 (by first | assumption | decide | exact ⟨by decide, rfl, by decide⟩) ?_ rfl (by decide)
    refine st_aload rX7_rateGreat_0 rfl ?_
    refine st_dup rX7_rateGreat_1 rfl ?_
    refine st_getL rX7_rateGreat_2 (by first | assumption | decide | exact ⟨by decide, rfl, by decide⟩) rfl ?_
    refine st_cl rX7_rateGreat_5 ?_
    refine st_ladd rX7_rateGreat_8 ?_
    refine st_putL rfl rX7_rateGreat_9 (by first | assumption | decide | exact ⟨by decide, rfl, by decide⟩) ?_
    refine st_aload rX7_rateGreat_12 rfl ?_
    refine st_iload rX7_rateGreat_13 rfl ?_
    refine cV2i (js := []) rX7_rateGreat_14 (by first | assumption | decide | exact ⟨by decide, rfl, by decide⟩) ?_ rfl (by decide)
    refine st_aload rX7_rateBell_0 rfl ?_
    refine st_dup rX7_rateBell_1 rfl ?_
    refine st_getL rX7_rateBell_2 (by first | assumption | decide | exact ⟨by decide, rfl, by decide⟩) rfl ?_
    refine st_cl rX7_rateBell_5 ?_
    refine st_ladd rX7_rateBell_6 ?_
    refine st_putL rfl rX7_rateBell_7 (by first | assumption | decide | exact ⟨by decide, rfl, by decide⟩) ?_
    refine st_aload rX7_rateBell_10 rfl ?_
    refine st_getR rX7_rateBell_11 (by first | assumption | decide | exact ⟨by decide, rfl, by decide⟩) (by first | rfl | assumption) rfl ?_
    refine st_getR rX7_rateBell_14 (by assumption) (tR4 (by assumption)) rfl ?_
    refine st_iload rX7_rateBell_17 rfl ?_
    refine cS2i rX7_rateBell_18 (s_at (by first | assumption | decide | exact ⟨by decide, rfl, by decide⟩) (by omega) ?_) rfl
    refine st_top (ht4 b hb) ?_
    refine st_iret rX7_rateBell_21 rfl ?_
    refine st_aload rX7_rateGreat_17 rfl ?_
    refine st_getR rX7_rateGreat_18 (by first | assumption | decide | exact ⟨by decide, rfl, by decide⟩) (by first | rfl | assumption) rfl ?_
    refine st_getR rX7_rateGreat_21 (by assumption) (tR5 (by assumption)) rfl ?_
    refine st_iload rX7_rateGreat_24 rfl ?_
    refine cS2i rX7_rateGreat_25 (s_at (by first | assumption | decide | exact ⟨by decide, rfl, by decide⟩) (by omega) ?_) rfl
    refine st_top (ht5 b hb) ?_
    first | with_reducible refine st_iaddN rX7_rateGreat_28 ?_ | refine st_iadd rX7_rateGreat_28 ?_
    refine st_iret rX7_rateGreat_29 rfl ?_
    refine st_iret rX7_rate_65 rfl ?_
    refine hk _ (fun a ha => by simp only [up_n ha]) ?_
    simp only [up_s, va_up_s, hJ]
    try simp only [Int64.add_assoc]
    rfl
  · 
    refine st_iload rX7_rate_0 rfl ?_
    refine st_c rX7_rate_1 ?_
    refine st_c rX7_rate_2 ?_
    refine cS3i rX7_rate_3 (s_within ?_) rfl
    rw [inR_N (by decide), isT_n hq (by decide)]
    first | with_reducible refine st_if_eqN rX7_rate_6 (by omega) (fun h => absurd h (by first | decide | omega | (simp; done) | simp_all)) (fun _ => ?_) | refine st_if_eq rX7_rate_6 (fun h => absurd h (by first | decide | omega | (simp; done) | simp_all)) (fun _ => ?_)
    refine st_aload rX7_rate_9 rfl ?_
    refine st_getR rX7_rate_10 (by first | assumption | decide | exact ⟨by decide, rfl, by decide⟩) (by first | rfl | assumption) rfl ?_
    refine st_iload rX7_rate_13 rfl ?_
    refine cV2i rX7_rate_14 (by first | assumption | decide | exact ⟨by decide, rfl, by decide⟩) (s_hasTown ht0 ht1 hm6 ?_) rfl (by decide)
    rw [isT_n hb (by omega)]
    first | with_reducible refine st_if_neN rX7_rate_17 (by omega) (fun _ => ?_) (fun h => absurd h (by first | decide | omega | (simp; done) | simp_all)) | refine st_if_ne rX7_rate_17 (fun _ => ?_) (fun h => absurd h (by first | decide | omega | (simp; done) | simp_all))
    refine st_iload rX7_rate_23 rfl ?_
    refine st_tabI rX7_rate_24 1 (by decide) rfl ?_
    refine st_aload rX7_rate_66 rfl ?_
    refine st_iload rX7_rate_67 rfl ?_
    refine cV2i (js := []) rX7_rate_68 (by first | assumption | decide | exact ⟨by decide, rfl, by decide⟩) ?_ rfl (by decide)
    refine st_aload rX7_rateCracked_0 rfl ?_
    refine st_dup rX7_rateCracked_1 rfl ?_
    refine st_getL rX7_rateCracked_2 (by first | assumption | decide | exact ⟨by decide, rfl, by decide⟩) rfl ?_
    refine st_cl rX7_rateCracked_5 ?_
    refine st_ladd rX7_rateCracked_8 ?_
    refine st_putL rfl rX7_rateCracked_9 (by first | assumption | decide | exact ⟨by decide, rfl, by decide⟩) ?_
    refine st_aload rX7_rateCracked_12 rfl ?_
    refine st_iload rX7_rateCracked_13 rfl ?_
    refine cV2i (js := []) rX7_rateCracked_14 (by first | assumption | decide | exact ⟨by decide, rfl, by decide⟩) ?_ rfl (by decide)
    refine st_aload rX7_rateBell_0 rfl ?_
    refine st_dup rX7_rateBell_1 rfl ?_
    refine st_getL rX7_rateBell_2 (by first | assumption | decide | exact ⟨by decide, rfl, by decide⟩) rfl ?_
    refine st_cl rX7_rateBell_5 ?_
    refine st_ladd rX7_rateBell_6 ?_
    refine st_putL rfl rX7_rateBell_7 (by first | assumption | decide | exact ⟨by decide, rfl, by decide⟩) ?_
    refine st_aload rX7_rateBell_10 rfl ?_
    refine st_getR rX7_rateBell_11 (by first | assumption | decide | exact ⟨by decide, rfl, by decide⟩) (by first | rfl | assumption) rfl ?_
    refine st_getR rX7_rateBell_14 (by assumption) (tR4 (by assumption)) rfl ?_
    refine st_iload rX7_rateBell_17 rfl ?_
    refine cS2i rX7_rateBell_18 (s_at (by first | assumption | decide | exact ⟨by decide, rfl, by decide⟩) (by omega) ?_) rfl
    refine st_top (ht4 b hb) ?_
    refine st_iret rX7_rateBell_21 rfl ?_
    refine st_aload rX7_rateCracked_17 rfl ?_
    refine st_getR rX7_rateCracked_18 (by first | assumption | decide | exact ⟨by decide, rfl, by decide⟩) (by first | rfl | assumption) rfl ?_
    refine st_getR rX7_rateCracked_21 (by first | assumption | decide) (by first | rfl | exact hR3 (by assumption)) rfl ?_
    refine st_aload rX7_rateCracked_24 rfl ?_
    refine st_getR rX7_rateCracked_25 (by first | assumption | decide | exact ⟨by decide, rfl, by decide⟩) (by first | rfl | assumption) rfl ?_
    refine st_iload rX7_rateCracked_28 rfl ?_
    refine cV2i rX7_rateCracked_29 (by first | assumption | decide | exact ⟨by decide, rfl, by decide⟩) (s_townOf (p := p) hg (by omega) ((hv.2.2.1 p (by omega)).trans hpb) (by omega) (fun q hq => by obtain ⟨c, h1, h2, h3⟩ := hpf q hq; exact ⟨c, h1, (hv.2.2.1 q (by omega)).trans h2, h3⟩) ?_) rfl (by decide)
    refine cS2i rX7_rateCracked_32 (s_at (by first | assumption | decide | exact ⟨by decide, rfl, by decide⟩) (by omega) ?_) rfl
    refine st_top (hv.2.2.2.1 p hp) ?_
    first | with_reducible refine st_isubN rX7_rateCracked_35 (by omega) ?_ | refine st_isub rX7_rateCracked_35 ?_
    refine st_iret rX7_rateCracked_36 rfl ?_
    refine st_iret rX7_rate_71 rfl ?_
    refine hk _ (fun a ha => by simp only [up_n ha]) ?_
    simp only [up_s, va_up_s, hJ]
    try simp only [Int64.add_assoc]
    rfl
  · 
    refine st_iload rX7_rate_0 rfl ?_
    refine st_c rX7_rate_1 ?_
    refine st_c rX7_rate_2 ?_
    refine cS3i rX7_rate_3 (s_within ?_) rfl
    rw [inR_N (by decide), isT_n hq (by decide)]
    first | with_reducible refine st_if_eqN rX7_rate_6 (by omega) (fun h => absurd h (by first | decide | omega | (simp; done) | simp_all)) (fun _ => ?_) | refine st_if_eq rX7_rate_6 (fun h => absurd h (by first | decide | omega | (simp; done) | simp_all)) (fun _ => ?_)
    refine st_aload rX7_rate_9 rfl ?_
    refine st_getR rX7_rate_10 (by first | assumption | decide | exact ⟨by decide, rfl, by decide⟩) (by first | rfl | assumption) rfl ?_
    refine st_iload rX7_rate_13 rfl ?_
    refine cV2i rX7_rate_14 (by first | assumption | decide | exact ⟨by decide, rfl, by decide⟩) (s_hasTown ht0 ht1 hm6 ?_) rfl (by decide)
    rw [isT_n hb (by omega)]
    first | with_reducible refine st_if_neN rX7_rate_17 (by omega) (fun _ => ?_) (fun h => absurd h (by first | decide | omega | (simp; done) | simp_all)) | refine st_if_ne rX7_rate_17 (fun _ => ?_) (fun h => absurd h (by first | decide | omega | (simp; done) | simp_all))
    refine st_iload rX7_rate_23 rfl ?_
    refine st_tabI rX7_rate_24 2 (by decide) rfl ?_
    refine st_aload rX7_rate_72 rfl ?_
    refine st_iload rX7_rate_73 rfl ?_
    refine cV2i (js := []) rX7_rate_74 (by first | assumption | decide | exact ⟨by decide, rfl, by decide⟩) ?_ rfl (by decide)
    refine st_aload rX7_rateStorm_0 rfl ?_
    refine st_dup rX7_rateStorm_1 rfl ?_
    refine st_getL rX7_rateStorm_2 (by first | assumption | decide | exact ⟨by decide, rfl, by decide⟩) rfl ?_
    refine st_cl rX7_rateStorm_5 ?_
    refine st_ladd rX7_rateStorm_8 ?_
    refine st_putL rfl rX7_rateStorm_9 (by first | assumption | decide | exact ⟨by decide, rfl, by decide⟩) ?_
    refine st_c rX7_rateStorm_12 ?_
    refine st_aload rX7_rateStorm_13 rfl ?_
    refine st_iload rX7_rateStorm_14 rfl ?_
    refine cV2i (js := []) rX7_rateStorm_15 (by first | assumption | decide | exact ⟨by decide, rfl, by decide⟩) ?_ rfl (by decide)
    refine st_aload rX7_rateGreat_0 rfl ?_
    refine st_dup rX7_rateGreat_1 rfl ?_
    refine st_getL rX7_rateGreat_2 (by first | assumption | decide | exact ⟨by decide, rfl, by decide⟩) rfl ?_
    refine st_cl rX7_rateGreat_5 ?_
    refine st_ladd rX7_rateGreat_8 ?_
    refine st_putL rfl rX7_rateGreat_9 (by first | assumption | decide | exact ⟨by decide, rfl, by decide⟩) ?_
    refine st_aload rX7_rateGreat_12 rfl ?_
    refine st_iload rX7_rateGreat_13 rfl ?_
    refine cV2i (js := []) rX7_rateGreat_14 (by first | assumption | decide | exact ⟨by decide, rfl, by decide⟩) ?_ rfl (by decide)
    refine st_aload rX7_rateBell_0 rfl ?_
    refine st_dup rX7_rateBell_1 rfl ?_
    refine st_getL rX7_rateBell_2 (by first | assumption | decide | exact ⟨by decide, rfl, by decide⟩) rfl ?_
    refine st_cl rX7_rateBell_5 ?_
    refine st_ladd rX7_rateBell_6 ?_
    refine st_putL rfl rX7_rateBell_7 (by first | assumption | decide | exact ⟨by decide, rfl, by decide⟩) ?_
    refine st_aload rX7_rateBell_10 rfl ?_
    refine st_getR rX7_rateBell_11 (by first | assumption | decide | exact ⟨by decide, rfl, by decide⟩) (by first | rfl | assumption) rfl ?_
    refine st_getR rX7_rateBell_14 (by assumption) (tR4 (by assumption)) rfl ?_
    refine st_iload rX7_rateBell_17 rfl ?_
    refine cS2i rX7_rateBell_18 (s_at (by first | assumption | decide | exact ⟨by decide, rfl, by decide⟩) (by omega) ?_) rfl
    refine st_top (ht4 b hb) ?_
    refine st_iret rX7_rateBell_21 rfl ?_
    refine st_aload rX7_rateGreat_17 rfl ?_
    refine st_getR rX7_rateGreat_18 (by first | assumption | decide | exact ⟨by decide, rfl, by decide⟩) (by first | rfl | assumption) rfl ?_
    refine st_getR rX7_rateGreat_21 (by assumption) (tR5 (by assumption)) rfl ?_
    refine st_iload rX7_rateGreat_24 rfl ?_
    refine cS2i rX7_rateGreat_25 (s_at (by first | assumption | decide | exact ⟨by decide, rfl, by decide⟩) (by omega) ?_) rfl
    refine st_top (ht5 b hb) ?_
    first | with_reducible refine st_iaddN rX7_rateGreat_28 ?_ | refine st_iadd rX7_rateGreat_28 ?_
    refine st_iret rX7_rateGreat_29 rfl ?_
    first | with_reducible refine st_imulN rX7_rateStorm_18 ?_ | refine st_imul rX7_rateStorm_18 ?_
    refine st_iret rX7_rateStorm_19 rfl ?_
    refine st_iret rX7_rate_77 rfl ?_
    refine hk _ (fun a ha => by simp only [up_n ha]) ?_
    simp only [up_s, va_up_s, hJ]
    try simp only [Int64.add_assoc]
    rfl
  · 
    refine st_iload rX7_rate_0 rfl ?_
    refine st_c rX7_rate_1 ?_
    refine st_c rX7_rate_2 ?_
    refine cS3i rX7_rate_3 (s_within ?_) rfl
    rw [inR_N (by decide), isT_n hq (by decide)]
    first | with_reducible refine st_if_eqN rX7_rate_6 (by omega) (fun h => absurd h (by first | decide | omega | (simp; done) | simp_all)) (fun _ => ?_) | refine st_if_eq rX7_rate_6 (fun h => absurd h (by first | decide | omega | (simp; done) | simp_all)) (fun _ => ?_)
    refine st_aload rX7_rate_9 rfl ?_
    refine st_getR rX7_rate_10 (by first | assumption | decide | exact ⟨by decide, rfl, by decide⟩) (by first | rfl | assumption) rfl ?_
    refine st_iload rX7_rate_13 rfl ?_
    refine cV2i rX7_rate_14 (by first | assumption | decide | exact ⟨by decide, rfl, by decide⟩) (s_hasTown ht0 ht1 hm6 ?_) rfl (by decide)
    rw [isT_n hb (by omega)]
    first | with_reducible refine st_if_neN rX7_rate_17 (by omega) (fun _ => ?_) (fun h => absurd h (by first | decide | omega | (simp; done) | simp_all)) | refine st_if_ne rX7_rate_17 (fun _ => ?_) (fun h => absurd h (by first | decide | omega | (simp; done) | simp_all))
    refine st_iload rX7_rate_23 rfl ?_
    refine st_tabI rX7_rate_24 3 (by decide) rfl ?_
    refine st_aload rX7_rate_78 rfl ?_
    refine st_iload rX7_rate_79 rfl ?_
    refine cV2i (js := []) rX7_rate_80 (by first | assumption | decide | exact ⟨by decide, rfl, by decide⟩) ?_ rfl (by decide)
    refine st_aload rX7_rateRiver_0 rfl ?_
    refine st_dup rX7_rateRiver_1 rfl ?_
    refine st_getL rX7_rateRiver_2 (by first | assumption | decide | exact ⟨by decide, rfl, by decide⟩) rfl ?_
    refine st_cl rX7_rateRiver_5 ?_
    refine st_ladd rX7_rateRiver_8 ?_
    refine st_putL rfl rX7_rateRiver_9 (by first | assumption | decide | exact ⟨by decide, rfl, by decide⟩) ?_
    refine st_aload rX7_rateRiver_12 rfl ?_
    refine st_iload rX7_rateRiver_13 rfl ?_
    refine cV2i (js := []) rX7_rateRiver_14 (by first | assumption | decide | exact ⟨by decide, rfl, by decide⟩) ?_ rfl (by decide)
    refine st_aload rX7_rateCracked_0 rfl ?_
    refine st_dup rX7_rateCracked_1 rfl ?_
    refine st_getL rX7_rateCracked_2 (by first | assumption | decide | exact ⟨by decide, rfl, by decide⟩) rfl ?_
    refine st_cl rX7_rateCracked_5 ?_
    refine st_ladd rX7_rateCracked_8 ?_
    refine st_putL rfl rX7_rateCracked_9 (by first | assumption | decide | exact ⟨by decide, rfl, by decide⟩) ?_
    refine st_aload rX7_rateCracked_12 rfl ?_
    refine st_iload rX7_rateCracked_13 rfl ?_
    refine cV2i (js := []) rX7_rateCracked_14 (by first | assumption | decide | exact ⟨by decide, rfl, by decide⟩) ?_ rfl (by decide)
    refine st_aload rX7_rateBell_0 rfl ?_
    refine st_dup rX7_rateBell_1 rfl ?_
    refine st_getL rX7_rateBell_2 (by first | assumption | decide | exact ⟨by decide, rfl, by decide⟩) rfl ?_
    refine st_cl rX7_rateBell_5 ?_
    refine st_ladd rX7_rateBell_6 ?_
    refine st_putL rfl rX7_rateBell_7 (by first | assumption | decide | exact ⟨by decide, rfl, by decide⟩) ?_
    refine st_aload rX7_rateBell_10 rfl ?_
    refine st_getR rX7_rateBell_11 (by first | assumption | decide | exact ⟨by decide, rfl, by decide⟩) (by first | rfl | assumption) rfl ?_
    refine st_getR rX7_rateBell_14 (by assumption) (tR4 (by assumption)) rfl ?_
    refine st_iload rX7_rateBell_17 rfl ?_
    refine cS2i rX7_rateBell_18 (s_at (by first | assumption | decide | exact ⟨by decide, rfl, by decide⟩) (by omega) ?_) rfl
    refine st_top (ht4 b hb) ?_
    refine st_iret rX7_rateBell_21 rfl ?_
    refine st_aload rX7_rateCracked_17 rfl ?_
    refine st_getR rX7_rateCracked_18 (by first | assumption | decide | exact ⟨by decide, rfl, by decide⟩) (by first | rfl | assumption) rfl ?_
    refine st_getR rX7_rateCracked_21 (by first | assumption | decide) (by first | rfl | exact hR3 (by assumption)) rfl ?_
    refine st_aload rX7_rateCracked_24 rfl ?_
    refine st_getR rX7_rateCracked_25 (by first | assumption | decide | exact ⟨by decide, rfl, by decide⟩) (by first | rfl | assumption) rfl ?_
    refine st_iload rX7_rateCracked_28 rfl ?_
    refine cV2i rX7_rateCracked_29 (by first | assumption | decide | exact ⟨by decide, rfl, by decide⟩) (s_townOf (p := p) hg (by omega) ((hv.2.2.1 p (by omega)).trans hpb) (by omega) (fun q hq => by obtain ⟨c, h1, h2, h3⟩ := hpf q hq; exact ⟨c, h1, (hv.2.2.1 q (by omega)).trans h2, h3⟩) ?_) rfl (by decide)
    refine cS2i rX7_rateCracked_32 (s_at (by first | assumption | decide | exact ⟨by decide, rfl, by decide⟩) (by omega) ?_) rfl
    refine st_top (hv.2.2.2.1 p hp) ?_
    first | with_reducible refine st_isubN rX7_rateCracked_35 (by omega) ?_ | refine st_isub rX7_rateCracked_35 ?_
    refine st_iret rX7_rateCracked_36 rfl ?_
    refine st_iload rX7_rateRiver_17 rfl ?_
    first | with_reducible refine st_iaddN rX7_rateRiver_18 ?_ | refine st_iadd rX7_rateRiver_18 ?_
    refine st_iret rX7_rateRiver_19 rfl ?_
    refine st_iret rX7_rate_83 rfl ?_
    refine hk _ (fun a ha => by simp only [up_n ha]) ?_
    simp only [up_s, va_up_s, hJ]
    try simp only [Int64.add_assoc]
    rfl
  · 
    refine st_iload rX7_rate_0 rfl ?_
    refine st_c rX7_rate_1 ?_
    refine st_c rX7_rate_2 ?_
    refine cS3i rX7_rate_3 (s_within ?_) rfl
    rw [inR_N (by decide), isT_n hq (by decide)]
    first | with_reducible refine st_if_eqN rX7_rate_6 (by omega) (fun h => absurd h (by first | decide | omega | (simp; done) | simp_all)) (fun _ => ?_) | refine st_if_eq rX7_rate_6 (fun h => absurd h (by first | decide | omega | (simp; done) | simp_all)) (fun _ => ?_)
    refine st_aload rX7_rate_9 rfl ?_
    refine st_getR rX7_rate_10 (by first | assumption | decide | exact ⟨by decide, rfl, by decide⟩) (by first | rfl | assumption) rfl ?_
    refine st_iload rX7_rate_13 rfl ?_
    refine cV2i rX7_rate_14 (by first | assumption | decide | exact ⟨by decide, rfl, by decide⟩) (s_hasTown ht0 ht1 hm6 ?_) rfl (by decide)
    rw [isT_n hb (by omega)]
    first | with_reducible refine st_if_neN rX7_rate_17 (by omega) (fun _ => ?_) (fun h => absurd h (by first | decide | omega | (simp; done) | simp_all)) | refine st_if_ne rX7_rate_17 (fun _ => ?_) (fun h => absurd h (by first | decide | omega | (simp; done) | simp_all))
    refine st_iload rX7_rate_23 rfl ?_
    refine st_tabI rX7_rate_24 4 (by decide) rfl ?_
    refine st_aload rX7_rate_84 rfl ?_
    refine st_iload rX7_rate_85 rfl ?_
    refine cV2i (js := []) rX7_rate_86 (by first | assumption | decide | exact ⟨by decide, rfl, by decide⟩) ?_ rfl (by decide)
    refine st_aload rX7_rateCow_0 rfl ?_
    refine st_dup rX7_rateCow_1 rfl ?_
    refine st_getL rX7_rateCow_2 (by first | assumption | decide | exact ⟨by decide, rfl, by decide⟩) rfl ?_
    refine st_cl rX7_rateCow_5 ?_
    refine st_ladd rX7_rateCow_8 ?_
    refine st_putL rfl rX7_rateCow_9 (by first | assumption | decide | exact ⟨by decide, rfl, by decide⟩) ?_
    refine st_aload rX7_rateCow_12 rfl ?_
    refine st_iload rX7_rateCow_13 rfl ?_
    refine cV2i (js := []) rX7_rateCow_14 (by first | assumption | decide | exact ⟨by decide, rfl, by decide⟩) ?_ rfl (by decide)
    refine st_aload rX7_rateBell_0 rfl ?_
    refine st_dup rX7_rateBell_1 rfl ?_
    refine st_getL rX7_rateBell_2 (by first | assumption | decide | exact ⟨by decide, rfl, by decide⟩) rfl ?_
    refine st_cl rX7_rateBell_5 ?_
    refine st_ladd rX7_rateBell_6 ?_
    refine st_putL rfl rX7_rateBell_7 (by first | assumption | decide | exact ⟨by decide, rfl, by decide⟩) ?_
    refine st_aload rX7_rateBell_10 rfl ?_
    refine st_getR rX7_rateBell_11 (by first | assumption | decide | exact ⟨by decide, rfl, by decide⟩) (by first | rfl | assumption) rfl ?_
    refine st_getR rX7_rateBell_14 (by assumption) (tR4 (by assumption)) rfl ?_
    refine st_iload rX7_rateBell_17 rfl ?_
    refine cS2i rX7_rateBell_18 (s_at (by first | assumption | decide | exact ⟨by decide, rfl, by decide⟩) (by omega) ?_) rfl
    refine st_top (ht4 b hb) ?_
    refine st_iret rX7_rateBell_21 rfl ?_
    refine st_aload rX7_rateCow_17 rfl ?_
    refine st_getR rX7_rateCow_18 (by first | assumption | decide | exact ⟨by decide, rfl, by decide⟩) (by first | rfl | assumption) rfl ?_
    refine st_getI rX7_rateCow_21 (by first | assumption | decide | exact ⟨by decide, rfl, by decide⟩) rfl ?_
    refine st_top hv.1 ?_
    first | with_reducible refine st_iaddN rX7_rateCow_24 ?_ | refine st_iadd rX7_rateCow_24 ?_
    refine st_iret rX7_rateCow_25 rfl ?_
    refine st_iret rX7_rate_89 rfl ?_
    refine hk _ (fun a ha => by simp only [up_n ha]) ?_
    simp only [up_s, va_up_s, hJ]
    try simp only [Int64.add_assoc]
    rfl
set_option maxHeartbeats 4000000 in
set_option maxRecDepth 100000 in
theorem c_rateBad {q b : Int32} (hC : InvC I J ρ A T m no) (hO : OkA A m no) (hb : isT 6 q = false ∨ isT m b = false) (hk : k (-1000000) (I, J, vRR ρ)) : V (d + 2) 123 123 mX7_rate 0 [.ref 0, .int q, .int b] [] (I, J, vRR ρ) (Ki k) := by
  obtain ⟨ht0, ht1, ht2, ht3, ht4, ht5, ht6, ht7, ht8, ht9, ht10⟩ := id hC.1
  obtain ⟨hto, o1, o2, o3, o4, o5, o6, o7, o8⟩ := toldF ht0
  have hm6 : m ≤ 6 := hO.1.2.2.1
  have hno6 : no ≤ 6 := hO.1.2.2.2.1
  by_cases hb1 : isT 6 q = true
  · have hb2 : isT m b = false := by rcases hb with h | h; exact absurd hb1 (by rw [h]; decide); exact h
    refine st_iload rX7_rate_0 rfl ?_
    refine st_c rX7_rate_1 ?_
    refine st_c rX7_rate_2 ?_
    refine cS3i rX7_rate_3 (s_within ?_) rfl
    rw [inR_N (by decide), hb1]
    first | with_reducible refine st_if_eqN rX7_rate_6 (by omega) (fun h => absurd h (by first | decide | omega | (simp; done) | simp_all)) (fun _ => ?_) | refine st_if_eq rX7_rate_6 (fun h => absurd h (by first | decide | omega | (simp; done) | simp_all)) (fun _ => ?_)
    refine st_aload rX7_rate_9 rfl ?_
    refine st_getR rX7_rate_10 (by first | assumption | decide | exact ⟨by decide, rfl, by decide⟩) (by first | rfl | assumption) rfl ?_
    refine st_iload rX7_rate_13 rfl ?_
    refine cV2i rX7_rate_14 (by first | assumption | decide | exact ⟨by decide, rfl, by decide⟩) (s_hasTown ht0 ht1 hm6 ?_) rfl (by decide)
    rw [hb2]
    first | with_reducible refine st_if_neN rX7_rate_17 (by omega) (fun h => absurd h (by first | decide | omega | (simp; done) | simp_all)) (fun _ => ?_) | refine st_if_ne rX7_rate_17 (fun h => absurd h (by first | decide | omega | (simp; done) | simp_all)) (fun _ => ?_)
    refine st_c rX7_rate_20 ?_
    refine st_iret rX7_rate_22 rfl ?_
    exact hk
  · have hb1 : isT 6 q = false := by simpa using hb1
    refine st_iload rX7_rate_0 rfl ?_
    refine st_c rX7_rate_1 ?_
    refine st_c rX7_rate_2 ?_
    refine cS3i rX7_rate_3 (s_within ?_) rfl
    rw [inR_N (by decide), hb1]
    first | with_reducible refine st_if_eqN rX7_rate_6 (by omega) (fun _ => ?_) (fun h => absurd h (by first | decide | omega | (simp; done) | simp_all)) | refine st_if_eq rX7_rate_6 (fun _ => ?_) (fun h => absurd h (by first | decide | omega | (simp; done) | simp_all))
    refine st_c rX7_rate_20 ?_
    refine st_iret rX7_rate_22 rfl ?_
    exact hk
set_option maxHeartbeats 4000000 in
set_option maxRecDepth 100000 in
theorem m_rateBad {q b : Int32} (hM : InvM I J A T) (hO : OkA A m no) (hb : isT 6 q = false ∨ isT m b = false) (hk : ∀ I', (∀ a, a < 103 ∨ 123 ≤ a → I' a = I a) → InvM I' J A T → k (-1000000) (I', J, vRR ρ)) : V (d + 2) 123 123 mX8_rate 0 [.ref 103, .int q, .int b, vJ, vJ] [] (I, J, vRR ρ) (Ki k) := by
  refine s_thr rX8_rate_0 rX8_rate_1 rX8_rate_2 hM (fun I1 e1 e2 hM1 => ?_)
  have hm6 : m ≤ 6 := hO.1.2.2.1
  have hno6 : no ≤ 6 := hO.1.2.2.2.1
  obtain ⟨m1, m2, m3, m4, m5, m6, m7, m8, m9, m10, m11, m12, m13, m14, m15, m16⟩ := id hM1
  have hmm : I1 105 0 = nI m := m11.trans hO.1.1
  have hmo : I1 105 1 = nI no := m12.trans hO.1.2.1
  by_cases hb1 : isT 6 q = true
  · have hb2 : isT m b = false := by rcases hb with h | h; exact absurd hb1 (by rw [h]; decide); exact h
    refine st_iload rX8_rate_5 rfl ?_
    refine st_c rX8_rate_6 ?_
    refine st_c rX8_rate_7 ?_
    refine cS3i rX8_rate_8 (s_in ?_) rfl
    rw [inR_N (by decide), hb1]
    first | with_reducible refine st_if_eqN rX8_rate_11 (by omega) (fun h => absurd h (by first | decide | omega | (simp; done) | simp_all)) (fun _ => ?_) | refine st_if_eq rX8_rate_11 (fun h => absurd h (by first | decide | omega | (simp; done) | simp_all)) (fun _ => ?_)
    refine st_aload rX8_rate_14 rfl ?_
    refine st_iload rX8_rate_15 rfl ?_
    refine cV2i rX8_rate_16 (by first | assumption | decide | exact ⟨by decide, rfl, by decide⟩) (s_isTown hmm hm6 ?_) rfl (by decide)
    rw [hb2]
    first | with_reducible refine st_if_neN rX8_rate_19 (by omega) (fun h => absurd h (by first | decide | omega | (simp; done) | simp_all)) (fun _ => ?_) | refine st_if_ne rX8_rate_19 (fun h => absurd h (by first | decide | omega | (simp; done) | simp_all)) (fun _ => ?_)
    refine st_c rX8_rate_22 ?_
    refine st_iret rX8_rate_24 rfl ?_
    exact hk I1 (fun a ha => e1 a (by omega)) hM1
  · have hb1 : isT 6 q = false := by simpa using hb1
    refine st_iload rX8_rate_5 rfl ?_
    refine st_c rX8_rate_6 ?_
    refine st_c rX8_rate_7 ?_
    refine cS3i rX8_rate_8 (s_in ?_) rfl
    rw [inR_N (by decide), hb1]
    first | with_reducible refine st_if_eqN rX8_rate_11 (by omega) (fun _ => ?_) (fun h => absurd h (by first | decide | omega | (simp; done) | simp_all)) | refine st_if_eq rX8_rate_11 (fun _ => ?_) (fun h => absurd h (by first | decide | omega | (simp; done) | simp_all))
    refine st_c rX8_rate_22 ?_
    refine st_iret rX8_rate_24 rfl ?_
    exact hk I1 (fun a ha => e1 a (by omega)) hM1
set_option maxHeartbeats 4000000 in
set_option maxRecDepth 100000 in
theorem m_rate {b p q : Nat} (hM : InvM I J A T) (hO : OkA A m no) (hb : b < m) (hq : q < 6) (hp : p < m) (hpb : A 114 (2 + p) = nI b) (hpf : ∀ q, q < p → ∃ c, c < 6 ∧ A 114 (2 + q) = nI c ∧ c ≠ b) (hk : ∀ I' J', (∀ a, a < 103 ∨ 123 ≤ a → I' a = I a) → (∀ a, a ≠ 103 → J' a = J a) → InvM I' J' A (T + rateT q) → k (rateR A b p q) (I', J', vRR ρ)) : V (d + 2) 123 123 mX8_rate 0 [.ref 103, .int (nI q), .int (nI b), vJ, vJ] [] (I, J, vRR ρ) (Ki k) := by
  refine s_thr rX8_rate_0 rX8_rate_1 rX8_rate_2 hM (fun I1 e1 e2 hM1 => ?_)
  have hm6 : m ≤ 6 := hO.1.2.2.1
  have hno6 : no ≤ 6 := hO.1.2.2.2.1
  obtain ⟨m1, m2, m3, m4, m5, m6, m7, m8, m9, m10, m11, m12, m13, m14, m15, m16⟩ := id hM1
  have hmm : I1 105 0 = nI m := m11.trans hO.1.1
  have hmo : I1 105 1 = nI no := m12.trans hO.1.2.1
  rcases (show q = 0 ∨ q = 1 ∨ q = 2 ∨ q = 3 ∨ q = 4 ∨ q = 5 by omega) with rfl | rfl | rfl | rfl | rfl | rfl
  · 
    refine st_iload rX8_rate_5 rfl ?_
    refine st_c rX8_rate_6 ?_
    refine st_c rX8_rate_7 ?_
    refine cS3i rX8_rate_8 (s_in ?_) rfl
    rw [inR_N (by decide), isT_n hq (by decide)]
    first | with_reducible refine st_if_eqN rX8_rate_11 (by omega) (fun h => absurd h (by first | decide | omega | (simp; done) | simp_all)) (fun _ => ?_) | refine st_if_eq rX8_rate_11 (fun h => absurd h (by first | decide | omega | (simp; done) | simp_all)) (fun _ => ?_)
    refine st_aload rX8_rate_14 rfl ?_
    refine st_iload rX8_rate_15 rfl ?_
    refine cV2i rX8_rate_16 (by first | assumption | decide | exact ⟨by decide, rfl, by decide⟩) (s_isTown hmm hm6 ?_) rfl (by decide)
    rw [isT_n hb (by omega)]
    first | with_reducible refine st_if_neN rX8_rate_19 (by omega) (fun _ => ?_) (fun h => absurd h (by first | decide | omega | (simp; done) | simp_all)) | refine st_if_ne rX8_rate_19 (fun _ => ?_) (fun h => absurd h (by first | decide | omega | (simp; done) | simp_all))
    refine st_aload rX8_rate_25 rfl ?_
    refine st_getR rX8_rate_26 (by first | assumption | decide | exact ⟨by decide, rfl, by decide⟩) (by first | rfl | assumption) rfl ?_
    refine st_iload rX8_rate_29 rfl ?_
    refine st_ialdN rX8_rate_30 (by first | assumption | decide | exact ⟨by decide, rfl, by decide⟩) (by omega) ?_
    refine st_top (m9 b (by omega)).1 ?_
    refine st_istore3 rX8_rate_31 rfl ?_
    refine st_iload rX8_rate_32 rfl ?_
    refine st_aload rX8_rate_33 rfl ?_
    refine st_getR rX8_rate_34 (by first | assumption | decide | exact ⟨by decide, rfl, by decide⟩) (by first | rfl | assumption) rfl ?_
    refine st_c rX8_rate_37 ?_
    refine st_aload rX8_rate_39 rfl ?_
    refine st_getR rX8_rate_40 (by first | assumption | decide | exact ⟨by decide, rfl, by decide⟩) (by first | rfl | assumption) rfl ?_
    refine st_iload rX8_rate_43 rfl ?_
    refine cS2i rX8_rate_44 (s_hangs (p := p) ⟨by decide, rfl, by decide⟩ (by decide) (by omega) (show I1 114 (2 + p) = nI b by rw [m3]; exact hpb) (by omega) (fun q hq => by rw [m3]; exact hpf q hq) ?_) rfl
    first | with_reducible refine st_iaddN rX8_rate_47 ?_ | refine st_iadd rX8_rate_47 ?_
    refine st_ialdN rX8_rate_48 (by first | assumption | decide | exact ⟨by decide, rfl, by decide⟩) (by omega) ?_
    rw [m3]
    first | with_reducible refine st_isubN rX8_rate_49 (by omega) ?_ | refine st_isub rX8_rate_49 ?_
    refine st_istore4 rX8_rate_50 rfl ?_
    refine st_aload rX8_rate_52 rfl ?_
    refine st_dup rX8_rate_53 rfl ?_
    refine st_getL rX8_rate_54 (by first | assumption | decide | exact ⟨by decide, rfl, by decide⟩) rfl ?_
    refine st_iload rX8_rate_57 rfl ?_
    first | with_reducible refine st_if_neN rX8_rate_58 (by omega) (fun h => absurd h (by first | decide | omega | (simp; done) | simp_all)) (fun _ => ?_) | refine st_if_ne rX8_rate_58 (fun h => absurd h (by first | decide | omega | (simp; done) | simp_all)) (fun _ => ?_)
    refine st_cl rX8_rate_61 ?_
    refine st_goto rX8_rate_62 ?_
    refine st_ladd rX8_rate_112 ?_
    refine st_putL rfl rX8_rate_113 (by first | assumption | decide | exact ⟨by decide, rfl, by decide⟩) ?_
    refine st_iload rX8_rate_116 rfl ?_
    first | with_reducible refine st_if_neN rX8_rate_117 (by omega) (fun h => absurd h (by first | decide | omega | (simp; done) | simp_all)) (fun _ => ?_) | refine st_if_ne rX8_rate_117 (fun h => absurd h (by first | decide | omega | (simp; done) | simp_all)) (fun _ => ?_)
    refine st_iload rX8_rate_120 rfl ?_
    refine st_goto rX8_rate_121 ?_
    refine st_iret rX8_rate_188 rfl ?_
    refine hk I1 _ (fun a ha => e1 a (by omega)) (fun a ha => up_n ha) ?_
    refine ⟨m1, m2, m3, m4, m5, m6, m7, m8, m9, m10, m11, m12, m13, m14, m15, ?_⟩
    simp only [up_s, va_up_s, m16]
    rfl
  · 
    refine st_iload rX8_rate_5 rfl ?_
    refine st_c rX8_rate_6 ?_
    refine st_c rX8_rate_7 ?_
    refine cS3i rX8_rate_8 (s_in ?_) rfl
    rw [inR_N (by decide), isT_n hq (by decide)]
    first | with_reducible refine st_if_eqN rX8_rate_11 (by omega) (fun h => absurd h (by first | decide | omega | (simp; done) | simp_all)) (fun _ => ?_) | refine st_if_eq rX8_rate_11 (fun h => absurd h (by first | decide | omega | (simp; done) | simp_all)) (fun _ => ?_)
    refine st_aload rX8_rate_14 rfl ?_
    refine st_iload rX8_rate_15 rfl ?_
    refine cV2i rX8_rate_16 (by first | assumption | decide | exact ⟨by decide, rfl, by decide⟩) (s_isTown hmm hm6 ?_) rfl (by decide)
    rw [isT_n hb (by omega)]
    first | with_reducible refine st_if_neN rX8_rate_19 (by omega) (fun _ => ?_) (fun h => absurd h (by first | decide | omega | (simp; done) | simp_all)) | refine st_if_ne rX8_rate_19 (fun _ => ?_) (fun h => absurd h (by first | decide | omega | (simp; done) | simp_all))
    refine st_aload rX8_rate_25 rfl ?_
    refine st_getR rX8_rate_26 (by first | assumption | decide | exact ⟨by decide, rfl, by decide⟩) (by first | rfl | assumption) rfl ?_
    refine st_iload rX8_rate_29 rfl ?_
    refine st_ialdN rX8_rate_30 (by first | assumption | decide | exact ⟨by decide, rfl, by decide⟩) (by omega) ?_
    refine st_top (m9 b (by omega)).1 ?_
    refine st_istore3 rX8_rate_31 rfl ?_
    refine st_iload rX8_rate_32 rfl ?_
    refine st_aload rX8_rate_33 rfl ?_
    refine st_getR rX8_rate_34 (by first | assumption | decide | exact ⟨by decide, rfl, by decide⟩) (by first | rfl | assumption) rfl ?_
    refine st_c rX8_rate_37 ?_
    refine st_aload rX8_rate_39 rfl ?_
    refine st_getR rX8_rate_40 (by first | assumption | decide | exact ⟨by decide, rfl, by decide⟩) (by first | rfl | assumption) rfl ?_
    refine st_iload rX8_rate_43 rfl ?_
    refine cS2i rX8_rate_44 (s_hangs (p := p) ⟨by decide, rfl, by decide⟩ (by decide) (by omega) (show I1 114 (2 + p) = nI b by rw [m3]; exact hpb) (by omega) (fun q hq => by rw [m3]; exact hpf q hq) ?_) rfl
    first | with_reducible refine st_iaddN rX8_rate_47 ?_ | refine st_iadd rX8_rate_47 ?_
    refine st_ialdN rX8_rate_48 (by first | assumption | decide | exact ⟨by decide, rfl, by decide⟩) (by omega) ?_
    rw [m3]
    first | with_reducible refine st_isubN rX8_rate_49 (by omega) ?_ | refine st_isub rX8_rate_49 ?_
    refine st_istore4 rX8_rate_50 rfl ?_
    refine st_aload rX8_rate_52 rfl ?_
    refine st_dup rX8_rate_53 rfl ?_
    refine st_getL rX8_rate_54 (by first | assumption | decide | exact ⟨by decide, rfl, by decide⟩) rfl ?_
    refine st_iload rX8_rate_57 rfl ?_
    first | with_reducible refine st_if_neN rX8_rate_58 (by omega) (fun _ => ?_) (fun h => absurd h (by first | decide | omega | (simp; done) | simp_all)) | refine st_if_ne rX8_rate_58 (fun _ => ?_) (fun h => absurd h (by first | decide | omega | (simp; done) | simp_all))
    refine st_iload rX8_rate_65 rfl ?_
    refine st_c rX8_rate_66 ?_
    first | with_reducible refine st_icmp_neN rX8_rate_67 (by omega) (by omega) (fun h => absurd h (by first | decide | omega | (simp; done) | simp_all)) (fun _ => ?_) | refine st_icmp_ne rX8_rate_67 (fun h => absurd h (by first | decide | omega | (simp; done) | simp_all)) (fun _ => ?_)
    refine st_cl rX8_rate_70 ?_
    refine st_goto rX8_rate_73 ?_
    refine st_ladd rX8_rate_112 ?_
    refine st_putL rfl rX8_rate_113 (by first | assumption | decide | exact ⟨by decide, rfl, by decide⟩) ?_
    refine st_iload rX8_rate_116 rfl ?_
    first | with_reducible refine st_if_neN rX8_rate_117 (by omega) (fun _ => ?_) (fun h => absurd h (by first | decide | omega | (simp; done) | simp_all)) | refine st_if_ne rX8_rate_117 (fun _ => ?_) (fun h => absurd h (by first | decide | omega | (simp; done) | simp_all))
    refine st_iload rX8_rate_124 rfl ?_
    refine st_c rX8_rate_125 ?_
    first | with_reducible refine st_icmp_neN rX8_rate_126 (by omega) (by omega) (fun h => absurd h (by first | decide | omega | (simp; done) | simp_all)) (fun _ => ?_) | refine st_icmp_ne rX8_rate_126 (fun h => absurd h (by first | decide | omega | (simp; done) | simp_all)) (fun _ => ?_)
    refine st_iload rX8_rate_129 rfl ?_
    refine st_aload rX8_rate_130 rfl ?_
    refine st_getR rX8_rate_131 (by first | assumption | decide | exact ⟨by decide, rfl, by decide⟩) (by first | rfl | assumption) rfl ?_
    refine st_iload rX8_rate_134 rfl ?_
    refine st_ialdN rX8_rate_135 (by first | assumption | decide | exact ⟨by decide, rfl, by decide⟩) (by omega) ?_
    refine st_top (m9 b (by omega)).2.1 ?_
    first | with_reducible refine st_iaddN rX8_rate_136 ?_ | refine st_iadd rX8_rate_136 ?_
    refine st_goto rX8_rate_137 ?_
    refine st_iret rX8_rate_188 rfl ?_
    refine hk I1 _ (fun a ha => e1 a (by omega)) (fun a ha => up_n ha) ?_
    refine ⟨m1, m2, m3, m4, m5, m6, m7, m8, m9, m10, m11, m12, m13, m14, m15, ?_⟩
    simp only [up_s, va_up_s, m16]
    rfl
  · 
    refine st_iload rX8_rate_5 rfl ?_
    refine st_c rX8_rate_6 ?_
    refine st_c rX8_rate_7 ?_
    refine cS3i rX8_rate_8 (s_in ?_) rfl
    rw [inR_N (by decide), isT_n hq (by decide)]
    first | with_reducible refine st_if_eqN rX8_rate_11 (by omega) (fun h => absurd h (by first | decide | omega | (simp; done) | simp_all)) (fun _ => ?_) | refine st_if_eq rX8_rate_11 (fun h => absurd h (by first | decide | omega | (simp; done) | simp_all)) (fun _ => ?_)
    refine st_aload rX8_rate_14 rfl ?_
    refine st_iload rX8_rate_15 rfl ?_
    refine cV2i rX8_rate_16 (by first | assumption | decide | exact ⟨by decide, rfl, by decide⟩) (s_isTown hmm hm6 ?_) rfl (by decide)
    rw [isT_n hb (by omega)]
    first | with_reducible refine st_if_neN rX8_rate_19 (by omega) (fun _ => ?_) (fun h => absurd h (by first | decide | omega | (simp; done) | simp_all)) | refine st_if_ne rX8_rate_19 (fun _ => ?_) (fun h => absurd h (by first | decide | omega | (simp; done) | simp_all))
    refine st_aload rX8_rate_25 rfl ?_
    refine st_getR rX8_rate_26 (by first | assumption | decide | exact ⟨by decide, rfl, by decide⟩) (by first | rfl | assumption) rfl ?_
    refine st_iload rX8_rate_29 rfl ?_
    refine st_ialdN rX8_rate_30 (by first | assumption | decide | exact ⟨by decide, rfl, by decide⟩) (by omega) ?_
    refine st_top (m9 b (by omega)).1 ?_
    refine st_istore3 rX8_rate_31 rfl ?_
    refine st_iload rX8_rate_32 rfl ?_
    refine st_aload rX8_rate_33 rfl ?_
    refine st_getR rX8_rate_34 (by first | assumption | decide | exact ⟨by decide, rfl, by decide⟩) (by first | rfl | assumption) rfl ?_
    refine st_c rX8_rate_37 ?_
    refine st_aload rX8_rate_39 rfl ?_
    refine st_getR rX8_rate_40 (by first | assumption | decide | exact ⟨by decide, rfl, by decide⟩) (by first | rfl | assumption) rfl ?_
    refine st_iload rX8_rate_43 rfl ?_
    refine cS2i rX8_rate_44 (s_hangs (p := p) ⟨by decide, rfl, by decide⟩ (by decide) (by omega) (show I1 114 (2 + p) = nI b by rw [m3]; exact hpb) (by omega) (fun q hq => by rw [m3]; exact hpf q hq) ?_) rfl
    first | with_reducible refine st_iaddN rX8_rate_47 ?_ | refine st_iadd rX8_rate_47 ?_
    refine st_ialdN rX8_rate_48 (by first | assumption | decide | exact ⟨by decide, rfl, by decide⟩) (by omega) ?_
    rw [m3]
    first | with_reducible refine st_isubN rX8_rate_49 (by omega) ?_ | refine st_isub rX8_rate_49 ?_
    refine st_istore4 rX8_rate_50 rfl ?_
    refine st_aload rX8_rate_52 rfl ?_
    refine st_dup rX8_rate_53 rfl ?_
    refine st_getL rX8_rate_54 (by first | assumption | decide | exact ⟨by decide, rfl, by decide⟩) rfl ?_
    refine st_iload rX8_rate_57 rfl ?_
    first | with_reducible refine st_if_neN rX8_rate_58 (by omega) (fun _ => ?_) (fun h => absurd h (by first | decide | omega | (simp; done) | simp_all)) | refine st_if_ne rX8_rate_58 (fun _ => ?_) (fun h => absurd h (by first | decide | omega | (simp; done) | simp_all))
    refine st_iload rX8_rate_65 rfl ?_
    refine st_c rX8_rate_66 ?_
    first | with_reducible refine st_icmp_neN rX8_rate_67 (by omega) (by omega) (fun _ => ?_) (fun h => absurd h (by first | decide | omega | (simp; done) | simp_all)) | refine st_icmp_ne rX8_rate_67 (fun _ => ?_) (fun h => absurd h (by first | decide | omega | (simp; done) | simp_all))
    refine st_iload rX8_rate_76 rfl ?_
    refine st_c rX8_rate_77 ?_
    first | with_reducible refine st_icmp_neN rX8_rate_78 (by omega) (by omega) (fun h => absurd h (by first | decide | omega | (simp; done) | simp_all)) (fun _ => ?_) | refine st_icmp_ne rX8_rate_78 (fun h => absurd h (by first | decide | omega | (simp; done) | simp_all)) (fun _ => ?_)
    refine st_cl rX8_rate_81 ?_
    refine st_goto rX8_rate_84 ?_
    refine st_ladd rX8_rate_112 ?_
    refine st_putL rfl rX8_rate_113 (by first | assumption | decide | exact ⟨by decide, rfl, by decide⟩) ?_
    refine st_iload rX8_rate_116 rfl ?_
    first | with_reducible refine st_if_neN rX8_rate_117 (by omega) (fun _ => ?_) (fun h => absurd h (by first | decide | omega | (simp; done) | simp_all)) | refine st_if_ne rX8_rate_117 (fun _ => ?_) (fun h => absurd h (by first | decide | omega | (simp; done) | simp_all))
    refine st_iload rX8_rate_124 rfl ?_
    refine st_c rX8_rate_125 ?_
    first | with_reducible refine st_icmp_neN rX8_rate_126 (by omega) (by omega) (fun _ => ?_) (fun h => absurd h (by first | decide | omega | (simp; done) | simp_all)) | refine st_icmp_ne rX8_rate_126 (fun _ => ?_) (fun h => absurd h (by first | decide | omega | (simp; done) | simp_all))
    refine st_iload rX8_rate_140 rfl ?_
    refine st_c rX8_rate_141 ?_
    first | with_reducible refine st_icmp_neN rX8_rate_142 (by omega) (by omega) (fun h => absurd h (by first | decide | omega | (simp; done) | simp_all)) (fun _ => ?_) | refine st_icmp_ne rX8_rate_142 (fun h => absurd h (by first | decide | omega | (simp; done) | simp_all)) (fun _ => ?_)
    refine st_iload rX8_rate_145 rfl ?_
    refine st_goto rX8_rate_147 ?_
    refine st_iret rX8_rate_188 rfl ?_
    refine hk I1 _ (fun a ha => e1 a (by omega)) (fun a ha => up_n ha) ?_
    refine ⟨m1, m2, m3, m4, m5, m6, m7, m8, m9, m10, m11, m12, m13, m14, m15, ?_⟩
    simp only [up_s, va_up_s, m16]
    rfl
  · 
    refine st_iload rX8_rate_5 rfl ?_
    refine st_c rX8_rate_6 ?_
    refine st_c rX8_rate_7 ?_
    refine cS3i rX8_rate_8 (s_in ?_) rfl
    rw [inR_N (by decide), isT_n hq (by decide)]
    first | with_reducible refine st_if_eqN rX8_rate_11 (by omega) (fun h => absurd h (by first | decide | omega | (simp; done) | simp_all)) (fun _ => ?_) | refine st_if_eq rX8_rate_11 (fun h => absurd h (by first | decide | omega | (simp; done) | simp_all)) (fun _ => ?_)
    refine st_aload rX8_rate_14 rfl ?_
    refine st_iload rX8_rate_15 rfl ?_
    refine cV2i rX8_rate_16 (by first | assumption | decide | exact ⟨by decide, rfl, by decide⟩) (s_isTown hmm hm6 ?_) rfl (by decide)
    rw [isT_n hb (by omega)]
    first | with_reducible refine st_if_neN rX8_rate_19 (by omega) (fun _ => ?_) (fun h => absurd h (by first | decide | omega | (simp; done) | simp_all)) | refine st_if_ne rX8_rate_19 (fun _ => ?_) (fun h => absurd h (by first | decide | omega | (simp; done) | simp_all))
    refine st_aload rX8_rate_25 rfl ?_
    refine st_getR rX8_rate_26 (by first | assumption | decide | exact ⟨by decide, rfl, by decide⟩) (by first | rfl | assumption) rfl ?_
    refine st_iload rX8_rate_29 rfl ?_
    refine st_ialdN rX8_rate_30 (by first | assumption | decide | exact ⟨by decide, rfl, by decide⟩) (by omega) ?_
    refine st_top (m9 b (by omega)).1 ?_
    refine st_istore3 rX8_rate_31 rfl ?_
    refine st_iload rX8_rate_32 rfl ?_
    refine st_aload rX8_rate_33 rfl ?_
    refine st_getR rX8_rate_34 (by first | assumption | decide | exact ⟨by decide, rfl, by decide⟩) (by first | rfl | assumption) rfl ?_
    refine st_c rX8_rate_37 ?_
    refine st_aload rX8_rate_39 rfl ?_
    refine st_getR rX8_rate_40 (by first | assumption | decide | exact ⟨by decide, rfl, by decide⟩) (by first | rfl | assumption) rfl ?_
    refine st_iload rX8_rate_43 rfl ?_
    refine cS2i rX8_rate_44 (s_hangs (p := p) ⟨by decide, rfl, by decide⟩ (by decide) (by omega) (show I1 114 (2 + p) = nI b by rw [m3]; exact hpb) (by omega) (fun q hq => by rw [m3]; exact hpf q hq) ?_) rfl
    first | with_reducible refine st_iaddN rX8_rate_47 ?_ | refine st_iadd rX8_rate_47 ?_
    refine st_ialdN rX8_rate_48 (by first | assumption | decide | exact ⟨by decide, rfl, by decide⟩) (by omega) ?_
    rw [m3]
    first | with_reducible refine st_isubN rX8_rate_49 (by omega) ?_ | refine st_isub rX8_rate_49 ?_
    refine st_istore4 rX8_rate_50 rfl ?_
    refine st_aload rX8_rate_52 rfl ?_
    refine st_dup rX8_rate_53 rfl ?_
    refine st_getL rX8_rate_54 (by first | assumption | decide | exact ⟨by decide, rfl, by decide⟩) rfl ?_
    refine st_iload rX8_rate_57 rfl ?_
    first | with_reducible refine st_if_neN rX8_rate_58 (by omega) (fun _ => ?_) (fun h => absurd h (by first | decide | omega | (simp; done) | simp_all)) | refine st_if_ne rX8_rate_58 (fun _ => ?_) (fun h => absurd h (by first | decide | omega | (simp; done) | simp_all))
    refine st_iload rX8_rate_65 rfl ?_
    refine st_c rX8_rate_66 ?_
    first | with_reducible refine st_icmp_neN rX8_rate_67 (by omega) (by omega) (fun _ => ?_) (fun h => absurd h (by first | decide | omega | (simp; done) | simp_all)) | refine st_icmp_ne rX8_rate_67 (fun _ => ?_) (fun h => absurd h (by first | decide | omega | (simp; done) | simp_all))
    refine st_iload rX8_rate_76 rfl ?_
    refine st_c rX8_rate_77 ?_
    first | with_reducible refine st_icmp_neN rX8_rate_78 (by omega) (by omega) (fun _ => ?_) (fun h => absurd h (by first | decide | omega | (simp; done) | simp_all)) | refine st_icmp_ne rX8_rate_78 (fun _ => ?_) (fun h => absurd h (by first | decide | omega | (simp; done) | simp_all))
    refine st_iload rX8_rate_87 rfl ?_
    refine st_c rX8_rate_88 ?_
    first | with_reducible refine st_icmp_neN rX8_rate_89 (by omega) (by omega) (fun h => absurd h (by first | decide | omega | (simp; done) | simp_all)) (fun _ => ?_) | refine st_icmp_ne rX8_rate_89 (fun h => absurd h (by first | decide | omega | (simp; done) | simp_all)) (fun _ => ?_)
    refine st_cl rX8_rate_92 ?_
    refine st_goto rX8_rate_95 ?_
    refine st_ladd rX8_rate_112 ?_
    refine st_putL rfl rX8_rate_113 (by first | assumption | decide | exact ⟨by decide, rfl, by decide⟩) ?_
    refine st_iload rX8_rate_116 rfl ?_
    first | with_reducible refine st_if_neN rX8_rate_117 (by omega) (fun _ => ?_) (fun h => absurd h (by first | decide | omega | (simp; done) | simp_all)) | refine st_if_ne rX8_rate_117 (fun _ => ?_) (fun h => absurd h (by first | decide | omega | (simp; done) | simp_all))
    refine st_iload rX8_rate_124 rfl ?_
    refine st_c rX8_rate_125 ?_
    first | with_reducible refine st_icmp_neN rX8_rate_126 (by omega) (by omega) (fun _ => ?_) (fun h => absurd h (by first | decide | omega | (simp; done) | simp_all)) | refine st_icmp_ne rX8_rate_126 (fun _ => ?_) (fun h => absurd h (by first | decide | omega | (simp; done) | simp_all))
    refine st_iload rX8_rate_140 rfl ?_
    refine st_c rX8_rate_141 ?_
    first | with_reducible refine st_icmp_neN rX8_rate_142 (by omega) (by omega) (fun _ => ?_) (fun h => absurd h (by first | decide | omega | (simp; done) | simp_all)) | refine st_icmp_ne rX8_rate_142 (fun _ => ?_) (fun h => absurd h (by first | decide | omega | (simp; done) | simp_all))
    refine st_iload rX8_rate_150 rfl ?_
    refine st_c rX8_rate_151 ?_
    first | with_reducible refine st_icmp_neN rX8_rate_152 (by omega) (by omega) (fun h => absurd h (by first | decide | omega | (simp; done) | simp_all)) (fun _ => ?_) | refine st_icmp_ne rX8_rate_152 (fun h => absurd h (by first | decide | omega | (simp; done) | simp_all)) (fun _ => ?_)
    refine st_c rX8_rate_155 ?_
    refine st_iload rX8_rate_156 rfl ?_
    refine st_aload rX8_rate_157 rfl ?_
    refine st_getR rX8_rate_158 (by first | assumption | decide | exact ⟨by decide, rfl, by decide⟩) (by first | rfl | assumption) rfl ?_
    refine st_iload rX8_rate_161 rfl ?_
    refine st_ialdN rX8_rate_162 (by first | assumption | decide | exact ⟨by decide, rfl, by decide⟩) (by omega) ?_
    refine st_top (m9 b (by omega)).2.1 ?_
    first | with_reducible refine st_iaddN rX8_rate_163 ?_ | refine st_iadd rX8_rate_163 ?_
    first | with_reducible refine st_imulN rX8_rate_164 ?_ | refine st_imul rX8_rate_164 ?_
    refine st_goto rX8_rate_165 ?_
    refine st_iret rX8_rate_188 rfl ?_
    refine hk I1 _ (fun a ha => e1 a (by omega)) (fun a ha => up_n ha) ?_
    refine ⟨m1, m2, m3, m4, m5, m6, m7, m8, m9, m10, m11, m12, m13, m14, m15, ?_⟩
    simp only [up_s, va_up_s, m16]
    rfl
  · 
    refine st_iload rX8_rate_5 rfl ?_
    refine st_c rX8_rate_6 ?_
    refine st_c rX8_rate_7 ?_
    refine cS3i rX8_rate_8 (s_in ?_) rfl
    rw [inR_N (by decide), isT_n hq (by decide)]
    first | with_reducible refine st_if_eqN rX8_rate_11 (by omega) (fun h => absurd h (by first | decide | omega | (simp; done) | simp_all)) (fun _ => ?_) | refine st_if_eq rX8_rate_11 (fun h => absurd h (by first | decide | omega | (simp; done) | simp_all)) (fun _ => ?_)
    refine st_aload rX8_rate_14 rfl ?_
    refine st_iload rX8_rate_15 rfl ?_
    refine cV2i rX8_rate_16 (by first | assumption | decide | exact ⟨by decide, rfl, by decide⟩) (s_isTown hmm hm6 ?_) rfl (by decide)
    rw [isT_n hb (by omega)]
    first | with_reducible refine st_if_neN rX8_rate_19 (by omega) (fun _ => ?_) (fun h => absurd h (by first | decide | omega | (simp; done) | simp_all)) | refine st_if_ne rX8_rate_19 (fun _ => ?_) (fun h => absurd h (by first | decide | omega | (simp; done) | simp_all))
    refine st_aload rX8_rate_25 rfl ?_
    refine st_getR rX8_rate_26 (by first | assumption | decide | exact ⟨by decide, rfl, by decide⟩) (by first | rfl | assumption) rfl ?_
    refine st_iload rX8_rate_29 rfl ?_
    refine st_ialdN rX8_rate_30 (by first | assumption | decide | exact ⟨by decide, rfl, by decide⟩) (by omega) ?_
    refine st_top (m9 b (by omega)).1 ?_
    refine st_istore3 rX8_rate_31 rfl ?_
    refine st_iload rX8_rate_32 rfl ?_
    refine st_aload rX8_rate_33 rfl ?_
    refine st_getR rX8_rate_34 (by first | assumption | decide | exact ⟨by decide, rfl, by decide⟩) (by first | rfl | assumption) rfl ?_
    refine st_c rX8_rate_37 ?_
    refine st_aload rX8_rate_39 rfl ?_
    refine st_getR rX8_rate_40 (by first | assumption | decide | exact ⟨by decide, rfl, by decide⟩) (by first | rfl | assumption) rfl ?_
    refine st_iload rX8_rate_43 rfl ?_
    refine cS2i rX8_rate_44 (s_hangs (p := p) ⟨by decide, rfl, by decide⟩ (by decide) (by omega) (show I1 114 (2 + p) = nI b by rw [m3]; exact hpb) (by omega) (fun q hq => by rw [m3]; exact hpf q hq) ?_) rfl
    first | with_reducible refine st_iaddN rX8_rate_47 ?_ | refine st_iadd rX8_rate_47 ?_
    refine st_ialdN rX8_rate_48 (by first | assumption | decide | exact ⟨by decide, rfl, by decide⟩) (by omega) ?_
    rw [m3]
    first | with_reducible refine st_isubN rX8_rate_49 (by omega) ?_ | refine st_isub rX8_rate_49 ?_
    refine st_istore4 rX8_rate_50 rfl ?_
    refine st_aload rX8_rate_52 rfl ?_
    refine st_dup rX8_rate_53 rfl ?_
    refine st_getL rX8_rate_54 (by first | assumption | decide | exact ⟨by decide, rfl, by decide⟩) rfl ?_
    refine st_iload rX8_rate_57 rfl ?_
    first | with_reducible refine st_if_neN rX8_rate_58 (by omega) (fun _ => ?_) (fun h => absurd h (by first | decide | omega | (simp; done) | simp_all)) | refine st_if_ne rX8_rate_58 (fun _ => ?_) (fun h => absurd h (by first | decide | omega | (simp; done) | simp_all))
    refine st_iload rX8_rate_65 rfl ?_
    refine st_c rX8_rate_66 ?_
    first | with_reducible refine st_icmp_neN rX8_rate_67 (by omega) (by omega) (fun _ => ?_) (fun h => absurd h (by first | decide | omega | (simp; done) | simp_all)) | refine st_icmp_ne rX8_rate_67 (fun _ => ?_) (fun h => absurd h (by first | decide | omega | (simp; done) | simp_all))
    refine st_iload rX8_rate_76 rfl ?_
    refine st_c rX8_rate_77 ?_
    first | with_reducible refine st_icmp_neN rX8_rate_78 (by omega) (by omega) (fun _ => ?_) (fun h => absurd h (by first | decide | omega | (simp; done) | simp_all)) | refine st_icmp_ne rX8_rate_78 (fun _ => ?_) (fun h => absurd h (by first | decide | omega | (simp; done) | simp_all))
    refine st_iload rX8_rate_87 rfl ?_
    refine st_c rX8_rate_88 ?_
    first | with_reducible refine st_icmp_neN rX8_rate_89 (by omega) (by omega) (fun _ => ?_) (fun h => absurd h (by first | decide | omega | (simp; done) | simp_all)) | refine st_icmp_ne rX8_rate_89 (fun _ => ?_) (fun h => absurd h (by first | decide | omega | (simp; done) | simp_all))
    refine st_iload rX8_rate_98 rfl ?_
    refine st_c rX8_rate_99 ?_
    first | with_reducible refine st_icmp_neN rX8_rate_100 (by omega) (by omega) (fun h => absurd h (by first | decide | omega | (simp; done) | simp_all)) (fun _ => ?_) | refine st_icmp_ne rX8_rate_100 (fun h => absurd h (by first | decide | omega | (simp; done) | simp_all)) (fun _ => ?_)
    refine st_cl rX8_rate_103 ?_
    refine st_goto rX8_rate_106 ?_
    refine st_ladd rX8_rate_112 ?_
    refine st_putL rfl rX8_rate_113 (by first | assumption | decide | exact ⟨by decide, rfl, by decide⟩) ?_
    refine st_iload rX8_rate_116 rfl ?_
    first | with_reducible refine st_if_neN rX8_rate_117 (by omega) (fun _ => ?_) (fun h => absurd h (by first | decide | omega | (simp; done) | simp_all)) | refine st_if_ne rX8_rate_117 (fun _ => ?_) (fun h => absurd h (by first | decide | omega | (simp; done) | simp_all))
    refine st_iload rX8_rate_124 rfl ?_
    refine st_c rX8_rate_125 ?_
    first | with_reducible refine st_icmp_neN rX8_rate_126 (by omega) (by omega) (fun _ => ?_) (fun h => absurd h (by first | decide | omega | (simp; done) | simp_all)) | refine st_icmp_ne rX8_rate_126 (fun _ => ?_) (fun h => absurd h (by first | decide | omega | (simp; done) | simp_all))
    refine st_iload rX8_rate_140 rfl ?_
    refine st_c rX8_rate_141 ?_
    first | with_reducible refine st_icmp_neN rX8_rate_142 (by omega) (by omega) (fun _ => ?_) (fun h => absurd h (by first | decide | omega | (simp; done) | simp_all)) | refine st_icmp_ne rX8_rate_142 (fun _ => ?_) (fun h => absurd h (by first | decide | omega | (simp; done) | simp_all))
    refine st_iload rX8_rate_150 rfl ?_
    refine st_c rX8_rate_151 ?_
    first | with_reducible refine st_icmp_neN rX8_rate_152 (by omega) (by omega) (fun _ => ?_) (fun h => absurd h (by first | decide | omega | (simp; done) | simp_all)) | refine st_icmp_ne rX8_rate_152 (fun _ => ?_) (fun h => absurd h (by first | decide | omega | (simp; done) | simp_all))
    refine st_iload rX8_rate_168 rfl ?_
    refine st_c rX8_rate_169 ?_
    first | with_reducible refine st_icmp_neN rX8_rate_170 (by omega) (by omega) (fun h => absurd h (by first | decide | omega | (simp; done) | simp_all)) (fun _ => ?_) | refine st_icmp_ne rX8_rate_170 (fun h => absurd h (by first | decide | omega | (simp; done) | simp_all)) (fun _ => ?_)
    refine st_iload rX8_rate_173 rfl ?_
    refine st_iload rX8_rate_175 rfl ?_
    first | with_reducible refine st_iaddN rX8_rate_176 ?_ | refine st_iadd rX8_rate_176 ?_
    refine st_goto rX8_rate_177 ?_
    refine st_iret rX8_rate_188 rfl ?_
    refine hk I1 _ (fun a ha => e1 a (by omega)) (fun a ha => up_n ha) ?_
    refine ⟨m1, m2, m3, m4, m5, m6, m7, m8, m9, m10, m11, m12, m13, m14, m15, ?_⟩
    simp only [up_s, va_up_s, m16]
    rfl
  · 
    refine st_iload rX8_rate_5 rfl ?_
    refine st_c rX8_rate_6 ?_
    refine st_c rX8_rate_7 ?_
    refine cS3i rX8_rate_8 (s_in ?_) rfl
    rw [inR_N (by decide), isT_n hq (by decide)]
    first | with_reducible refine st_if_eqN rX8_rate_11 (by omega) (fun h => absurd h (by first | decide | omega | (simp; done) | simp_all)) (fun _ => ?_) | refine st_if_eq rX8_rate_11 (fun h => absurd h (by first | decide | omega | (simp; done) | simp_all)) (fun _ => ?_)
    refine st_aload rX8_rate_14 rfl ?_
    refine st_iload rX8_rate_15 rfl ?_
    refine cV2i rX8_rate_16 (by first | assumption | decide | exact ⟨by decide, rfl, by decide⟩) (s_isTown hmm hm6 ?_) rfl (by decide)
    rw [isT_n hb (by omega)]
    first | with_reducible refine st_if_neN rX8_rate_19 (by omega) (fun _ => ?_) (fun h => absurd h (by first | decide | omega | (simp; done) | simp_all)) | refine st_if_ne rX8_rate_19 (fun _ => ?_) (fun h => absurd h (by first | decide | omega | (simp; done) | simp_all))
    refine st_aload rX8_rate_25 rfl ?_
    refine st_getR rX8_rate_26 (by first | assumption | decide | exact ⟨by decide, rfl, by decide⟩) (by first | rfl | assumption) rfl ?_
    refine st_iload rX8_rate_29 rfl ?_
    refine st_ialdN rX8_rate_30 (by first | assumption | decide | exact ⟨by decide, rfl, by decide⟩) (by omega) ?_
    refine st_top (m9 b (by omega)).1 ?_
    refine st_istore3 rX8_rate_31 rfl ?_
    refine st_iload rX8_rate_32 rfl ?_
    refine st_aload rX8_rate_33 rfl ?_
    refine st_getR rX8_rate_34 (by first | assumption | decide | exact ⟨by decide, rfl, by decide⟩) (by first | rfl | assumption) rfl ?_
    refine st_c rX8_rate_37 ?_
    refine st_aload rX8_rate_39 rfl ?_
    refine st_getR rX8_rate_40 (by first | assumption | decide | exact ⟨by decide, rfl, by decide⟩) (by first | rfl | assumption) rfl ?_
    refine st_iload rX8_rate_43 rfl ?_
    refine cS2i rX8_rate_44 (s_hangs (p := p) ⟨by decide, rfl, by decide⟩ (by decide) (by omega) (show I1 114 (2 + p) = nI b by rw [m3]; exact hpb) (by omega) (fun q hq => by rw [m3]; exact hpf q hq) ?_) rfl
    first | with_reducible refine st_iaddN rX8_rate_47 ?_ | refine st_iadd rX8_rate_47 ?_
    refine st_ialdN rX8_rate_48 (by first | assumption | decide | exact ⟨by decide, rfl, by decide⟩) (by omega) ?_
    rw [m3]
    first | with_reducible refine st_isubN rX8_rate_49 (by omega) ?_ | refine st_isub rX8_rate_49 ?_
    refine st_istore4 rX8_rate_50 rfl ?_
    refine st_aload rX8_rate_52 rfl ?_
    refine st_dup rX8_rate_53 rfl ?_
    refine st_getL rX8_rate_54 (by first | assumption | decide | exact ⟨by decide, rfl, by decide⟩) rfl ?_
    refine st_iload rX8_rate_57 rfl ?_
    first | with_reducible refine st_if_neN rX8_rate_58 (by omega) (fun _ => ?_) (fun h => absurd h (by first | decide | omega | (simp; done) | simp_all)) | refine st_if_ne rX8_rate_58 (fun _ => ?_) (fun h => absurd h (by first | decide | omega | (simp; done) | simp_all))
    refine st_iload rX8_rate_65 rfl ?_
    refine st_c rX8_rate_66 ?_
    first | with_reducible refine st_icmp_neN rX8_rate_67 (by omega) (by omega) (fun _ => ?_) (fun h => absurd h (by first | decide | omega | (simp; done) | simp_all)) | refine st_icmp_ne rX8_rate_67 (fun _ => ?_) (fun h => absurd h (by first | decide | omega | (simp; done) | simp_all))
    refine st_iload rX8_rate_76 rfl ?_
    refine st_c rX8_rate_77 ?_
    first | with_reducible refine st_icmp_neN rX8_rate_78 (by omega) (by omega) (fun _ => ?_) (fun h => absurd h (by first | decide | omega | (simp; done) | simp_all)) | refine st_icmp_ne rX8_rate_78 (fun _ => ?_) (fun h => absurd h (by first | decide | omega | (simp; done) | simp_all))
    refine st_iload rX8_rate_87 rfl ?_
    refine st_c rX8_rate_88 ?_
    first | with_reducible refine st_icmp_neN rX8_rate_89 (by omega) (by omega) (fun _ => ?_) (fun h => absurd h (by first | decide | omega | (simp; done) | simp_all)) | refine st_icmp_ne rX8_rate_89 (fun _ => ?_) (fun h => absurd h (by first | decide | omega | (simp; done) | simp_all))
    refine st_iload rX8_rate_98 rfl ?_
    refine st_c rX8_rate_99 ?_
    first | with_reducible refine st_icmp_neN rX8_rate_100 (by omega) (by omega) (fun _ => ?_) (fun h => absurd h (by first | decide | omega | (simp; done) | simp_all)) | refine st_icmp_ne rX8_rate_100 (fun _ => ?_) (fun h => absurd h (by first | decide | omega | (simp; done) | simp_all))
    refine st_cl rX8_rate_109 ?_
    refine st_ladd rX8_rate_112 ?_
    refine st_putL rfl rX8_rate_113 (by first | assumption | decide | exact ⟨by decide, rfl, by decide⟩) ?_
    refine st_iload rX8_rate_116 rfl ?_
    first | with_reducible refine st_if_neN rX8_rate_117 (by omega) (fun _ => ?_) (fun h => absurd h (by first | decide | omega | (simp; done) | simp_all)) | refine st_if_ne rX8_rate_117 (fun _ => ?_) (fun h => absurd h (by first | decide | omega | (simp; done) | simp_all))
    refine st_iload rX8_rate_124 rfl ?_
    refine st_c rX8_rate_125 ?_
    first | with_reducible refine st_icmp_neN rX8_rate_126 (by omega) (by omega) (fun _ => ?_) (fun h => absurd h (by first | decide | omega | (simp; done) | simp_all)) | refine st_icmp_ne rX8_rate_126 (fun _ => ?_) (fun h => absurd h (by first | decide | omega | (simp; done) | simp_all))
    refine st_iload rX8_rate_140 rfl ?_
    refine st_c rX8_rate_141 ?_
    first | with_reducible refine st_icmp_neN rX8_rate_142 (by omega) (by omega) (fun _ => ?_) (fun h => absurd h (by first | decide | omega | (simp; done) | simp_all)) | refine st_icmp_ne rX8_rate_142 (fun _ => ?_) (fun h => absurd h (by first | decide | omega | (simp; done) | simp_all))
    refine st_iload rX8_rate_150 rfl ?_
    refine st_c rX8_rate_151 ?_
    first | with_reducible refine st_icmp_neN rX8_rate_152 (by omega) (by omega) (fun _ => ?_) (fun h => absurd h (by first | decide | omega | (simp; done) | simp_all)) | refine st_icmp_ne rX8_rate_152 (fun _ => ?_) (fun h => absurd h (by first | decide | omega | (simp; done) | simp_all))
    refine st_iload rX8_rate_168 rfl ?_
    refine st_c rX8_rate_169 ?_
    first | with_reducible refine st_icmp_neN rX8_rate_170 (by omega) (by omega) (fun _ => ?_) (fun h => absurd h (by first | decide | omega | (simp; done) | simp_all)) | refine st_icmp_ne rX8_rate_170 (fun _ => ?_) (fun h => absurd h (by first | decide | omega | (simp; done) | simp_all))
    refine st_iload rX8_rate_180 rfl ?_
    refine st_aload rX8_rate_181 rfl ?_
    refine st_getR rX8_rate_182 (by first | assumption | decide | exact ⟨by decide, rfl, by decide⟩) (by first | rfl | assumption) rfl ?_
    refine st_c rX8_rate_185 ?_
    refine st_ialdN rX8_rate_186 (by first | assumption | decide | exact ⟨by decide, rfl, by decide⟩) (by omega) ?_
    rw [m3]
    first | with_reducible refine st_iaddN rX8_rate_187 ?_ | refine st_iadd rX8_rate_187 ?_
    refine st_iret rX8_rate_188 rfl ?_
    refine hk I1 _ (fun a ha => e1 a (by omega)) (fun a ha => up_n ha) ?_
    refine ⟨m1, m2, m3, m4, m5, m6, m7, m8, m9, m10, m11, m12, m13, m14, m15, ?_⟩
    simp only [up_s, va_up_s, m16]
    rfl
end P24
