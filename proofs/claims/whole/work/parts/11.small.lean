/-! ===== Told, Hanging, Past: small methods ===== -/
/-- the cells of the Hanging h hold the row N (56 numbers), with m towns -/
def HV (I : Nat → Nat → Int32) (h m : Nat) (N : Nat → Int32) : Prop := I h 0 = N 0 ∧ I h 1 = N 1 ∧ (∀ t, t < 6 → I (h + 1) t = N (2 + t)) ∧ (∀ t, t < m → I (h + 2) t = N (8 + t)) ∧ (∀ i, i < 6 → I (h + 3) i = N (14 + i)) ∧ (∀ k, k < 36 → I (h + 4) k = N (20 + k))
theorem HV_cong {I I' : Nat → Nat → Int32} {h m : Nat} {N : Nat → Int32} (hv : HV I h m N) (he : ∀ a, h ≤ a → a ≤ h + 4 → I' a = I a) : HV I' h m N := by
  obtain ⟨q1, q2, q3, q4, q5, q6⟩ := hv
  refine ⟨?_, ?_, fun t ht => ?_, fun t ht => ?_, fun t ht => ?_, fun t ht => ?_⟩
  · rw [he h (by omega) (by omega)]; exact q1
  · rw [he h (by omega) (by omega)]; exact q2
  · rw [he (h + 1) (by omega) (by omega)]; exact q3 t ht
  · rw [he (h + 2) (by omega) (by omega)]; exact q4 t ht
  · rw [he (h + 3) (by omega) (by omega)]; exact q5 t ht
  · rw [he (h + 4) (by omega) (by omega)]; exact q6 t ht
theorem HV_N {I : Nat → Nat → Int32} {h m : Nat} {N N' : Nat → Int32} (hv : HV I h m N) (hm : m ≤ 6) (he : ∀ k, k < 56 → N' k = N k) : HV I h m N' := by
  obtain ⟨q1, q2, q3, q4, q5, q6⟩ := hv
  refine ⟨?_, ?_, fun t ht => ?_, fun t ht => ?_, fun t ht => ?_, fun t ht => ?_⟩
  · rw [he 0 (by omega)]; exact q1
  · rw [he 1 (by omega)]; exact q2
  · rw [he _ (by omega)]; exact q3 t ht
  · rw [he _ (by omega)]; exact q4 t ht
  · rw [he _ (by omega)]; exact q5 t ht
  · rw [he _ (by omega)]; exact q6 t ht
theorem hangD0 : (List.range 123).all (fun h => (List.range 123).all (fun o => !decide (vSH h = (1, 6)) || (!decide (vSH o = (1, 6)) || (decide (h = o) || (decide (h + 5 ≤ o) || decide (o + 5 ≤ h)))))) = true := by decide +kernel
theorem hangD {h o : Nat} (hh : vHg h) (ho : vHg o) (hne : h ≠ o) : h + 5 ≤ o ∨ o + 5 ≤ h := by
  have q := List.all_eq_true.mp (List.all_eq_true.mp hangD0 h (List.mem_range.mpr hh.1)) o (List.mem_range.mpr ho.1)
  simp only [hh.2, ho.2, decide_true, Bool.not_true, Bool.false_or, Bool.or_eq_true, decide_eq_true_eq] at q
  omega
theorem hang_ne {h c : Nat} (hh : vHg h) (hc : vSH c ≠ (1, 6)) : h ≠ c := fun e => hc (by rw [← e]; exact hh.2)
section P11
variable {d : Nat} {I : Nat → Nat → Int32} {J : Nat → Nat → Int64} {ρ : Nat} {k : Int32 → vS → Prop} {kv : vS → Prop}
set_option maxHeartbeats 4000000 in
set_option maxRecDepth 100000 in
theorem s_hasTown {tl m : Nat} {t : Int32} (ht : vTo tl) (hm : I tl 0 = nI m) (hm6 : m ≤ 6) (h : k (vb (isT m t)) (I, J, vRR ρ)) : V (d + 1) 123 123 mX6_hasTown 0 [.ref tl, .int t] [] (I, J, vRR ρ) (Ki k) := by
  have hto := (toldF ht).1
  refine st_iload rX6_hasTown_0 rfl ?_
  refine st_c rX6_hasTown_1 ?_
  refine st_aload rX6_hasTown_2 rfl ?_
  refine st_getI rX6_hasTown_3 (by first | assumption | decide) rfl ?_
  refine st_top hm ?_
  refine st_c rX6_hasTown_6 ?_
  first | refine st_isubN rX6_hasTown_7 (by omega) ?_ | refine st_isub rX6_hasTown_7 ?_
  refine cS3i rX6_hasTown_8 (s_within ?_) rfl
  refine st_zret rX6_hasTown_11 rfl (by first | rfl | exact vb_nar _) ?_
  rw [inR_T (by omega)]; exact h
set_option maxHeartbeats 4000000 in
set_option maxRecDepth 100000 in
theorem s_wayBetween {tl a b : Nat} (ht : vTo tl) (ha : a < 6) (hb : b < 6) (h : k (I (tl + 5) (a * 6 + b)) (I, J, vRR ρ)) : V (d + 1) 123 123 mX6_wayBetween 0 [.ref tl, .int (nI a), .int (nI b)] [] (I, J, vRR ρ) (Ki k) := by
  obtain ⟨hto, h1, h2, h3, h4, h5, h6, h7, h8⟩ := toldF ht
  refine st_aload rX6_wayBetween_0 rfl ?_
  refine st_getR rX6_wayBetween_1 (by first | assumption | decide) (tR7 ht) rfl ?_
  refine st_iload rX6_wayBetween_4 rfl ?_
  refine st_iload rX6_wayBetween_5 rfl ?_
  refine cS2i rX6_wayBetween_6 (s_pair ?_) rfl
  refine cS2i rX6_wayBetween_9 (s_at (by first | assumption | decide) (by omega) ?_) rfl
  refine st_iret rX6_wayBetween_12 rfl ?_
  exact h
set_option maxHeartbeats 4000000 in
set_option maxRecDepth 100000 in
theorem s_copyFrom {h o : Nat} (hh : vHg h) (ho : vHg o) (hne : h ≠ o)
    (hk : ∀ I' : Nat → Nat → Int32, (∀ a, a < h ∨ h + 4 < a → I' a = I a) → (∀ m N, m ≤ 6 → HV I o m N → HV I' h m N) → kv (I', J, vRR ρ)) : V (d + 1) 123 123 mX1_copyFrom 0 [.ref h, .ref o] [] (I, J, vRR ρ) (Kv kv) := by
  obtain ⟨a0, a1, a2, a3, a4⟩ := hangF hh
  obtain ⟨b0, b1, b2, b3, b4⟩ := hangF ho
  have hd := hangD hh ho hne
  refine st_aload rX1_copyFrom_0 rfl ?_
  refine st_aload rX1_copyFrom_1 rfl ?_
  refine st_getI rX1_copyFrom_2 (by first | assumption | decide) rfl ?_
  refine st_putI rfl rX1_copyFrom_5 (by first | assumption | decide) ?_
  refine st_aload rX1_copyFrom_8 rfl ?_
  refine st_aload rX1_copyFrom_9 rfl ?_
  refine st_getI rX1_copyFrom_10 (by first | assumption | decide) rfl ?_
  refine st_putI rfl rX1_copyFrom_13 (by first | assumption | decide) ?_
  refine st_aload rX1_copyFrom_16 rfl ?_
  refine st_getR rX1_copyFrom_17 (by assumption) (hR2 (by assumption)) rfl ?_
  refine st_c rX1_copyFrom_20 ?_
  refine st_aload rX1_copyFrom_21 rfl ?_
  refine st_getR rX1_copyFrom_22 (by assumption) (hR2 (by assumption)) rfl ?_
  refine st_c rX1_copyFrom_25 ?_
  refine st_c rX1_copyFrom_26 ?_
  refine st_copy rX1_copyFrom_28 (by first | assumption | decide) (by first | assumption | decide) (by omega) (by omega) (Nat.le_of_ble_eq_true rfl) ?_
  refine st_aload rX1_copyFrom_31 rfl ?_
  refine st_getR rX1_copyFrom_32 (by assumption) (hR3 (by assumption)) rfl ?_
  refine st_c rX1_copyFrom_35 ?_
  refine st_aload rX1_copyFrom_36 rfl ?_
  refine st_getR rX1_copyFrom_37 (by assumption) (hR3 (by assumption)) rfl ?_
  refine st_c rX1_copyFrom_40 ?_
  refine st_c rX1_copyFrom_41 ?_
  refine st_copy rX1_copyFrom_43 (by first | assumption | decide) (by first | assumption | decide) (by omega) (by omega) (Nat.le_of_ble_eq_true rfl) ?_
  refine st_aload rX1_copyFrom_46 rfl ?_
  refine st_getR rX1_copyFrom_47 (by assumption) (hR4 (by assumption)) rfl ?_
  refine st_c rX1_copyFrom_50 ?_
  refine st_aload rX1_copyFrom_51 rfl ?_
  refine st_getR rX1_copyFrom_52 (by assumption) (hR4 (by assumption)) rfl ?_
  refine st_c rX1_copyFrom_55 ?_
  refine st_c rX1_copyFrom_56 ?_
  refine st_copy rX1_copyFrom_58 (by first | assumption | decide) (by first | assumption | decide) (by omega) (by omega) (Nat.le_of_ble_eq_true rfl) ?_
  refine st_aload rX1_copyFrom_61 rfl ?_
  refine st_getR rX1_copyFrom_62 (by assumption) (hR5 (by assumption)) rfl ?_
  refine st_c rX1_copyFrom_65 ?_
  refine st_aload rX1_copyFrom_66 rfl ?_
  refine st_getR rX1_copyFrom_67 (by assumption) (hR5 (by assumption)) rfl ?_
  refine st_c rX1_copyFrom_70 ?_
  refine st_c rX1_copyFrom_71 ?_
  refine st_copy rX1_copyFrom_73 (by first | assumption | decide) (by first | assumption | decide) (by omega) (by omega) (Nat.le_of_ble_eq_true rfl) ?_
  refine st_vret rX1_copyFrom_76 rfl ?_
  refine hk _ ?_ ?_
  · intro a ha
    simp (disch := omega) only [up_n]
  · intro m N hm hN
    obtain ⟨q1, q2, q3, q4, q5, q6⟩ := hN
    refine ⟨?_, ?_, fun t ht => ?_, fun t ht => ?_, fun t ht => ?_, fun t ht => ?_⟩
    · simp (disch := omega) only [up_n, up_s, va_up_n, va_up_s]; exact q1
    · simp (disch := omega) only [up_n, up_s, va_up_n, va_up_s]; exact q2
    · simp (disch := omega) only [up_n, up_s]; rw [if_pos (by omega)]; exact q3 t ht
    · simp (disch := omega) only [up_n, up_s]; rw [if_pos (by omega)]; exact q4 t ht
    · simp (disch := omega) only [up_n, up_s]; rw [if_pos (by omega)]; exact q5 t ht
    · simp (disch := omega) only [up_n, up_s]; rw [if_pos (by omega)]; exact q6 t ht
set_option maxHeartbeats 4000000 in
set_option maxRecDepth 100000 in
theorem s_townOf {h b p : Nat} (hh : vHg h) (hp : p < 6) (hb : I (h + 1) p = nI b) (hb6 : b < 6) (hf : ∀ q, q < p → ∃ c, c < 6 ∧ I (h + 1) q = nI c ∧ c ≠ b) (hk : k (nI p) (I, J, vRR ρ)) : V d 123 123 mX1_townOf 0 [.ref h, .int (nI b), vJ] [] (I, J, vRR ρ) (Ki k) := by
  obtain ⟨a0, a1, a2, a3, a4⟩ := hangF hh
  refine st_c rX1_townOf_0 ?_
  refine st_istore2 rX1_townOf_1 rfl ?_
  have key : ∀ (i q : Nat), q + i = p → V d 123 123 mX1_townOf 2 [.ref h, .int (nI b), .int (nI q)] [] (I, J, vRR ρ) (Ki k) := by
    intro i
    induction i with
    | zero =>
      intro q hq
      have hqp : q = p := by omega
      subst hqp
      refine st_iload rX1_townOf_2 rfl ?_
      refine st_c rX1_townOf_3 ?_
      first | refine st_icmp_geN rX1_townOf_4 (by omega) (by omega) (fun h4 => ?_) (fun h4 => ?_) | refine st_icmp_ge rX1_townOf_4 (fun h4 => ?_) (fun h4 => ?_)
      · refine st_iload rX1_townOf_23 rfl ?_
        refine st_iret rX1_townOf_24 rfl ?_
        exact hk
      · refine st_aload rX1_townOf_7 rfl ?_
        refine st_getR rX1_townOf_8 (by first | assumption | decide) (hR2 hh) rfl ?_
        refine st_iload rX1_townOf_11 rfl ?_
        refine st_ialdN rX1_townOf_12 (by first | assumption | decide) (by omega) ?_
        refine st_top hb ?_
        refine st_iload rX1_townOf_13 rfl ?_
        first | refine st_icmp_eqN rX1_townOf_14 (by omega) (by omega) (fun _ => ?_) (fun h => absurd h (by first | decide | omega | (simp; done) | simp_all)) | refine st_icmp_eq rX1_townOf_14 (fun _ => ?_) (fun h => absurd h (by first | decide | omega | (simp; done) | simp_all))
        refine st_iload rX1_townOf_23 rfl ?_
        refine st_iret rX1_townOf_24 rfl ?_
        exact hk
    | succ i ih =>
      intro q hq
      obtain ⟨c, hc6, hc, hcb⟩ := hf q (by omega)
      refine st_iload rX1_townOf_2 rfl ?_
      refine st_c rX1_townOf_3 ?_
      first | refine st_icmp_geN rX1_townOf_4 (by omega) (by omega) (fun h => absurd h (by first | decide | omega | (simp; done) | simp_all)) (fun _ => ?_) | refine st_icmp_ge rX1_townOf_4 (fun h => absurd h (by first | decide | omega | (simp; done) | simp_all)) (fun _ => ?_)
      refine st_aload rX1_townOf_7 rfl ?_
      refine st_getR rX1_townOf_8 (by first | assumption | decide) (hR2 hh) rfl ?_
      refine st_iload rX1_townOf_11 rfl ?_
      refine st_ialdN rX1_townOf_12 (by first | assumption | decide) (by omega) ?_
      refine st_top hc ?_
      refine st_iload rX1_townOf_13 rfl ?_
      first | refine st_icmp_eqN rX1_townOf_14 (by omega) (by omega) (fun h => absurd h (by first | decide | omega | (simp; done) | simp_all)) (fun _ => ?_) | refine st_icmp_eq rX1_townOf_14 (fun h => absurd h (by first | decide | omega | (simp; done) | simp_all)) (fun _ => ?_)
      first | refine st_iincN2 rX1_townOf_17 rfl ?_ | refine st_iinc2 rX1_townOf_17 rfl ?_
      refine st_goto rX1_townOf_20 ?_
      exact ih (q + 1) (by omega)
  exact key p 0 (by omega)
end P11
