/-! ===== the past, the images: keep, back, undo ===== -/
theorem ringHg (q : Nat) (h : q < 10) : vHg (34 + 5 * q) := by
  have : ∀ q, q < 10 → 34 + 5 * q < 123 ∧ vSH (34 + 5 * q) = (1, 6) := by decide
  exact this q h
theorem rowHg (q : Nat) (h : q < 2) : vHg (87 + 5 * q) := by
  have : ∀ q, q < 2 → 87 + 5 * q < 123 ∧ vSH (87 + 5 * q) = (1, 6) := by decide
  exact this q h
theorem ringR {ρ q : Nat} : vRR ρ 33 q = some (34 + 5 * q) := rfl
theorem rowR {ρ q : Nat} : vRR ρ 85 q = some (87 + 5 * q) := rfl
theorem vb1 : vb true = nI 1 := rfl
theorem vb0 : vb false = nI 0 := rfl
section P20
variable {d : Nat} {I A : Nat → Nat → Int32} {J : Nat → Nat → Int64} {ρ m no : Nat} {T : Int64} {k : Int32 → vS → Prop} {kl : Int64 → vS → Prop} {kv : vS → Prop}
set_option maxHeartbeats 4000000 in
set_option maxRecDepth 100000 in
theorem s_remember {q c : Nat} (hq : I 32 1 = nI q) (hq10 : q < 10) (hc : I 32 2 = nI c) (hc10 : c ≤ 10)
    (hk : ∀ I' : Nat → Nat → Int32, (∀ a, a ≠ 32 → a < 34 + 5 * ((q + 1) % 10) ∨ 38 + 5 * ((q + 1) % 10) < a → I' a = I a) → I' 32 1 = nI ((q + 1) % 10) → I' 32 2 = nI (min 10 (c + 1)) → (∀ m N, m ≤ 6 → HV I 22 m N → HV I' (34 + 5 * ((q + 1) % 10)) m N) → kv (I', J, vRR ρ)) : V (d + 2) 123 123 mX4_remember 0 [.ref 32, .ref 22] [] (I, J, vRR ρ) (Kv kv) := by
  have hr := ringHg ((q + 1) % 10) (by omega)
  obtain ⟨hob, -, -, -, -⟩ := hangF hr
  have hmin : (if nI (c + 1) < nI 10 then nI (c + 1) else nI 10) = nI (min 10 (c + 1)) := by
    by_cases h : c + 1 < 10
    · rw [if_pos ((nI_ltI (by omega) (by omega)).mpr h), Nat.min_eq_right (by omega)]
    · rw [if_neg (fun g => h ((nI_ltI (by omega) (by omega)).mp g)), Nat.min_eq_left (by omega)]
  have hin : ∀ x, x < 10 → inR (nI x) (nI 0) (nI 9) = true := fun x hx => by rw [inR_N (by decide)]; exact isT_n hx (by decide)
  refine st_aload rX4_remember_0 rfl ?_
  refine st_aload rX4_remember_1 rfl ?_
  refine st_getI rX4_remember_2 (by first | assumption | decide | exact ⟨by decide, rfl, by decide⟩) rfl ?_
  refine st_top hq ?_
  refine st_c rX4_remember_5 ?_
  first | refine st_iaddN rX4_remember_6 ?_ | refine st_iadd rX4_remember_6 ?_
  refine st_c rX4_remember_7 ?_
  refine st_iremN rX4_remember_9 (by omega) (by omega) ?_
  refine st_putI rfl rX4_remember_10 (by first | assumption | decide | exact ⟨by decide, rfl, by decide⟩) ?_
  refine st_aload rX4_remember_13 rfl ?_
  refine st_c rX4_remember_14 ?_
  refine st_aload rX4_remember_16 rfl ?_
  refine st_getI rX4_remember_17 (by first | assumption | decide | exact ⟨by decide, rfl, by decide⟩) rfl ?_
  refine st_top (show _ = nI c by rw [up_s, va_up_n (by decide)]; exact hc) ?_
  refine st_c rX4_remember_20 ?_
  first | refine st_iaddN rX4_remember_21 ?_ | refine st_iadd rX4_remember_21 ?_
  refine st_min rX4_remember_22 (Nat.le_of_ble_eq_true rfl) ?_
  refine st_top hmin ?_
  refine st_putI rfl rX4_remember_25 (by first | assumption | decide | exact ⟨by decide, rfl, by decide⟩) ?_
  refine st_aload rX4_remember_28 rfl ?_
  refine st_getI rX4_remember_29 (by first | assumption | decide | exact ⟨by decide, rfl, by decide⟩) rfl ?_
  refine st_top (show _ = nI ((q + 1) % 10) by rw [up_s, va_up_n (by decide), up_s, va_up_s]) ?_
  refine st_c rX4_remember_32 ?_
  refine st_c rX4_remember_33 ?_
  refine cS3i rX4_remember_35 (s_within ?_) rfl
  rw [hin _ (by omega)]
  first | refine st_if_eqN rX4_remember_38 (by omega) (fun h => absurd h (by first | decide | omega | (simp; done) | simp_all)) (fun _ => ?_) | refine st_if_eq rX4_remember_38 (fun h => absurd h (by first | decide | omega | (simp; done) | simp_all)) (fun _ => ?_)
  refine st_aload rX4_remember_41 rfl ?_
  refine st_getR rX4_remember_42 (by first | assumption | decide | exact ⟨by decide, rfl, by decide⟩) (by first | rfl | assumption) rfl ?_
  refine st_aload rX4_remember_45 rfl ?_
  refine st_getI rX4_remember_46 (by first | assumption | decide | exact ⟨by decide, rfl, by decide⟩) rfl ?_
  refine st_top (show _ = nI ((q + 1) % 10) by rw [up_s, va_up_n (by decide), up_s, va_up_s]) ?_
  refine st_aaldN rX4_remember_49 ⟨by decide, rfl, by decide⟩ (by omega) ringR ?_
  refine st_ifnull rX4_remember_50 ?_
  refine st_aload rX4_remember_53 rfl ?_
  refine st_getR rX4_remember_54 (by first | assumption | decide | exact ⟨by decide, rfl, by decide⟩) (by first | rfl | assumption) rfl ?_
  refine st_aload rX4_remember_57 rfl ?_
  refine st_getI rX4_remember_58 (by first | assumption | decide | exact ⟨by decide, rfl, by decide⟩) rfl ?_
  refine st_top (show _ = nI ((q + 1) % 10) by rw [up_s, va_up_n (by decide), up_s, va_up_s]) ?_
  refine st_aaldN rX4_remember_61 ⟨by decide, rfl, by decide⟩ (by omega) ringR ?_
  refine st_aload rX4_remember_62 rfl ?_
  refine cV2v rX4_remember_63 (by first | assumption | decide | exact ⟨by decide, rfl, by decide⟩) (s_copyFrom hr ⟨by decide, rfl⟩ (by omega) (fun I1 g gv => ?_)) rfl (by decide)
  refine st_vret rX4_remember_66 rfl ?_
  refine hk I1 (fun a h1 h2 => ?_) ?_ ?_ (fun m N hm hN => gv m N hm ?_)
  · rw [g a (by omega), up_n h1, up_n h1]
  · rw [g 32 (by omega), up_s, va_up_n (by decide), up_s, va_up_s]
  · rw [g 32 (by omega), up_s, va_up_s]
  · exact HV_cong hN (fun a _ _ => by rw [up_n (by omega), up_n (by omega)])
set_option maxHeartbeats 4000000 in
set_option maxRecDepth 100000 in
theorem s_recall {q c : Nat} {kk : Int32 → vS → Prop} (hq : I 32 1 = nI q) (hq10 : q < 10) (hc : I 32 2 = nI (c + 1)) (hc10 : c < 10)
    (hk : ∀ I' : Nat → Nat → Int32, (∀ a, a ≠ 32 → a < 22 ∨ 26 < a → I' a = I a) → I' 32 1 = nI ((q + 9) % 10) → I' 32 2 = nI c → (∀ m N, m ≤ 6 → HV I (34 + 5 * q) m N → HV I' 22 m N) → kk (nI 1) (I', J, vRR ρ)) : V (d + 2) 123 123 mX4_recallInto 0 [.ref 32, .ref 22] [] (I, J, vRR ρ) (Ki kk) := by
  have hr := ringHg q hq10
  obtain ⟨hob, -, -, -, -⟩ := hangF hr
  have hin : inR (nI q) (nI 0) (nI 9) = true := by rw [inR_N (by decide)]; exact isT_n hq10 (by decide)
  refine st_aload rX4_recallInto_0 rfl ?_
  refine st_getI rX4_recallInto_1 (by first | assumption | decide | exact ⟨by decide, rfl, by decide⟩) rfl ?_
  refine st_top hc ?_
  first | refine st_if_leN rX4_recallInto_4 (by omega) (fun h => absurd h (by first | decide | omega | (simp; done) | simp_all)) (fun _ => ?_) | refine st_if_le rX4_recallInto_4 (fun h => absurd h (by first | decide | omega | (simp; done) | simp_all)) (fun _ => ?_)
  refine st_aload rX4_recallInto_7 rfl ?_
  refine st_getI rX4_recallInto_8 (by first | assumption | decide | exact ⟨by decide, rfl, by decide⟩) rfl ?_
  refine st_top hq ?_
  refine st_c rX4_recallInto_11 ?_
  refine st_c rX4_recallInto_12 ?_
  refine cS3i rX4_recallInto_14 (s_within ?_) rfl
  rw [hin]
  first | refine st_if_eqN rX4_recallInto_17 (by omega) (fun h => absurd h (by first | decide | omega | (simp; done) | simp_all)) (fun _ => ?_) | refine st_if_eq rX4_recallInto_17 (fun h => absurd h (by first | decide | omega | (simp; done) | simp_all)) (fun _ => ?_)
  refine st_aload rX4_recallInto_20 rfl ?_
  refine st_getR rX4_recallInto_21 (by first | assumption | decide | exact ⟨by decide, rfl, by decide⟩) (by first | rfl | assumption) rfl ?_
  refine st_aload rX4_recallInto_24 rfl ?_
  refine st_getI rX4_recallInto_25 (by first | assumption | decide | exact ⟨by decide, rfl, by decide⟩) rfl ?_
  refine st_top hq ?_
  refine st_aaldN rX4_recallInto_28 ⟨by decide, rfl, by decide⟩ (by omega) ringR ?_
  refine st_ifnonnull rX4_recallInto_29 ?_
  refine st_aload rX4_recallInto_34 rfl ?_
  refine st_aload rX4_recallInto_35 rfl ?_
  refine st_getR rX4_recallInto_36 (by first | assumption | decide | exact ⟨by decide, rfl, by decide⟩) (by first | rfl | assumption) rfl ?_
  refine st_aload rX4_recallInto_39 rfl ?_
  refine st_getI rX4_recallInto_40 (by first | assumption | decide | exact ⟨by decide, rfl, by decide⟩) rfl ?_
  refine st_top hq ?_
  refine st_aaldN rX4_recallInto_43 ⟨by decide, rfl, by decide⟩ (by omega) ringR ?_
  refine cV2v rX4_recallInto_44 (by first | assumption | decide | exact ⟨by decide, rfl, by decide⟩) (s_copyFrom ⟨by decide, rfl⟩ hr (by omega) (fun I1 g gv => ?_)) rfl (by decide)
  refine st_aload rX4_recallInto_47 rfl ?_
  refine st_aload rX4_recallInto_48 rfl ?_
  refine st_getI rX4_recallInto_49 (by first | assumption | decide | exact ⟨by decide, rfl, by decide⟩) rfl ?_
  refine st_top (show I1 32 1 = nI q by rw [g 32 (by omega)]; exact hq) ?_
  refine st_c rX4_recallInto_52 ?_
  first | refine st_iaddN rX4_recallInto_54 ?_ | refine st_iadd rX4_recallInto_54 ?_
  refine st_c rX4_recallInto_55 ?_
  first | refine st_isubN rX4_recallInto_56 (by omega) ?_ | refine st_isub rX4_recallInto_56 ?_
  refine st_c rX4_recallInto_57 ?_
  refine st_iremN rX4_recallInto_59 (by omega) (by omega) ?_
  refine st_putI rfl rX4_recallInto_60 (by first | assumption | decide | exact ⟨by decide, rfl, by decide⟩) ?_
  refine st_aload rX4_recallInto_63 rfl ?_
  refine st_dup rX4_recallInto_64 rfl ?_
  refine st_getI rX4_recallInto_65 (by first | assumption | decide | exact ⟨by decide, rfl, by decide⟩) rfl ?_
  refine st_top (show _ = nI (c + 1) by rw [up_s, va_up_n (by decide), g 32 (by omega)]; exact hc) ?_
  refine st_c rX4_recallInto_68 ?_
  first | refine st_isubN rX4_recallInto_69 (by omega) ?_ | refine st_isub rX4_recallInto_69 ?_
  refine st_putI rfl rX4_recallInto_70 (by first | assumption | decide | exact ⟨by decide, rfl, by decide⟩) ?_
  refine st_c rX4_recallInto_73 ?_
  refine st_zret rX4_recallInto_74 rfl (by first | rfl | exact vb_nar _) ?_
  refine hk _ (fun a h1 h2 => ?_) ?_ ?_ (fun m N hm hN => ?_)
  · rw [up_n h1, up_n h1]; exact g a (by omega)
  · rw [up_s, va_up_n (by decide), up_s, va_up_s, show q + 10 - 1 = q + 9 by omega]
  · rw [up_s, va_up_s]; rfl
  · exact HV_cong (gv m N hm hN) (fun a _ _ => by rw [up_n (by omega), up_n (by omega)])
set_option maxHeartbeats 4000000 in
set_option maxRecDepth 100000 in
theorem s_recallNo {kk : Int32 → vS → Prop} (hc : I 32 2 = nI 0) (hk : kk (nI 0) (I, J, vRR ρ)) : V d 123 123 mX4_recallInto 0 [.ref 32, .ref 22] [] (I, J, vRR ρ) (Ki kk) := by
  refine st_aload rX4_recallInto_0 rfl ?_
  refine st_getI rX4_recallInto_1 (by first | assumption | decide | exact ⟨by decide, rfl, by decide⟩) rfl ?_
  refine st_top hc ?_
  first | refine st_if_leN rX4_recallInto_4 (by omega) (fun _ => ?_) (fun h => absurd h (by first | decide | omega | (simp; done) | simp_all)) | refine st_if_le rX4_recallInto_4 (fun _ => ?_) (fun h => absurd h (by first | decide | omega | (simp; done) | simp_all))
  refine st_c rX4_recallInto_32 ?_
  refine st_zret rX4_recallInto_33 rfl (by first | rfl | exact vb_nar _) ?_
  exact hk
set_option maxHeartbeats 4000000 in
set_option maxRecDepth 100000 in
theorem s_keepFrom {i : Nat} {kk : Int32 → vS → Prop} (hi : i < 2)
    (hk : ∀ I' : Nat → Nat → Int32, (∀ a, a ≠ 86 → a < 87 + 5 * i ∨ 91 + 5 * i < a → I' a = I a) → I' 86 = va_up (I 86) i (nI 1) → (∀ m N, m ≤ 6 → HV I 22 m N → HV I' (87 + 5 * i) m N) → kk (nI 1) (I', J, vRR ρ)) : V (d + 2) 123 123 mX2_keepFrom 0 [.ref 84, .int (nI i), .ref 22] [] (I, J, vRR ρ) (Ki kk) := by
  have hr := rowHg i hi
  obtain ⟨hob, -, -, -, -⟩ := hangF hr
  have hin : inR (nI i) (nI 0) (nI 1) = true := by rw [inR_N (by decide)]; exact isT_n hi (by decide)
  refine st_iload rX2_keepFrom_0 rfl ?_
  refine st_c rX2_keepFrom_1 ?_
  refine st_c rX2_keepFrom_2 ?_
  refine cS3i rX2_keepFrom_3 (s_within ?_) rfl
  rw [hin]
  first | refine st_if_eqN rX2_keepFrom_6 (by omega) (fun h => absurd h (by first | decide | omega | (simp; done) | simp_all)) (fun _ => ?_) | refine st_if_eq rX2_keepFrom_6 (fun h => absurd h (by first | decide | omega | (simp; done) | simp_all)) (fun _ => ?_)
  refine st_aload rX2_keepFrom_9 rfl ?_
  refine st_getR rX2_keepFrom_10 (by first | assumption | decide | exact ⟨by decide, rfl, by decide⟩) (by first | rfl | assumption) rfl ?_
  refine st_iload rX2_keepFrom_13 rfl ?_
  refine st_aaldN rX2_keepFrom_14 ⟨by decide, rfl, by decide⟩ (by omega) rowR ?_
  refine st_ifnonnull rX2_keepFrom_15 ?_
  refine st_aload rX2_keepFrom_20 rfl ?_
  refine st_getR rX2_keepFrom_21 (by first | assumption | decide | exact ⟨by decide, rfl, by decide⟩) (by first | rfl | assumption) rfl ?_
  refine st_iload rX2_keepFrom_24 rfl ?_
  refine st_aaldN rX2_keepFrom_25 ⟨by decide, rfl, by decide⟩ (by omega) rowR ?_
  refine st_aload rX2_keepFrom_26 rfl ?_
  refine cV2v rX2_keepFrom_27 (by first | assumption | decide | exact ⟨by decide, rfl, by decide⟩) (s_copyFrom hr ⟨by decide, rfl⟩ (by omega) (fun I1 g gv => ?_)) rfl (by decide)
  refine st_aload rX2_keepFrom_30 rfl ?_
  refine st_getR rX2_keepFrom_31 (by first | assumption | decide | exact ⟨by decide, rfl, by decide⟩) (by first | rfl | assumption) rfl ?_
  refine st_iload rX2_keepFrom_34 rfl ?_
  refine st_c rX2_keepFrom_35 ?_
  refine st_bastN rX2_keepFrom_36 (by first | assumption | decide | exact ⟨by decide, rfl, by decide⟩) (by omega) rfl ?_
  refine st_c rX2_keepFrom_37 ?_
  refine st_zret rX2_keepFrom_38 rfl (by first | rfl | exact vb_nar _) ?_
  refine hk _ (fun a h1 h2 => ?_) ?_ (fun m N hm hN => ?_)
  · rw [up_n h1]; exact g a (by omega)
  · rw [up_s, g 86 (by omega)]
  · exact HV_cong (gv m N hm hN) (fun a _ _ => by rw [up_n (by omega)])
set_option maxHeartbeats 4000000 in
set_option maxRecDepth 100000 in
theorem s_keepBad {i : Int32} {kk : Int32 → vS → Prop} (hi : isT 2 i = false) (hk : kk (nI 0) (I, J, vRR ρ)) : V (d + 1) 123 123 mX2_keepFrom 0 [.ref 84, .int i, .ref 22] [] (I, J, vRR ρ) (Ki kk) := by
  refine st_iload rX2_keepFrom_0 rfl ?_
  refine st_c rX2_keepFrom_1 ?_
  refine st_c rX2_keepFrom_2 ?_
  refine cS3i rX2_keepFrom_3 (s_within ?_) rfl
  rw [inR_N (by decide), hi]
  first | refine st_if_eqN rX2_keepFrom_6 (by omega) (fun _ => ?_) (fun h => absurd h (by first | decide | omega | (simp; done) | simp_all)) | refine st_if_eq rX2_keepFrom_6 (fun _ => ?_) (fun h => absurd h (by first | decide | omega | (simp; done) | simp_all))
  refine st_c rX2_keepFrom_18 ?_
  refine st_zret rX2_keepFrom_19 rfl (by first | rfl | exact vb_nar _) ?_
  exact hk
set_option maxHeartbeats 4000000 in
set_option maxRecDepth 100000 in
theorem s_bring {i : Nat} {kk : Int32 → vS → Prop} (hi : i < 2) (h1 : I 86 i = nI 1)
    (hk : ∀ I' : Nat → Nat → Int32, (∀ a, a < 22 ∨ 26 < a → I' a = I a) → (∀ m N, m ≤ 6 → HV I (87 + 5 * i) m N → HV I' 22 m N) → kk (nI 1) (I', J, vRR ρ)) : V (d + 2) 123 123 mX2_bringInto 0 [.ref 84, .int (nI i), .ref 22] [] (I, J, vRR ρ) (Ki kk) := by
  have hr := rowHg i hi
  obtain ⟨hob, -, -, -, -⟩ := hangF hr
  have hin : inR (nI i) (nI 0) (nI 1) = true := by rw [inR_N (by decide)]; exact isT_n hi (by decide)
  refine st_iload rX2_bringInto_0 rfl ?_
  refine st_c rX2_bringInto_1 ?_
  refine st_c rX2_bringInto_2 ?_
  refine cS3i rX2_bringInto_3 (s_within ?_) rfl
  rw [hin]
  first | refine st_if_eqN rX2_bringInto_6 (by omega) (fun h => absurd h (by first | decide | omega | (simp; done) | simp_all)) (fun _ => ?_) | refine st_if_eq rX2_bringInto_6 (fun h => absurd h (by first | decide | omega | (simp; done) | simp_all)) (fun _ => ?_)
  refine st_aload rX2_bringInto_9 rfl ?_
  refine st_getR rX2_bringInto_10 (by first | assumption | decide | exact ⟨by decide, rfl, by decide⟩) (by first | rfl | assumption) rfl ?_
  refine st_iload rX2_bringInto_13 rfl ?_
  refine st_baldN rX2_bringInto_14 (by first | assumption | decide | exact ⟨by decide, rfl, by decide⟩) (by omega) ?_
  refine st_top h1 ?_
  first | refine st_if_eqN rX2_bringInto_15 (by omega) (fun h => absurd h (by first | decide | omega | (simp; done) | simp_all)) (fun _ => ?_) | refine st_if_eq rX2_bringInto_15 (fun h => absurd h (by first | decide | omega | (simp; done) | simp_all)) (fun _ => ?_)
  refine st_aload rX2_bringInto_18 rfl ?_
  refine st_getR rX2_bringInto_19 (by first | assumption | decide | exact ⟨by decide, rfl, by decide⟩) (by first | rfl | assumption) rfl ?_
  refine st_iload rX2_bringInto_22 rfl ?_
  refine st_aaldN rX2_bringInto_23 ⟨by decide, rfl, by decide⟩ (by omega) rowR ?_
  refine st_ifnonnull rX2_bringInto_24 ?_
  refine st_aload rX2_bringInto_29 rfl ?_
  refine st_aload rX2_bringInto_30 rfl ?_
  refine st_getR rX2_bringInto_31 (by first | assumption | decide | exact ⟨by decide, rfl, by decide⟩) (by first | rfl | assumption) rfl ?_
  refine st_iload rX2_bringInto_34 rfl ?_
  refine st_aaldN rX2_bringInto_35 ⟨by decide, rfl, by decide⟩ (by omega) rowR ?_
  refine cV2v rX2_bringInto_36 (by first | assumption | decide | exact ⟨by decide, rfl, by decide⟩) (s_copyFrom ⟨by decide, rfl⟩ hr (by omega) (fun I1 g gv => ?_)) rfl (by decide)
  refine st_c rX2_bringInto_39 ?_
  refine st_zret rX2_bringInto_40 rfl (by first | rfl | exact vb_nar _) ?_
  exact hk I1 g gv
set_option maxHeartbeats 4000000 in
set_option maxRecDepth 100000 in
theorem s_bringNo {i : Nat} {kk : Int32 → vS → Prop} (hi : i < 2) (h1 : I 86 i = nI 0) (hk : kk (nI 0) (I, J, vRR ρ)) : V (d + 1) 123 123 mX2_bringInto 0 [.ref 84, .int (nI i), .ref 22] [] (I, J, vRR ρ) (Ki kk) := by
  have hin : inR (nI i) (nI 0) (nI 1) = true := by rw [inR_N (by decide)]; exact isT_n hi (by decide)
  refine st_iload rX2_bringInto_0 rfl ?_
  refine st_c rX2_bringInto_1 ?_
  refine st_c rX2_bringInto_2 ?_
  refine cS3i rX2_bringInto_3 (s_within ?_) rfl
  rw [hin]
  first | refine st_if_eqN rX2_bringInto_6 (by omega) (fun h => absurd h (by first | decide | omega | (simp; done) | simp_all)) (fun _ => ?_) | refine st_if_eq rX2_bringInto_6 (fun h => absurd h (by first | decide | omega | (simp; done) | simp_all)) (fun _ => ?_)
  refine st_aload rX2_bringInto_9 rfl ?_
  refine st_getR rX2_bringInto_10 (by first | assumption | decide | exact ⟨by decide, rfl, by decide⟩) (by first | rfl | assumption) rfl ?_
  refine st_iload rX2_bringInto_13 rfl ?_
  refine st_baldN rX2_bringInto_14 (by first | assumption | decide | exact ⟨by decide, rfl, by decide⟩) (by omega) ?_
  refine st_top h1 ?_
  first | refine st_if_eqN rX2_bringInto_15 (by omega) (fun _ => ?_) (fun h => absurd h (by first | decide | omega | (simp; done) | simp_all)) | refine st_if_eq rX2_bringInto_15 (fun _ => ?_) (fun h => absurd h (by first | decide | omega | (simp; done) | simp_all))
  refine st_c rX2_bringInto_27 ?_
  refine st_zret rX2_bringInto_28 rfl (by first | rfl | exact vb_nar _) ?_
  exact hk
abbrev aKeep (A : Nat → Nat → Int32) (i : Nat) : Nat → Nat → Int32 := up (up A 116 (cpR (A 116) (A 114) (56 * i) 56)) 117 (va_up (A 117) i (nI 1))
theorem aKeep_e {i : Nat} : ∀ a, a ≠ 116 → a ≠ 117 → aKeep A i a = A a := fun a h1 h2 => by simp only [aKeep]; rw [up_n h2, up_n h1]
theorem aKeep_6 {i : Nat} : aKeep A i 116 = cpR (A 116) (A 114) (56 * i) 56 := by simp only [aKeep]; rw [up_n (by decide), up_s]
theorem aKeep_7 {i : Nat} : aKeep A i 117 = va_up (A 117) i (nI 1) := by simp only [aKeep]; rw [up_s]
theorem ok_keep {i : Nat} (h : OkA A m no) (hi : i < 2) : OkA (aKeep A i) m no := by
  obtain ⟨h1, h2, h3, h4, h5, h6, h7⟩ := h
  have e := @aKeep_e A i
  refine ⟨OkT_c h1 (by rw [e 105 (by omega) (by omega)]) (by rw [e 105 (by omega) (by omega)]) (fun a _ _ => e a (by omega) (by omega)), OkL_c h2 (by rw [e 103 (by omega) (by omega)]) (e _ (by omega) (by omega)), ?_, ?_, OkU_c h5 (e _ (by omega) (by omega)) (e _ (by omega) (by omega)) (by rw [e 103 (by omega) (by omega)]) (e _ (by omega) (by omega)), fun j hj => ?_, OkF_c h7 (by rw [e 103 (by omega) (by omega)]) (e _ (by omega) (by omega)) (e _ (by omega) (by omega))⟩
  · rw [e 114 (by omega) (by omega)]; exact OkN_c h3 (e _ (by omega) (by omega)) (e _ (by omega) (by omega))
  · rw [e 114 (by omega) (by omega)]; exact h4
  · rw [aKeep_7]
    by_cases hj2 : j = i
    · subst hj2
      rw [va_up_s]
      have er : ∀ k, k < 56 → rw56 (aKeep A j) 116 j k = A 114 k := fun k hk => by simp only [rw56]; rw [aKeep_6, cpR_in hk]
      exact ⟨Or.inr rfl, fun _ => ⟨OkN_c (OkN_N h3 h1.2.2.1 h1.2.2.2.1 er) (e _ (by omega) (by omega)) (e _ (by omega) (by omega)), Ok60_N h4 (er 0 (by omega))⟩⟩
    · rw [va_up_n hj2]
      obtain ⟨g1, g2⟩ := h6 j hj
      have er : ∀ k, k < 56 → rw56 (aKeep A i) 116 j k = rw56 A 116 j k := fun k hk => by simp only [rw56]; rw [aKeep_6, cpR_out (by omega)]
      exact ⟨g1, fun g => ⟨OkN_c (OkN_N (g2 g).1 h1.2.2.1 h1.2.2.2.1 er) (e _ (by omega) (by omega)) (e _ (by omega) (by omega)), Ok60_N (g2 g).2 (er 0 (by omega))⟩⟩
set_option maxHeartbeats 4000000 in
set_option maxRecDepth 100000 in
theorem c_keepBad {i : Int32} (hi : isT 2 i = false) (hk : k (-1) (I, J, vRR ρ)) : V (d + 2) 123 123 mX7_keep 0 [.ref 0, .int i] [] (I, J, vRR ρ) (Ki k) := by
  refine st_aload rX7_keep_0 rfl ?_
  refine st_getR rX7_keep_1 (by first | assumption | decide | exact ⟨by decide, rfl, by decide⟩) (by first | rfl | assumption) rfl ?_
  refine st_iload rX7_keep_4 rfl ?_
  refine st_aload rX7_keep_5 rfl ?_
  refine st_getR rX7_keep_6 (by first | assumption | decide | exact ⟨by decide, rfl, by decide⟩) (by first | rfl | assumption) rfl ?_
  refine cV3i rX7_keep_9 (by first | assumption | decide | exact ⟨by decide, rfl, by decide⟩) (s_keepBad hi ?_) rfl (by decide)
  first | refine st_if_eqN rX7_keep_12 (by omega) (fun _ => ?_) (fun h => absurd h (by first | decide | omega | (simp; done) | simp_all)) | refine st_if_eq rX7_keep_12 (fun _ => ?_) (fun h => absurd h (by first | decide | omega | (simp; done) | simp_all))
  refine st_c rX7_keep_25 ?_
  refine st_iret rX7_keep_26 rfl ?_
  exact hk
set_option maxHeartbeats 4000000 in
set_option maxRecDepth 100000 in
theorem m_keepBad {i : Int32} (hM : InvM I J A T) (hi : isT 2 i = false) (hk : ∀ I', (∀ a, a < 103 ∨ 123 ≤ a → I' a = I a) → InvM I' J A T → k (-1) (I', J, vRR ρ)) : V (d + 1) 123 123 mX8_keep 0 [.ref 103, .int i, vJ] [] (I, J, vRR ρ) (Ki k) := by
  refine s_thr rX8_keep_0 rX8_keep_1 rX8_keep_2 hM (fun I1 e1 e2 hM1 => ?_)
  refine st_iload rX8_keep_5 rfl ?_
  refine st_c rX8_keep_6 ?_
  refine st_c rX8_keep_7 ?_
  refine cS3i rX8_keep_8 (s_in ?_) rfl
  rw [inR_N (by decide), hi]
  first | refine st_if_neN rX8_keep_11 (by omega) (fun h => absurd h (by first | decide | omega | (simp; done) | simp_all)) (fun _ => ?_) | refine st_if_ne rX8_keep_11 (fun h => absurd h (by first | decide | omega | (simp; done) | simp_all)) (fun _ => ?_)
  refine st_c rX8_keep_14 ?_
  refine st_iret rX8_keep_15 rfl ?_
  exact hk I1 (fun a ha => e1 a (by omega)) hM1
set_option maxHeartbeats 4000000 in
set_option maxRecDepth 100000 in
theorem c_keep {i : Nat} (hC : InvC I J ρ A T m no) (hO : OkA A m no) (hi : i < 2) (hk : ∀ I', (∀ a, 103 ≤ a → I' a = I a) → InvC I' J ρ (aKeep A i) T m no → k (A 114 0) (I', J, vRR ρ)) : V (d + 3) 123 123 mX7_keep 0 [.ref 0, .int (nI i)] [] (I, J, vRR ρ) (Ki k) := by
  obtain ⟨ht0, ht1, ht2, ht3, ht4, ht5, ht6, ht7, ht8, ht9, ht10⟩ := id hC.1
  obtain ⟨hto, o1, o2, o3, o4, o5, o6, o7, o8⟩ := toldF ht0
  have hm6 : m ≤ 6 := hO.1.2.2.1
  have hno6 : no ≤ 6 := hO.1.2.2.2.1
  refine st_aload rX7_keep_0 rfl ?_
  refine st_getR rX7_keep_1 (by first | assumption | decide | exact ⟨by decide, rfl, by decide⟩) (by first | rfl | assumption) rfl ?_
  refine st_iload rX7_keep_4 rfl ?_
  refine st_aload rX7_keep_5 rfl ?_
  refine st_getR rX7_keep_6 (by first | assumption | decide | exact ⟨by decide, rfl, by decide⟩) (by first | rfl | assumption) rfl ?_
  refine cV3i rX7_keep_9 (by first | assumption | decide | exact ⟨by decide, rfl, by decide⟩) (s_keepFrom hi (fun I1 g g86 gv => ?_)) rfl (by decide)
  first | refine st_if_eqN rX7_keep_12 (by omega) (fun h => absurd h (by first | decide | omega | (simp; done) | simp_all)) (fun _ => ?_) | refine st_if_eq rX7_keep_12 (fun h => absurd h (by first | decide | omega | (simp; done) | simp_all)) (fun _ => ?_)
  refine st_aload rX7_keep_15 rfl ?_
  refine st_getR rX7_keep_16 (by first | assumption | decide | exact ⟨by decide, rfl, by decide⟩) (by first | rfl | assumption) rfl ?_
  refine st_getI rX7_keep_19 (by first | assumption | decide | exact ⟨by decide, rfl, by decide⟩) rfl ?_
  refine st_top (show I1 22 0 = A 114 0 by rw [g 22 (by omega) (by omega)]; exact hC.2.2.1.1) ?_
  refine st_goto rX7_keep_22 ?_
  refine st_iret rX7_keep_26 rfl ?_
  obtain ⟨hT, hL, hN, hU, hI, hF, hJ⟩ := hC
  have e := @aKeep_e A i
  have hρ : ρ ≤ 13 := by rcases hT.1 with h | h <;> omega
  refine hk _ (fun a ha => g a (by omega) (by omega)) ⟨CT_c hT (fun a _ _ => g a (by omega) (by omega)) (fun a _ _ => e a (by omega) (by omega)), CL_c hL (by rw [g 1 (by omega) (by omega)]) (g 2 (by omega) (by omega)) (by rw [e 103 (by omega) (by omega)]) (e _ (by omega) (by omega)), ?_, CU_c hU (fun a ha => g a (by omega) (by omega)) (by rw [e 103 (by omega) (by omega)]) (e _ (by omega) (by omega)), fun j hj => ?_, CF_c hF (fun a h1 h2 => g a (by omega) (by omega)) (by rw [e 103 (by omega) (by omega)]) (e _ (by omega) (by omega)) (e _ (by omega) (by omega)), hJ⟩
  · rw [e 114 (by omega) (by omega)]
    exact HV_cong hN (fun a _ _ => g a (by omega) (by omega))
  · rw [aKeep_7, g86]
    by_cases hj2 : j = i
    · subst hj2
      rw [va_up_s, va_up_s]
      refine ⟨rfl, fun _ => HV_N (gv m (A 114) hm6 hN) hm6 (fun k hk => ?_)⟩
      simp only [rw56]; rw [aKeep_6, cpR_in hk]
    · rw [va_up_n hj2, va_up_n hj2]
      obtain ⟨q1, q2⟩ := hI j hj
      refine ⟨q1, fun h1 => HV_N (HV_cong (q2 h1) (fun a h3 h4 => g a (by omega) (by omega))) hm6 (fun k hk => ?_)⟩
      simp only [rw56]; rw [aKeep_6, cpR_out (by omega)]
set_option maxHeartbeats 4000000 in
set_option maxRecDepth 100000 in
theorem m_keep {i : Nat} (hM : InvM I J A T) (hO : OkA A m no) (hi : i < 2) (hk : ∀ I', (∀ a, a < 103 ∨ 123 ≤ a → I' a = I a) → InvM I' J (aKeep A i) T → k (A 114 0) (I', J, vRR ρ)) : V (d + 1) 123 123 mX8_keep 0 [.ref 103, .int (nI i), vJ] [] (I, J, vRR ρ) (Ki k) := by
  refine s_thr rX8_keep_0 rX8_keep_1 rX8_keep_2 hM (fun I1 e1 e2 hM1 => ?_)
  have hm6 : m ≤ 6 := hO.1.2.2.1
  have hno6 : no ≤ 6 := hO.1.2.2.2.1
  obtain ⟨m1, m2, m3, m4, m5, m6, m7, m8, m9, m10, m11, m12, m13, m14, m15, m16⟩ := id hM1
  have hmm : I1 105 0 = nI m := m11.trans hO.1.1
  have hmo : I1 105 1 = nI no := m12.trans hO.1.2.1
  refine st_iload rX8_keep_5 rfl ?_
  refine st_c rX8_keep_6 ?_
  refine st_c rX8_keep_7 ?_
  refine cS3i rX8_keep_8 (s_in ?_) rfl
  rw [inR_N (by decide), isT_n hi (by decide)]
  first | refine st_if_neN rX8_keep_11 (by omega) (fun _ => ?_) (fun h => absurd h (by first | decide | omega | (simp; done) | simp_all)) | refine st_if_ne rX8_keep_11 (fun _ => ?_) (fun h => absurd h (by first | decide | omega | (simp; done) | simp_all))
  refine st_c rX8_keep_16 ?_
  refine st_istore2 rX8_keep_17 rfl ?_
  skip
  have key : ∀ (r q : Nat) (I2 : Nat → Nat → Int32), q + r = 56 → (∀ a, a ≠ 116 → I2 a = I1 a) → I2 116 = cpR (A 116) (A 114) (56 * i) q → V (d + 1) 123 123 mX8_keep 18 [.ref 103, .int (nI i), .int (nI q)] [] (I2, J, vRR ρ) (Ki k) := by
    intro r
    induction r with
    | zero =>
      intro q I2 hq g g6
      have hq : q = 56 := by omega
      subst hq
      refine st_iload rX8_keep_18 rfl ?_
      refine st_c rX8_keep_19 ?_
      first | refine st_icmp_geN rX8_keep_21 (by omega) (by omega) (fun _ => ?_) (fun h => absurd h (by first | decide | omega | (simp; done) | simp_all)) | refine st_icmp_ge rX8_keep_21 (fun _ => ?_) (fun h => absurd h (by first | decide | omega | (simp; done) | simp_all))
      refine st_aload rX8_keep_47 rfl ?_
      refine st_getR rX8_keep_48 (by first | assumption | decide | exact ⟨by decide, rfl, by decide⟩) (by first | rfl | assumption) rfl ?_
      refine st_iload rX8_keep_51 rfl ?_
      refine st_c rX8_keep_52 ?_
      refine st_bastN rX8_keep_53 (by first | assumption | decide | exact ⟨by decide, rfl, by decide⟩) (by omega) rfl ?_
      refine st_aload rX8_keep_54 rfl ?_
      refine st_getR rX8_keep_55 (by first | assumption | decide | exact ⟨by decide, rfl, by decide⟩) (by first | rfl | assumption) rfl ?_
      refine st_c rX8_keep_58 ?_
      refine st_ialdN rX8_keep_59 (by first | assumption | decide | exact ⟨by decide, rfl, by decide⟩) (by omega) ?_
      refine st_top (show _ = A 114 0 by rw [up_n (by decide), g 114 (by decide), m3]) ?_
      refine st_iret rX8_keep_60 rfl ?_
      refine hk _ (fun a ha => by rw [up_n (by omega), g a (by omega)]; exact e1 a (by omega)) ?_
      have e := @aKeep_e A i
      have g' : ∀ a, a ≠ 116 → a ≠ 117 → up I2 117 (va_up (I2 117) i (nI 1)) a = I1 a := fun a h1 h2 => by rw [up_n h2, g a h1]
      have g7 : up I2 117 (va_up (I2 117) i (nI 1)) 117 = va_up (A 117) i (nI 1) := by rw [up_s, g 117 (by decide), m5]
      have g66 : up I2 117 (va_up (I2 117) i (nI 1)) 116 = cpR (A 116) (A 114) (56 * i) 56 := by rw [up_n (by decide), g6]
      simp (disch := omega) only [InvM, e, g', g7, g66, aKeep_6, aKeep_7]
      exact ⟨m1, m2, m3, trivial, trivial, m6, m7, m8, m9, m10, m11, m12, m13, m14, m15, m16⟩
    | succ r ih =>
      intro q I2 hq g g6
      refine st_iload rX8_keep_18 rfl ?_
      refine st_c rX8_keep_19 ?_
      first | refine st_icmp_geN rX8_keep_21 (by omega) (by omega) (fun h => absurd h (by first | decide | omega | (simp; done) | simp_all)) (fun _ => ?_) | refine st_icmp_ge rX8_keep_21 (fun h => absurd h (by first | decide | omega | (simp; done) | simp_all)) (fun _ => ?_)
      refine st_aload rX8_keep_24 rfl ?_
      refine st_getR rX8_keep_25 (by first | assumption | decide | exact ⟨by decide, rfl, by decide⟩) (by first | rfl | assumption) rfl ?_
      refine st_c rX8_keep_28 ?_
      refine st_iload rX8_keep_30 rfl ?_
      first | refine st_imulN rX8_keep_31 ?_ | refine st_imul rX8_keep_31 ?_
      refine st_iload rX8_keep_32 rfl ?_
      first | refine st_iaddN rX8_keep_33 ?_ | refine st_iadd rX8_keep_33 ?_
      refine st_aload rX8_keep_34 rfl ?_
      refine st_getR rX8_keep_35 (by first | assumption | decide | exact ⟨by decide, rfl, by decide⟩) (by first | rfl | assumption) rfl ?_
      refine st_iload rX8_keep_38 rfl ?_
      refine st_ialdN rX8_keep_39 (by first | assumption | decide | exact ⟨by decide, rfl, by decide⟩) (by omega) ?_
      refine st_iastN rX8_keep_40 (by first | assumption | decide | exact ⟨by decide, rfl, by decide⟩) (by omega) ?_
      first | refine st_iincN2 rX8_keep_41 rfl ?_ | refine st_iinc2 rX8_keep_41 rfl ?_
      refine st_goto rX8_keep_44 ?_
      refine ih (q + 1) _ (by omega) (fun a ha => by rw [up_n ha, g a ha]) ?_
      rw [up_s, g6, g 114 (by decide), m3, cpR_s]
  exact key 56 0 I1 (by omega) (fun a _ => rfl) (by rw [cpR_0]; exact m4)
end P20
