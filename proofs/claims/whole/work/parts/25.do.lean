/-! ===== what is done: notes, cuts; trades, widens ===== -/
/-- the rows of the past, the oldest lost -/
def shf (f : Nat → Int32) (n : Nat) : Nat → Int32 := fun k => if k < n then f (k + 56) else f k
theorem shf_s (f : Nat → Int32) (n : Nat) : va_up (shf f n) n (shf f n (n + 56)) = shf f (n + 1) := by
  funext k
  simp only [shf, va_up]
  by_cases h : k = n
  · subst h
    rw [if_pos rfl, if_neg (by omega), if_pos (by omega)]
  · rw [if_neg h]
    by_cases h2 : k < n
    · rw [if_pos h2, if_pos (by omega)]
    · rw [if_neg h2, if_neg (by omega)]
def wNt (A : Nat → Nat → Int32) (u : Nat) : Nat → Int32 := if u = 10 then cpR (shf (A 118) 504) (A 114) (56 * 9) 56 else cpR (A 118) (A 114) (56 * u) 56
/-- what is done: the past grows, the row N' is now -/
def aDo (A : Nat → Nat → Int32) (u : Nat) (N' : Nat → Int32) : Nat → Nat → Int32 := up (up (up A 118 (wNt A u)) 103 (va_up (A 103) 23 (nI (min 10 (u + 1))))) 114 N'
section P25
variable {d : Nat} {I A : Nat → Nat → Int32} {J : Nat → Nat → Int64} {ρ m no : Nat} {T : Int64} {k : Int32 → vS → Prop} {kl : Int64 → vS → Prop} {kv : vS → Prop}
theorem aDo_e {u : Nat} {N' : Nat → Int32} : ∀ a, a ≠ 103 → a ≠ 114 → a ≠ 118 → aDo A u N' a = A a := fun a h1 h2 h3 => by simp only [aDo]; rw [up_n h2, up_n h1, up_n h3]
theorem aDo_f {u : Nat} {N' : Nat → Int32} : ∀ q, q ≠ 23 → aDo A u N' 103 q = A 103 q := fun q hq => by simp only [aDo]; rw [up_n (by decide), up_s, va_up_n hq]
theorem aDo_3 {u : Nat} {N' : Nat → Int32} : aDo A u N' 103 23 = nI (min 10 (u + 1)) := by simp only [aDo]; rw [up_n (by decide), up_s, va_up_s]
theorem aDo_4 {u : Nat} {N' : Nat → Int32} : aDo A u N' 114 = N' := by simp only [aDo]; rw [up_s]
theorem aDo_8 {u : Nat} {N' : Nat → Int32} : aDo A u N' 118 = wNt A u := by simp only [aDo]; rw [up_n (by decide), up_n (by decide), up_s]
theorem aDo_row {u j : Nat} {N' : Nat → Int32} (hu : u ≤ 10) (hj : j < min 10 (u + 1)) : ∀ k, k < 56 → rw56 (aDo A u N') 118 j k = if j + 1 = min 10 (u + 1) then A 114 k else rw56 A 118 (if u = 10 then j + 1 else j) k := by
  intro k hk
  simp only [rw56]
  rw [aDo_8, wNt]
  by_cases h : u = 10
  · subst h
    rw [if_pos rfl, if_pos rfl]
    by_cases h2 : j = 9
    · subst h2
      rw [if_pos (by omega), cpR_in hk]
    · rw [if_neg (by omega), cpR_out (by omega), shf, if_pos (by omega)]
      congr 1
      omega
  · rw [if_neg h, if_neg h]
    by_cases h2 : j = u
    · subst h2
      rw [if_pos (by omega), cpR_in hk]
    · rw [if_neg (by omega), cpR_out (by omega)]
theorem ok_do {u : Nat} {N' : Nat → Int32} (h : OkA A m no) (hu : A 103 23 = nI u) (hu10 : u ≤ 10) (hN : OkN A m no N') (h60 : Ok60 N') : OkA (aDo A u N') m no := by
  obtain ⟨h1, h2, h3, h4, ⟨u', u1, u2, u3⟩, h6, h7⟩ := h
  have huv' : u' = u := (nI_eq (by omega) (by omega)).mp (u2.symm.trans hu)
  subst huv'
  have e := @aDo_e A u' N'
  have f := @aDo_f A u' N'
  refine ⟨OkT_c h1 (by rw [e 105 (by omega) (by omega) (by omega)]) (by rw [e 105 (by omega) (by omega) (by omega)]) (fun a _ _ => e a (by omega) (by omega) (by omega)), OkL_c h2 (f _ (by omega)) (e _ (by omega) (by omega) (by omega)), ?_, ?_, ⟨min 10 (u' + 1), by omega, aDo_3, fun j hj => ?_⟩, OkI_c h6 (e _ (by omega) (by omega) (by omega)) (e _ (by omega) (by omega) (by omega)) (e _ (by omega) (by omega) (by omega)) (e _ (by omega) (by omega) (by omega)), OkF_c h7 (f _ (by omega)) (e _ (by omega) (by omega) (by omega)) (e _ (by omega) (by omega) (by omega))⟩
  · rw [aDo_4]; exact OkN_c hN (e _ (by omega) (by omega) (by omega)) (e _ (by omega) (by omega) (by omega))
  · rw [aDo_4]; exact h60
  · have er := aDo_row (A := A) (N' := N') hu10 hj
    by_cases hj2 : j + 1 = min 10 (u' + 1)
    · simp only [if_pos hj2] at er
      exact ⟨OkN_c (OkN_N h3 h1.2.2.1 h1.2.2.2.1 er) (e _ (by omega) (by omega) (by omega)) (e _ (by omega) (by omega) (by omega)), Ok60_N h4 (er 0 (by omega))⟩
    · simp only [if_neg hj2] at er
      have hq := u3 (if u' = 10 then j + 1 else j) (by split <;> omega)
      exact ⟨OkN_c (OkN_N hq.1 h1.2.2.1 h1.2.2.2.1 er) (e _ (by omega) (by omega) (by omega)) (e _ (by omega) (by omega) (by omega)), Ok60_N hq.2 (er 0 (by omega))⟩
/-- the class's side, behind remember and what changed the hanging -/
theorem C_do {I1 I2 : Nat → Nat → Int32} {q u : Nat} {N' : Nat → Int32} (hC : InvC I J ρ A T m no) (hm6 : m ≤ 6) (hu : A 103 23 = nI u) (hu10 : u ≤ 10) (hq : I 32 1 = nI q) (hq10 : q < 10) (hu3 : ∀ j, j < u → HV I (34 + 5 * ((q + 11 + j - u) % 10)) m (rw56 A 118 j))
    (g : ∀ a, a ≠ 32 → a < 34 + 5 * ((q + 1) % 10) ∨ 38 + 5 * ((q + 1) % 10) < a → I1 a = I a) (gq : I1 32 1 = nI ((q + 1) % 10)) (gu : I1 32 2 = nI (min 10 (u + 1))) (gv : ∀ m N, m ≤ 6 → HV I 22 m N → HV I1 (34 + 5 * ((q + 1) % 10)) m N)
    (g2 : ∀ a, a < 22 ∨ 31 < a → a < 100 → I2 a = I1 a) (hN : HV I2 22 m N') : InvC I2 J ρ (aDo A u N') T m no := by
  obtain ⟨hT, hL, hN0, -, hI, hF, hJ⟩ := hC
  have e := @aDo_e A u N'
  have f := @aDo_f A u N'
  have hρ : ρ ≤ 13 := by rcases hT.1 with h | h <;> omega
  have gg : ∀ a, a ≠ 32 → a < 22 ∨ 31 < a → a < 100 → a < 34 + 5 * ((q + 1) % 10) ∨ 38 + 5 * ((q + 1) % 10) < a → I2 a = I a := fun a h1 h2 h3 h4 => by rw [g2 a h2 h3, g a h1 h4]
  refine ⟨CT_c hT (fun a _ _ => gg a (by omega) (by omega) (by omega) (by omega)) (fun a _ _ => e a (by omega) (by omega) (by omega)), CL_c hL (by rw [gg 1 (by omega) (by omega) (by omega) (by omega)]) (gg 2 (by omega) (by omega) (by omega) (by omega)) (f _ (by omega)) (e _ (by omega) (by omega) (by omega)), by rw [aDo_4]; exact hN, ⟨(q + 1) % 10, by omega, by rw [g2 32 (by omega) (by omega)]; exact gq, by rw [g2 32 (by omega) (by omega), aDo_3]; exact gu, fun v v1 v2 j hj => ?_⟩, CI_c hI (fun a ha => gg a (by omega) (by omega) (by omega) (by omega)) (e _ (by omega) (by omega) (by omega)) (e _ (by omega) (by omega) (by omega)), CF_c hF (fun a h1 h2 => gg a (by omega) (by omega) (by omega) (by omega)) (f _ (by omega)) (e _ (by omega) (by omega) (by omega)) (e _ (by omega) (by omega) (by omega)), hJ⟩
  rw [aDo_3] at v2
  have hvu := (nI_eq (by omega) (by omega)).mp v2
  have er := aDo_row (A := A) (N' := N') hu10 (hvu ▸ hj)
  by_cases hj2 : j + 1 = min 10 (u + 1)
  · simp only [if_pos hj2] at er
    rw [show ((q + 1) % 10 + 11 + j - v) % 10 = (q + 1) % 10 by omega]
    exact HV_N (HV_cong (gv m (A 114) hm6 hN0) (fun a _ _ => g2 a (by omega) (by omega))) hm6 er
  · simp only [if_neg hj2] at er
    have h1 := hu3 (if u = 10 then j + 1 else j) (by split <;> omega)
    have ei : (q + 11 + (if u = 10 then j + 1 else j) - u) % 10 = ((q + 1) % 10 + 11 + j - v) % 10 := by split <;> omega
    rw [ei] at h1
    refine HV_N (HV_cong h1 (fun a h3 h4 => gg a (by omega) (by omega) (by omega) ?_)) hm6 er
    have : ((q + 1) % 10 + 11 + j - v) % 10 ≠ (q + 1) % 10 := by omega
    omega
set_option maxHeartbeats 4000000 in
set_option maxRecDepth 100000 in
theorem s_notes {u : Nat} (hu : I 103 23 = nI u) (hu10 : u ≤ 10) (h4 : I 114 = A 114) (h8 : I 118 = A 118)
    (hk : ∀ I', (∀ a, a ≠ 103 → a ≠ 118 → I' a = I a) → (∀ q, q ≠ 23 → I' 103 q = I 103 q) → I' 103 23 = nI (min 10 (u + 1)) → I' 118 = wNt A u → kv (I', J, vRR ρ)) : V d 123 123 mX8_notes 0 [.ref 103, vJ] [] (I, J, vRR ρ) (Kv kv) := by
  have tail : ∀ (v : Nat) (f : Nat → Int32) (I1 : Nat → Nat → Int32) (x : Value), x.category = 1 → v ≤ 9 → v + 1 = min 10 (u + 1) → cpR f (A 114) (56 * v) 56 = wNt A u → (∀ a, a ≠ 103 → a ≠ 118 → I1 a = I a) → (∀ q, q ≠ 23 → I1 103 q = I 103 q) → I1 103 23 = nI v → I1 118 = f → V d 123 123 mX8_notes 45 [.ref 103, x] [] (I1, J, vRR ρ) (Kv kv) := by
    intro v f I1 x hx hv9 hvu hw g g3 g23 g8
    refine st_c rX8_notes_45 ?_
    refine st_istore1 rX8_notes_46 rfl ?_
    have key : ∀ (r q : Nat) (I2 : Nat → Nat → Int32), q + r = 56 → (∀ a, a ≠ 118 → I2 a = I1 a) → I2 118 = cpR f (A 114) (56 * v) q → V d 123 123 mX8_notes 47 [.ref 103, .int (nI q)] [] (I2, J, vRR ρ) (Kv kv) := by
      intro r
      induction r with
      | zero =>
        intro q I2 hq e e8
        have hq : q = 56 := by omega
        subst hq
        refine st_iload rX8_notes_47 rfl ?_
        refine st_c rX8_notes_48 ?_
        first | with_reducible refine st_icmp_geN rX8_notes_50 (by omega) (by omega) (fun _ => ?_) (fun h => absurd h (by first | decide | omega | (simp; done) | simp_all)) | refine st_icmp_ge rX8_notes_50 (fun _ => ?_) (fun h => absurd h (by first | decide | omega | (simp; done) | simp_all))
        refine st_aload rX8_notes_79 rfl ?_
        refine st_dup rX8_notes_80 rfl ?_
        refine st_getI rX8_notes_81 (by first | assumption | decide | exact ⟨by decide, rfl, by decide⟩) rfl ?_
        refine st_top (show I2 103 23 = nI v by rw [e 103 (by decide)]; exact g23) ?_
        refine st_c rX8_notes_84 ?_
        first | with_reducible refine st_iaddN rX8_notes_85 ?_ | refine st_iadd rX8_notes_85 ?_
        refine st_putI rfl rX8_notes_86 (by first | assumption | decide | exact ⟨by decide, rfl, by decide⟩) ?_
        refine st_vret rX8_notes_89 rfl ?_
        refine hk _ (fun a h1 h2 => by rw [up_n h1, e a h2, g a h1 h2]) (fun q hq => by rw [up_s, va_up_n hq, e 103 (by decide), g3 q hq]) (by rw [up_s, va_up_s, hvu]) (by rw [up_n (by decide), e8, hw])
      | succ r ih =>
        intro q I2 hq e e8
        refine st_iload rX8_notes_47 rfl ?_
        refine st_c rX8_notes_48 ?_
        first | with_reducible refine st_icmp_geN rX8_notes_50 (by omega) (by omega) (fun h => absurd h (by first | decide | omega | (simp; done) | simp_all)) (fun _ => ?_) | refine st_icmp_ge rX8_notes_50 (fun h => absurd h (by first | decide | omega | (simp; done) | simp_all)) (fun _ => ?_)
        refine st_aload rX8_notes_53 rfl ?_
        refine st_getR rX8_notes_54 (by first | assumption | decide | exact ⟨by decide, rfl, by decide⟩) (by first | rfl | assumption) rfl ?_
        refine st_c rX8_notes_57 ?_
        refine st_aload rX8_notes_59 rfl ?_
        refine st_getI rX8_notes_60 (by first | assumption | decide | exact ⟨by decide, rfl, by decide⟩) rfl ?_
        refine st_top (show I2 103 23 = nI v by rw [e 103 (by decide)]; exact g23) ?_
        first | with_reducible refine st_imulN rX8_notes_63 ?_ | refine st_imul rX8_notes_63 ?_
        refine st_iload rX8_notes_64 rfl ?_
        first | with_reducible refine st_iaddN rX8_notes_65 ?_ | refine st_iadd rX8_notes_65 ?_
        refine st_aload rX8_notes_66 rfl ?_
        refine st_getR rX8_notes_67 (by first | assumption | decide | exact ⟨by decide, rfl, by decide⟩) (by first | rfl | assumption) rfl ?_
        refine st_iload rX8_notes_70 rfl ?_
        refine st_ialdN rX8_notes_71 (by first | assumption | decide | exact ⟨by decide, rfl, by decide⟩) (by omega) ?_
        refine st_iastN rX8_notes_72 (by first | assumption | decide | exact ⟨by decide, rfl, by decide⟩) (by omega) ?_
        first | with_reducible refine st_iincN1 rX8_notes_73 rfl ?_ | refine st_iinc1 rX8_notes_73 rfl ?_
        refine st_goto rX8_notes_76 ?_
        refine ih (q + 1) _ (by omega) (fun a ha => by rw [up_n ha, e a ha]) ?_
        rw [up_s, e8, e 114 (by decide), g 114 (by decide) (by decide), h4, cpR_s]
    exact key 56 0 I1 (by omega) (fun a _ => rfl) (by rw [cpR_0]; exact g8)
  by_cases hu9 : u = 10
  · subst hu9
    refine st_aload rX8_notes_0 rfl ?_
    refine st_getI rX8_notes_1 (by first | assumption | decide | exact ⟨by decide, rfl, by decide⟩) rfl ?_
    refine st_top hu ?_
    refine st_c rX8_notes_4 ?_
    first | with_reducible refine st_icmp_neN rX8_notes_6 (by omega) (by omega) (fun h => absurd h (by first | decide | omega | (simp; done) | simp_all)) (fun _ => ?_) | refine st_icmp_ne rX8_notes_6 (fun h => absurd h (by first | decide | omega | (simp; done) | simp_all)) (fun _ => ?_)
    refine st_c rX8_notes_9 ?_
    refine st_istore1 rX8_notes_10 rfl ?_
    skip
    have key : ∀ (r q : Nat) (I2 : Nat → Nat → Int32), q + r = 504 → (∀ a, a ≠ 118 → I2 a = I a) → I2 118 = shf (A 118) q → V d 123 123 mX8_notes 11 [.ref 103, .int (nI q)] [] (I2, J, vRR ρ) (Kv kv) := by
      intro r
      induction r with
      | zero =>
        intro q I2 hq e e8
        have hq : q = 504 := by omega
        subst hq
        refine st_iload rX8_notes_11 rfl ?_
        refine st_c rX8_notes_12 ?_
        first | with_reducible refine st_icmp_geN rX8_notes_15 (by omega) (by omega) (fun _ => ?_) (fun h => absurd h (by first | decide | omega | (simp; done) | simp_all)) | refine st_icmp_ge rX8_notes_15 (fun _ => ?_) (fun h => absurd h (by first | decide | omega | (simp; done) | simp_all))
        refine st_aload rX8_notes_39 rfl ?_
        refine st_c rX8_notes_40 ?_
        refine st_putI rfl rX8_notes_42 (by first | assumption | decide | exact ⟨by decide, rfl, by decide⟩) ?_
        refine tail 9 (shf (A 118) 504) _ _ rfl (by omega) (by omega) (by rw [wNt, if_pos rfl]) (fun a h1 h2 => by rw [up_n h1, e a h2]) (fun q hq => by rw [up_s, va_up_n hq, e 103 (by decide)]) (by rw [up_s, va_up_s]) (by rw [up_n (by decide), e8])
      | succ r ih =>
        intro q I2 hq e e8
        refine st_iload rX8_notes_11 rfl ?_
        refine st_c rX8_notes_12 ?_
        first | with_reducible refine st_icmp_geN rX8_notes_15 (by omega) (by omega) (fun h => absurd h (by first | decide | omega | (simp; done) | simp_all)) (fun _ => ?_) | refine st_icmp_ge rX8_notes_15 (fun h => absurd h (by first | decide | omega | (simp; done) | simp_all)) (fun _ => ?_)
        refine st_aload rX8_notes_18 rfl ?_
        refine st_getR rX8_notes_19 (by first | assumption | decide | exact ⟨by decide, rfl, by decide⟩) (by first | rfl | assumption) rfl ?_
        refine st_iload rX8_notes_22 rfl ?_
        refine st_aload rX8_notes_23 rfl ?_
        refine st_getR rX8_notes_24 (by first | assumption | decide | exact ⟨by decide, rfl, by decide⟩) (by first | rfl | assumption) rfl ?_
        refine st_iload rX8_notes_27 rfl ?_
        refine st_c rX8_notes_28 ?_
        first | with_reducible refine st_iaddN rX8_notes_30 ?_ | refine st_iadd rX8_notes_30 ?_
        refine st_ialdN rX8_notes_31 (by first | assumption | decide | exact ⟨by decide, rfl, by decide⟩) (by omega) ?_
        refine st_iastN rX8_notes_32 (by first | assumption | decide | exact ⟨by decide, rfl, by decide⟩) (by omega) ?_
        first | with_reducible refine st_iincN1 rX8_notes_33 rfl ?_ | refine st_iinc1 rX8_notes_33 rfl ?_
        refine st_goto rX8_notes_36 ?_
        refine ih (q + 1) _ (by omega) (fun a ha => by rw [up_n ha, e a ha]) ?_
        rw [up_s, e8, shf_s]
    refine key 504 0 I (by omega) (fun a _ => rfl) ?_
    rw [h8]
    funext k
    simp [shf]
  · 
    refine st_aload rX8_notes_0 rfl ?_
    refine st_getI rX8_notes_1 (by first | assumption | decide | exact ⟨by decide, rfl, by decide⟩) rfl ?_
    refine st_top hu ?_
    refine st_c rX8_notes_4 ?_
    first | with_reducible refine st_icmp_neN rX8_notes_6 (by omega) (by omega) (fun _ => ?_) (fun h => absurd h (by first | decide | omega | (simp; done) | simp_all)) | refine st_icmp_ne rX8_notes_6 (fun _ => ?_) (fun h => absurd h (by first | decide | omega | (simp; done) | simp_all))
    exact tail u (A 118) I vJ rfl (by omega) (by omega) (by rw [wNt, if_neg hu9]) (fun a _ _ => rfl) (fun q _ => rfl) hu h8
end P25
