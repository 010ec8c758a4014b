/-! ===== what a text tells, purely; the class's Told takes it ===== -/
def numOk (D : Nat → Nat → Nat) (x i v v1 : Nat) : Bool :=
  if x = 116 then (if i = 2 then decide (v ≤ 6) else decide (1 ≤ v) && decide (v ≤ 99))
  else if x = 100 then (if i = 2 then decide (1 ≤ v) && decide (v ≤ 9) else decide (v < D 0 0) && (decide (i = 0) || !decide (v = v1)))
  else (if i = 2 then decide (v ≤ 60) else decide (v < D 0 0))
def begOk (D : Nat → Nat → Nat) (c x : Nat) : Bool := decide (c = 1) && (if x = 116 then decide (D 0 0 < 6) else if x = 100 then true else decide (D 0 1 < 6))
def adT (D : Nat → Nat → Nat) (a b c : Nat) : Nat → Nat → Nat := up (up (up (up D 1 (va_up (D 1) (D 0 0) a)) 2 (va_up (D 2) (D 0 0) b)) 3 (va_up (D 3) (D 0 0) c)) 0 (va_up (D 0) 0 (D 0 0 + 1))
def adR (D : Nat → Nat → Nat) (a b c : Nat) : Nat → Nat → Nat := up D 4 (va_up (va_up (D 4) (6 * a + b) c) (6 * b + a) c)
def adO (D : Nat → Nat → Nat) (a b c : Nat) : Nat → Nat → Nat := up (up (up (up D 5 (va_up (D 5) (D 0 1) a)) 6 (va_up (D 6) (D 0 1) b)) 7 (va_up (D 7) (D 0 1) c)) 0 (va_up (D 0) 1 (D 0 1 + 1))
def adD (D : Nat → Nat → Nat) (x a b c : Nat) : Nat → Nat → Nat := if x = 116 then adT D a b c else if x = 100 then adR D a b c else adO D a b c
def cpN (f : Nat → Nat) : Nat → Nat
  | 0 => 0
  | n + 1 => cpN f n + (if 0 < f n then 1 else 0)
theorem cpN_hi {f : Nat → Nat} {k v : Nat} : ∀ n, n ≤ k → cpN (va_up f k v) n = cpN f n := by
  intro n
  induction n with
  | zero => intro _; rfl
  | succ n ih => intro h; simp only [cpN]; rw [ih (by omega), va_up_n (by omega)]
theorem cpN_up {f : Nat → Nat} {k v : Nat} : ∀ n, k < n → cpN (va_up f k v) n + (if 0 < f k then 1 else 0) = cpN f n + (if 0 < v then 1 else 0) := by
  intro n
  induction n with
  | zero => intro h; omega
  | succ n ih =>
    intro h
    simp only [cpN]
    by_cases e : k = n
    · subst e; rw [cpN_hi k (Nat.le_refl _), va_up_s]; omega
    · have := ih (by omega); rw [va_up_n (by omega)]; omega
theorem cp_c {A : Nat → Int32} {f : Nat → Nat} : ∀ n, (∀ k, k < n → A k = nI (f k) ∧ f k ≤ 9) → cntP A n = cpN f n := by
  intro n
  induction n with
  | zero => intro _; rfl
  | succ n ih =>
    intro h
    have hn := h n (by omega)
    simp only [cntP, cpN]
    rw [ih (fun k hk => h k (by omega)), hn.1]
    congr 1
    have z0 : (0 : Int32).toInt = 0 := rfl
    by_cases hp : 0 < f n
    · rw [if_pos hp, if_pos (by rw [Int32.lt_iff_toInt_lt, nI_toInt (by omega), z0]; omega)]
    · rw [if_neg hp, if_neg (by rw [Int32.lt_iff_toInt_lt, nI_toInt (by omega), z0]; omega)]
/-- what is told so far is sound -/
def OkD (D : Nat → Nat → Nat) : Prop := D 0 0 ≤ 6 ∧ D 0 1 ≤ 6 ∧ (∀ t, t < D 0 0 → (1 ≤ D 1 t ∧ D 1 t ≤ 99) ∧ (1 ≤ D 2 t ∧ D 2 t ≤ 99) ∧ D 3 t ≤ 6) ∧ (∀ k, k < 36 → D 4 k ≤ 9) ∧ (∀ a b, a < 6 → b < 6 → D 4 (6 * a + b) = D 4 (6 * b + a) ∧ (0 < D 4 (6 * a + b) → a < D 0 0 ∧ b < D 0 0 ∧ a ≠ b)) ∧ ∀ i, i < D 0 1 → D 5 i < D 0 0 ∧ D 6 i < D 0 0 ∧ D 7 i ≤ 60
/-- a Told against what is told -/
def CD (I : Nat → Nat → Int32) (σ : Nat) (D : Nat → Nat → Nat) : Prop := I σ 0 = nI (D 0 0) ∧ I σ 1 = nI (cpN (D 4) 36 / 2) ∧ I σ 2 = nI (D 0 1) ∧ (∀ t, t < D 0 0 → I (σ + 1) t = nI (max (D 1 t) (D 2 t)) ∧ I (σ + 2) t = nI (D 2 t) ∧ I (σ + 3) t = nI (D 3 t)) ∧ (∀ k, k < 36 → I (σ + 4) k = nI (D 4 k)) ∧ ∀ i, i < D 0 1 → I (σ + 6) i = nI (D 5 i) ∧ I (σ + 7) i = nI (D 6 i) ∧ I (σ + 8) i = nI (D 7 i)
theorem mx_n {a b : Nat} (ha : a < 2147483648) (hb : b < 2147483648) : (if nI a < nI b then nI b else nI a) = nI (max a b) := by
  by_cases h : a < b
  · rw [if_pos (by rw [Int32.lt_iff_toInt_lt, nI_toInt ha, nI_toInt hb]; omega), Nat.max_eq_right (by omega)]
  · rw [if_neg (by rw [Int32.lt_iff_toInt_lt, nI_toInt ha, nI_toInt hb]; omega), Nat.max_eq_left (by omega)]
section P43
variable {d : Nat} {I A : Nat → Nat → Int32} {J : Nat → Nat → Int64} {ρ m no : Nat} {T : Int64} {k : Int32 → vS → Prop} {kl : Int64 → vS → Prop} {kv : vS → Prop}
variable {σ : Nat} {D : Nat → Nat → Nat}
set_option maxHeartbeats 4000000 in
set_option maxRecDepth 100000 in
theorem s_addTown {a b c : Nat} (hσ : vTo σ) (hD : CD I σ D) (hO : OkD D) (h6 : D 0 0 < 6) (ha : a ≤ 99) (hb : b ≤ 99) (hk : ∀ I', (∀ a, a < σ ∨ σ + 8 < a → I' a = I a) → CD I' σ (adT D a b c) → kv (I', J, vRR ρ)) : V (d + 1) 123 123 mX6_addTown 0 [.ref σ, .int (nI a), .int (nI b), .int (nI c)] [] (I, J, vRR ρ) (Kv kv) := by
  obtain ⟨hto, o1, o2, o3, o4, o5, o6, o7, o8⟩ := toldF hσ
  have hσ13 : σ ≤ 13 := by rcases hσ with h | h <;> omega
  obtain ⟨c1, c2, c3, c4, c5, c6⟩ := hD
  obtain ⟨d1, d2, d3, d4, d5, d6⟩ := hO
  refine st_aload rX6_addTown_0 rfl ?_
  refine st_getR rX6_addTown_1 (by assumption) (tR3 (by assumption)) rfl ?_
  refine st_aload rX6_addTown_4 rfl ?_
  refine st_getI rX6_addTown_5 (by first | assumption | decide | exact ⟨by decide, rfl, by decide⟩) rfl ?_
  refine st_top c1 ?_
  refine st_iload rX6_addTown_8 rfl ?_
  refine st_iload rX6_addTown_9 rfl ?_
  refine st_max rX6_addTown_10 (Nat.le_of_ble_eq_true rfl) ?_
  refine st_top (mx_n (by omega) (by omega)) ?_
  refine cS3v rX6_addTown_13 (s_put (by first | assumption | decide | exact ⟨by decide, rfl, by decide⟩) (by omega) ?_) rfl
  refine st_aload rX6_addTown_16 rfl ?_
  refine st_getR rX6_addTown_17 (by assumption) (tR4 (by assumption)) rfl ?_
  refine st_aload rX6_addTown_20 rfl ?_
  refine st_getI rX6_addTown_21 (by first | assumption | decide | exact ⟨by decide, rfl, by decide⟩) rfl ?_
  refine st_top (show _ = nI (D 0 0) by rw [up_n (by omega)]; exact c1) ?_
  refine st_iload rX6_addTown_24 rfl ?_
  refine cS3v rX6_addTown_25 (s_put (by first | assumption | decide | exact ⟨by decide, rfl, by decide⟩) (by omega) ?_) rfl
  refine st_aload rX6_addTown_28 rfl ?_
  refine st_getR rX6_addTown_29 (by assumption) (tR5 (by assumption)) rfl ?_
  refine st_aload rX6_addTown_32 rfl ?_
  refine st_getI rX6_addTown_33 (by first | assumption | decide | exact ⟨by decide, rfl, by decide⟩) rfl ?_
  refine st_top (show _ = nI (D 0 0) by rw [up_n (by omega), up_n (by omega)]; exact c1) ?_
  refine st_iload rX6_addTown_36 rfl ?_
  refine cS3v rX6_addTown_37 (s_put (by first | assumption | decide | exact ⟨by decide, rfl, by decide⟩) (by omega) ?_) rfl
  refine st_aload rX6_addTown_40 rfl ?_
  refine st_dup rX6_addTown_41 rfl ?_
  refine st_getI rX6_addTown_42 (by first | assumption | decide | exact ⟨by decide, rfl, by decide⟩) rfl ?_
  refine st_top (show _ = nI (D 0 0) by rw [up_n (by omega), up_n (by omega), up_n (by omega)]; exact c1) ?_
  refine st_c rX6_addTown_45 ?_
  first | with_reducible refine st_iaddN rX6_addTown_46 ?_ | refine st_iadd rX6_addTown_46 ?_
  refine st_putI rfl rX6_addTown_47 (by first | assumption | decide | exact ⟨by decide, rfl, by decide⟩) ?_
  refine st_vret rX6_addTown_50 rfl ?_
  refine hk _ (fun x hx => by rw [up_n (by omega), up_n (by omega), up_n (by omega), up_n (by omega)]) ?_
  simp (disch := omega) only [CD, adT, up_s, up_n, va_up_s, va_up_n]
  refine ⟨trivial, c2, c3, fun t ht => ?_, c5, c6⟩
  by_cases e : t = D 0 0
  · subst e; simp only [va_up_s]; exact ⟨trivial, trivial, trivial⟩
  · simp (disch := omega) only [va_up_n]; exact c4 t (by omega)
set_option maxHeartbeats 4000000 in
set_option maxRecDepth 100000 in
theorem s_addOath {a b c : Nat} (hσ : vTo σ) (hD : CD I σ D) (hO : OkD D) (h6 : D 0 1 < 6) (hk : ∀ I', (∀ a, a < σ ∨ σ + 8 < a → I' a = I a) → CD I' σ (adO D a b c) → kv (I', J, vRR ρ)) : V (d + 1) 123 123 mX6_addOath 0 [.ref σ, .int (nI a), .int (nI b), .int (nI c)] [] (I, J, vRR ρ) (Kv kv) := by
  obtain ⟨hto, o1, o2, o3, o4, o5, o6, o7, o8⟩ := toldF hσ
  have hσ13 : σ ≤ 13 := by rcases hσ with h | h <;> omega
  obtain ⟨c1, c2, c3, c4, c5, c6⟩ := hD
  obtain ⟨d1, d2, d3, d4, d5, d6⟩ := hO
  refine st_aload rX6_addOath_0 rfl ?_
  refine st_getR rX6_addOath_1 (by assumption) (tR8 (by assumption)) rfl ?_
  refine st_aload rX6_addOath_4 rfl ?_
  refine st_getI rX6_addOath_5 (by first | assumption | decide | exact ⟨by decide, rfl, by decide⟩) rfl ?_
  refine st_top c3 ?_
  refine st_iload rX6_addOath_8 rfl ?_
  refine cS3v rX6_addOath_9 (s_put (by first | assumption | decide | exact ⟨by decide, rfl, by decide⟩) (by omega) ?_) rfl
  refine st_aload rX6_addOath_12 rfl ?_
  refine st_getR rX6_addOath_13 (by assumption) (tR9 (by assumption)) rfl ?_
  refine st_aload rX6_addOath_16 rfl ?_
  refine st_getI rX6_addOath_17 (by first | assumption | decide | exact ⟨by decide, rfl, by decide⟩) rfl ?_
  refine st_top (show _ = nI (D 0 1) by rw [up_n (by omega)]; exact c3) ?_
  refine st_iload rX6_addOath_20 rfl ?_
  refine cS3v rX6_addOath_21 (s_put (by first | assumption | decide | exact ⟨by decide, rfl, by decide⟩) (by omega) ?_) rfl
  refine st_aload rX6_addOath_24 rfl ?_
  refine st_getR rX6_addOath_25 (by assumption) (tR10 (by assumption)) rfl ?_
  refine st_aload rX6_addOath_28 rfl ?_
  refine st_getI rX6_addOath_29 (by first | assumption | decide | exact ⟨by decide, rfl, by decide⟩) rfl ?_
  refine st_top (show _ = nI (D 0 1) by rw [up_n (by omega), up_n (by omega)]; exact c3) ?_
  refine st_iload rX6_addOath_32 rfl ?_
  refine cS3v rX6_addOath_33 (s_put (by first | assumption | decide | exact ⟨by decide, rfl, by decide⟩) (by omega) ?_) rfl
  refine st_aload rX6_addOath_36 rfl ?_
  refine st_dup rX6_addOath_37 rfl ?_
  refine st_getI rX6_addOath_38 (by first | assumption | decide | exact ⟨by decide, rfl, by decide⟩) rfl ?_
  refine st_top (show _ = nI (D 0 1) by rw [up_n (by omega), up_n (by omega), up_n (by omega)]; exact c3) ?_
  refine st_c rX6_addOath_41 ?_
  first | with_reducible refine st_iaddN rX6_addOath_42 ?_ | refine st_iadd rX6_addOath_42 ?_
  refine st_putI rfl rX6_addOath_43 (by first | assumption | decide | exact ⟨by decide, rfl, by decide⟩) ?_
  refine st_vret rX6_addOath_46 rfl ?_
  refine hk _ (fun x hx => by rw [up_n (by omega), up_n (by omega), up_n (by omega), up_n (by omega)]) ?_
  simp (disch := omega) only [CD, adO, up_s, up_n, va_up_s, va_up_n]
  refine ⟨c1, c2, trivial, c4, c5, fun t ht => ?_⟩
  by_cases e : t = D 0 1
  · subst e; simp only [va_up_s]; exact ⟨trivial, trivial, trivial⟩
  · simp (disch := omega) only [va_up_n]; exact c6 t (by omega)
set_option maxHeartbeats 4000000 in
set_option maxRecDepth 100000 in
theorem s_addRoad {a b c : Nat} (hσ : vTo σ) (hD : CD I σ D) (hO : OkD D) (ha : a < D 0 0) (hb : b < D 0 0) (hab : a ≠ b) (hc : 1 ≤ c) (hk : ∀ I', (∀ a, a < σ ∨ σ + 8 < a → I' a = I a) → CD I' σ (adR D a b c) → kv (I', J, vRR ρ)) : V (d + 1) 123 123 mX6_addRoad 0 [.ref σ, .int (nI a), .int (nI b), .int (nI c)] [] (I, J, vRR ρ) (Kv kv) := by
  obtain ⟨hto, o1, o2, o3, o4, o5, o6, o7, o8⟩ := toldF hσ
  have hσ13 : σ ≤ 13 := by rcases hσ with h | h <;> omega
  obtain ⟨c1, c2, c3, c4, c5, c6⟩ := hD
  obtain ⟨d1, d2, d3, d4, d5, d6⟩ := hO
  have q0 : I (σ + 4) (a * 6 + b) = nI (D 4 (6 * a + b)) := by rw [show a * 6 + b = 6 * a + b by omega]; exact c5 _ (by omega)
  have hsy := (d5 a b (by omega) (by omega)).1
  have h9 := d4 (6 * a + b) (by omega)
  have u1 := cpN_up (f := D 4) (k := 6 * a + b) (v := c) 36 (by omega)
  have u2 := cpN_up (f := va_up (D 4) (6 * a + b) c) (k := 6 * b + a) (v := c) 36 (by omega)
  rw [va_up_n (by omega)] at u2
  rw [if_pos (show 0 < c by omega)] at u1 u2
  by_cases h0 : D 4 (6 * a + b) = 0
  · have cRR : cpN (va_up (va_up (D 4) (6 * a + b) c) (6 * b + a) c) 36 / 2 = cpN (D 4) 36 / 2 + 1 := by
      rw [if_neg (by omega)] at u1 u2
      omega
    refine st_aload rX6_addRoad_0 rfl ?_
    refine st_getR rX6_addRoad_1 (by assumption) (tR6 (by assumption)) rfl ?_
    refine st_iload rX6_addRoad_4 rfl ?_
    refine st_iload rX6_addRoad_5 rfl ?_
    refine cS2i rX6_addRoad_6 (s_pair ?_) rfl
    refine cS2i rX6_addRoad_9 (s_at (by first | assumption | decide | exact ⟨by decide, rfl, by decide⟩) (by omega) ?_) rfl
    refine st_top q0 ?_
    first | with_reducible refine st_if_neN rX6_addRoad_12 (by omega) (fun h => absurd h (by first | decide | omega | (simp; done) | simp_all)) (fun _ => ?_) | refine st_if_ne rX6_addRoad_12 (fun h => absurd h (by first | decide | omega | (simp; done) | simp_all)) (fun _ => ?_)
    refine st_aload rX6_addRoad_15 rfl ?_
    refine st_dup rX6_addRoad_16 rfl ?_
    refine st_getI rX6_addRoad_17 (by first | assumption | decide | exact ⟨by decide, rfl, by decide⟩) rfl ?_
    refine st_top c2 ?_
    refine st_c rX6_addRoad_20 ?_
    first | with_reducible refine st_iaddN rX6_addRoad_21 ?_ | refine st_iadd rX6_addRoad_21 ?_
    refine st_putI rfl rX6_addRoad_22 (by first | assumption | decide | exact ⟨by decide, rfl, by decide⟩) ?_
    refine st_aload rX6_addRoad_25 rfl ?_
    refine st_getR rX6_addRoad_26 (by assumption) (tR6 (by assumption)) rfl ?_
    refine st_iload rX6_addRoad_29 rfl ?_
    refine st_iload rX6_addRoad_30 rfl ?_
    refine cS2i rX6_addRoad_31 (s_pair ?_) rfl
    refine st_iload rX6_addRoad_34 rfl ?_
    refine cS3v rX6_addRoad_35 (s_put (by first | assumption | decide | exact ⟨by decide, rfl, by decide⟩) (by omega) ?_) rfl
    refine st_aload rX6_addRoad_38 rfl ?_
    refine st_getR rX6_addRoad_39 (by assumption) (tR6 (by assumption)) rfl ?_
    refine st_iload rX6_addRoad_42 rfl ?_
    refine st_iload rX6_addRoad_43 rfl ?_
    refine cS2i rX6_addRoad_44 (s_pair ?_) rfl
    refine st_iload rX6_addRoad_47 rfl ?_
    refine cS3v rX6_addRoad_48 (s_put (by first | assumption | decide | exact ⟨by decide, rfl, by decide⟩) (by omega) ?_) rfl
    refine st_vret rX6_addRoad_51 rfl ?_
    refine hk _ (fun x hx => by repeat rw [up_n (by omega)]) ?_
    simp (disch := omega) only [CD, adR, up_s, up_n, va_up_s, va_up_n]
    refine ⟨c1, ?_, c3, c4, fun k hk => ?_, c6⟩
    · first | (rw [c2, cRR]; done) | (rw [cRR]; done)
    · simp only [va_up, show a * 6 + b = 6 * a + b by omega, show b * 6 + a = 6 * b + a by omega]
      split
      · rfl
      · split
        · rfl
        · exact c5 k hk
  · have cRR : cpN (va_up (va_up (D 4) (6 * a + b) c) (6 * b + a) c) 36 / 2 = cpN (D 4) 36 / 2 := by
      rw [if_pos (by omega)] at u1 u2
      omega
    refine st_aload rX6_addRoad_0 rfl ?_
    refine st_getR rX6_addRoad_1 (by assumption) (tR6 (by assumption)) rfl ?_
    refine st_iload rX6_addRoad_4 rfl ?_
    refine st_iload rX6_addRoad_5 rfl ?_
    refine cS2i rX6_addRoad_6 (s_pair ?_) rfl
    refine cS2i rX6_addRoad_9 (s_at (by first | assumption | decide | exact ⟨by decide, rfl, by decide⟩) (by omega) ?_) rfl
    refine st_top q0 ?_
    first | with_reducible refine st_if_neN rX6_addRoad_12 (by omega) (fun _ => ?_) (fun h => absurd h (by first | decide | omega | (simp; done) | simp_all)) | refine st_if_ne rX6_addRoad_12 (fun _ => ?_) (fun h => absurd h (by first | decide | omega | (simp; done) | simp_all))
    refine st_aload rX6_addRoad_25 rfl ?_
    refine st_getR rX6_addRoad_26 (by assumption) (tR6 (by assumption)) rfl ?_
    refine st_iload rX6_addRoad_29 rfl ?_
    refine st_iload rX6_addRoad_30 rfl ?_
    refine cS2i rX6_addRoad_31 (s_pair ?_) rfl
    refine st_iload rX6_addRoad_34 rfl ?_
    refine cS3v rX6_addRoad_35 (s_put (by first | assumption | decide | exact ⟨by decide, rfl, by decide⟩) (by omega) ?_) rfl
    refine st_aload rX6_addRoad_38 rfl ?_
    refine st_getR rX6_addRoad_39 (by assumption) (tR6 (by assumption)) rfl ?_
    refine st_iload rX6_addRoad_42 rfl ?_
    refine st_iload rX6_addRoad_43 rfl ?_
    refine cS2i rX6_addRoad_44 (s_pair ?_) rfl
    refine st_iload rX6_addRoad_47 rfl ?_
    refine cS3v rX6_addRoad_48 (s_put (by first | assumption | decide | exact ⟨by decide, rfl, by decide⟩) (by omega) ?_) rfl
    refine st_vret rX6_addRoad_51 rfl ?_
    refine hk _ (fun x hx => by repeat rw [up_n (by omega)]) ?_
    simp (disch := omega) only [CD, adR, up_s, up_n, va_up_s, va_up_n]
    refine ⟨c1, ?_, c3, c4, fun k hk => ?_, c6⟩
    · first | (rw [c2, cRR]; done) | (rw [cRR]; done)
    · simp only [va_up, show a * 6 + b = 6 * a + b by omega, show b * 6 + a = 6 * b + a by omega]
      split
      · rfl
      · split
        · rfl
        · exact c5 k hk
theorem okD_ad {x a b c : Nat} (hO : OkD D) (h1 : begOk D 1 x = true) (h2 : numOk D x 0 a 0 = true) (h3 : numOk D x 1 b a = true) (h4 : numOk D x 2 c a = true) : OkD (adD D x a b c) := by
  obtain ⟨d1, d2, d3, d4, d5, d6⟩ := hO
  simp only [begOk, numOk] at h1 h2 h3 h4
  simp only [adD]
  by_cases hx : x = 116
  · simp only [hx, if_true] at *
    simp at h1 h2 h3 h4
    simp (disch := omega) only [OkD, adT, up_s, up_n, va_up_s, va_up_n]
    refine ⟨by omega, d2, fun t ht => ?_, d4, fun y z hy hz => ⟨(d5 y z hy hz).1, fun hp => by have := (d5 y z hy hz).2 hp; omega⟩, fun i hi => by have := d6 i hi; omega⟩
    by_cases e : t = D 0 0
    · subst e; rw [va_up_s, va_up_s, va_up_s]; omega
    · rw [va_up_n e, va_up_n e, va_up_n e]; exact d3 t (by omega)
  · by_cases hy : x = 100
    · subst hy
      rw [if_neg (by decide), if_pos rfl]
      simp at h1 h2 h3 h4
      simp (disch := omega) only [OkD, adR, up_s, up_n, va_up_s, va_up_n]
      refine ⟨d1, d2, d3, fun k hk => ?_, fun y z hy hz => ?_, d6⟩
      · simp only [va_up]; split; omega; split; omega; exact d4 k hk
      · have q := d5 y z hy hz
        simp only [va_up]
        by_cases e1 : 6 * y + z = 6 * b + a
        · have ey : y = b := by omega
          have ez : z = a := by omega
          subst ey ez
          simp only [if_true]
          rw [if_neg (by omega)]
          exact ⟨by first | rfl | trivial, fun _ => by omega⟩
        · rw [if_neg e1]
          by_cases e2 : 6 * y + z = 6 * a + b
          · have ey : y = a := by omega
            have ez : z = b := by omega
            subst ey ez
            simp only [if_true]
            exact ⟨by first | rfl | trivial, fun _ => by omega⟩
          · rw [if_neg e2, if_neg (by omega), if_neg (by omega)]
            exact q
    · simp only [if_neg hx, if_neg hy] at *
      simp at h1 h2 h3 h4
      simp (disch := omega) only [OkD, adO, up_s, up_n, va_up_s, va_up_n]
      refine ⟨d1, by omega, d3, d4, d5, fun i hi => ?_⟩
      by_cases e : i = D 0 1
      · subst e; rw [va_up_s, va_up_s, va_up_s]; omega
      · rw [va_up_n e, va_up_n e, va_up_n e]; exact d6 i (by omega)
end P43
