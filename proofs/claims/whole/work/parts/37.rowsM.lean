/-! ===== the rows that hang and odds go through ===== -/
def eD (m x j : Nat) : Nat := x / m ^ j % m
def dg (m x t : Nat) : Nat := eD m x (m - 1 - t)
theorem eD_lt {m x j : Nat} (h : 0 < m) : eD m x j < m := Nat.mod_lt _ h
theorem eD_all {m : Nat} : ∀ (n : Nat) (c : Nat → Nat), (∀ j, j < n → c j < m) → ∃ x, x < m ^ n ∧ ∀ j, j < n → eD m x j = c j := by
  intro n
  induction n with
  | zero => intro c _; exact ⟨0, Nat.one_pos, fun j hj => absurd hj (by omega)⟩
  | succ n ih =>
    intro c hc
    obtain ⟨y, hy, h⟩ := ih (fun j => c (j + 1)) (fun j hj => hc (j + 1) (by omega))
    have h0 := hc 0 (by omega)
    have hm : 0 < m := by omega
    refine ⟨c 0 + m * y, ?_, fun j hj => ?_⟩
    · rw [Nat.pow_succ]
      have := Nat.mul_le_mul_left m (show y + 1 ≤ m ^ n from hy)
      rw [Nat.mul_add, Nat.mul_one] at this
      rw [Nat.mul_comm (m ^ n) m]
      omega
    · cases j with
      | zero => simp only [eD, Nat.pow_zero, Nat.div_one]; rw [Nat.add_mul_mod_self_left, Nat.mod_eq_of_lt h0]
      | succ j =>
        have := h j (by omega)
        simp only [eD] at this ⊢
        rw [Nat.pow_succ, Nat.mul_comm (m ^ j) m, ← Nat.div_div_eq_div_mul, Nat.add_mul_div_left _ _ hm, Nat.div_eq_of_lt h0, Nat.zero_add]
        exact this
/-- the mask of the towns met, and whether none came twice -/
def mkE (e : Nat → Nat) : Nat → Nat
  | 0 => 0
  | j + 1 => if bt2 (mkE e j) (e j) = 0 then mkE e j + 2 ^ e j else mkE e j
def okE (e : Nat → Nat) : Nat → Bool
  | 0 => true
  | j + 1 => okE e j && decide (bt2 (mkE e j) (e j) = 0)
theorem mkE_ok {m : Nat} {e : Nat → Nat} (hm : m ≤ 6) (he : ∀ j, e j < m) : ∀ j, mkE e j < 2 ^ m ∧ ∀ p, p < 6 → (bt2 (mkE e j) p = 1 ↔ ∃ i, i < j ∧ e i = p) := by
  intro j
  induction j with
  | zero => exact ⟨Nat.two_pow_pos m, fun p _ => by simp [mkE, bt2]⟩
  | succ j ih =>
    obtain ⟨h1, h2⟩ := ih
    have hej := he j
    simp only [mkE]
    by_cases h0 : bt2 (mkE e j) (e j) = 0
    · rw [if_pos h0]
      obtain ⟨d1, -, -, d4⟩ := dr2 hm h1 hej h0
      refine ⟨d1, fun p hp => ?_⟩
      rw [d4 p hp]
      constructor
      · intro h
        by_cases hpe : p = e j
        · exact ⟨j, by omega, hpe.symm⟩
        · rw [if_neg hpe] at h
          obtain ⟨i, i1, i2⟩ := (h2 p hp).mp h
          exact ⟨i, by omega, i2⟩
      · rintro ⟨i, i1, i2⟩
        by_cases hpe : p = e j
        · rw [if_pos hpe]
        · rw [if_neg hpe]
          have : i ≠ j := fun h => by subst h; exact hpe i2.symm
          exact (h2 p hp).mpr ⟨i, by omega, i2⟩
    · rw [if_neg h0]
      have hb1 : bt2 (mkE e j) (e j) = 1 := by have := bt2_lt (mkE e j) (e j); omega
      refine ⟨h1, fun p hp => ?_⟩
      rw [h2 p hp]
      constructor
      · rintro ⟨i, i1, i2⟩; exact ⟨i, by omega, i2⟩
      · rintro ⟨i, i1, i2⟩
        by_cases hij : i = j
        · subst hij
          obtain ⟨i', j1, j2⟩ := (h2 (e i) (by omega)).mp hb1
          exact ⟨i', j1, by rw [j2, i2]⟩
        · exact ⟨i, by omega, i2⟩
theorem okE_iff {m : Nat} {e : Nat → Nat} (hm : m ≤ 6) (he : ∀ j, e j < m) : ∀ j, okE e j = true ↔ ∀ a b, a < b → b < j → e a ≠ e b := by
  intro j
  induction j with
  | zero => exact ⟨fun _ a b _ h => absurd h (by omega), fun _ => rfl⟩
  | succ j ih =>
    have h2 := (mkE_ok hm he j).2 (e j) (by have := he j; omega)
    have hb := bt2_lt (mkE e j) (e j)
    simp only [okE, Bool.and_eq_true, decide_eq_true_eq, ih]
    constructor
    · rintro ⟨h, h0⟩ a b hab hbj
      by_cases hbe : b = j
      · subst hbe
        intro e1
        have := h2.mpr ⟨a, hab, e1⟩
        omega
      · exact h a b hab (by omega)
    · intro h
      refine ⟨fun a b hab hbj => h a b hab (by omega), ?_⟩
      by_cases h1 : bt2 (mkE e j) (e j) = 1
      · obtain ⟨i, i1, i2⟩ := h2.mp h1
        exact absurd i2 (h i j i1 (by omega))
      · omega
theorem orS0 : (List.range 6).all (fun t => (List.range 64).all (fun x => !decide (x / 2 ^ t % 2 = 1) || decide ((nI x ||| (nI 1 <<< (nI t &&& 31))) = nI x))) = true := by decide +kernel
theorem orS {t x : Nat} (ht : t < 6) (hx : x < 64) (h : x / 2 ^ t % 2 = 1) : (nI x ||| (nI 1 <<< (nI t &&& 31))) = nI x := by
  have q := List.all_eq_true.mp (List.all_eq_true.mp orS0 t (List.mem_range.mpr ht)) x (List.mem_range.mpr hx)
  simpa [h] using q
def brF (A : Nat → Nat → Int32) (e : Nat → Nat) : Nat → Bool
  | 0 => true
  | t + 1 => brF A e t && !decide (A 114 (8 + t) < A 107 (e t))
/-- what a row costs: none where a bell can't go -/
noncomputable def crF (A : Nat → Nat → Int32) (m : Nat) (e : Nat → Nat) : Nat → Option Nat
  | 0 => some 0
  | t + 1 => match crF A m e t with
    | none => none
    | some s => if A 113 (6 * posA A m (e t) + t) = nI 1000000 then none else some (s + (A 107 (e t)).toNatClampNeg * (A 113 (6 * posA A m (e t) + t)).toNatClampNeg)
def crV : Option Nat → Nat
  | none => 1000000
  | some s => s
theorem crF_n {A : Nat → Nat → Int32} {m : Nat} {e : Nat → Nat} {t : Nat} (h : crF A m e t = none) : crF A m e (t + 1) = none := by
  simp only [crF, h]
theorem crF_s {A : Nat → Nat → Int32} {m no : Nat} {e : Nat → Nat} {t s : Nat} (hO : OkA A m no) (ht : t < m) (he : e t < m) (h : crF A m e t = some s) : ∃ wt, 1 ≤ wt ∧ wt ≤ 99 ∧ A 107 (e t) = nI wt ∧ ((A 113 (6 * posA A m (e t) + t) = nI 1000000 ∧ posA A m (e t) ≠ t ∧ crF A m e (t + 1) = none) ∨ ∃ x, x ≤ 576 ∧ A 113 (6 * posA A m (e t) + t) = nI x ∧ (x = 0 ↔ posA A m (e t) = t) ∧ crF A m e (t + 1) = some (s + wt * x)) := by
  obtain ⟨wt, w1, w2, w3⟩ := hO.1.2.2.2.2.1 (e t) he
  have hp := (posA_ok hO he).1
  refine ⟨wt, w1, w2, w3, ?_⟩
  rcases hO.1.2.2.2.2.2.2.2.1 (posA A m (e t)) t hp ht with h1 | ⟨x, h1, h2, h3⟩
  · left
    refine ⟨h1.1, h1.2, ?_⟩
    simp only [crF, h, h1.1, if_true]
  · right
    refine ⟨x, h1, h2, h3, ?_⟩
    have hne : ¬ nI x = nI 1000000 := fun e => by have := (nI_eq (by omega) (by omega)).mp e; omega
    simp only [crF, h, h2, if_neg hne]
    rw [w3, nI_clamp (by omega), nI_clamp (by omega)]
theorem crF_le {A : Nat → Nat → Int32} {m no : Nat} {e : Nat → Nat} (hO : OkA A m no) (he : ∀ t, t < m → e t < m) : ∀ t s, t ≤ m → crF A m e t = some s → s ≤ 57024 * t := by
  intro t
  induction t with
  | zero => intro s _ h; cases h; exact Nat.le_refl _
  | succ t ih =>
    intro s ht h
    cases h0 : crF A m e t with
    | none => rw [crF_n h0] at h; cases h
    | some s0 =>
      have := ih s0 (by omega) h0
      obtain ⟨wt, -, w2, -, h1 | ⟨x, x1, -, -, h2⟩⟩ := crF_s hO (by omega) (he t (by omega)) h0
      · rw [h1.2.2] at h; cases h
      · rw [h2] at h
        cases h
        have := Nat.mul_le_mul w2 x1
        omega
theorem posA_b {A : Nat → Nat → Int32} {m no t y : Nat} (hO : OkA A m no) (ht : t < m) (hy : y < m) : posA A m y = t ↔ y = bN A t := by
  have hm6 := hO.1.2.2.1
  obtain ⟨b, c, hp⟩ := hO.2.2.1.1
  obtain ⟨p1, p2, -⟩ := posA_ok hO hy
  have q := hp _ p1
  have q2 := hp t ht
  have eb : bN A t = b t := by rw [bN, q2.1, nI_clamp (by omega)]
  have ey : b (posA A m y) = y := ((nI_eq (by omega) (by omega)).mp (q.1.symm.trans p2))
  rw [eb]
  constructor
  · intro h; rw [← h]; exact ey.symm
  · intro h
    have : c (b (posA A m y)) = posA A m y := q.2.2.1
    rw [← this, ey, h]
    exact q2.2.2.1
theorem crF_0 {A : Nat → Nat → Int32} {m no : Nat} {e : Nat → Nat} (hO : OkA A m no) (he : ∀ t, t < m → e t < m) : ∀ t, t ≤ m → (crF A m e t = some 0 ↔ ∀ s, s < t → e s = bN A s) := by
  intro t
  induction t with
  | zero => intro _; exact ⟨fun _ s hs => absurd hs (by omega), fun _ => rfl⟩
  | succ t ih =>
    intro ht
    have ih := ih (by omega)
    have hb := posA_b hO (show t < m by omega) (he t (by omega))
    cases h0 : crF A m e t with
    | none =>
      rw [crF_n h0]
      constructor
      · intro h; cases h
      · intro h
        have := ih.mpr (fun s hs => h s (by omega))
        rw [h0] at this
        cases this
    | some s0 =>
      obtain ⟨wt, w1, w2, -, h1 | ⟨x, x1, -, x3, h2⟩⟩ := crF_s hO (by omega) (he t (by omega)) h0
      · rw [h1.2.2]
        constructor
        · intro h; cases h
        · intro h; exact absurd (hb.mpr (h t (by omega))) h1.2.1
      · rw [h2]
        constructor
        · intro h
          have hs : s0 + wt * x = 0 := by injection h
          have hs0 : s0 = 0 := by omega
          have hx : wt * x = 0 := by omega
          have hx0 : x = 0 := by
            rcases Nat.mul_eq_zero.mp hx with h | h <;> omega
          subst hs0
          intro s hs
          by_cases hst : s = t
          · subst hst; exact hb.mp (x3.mp hx0)
          · exact ih.mp h0 s (by omega)
        · intro h
          have := ih.mpr (fun s hs => h s (by omega))
          rw [h0] at this
          injection this with this
          have hx0 := x3.mpr (hb.mpr (h t (by omega)))
          rw [this, hx0, Nat.mul_zero]
section P37
variable {d : Nat} {I A : Nat → Nat → Int32} {J : Nat → Nat → Int64} {ρ m no : Nat} {T : Int64} {k : Int32 → vS → Prop} {kl : Int64 → vS → Prop} {kv : vS → Prop}
set_option maxHeartbeats 4000000 in
set_option maxRecDepth 100000 in
theorem s_rows {kk : Int32 → vS → Prop} (hmm : I 105 0 = nI m) (hm6 : m ≤ 6) (h : kk (nI (m ^ m)) (I, J, vRR ρ)) : V d 123 123 mX8_rows 0 [.ref 103, vJ, vJ] [] (I, J, vRR ρ) (Ki kk) := by
  refine st_c rX8_rows_0 ?_
  refine st_istore1 rX8_rows_1 rfl ?_
  refine st_c rX8_rows_2 ?_
  refine st_istore2 rX8_rows_3 rfl ?_
  skip
  have key : ∀ (r t : Nat), t + r = m → V d 123 123 mX8_rows 4 [.ref 103, .int (nI (m ^ t)), .int (nI t)] [] (I, J, vRR ρ) (Ki kk) := by
    intro r
    induction r with
    | zero =>
      intro t he
      have he : t = m := by omega
      subst he
      refine st_iload rX8_rows_4 rfl ?_
      refine st_aload rX8_rows_5 rfl ?_
      refine st_getR rX8_rows_6 (by first | assumption | decide | exact ⟨by decide, rfl, by decide⟩) (by first | rfl | assumption) rfl ?_
      refine st_c rX8_rows_9 ?_
      refine st_ialdN rX8_rows_10 (by first | assumption | decide | exact ⟨by decide, rfl, by decide⟩) (by omega) ?_
      refine st_top hmm ?_
      first | with_reducible refine st_icmp_geN rX8_rows_11 (by omega) (by omega) (fun _ => ?_) (fun h => absurd h (by first | decide | omega | (simp; done) | simp_all)) | refine st_icmp_ge rX8_rows_11 (fun _ => ?_) (fun h => absurd h (by first | decide | omega | (simp; done) | simp_all))
      refine st_iload rX8_rows_29 rfl ?_
      refine st_iret rX8_rows_30 rfl ?_
      exact h
    | succ r ih =>
      intro t he
      have hn := ih (t + 1) (by omega)
      rw [Nat.pow_succ] at hn
      refine st_iload rX8_rows_4 rfl ?_
      refine st_aload rX8_rows_5 rfl ?_
      refine st_getR rX8_rows_6 (by first | assumption | decide | exact ⟨by decide, rfl, by decide⟩) (by first | rfl | assumption) rfl ?_
      refine st_c rX8_rows_9 ?_
      refine st_ialdN rX8_rows_10 (by first | assumption | decide | exact ⟨by decide, rfl, by decide⟩) (by omega) ?_
      refine st_top hmm ?_
      first | with_reducible refine st_icmp_geN rX8_rows_11 (by omega) (by omega) (fun h => absurd h (by first | decide | omega | (simp; done) | simp_all)) (fun _ => ?_) | refine st_icmp_ge rX8_rows_11 (fun h => absurd h (by first | decide | omega | (simp; done) | simp_all)) (fun _ => ?_)
      refine st_iload rX8_rows_14 rfl ?_
      refine st_aload rX8_rows_15 rfl ?_
      refine st_getR rX8_rows_16 (by first | assumption | decide | exact ⟨by decide, rfl, by decide⟩) (by first | rfl | assumption) rfl ?_
      refine st_c rX8_rows_19 ?_
      refine st_ialdN rX8_rows_20 (by first | assumption | decide | exact ⟨by decide, rfl, by decide⟩) (by omega) ?_
      refine st_top hmm ?_
      first | with_reducible refine st_imulN rX8_rows_21 ?_ | refine st_imul rX8_rows_21 ?_
      refine st_istore1 rX8_rows_22 rfl ?_
      first | with_reducible refine st_iincN2 rX8_rows_23 rfl ?_ | refine st_iinc2 rX8_rows_23 rfl ?_
      refine st_goto rX8_rows_26 ?_
      exact hn
  exact key m 0 (by omega)
set_option maxHeartbeats 4000000 in
set_option maxRecDepth 100000 in
theorem s_isRow {x : Nat} {kk : Int32 → vS → Prop} (hmm : I 105 0 = nI m) (hm6 : m ≤ 6) (hx : x < 2147483648) (hk : ∀ I', (∀ a, a ≠ 121 → I' a = I a) → (∀ t, t < m → I' 121 t = nI (dg m x t)) → kk (vb (okE (eD m x) m)) (I', J, vRR ρ)) : V d 123 123 mX8_isRow 0 [.ref 103, .int (nI x), vJ, vJ, vJ, vJ] [] (I, J, vRR ρ) (Ki kk) := by
  have h64 : 2 ^ m ≤ 64 := Nat.pow_le_pow_right (by decide) hm6
  refine st_iload rX8_isRow_0 rfl ?_
  refine st_istore2 rX8_isRow_1 rfl ?_
  refine st_c rX8_isRow_2 ?_
  refine st_istore3 rX8_isRow_3 rfl ?_
  refine st_c rX8_isRow_4 ?_
  refine st_istore4 rX8_isRow_5 rfl ?_
  refine st_aload rX8_isRow_7 rfl ?_
  refine st_getR rX8_isRow_8 (by first | assumption | decide | exact ⟨by decide, rfl, by decide⟩) (by first | rfl | assumption) rfl ?_
  refine st_c rX8_isRow_11 ?_
  refine st_ialdN rX8_isRow_12 (by first | assumption | decide | exact ⟨by decide, rfl, by decide⟩) (by omega) ?_
  refine st_top hmm ?_
  refine st_c rX8_isRow_13 ?_
  refine st_isub rX8_isRow_14 ?_
  refine st_istore5 rX8_isRow_15 rfl ?_
  skip
  have key : ∀ (r j : Nat) (I2 : Nat → Nat → Int32), j + r = m → (∀ a, a ≠ 121 → I2 a = I a) → (∀ t, r ≤ t → t < m → I2 121 t = nI (dg m x t)) → V d 123 123 mX8_isRow 17 [.ref 103, .int (nI x), .int (nI (x / m ^ j)), .int (nI (mkE (eD m x) j)), .int (vb (okE (eD m x) j)), .int (nI r - nI 1)] [] (I2, J, vRR ρ) (Ki kk) := by
    intro r
    induction r with
    | zero =>
      intro j I2 he g ga
      have he : j = m := by omega
      subst he
      refine st_iload rX8_isRow_17 rfl ?_
      refine st_if_lt rX8_isRow_19 (fun _ => ?_) (fun h => absurd (by decide) h)
      refine st_iload rX8_isRow_90 rfl ?_
      refine st_zret rX8_isRow_92 rfl (by first | rfl | exact vb_nar _) ?_
      exact hk I2 g (fun t ht => ga t (by omega) ht)
    | succ r ih =>
      intro j I2 he g ga
      have hm0 : 0 < m := by omega
      have q5 : I2 105 0 = nI m := by rw [g 105 (by decide)]; exact hmm
      have hd : x / m ^ j < 2147483648 := Nat.lt_of_le_of_lt (Nat.div_le_self _ _) hx
      have he6 : eD m x j < m := eD_lt hm0
      have hmk := (mkE_ok (e := (eD m x)) hm6 (fun j => eD_lt hm0) j).1
      have hbit : (nI (mkE (eD m x) j) >>> (nI (eD m x j) &&& 31)) &&& nI 1 = nI (bt2 (mkE (eD m x) j) (eD m x j)) := bitB (by omega) (by omega)
      have hsub : nI (r + 1) - nI 1 = nI r := by
        apply Int32.toInt_inj.mp
        rw [pk_sub_toInt (by omega) (by omega), nI_toInt (by omega)]
        omega
      rw [hsub]
      have hn := ih (j + 1) (up I2 121 (va_up (I2 121) r (nI (eD m x j)))) (by omega) (fun a ha => by rw [up_n ha, g a ha]) (fun t h1 h2 => by
        rw [up_s]
        by_cases e : t = r
        · subst e; rw [va_up_s, dg, show m - 1 - t = j by omega]
        · rw [va_up_n e]; exact ga t (by omega) h2)
      rw [Nat.pow_succ, ← Nat.div_div_eq_div_mul] at hn
      have q9 : up I2 121 (va_up (I2 121) r (nI (eD m x j))) 121 r = nI (eD m x j) := by rw [up_s, va_up_s]
      have q8 : up I2 121 (va_up (I2 121) r (nI (eD m x j))) 105 0 = nI m := by rw [up_n (by decide)]; exact q5
      have hdec : nI r + (-1) = nI r - nI 1 := by
        apply Int32.toInt_inj.mp
        rw [pk_sub_toInt (by omega) (by omega)]
        rw [show nI r + (-1) = nI r - nI 1 by rw [Int32.sub_eq_add_neg]; rfl]
        rw [pk_sub_toInt (by omega) (by omega)]
      simp only [mkE, okE] at hn
      by_cases h0 : bt2 (mkE (eD m x) j) (eD m x j) = 0
      · rw [if_pos h0, decide_eq_true h0, Bool.and_true] at hn
        have hor := orB (t := eD m x j) (x := mkE (eD m x) j) (by omega) (by omega) h0
        cases hb : okE (eD m x) j with
        | true =>
          rw [hb] at hn
          refine st_iload rX8_isRow_17 rfl ?_
          first | with_reducible refine st_if_ltN rX8_isRow_19 (by omega) (fun h => absurd h (by first | decide | omega | (simp; done) | simp_all)) (fun _ => ?_) | refine st_if_lt rX8_isRow_19 (fun h => absurd h (by first | decide | omega | (simp; done) | simp_all)) (fun _ => ?_)
          refine st_aload rX8_isRow_22 rfl ?_
          refine st_getR rX8_isRow_23 (by first | assumption | decide | exact ⟨by decide, rfl, by decide⟩) (by first | rfl | assumption) rfl ?_
          refine st_iload rX8_isRow_26 rfl ?_
          refine st_iload rX8_isRow_28 rfl ?_
          refine st_aload rX8_isRow_29 rfl ?_
          refine st_getR rX8_isRow_30 (by first | assumption | decide | exact ⟨by decide, rfl, by decide⟩) (by first | rfl | assumption) rfl ?_
          refine st_c rX8_isRow_33 ?_
          refine st_ialdN rX8_isRow_34 (by first | assumption | decide | exact ⟨by decide, rfl, by decide⟩) (by omega) ?_
          refine st_top q5 ?_
          refine st_iremN rX8_isRow_35 hd ⟨hm0, by omega⟩ ?_
          refine st_iastN rX8_isRow_36 (by first | assumption | decide | exact ⟨by decide, rfl, by decide⟩) (by omega) ?_
          refine st_iload rX8_isRow_37 rfl ?_
          refine st_aload rX8_isRow_38 rfl ?_
          refine st_getR rX8_isRow_39 (by first | assumption | decide | exact ⟨by decide, rfl, by decide⟩) (by first | rfl | assumption) rfl ?_
          refine st_c rX8_isRow_42 ?_
          refine st_ialdN rX8_isRow_43 (by first | assumption | decide | exact ⟨by decide, rfl, by decide⟩) (by omega) ?_
          refine st_top q8 ?_
          refine st_idivN rX8_isRow_44 hd ⟨hm0, by omega⟩ ?_
          refine st_istore2 rX8_isRow_45 rfl ?_
          refine st_iload rX8_isRow_46 rfl ?_
          first | with_reducible refine st_if_eqN rX8_isRow_48 (by omega) (fun h => absurd h (by first | decide | omega | (simp; done) | simp_all)) (fun _ => ?_) | refine st_if_eq rX8_isRow_48 (fun h => absurd h (by first | decide | omega | (simp; done) | simp_all)) (fun _ => ?_)
          refine st_iload rX8_isRow_51 rfl ?_
          refine st_aload rX8_isRow_52 rfl ?_
          refine st_getR rX8_isRow_53 (by first | assumption | decide | exact ⟨by decide, rfl, by decide⟩) (by first | rfl | assumption) rfl ?_
          refine st_iload rX8_isRow_56 rfl ?_
          refine st_ialdN rX8_isRow_58 (by first | assumption | decide | exact ⟨by decide, rfl, by decide⟩) (by omega) ?_
          refine st_top q9 ?_
          refine st_ishr rX8_isRow_59 ?_
          refine st_c rX8_isRow_60 ?_
          refine st_iand rX8_isRow_61 ?_
          refine st_top (hbit.trans (congrArg nI h0)) ?_
          first | with_reducible refine st_if_neN rX8_isRow_62 (by omega) (fun h => absurd h (by first | decide | omega | (simp; done) | simp_all)) (fun _ => ?_) | refine st_if_ne rX8_isRow_62 (fun h => absurd h (by first | decide | omega | (simp; done) | simp_all)) (fun _ => ?_)
          refine st_c rX8_isRow_65 ?_
          refine st_goto rX8_isRow_66 ?_
          refine st_istore4 rX8_isRow_70 rfl ?_
          refine st_iload rX8_isRow_72 rfl ?_
          refine st_c rX8_isRow_73 ?_
          refine st_aload rX8_isRow_74 rfl ?_
          refine st_getR rX8_isRow_75 (by first | assumption | decide | exact ⟨by decide, rfl, by decide⟩) (by first | rfl | assumption) rfl ?_
          refine st_iload rX8_isRow_78 rfl ?_
          refine st_ialdN rX8_isRow_80 (by first | assumption | decide | exact ⟨by decide, rfl, by decide⟩) (by omega) ?_
          refine st_top q9 ?_
          refine st_ishl rX8_isRow_81 ?_
          refine st_ior rX8_isRow_82 ?_
          refine st_top hor ?_
          refine st_istore3 rX8_isRow_83 rfl ?_
          refine st_iinc5 rX8_isRow_84 rfl ?_
          refine st_goto rX8_isRow_87 ?_
          rw [hdec]
          exact hn
        | false =>
          rw [hb] at hn
          refine st_iload rX8_isRow_17 rfl ?_
          first | with_reducible refine st_if_ltN rX8_isRow_19 (by omega) (fun h => absurd h (by first | decide | omega | (simp; done) | simp_all)) (fun _ => ?_) | refine st_if_lt rX8_isRow_19 (fun h => absurd h (by first | decide | omega | (simp; done) | simp_all)) (fun _ => ?_)
          refine st_aload rX8_isRow_22 rfl ?_
          refine st_getR rX8_isRow_23 (by first | assumption | decide | exact ⟨by decide, rfl, by decide⟩) (by first | rfl | assumption) rfl ?_
          refine st_iload rX8_isRow_26 rfl ?_
          refine st_iload rX8_isRow_28 rfl ?_
          refine st_aload rX8_isRow_29 rfl ?_
          refine st_getR rX8_isRow_30 (by first | assumption | decide | exact ⟨by decide, rfl, by decide⟩) (by first | rfl | assumption) rfl ?_
          refine st_c rX8_isRow_33 ?_
          refine st_ialdN rX8_isRow_34 (by first | assumption | decide | exact ⟨by decide, rfl, by decide⟩) (by omega) ?_
          refine st_top q5 ?_
          refine st_iremN rX8_isRow_35 hd ⟨hm0, by omega⟩ ?_
          refine st_iastN rX8_isRow_36 (by first | assumption | decide | exact ⟨by decide, rfl, by decide⟩) (by omega) ?_
          refine st_iload rX8_isRow_37 rfl ?_
          refine st_aload rX8_isRow_38 rfl ?_
          refine st_getR rX8_isRow_39 (by first | assumption | decide | exact ⟨by decide, rfl, by decide⟩) (by first | rfl | assumption) rfl ?_
          refine st_c rX8_isRow_42 ?_
          refine st_ialdN rX8_isRow_43 (by first | assumption | decide | exact ⟨by decide, rfl, by decide⟩) (by omega) ?_
          refine st_top q8 ?_
          refine st_idivN rX8_isRow_44 hd ⟨hm0, by omega⟩ ?_
          refine st_istore2 rX8_isRow_45 rfl ?_
          refine st_iload rX8_isRow_46 rfl ?_
          first | with_reducible refine st_if_eqN rX8_isRow_48 (by omega) (fun _ => ?_) (fun h => absurd h (by first | decide | omega | (simp; done) | simp_all)) | refine st_if_eq rX8_isRow_48 (fun _ => ?_) (fun h => absurd h (by first | decide | omega | (simp; done) | simp_all))
          refine st_c rX8_isRow_69 ?_
          refine st_istore4 rX8_isRow_70 rfl ?_
          refine st_iload rX8_isRow_72 rfl ?_
          refine st_c rX8_isRow_73 ?_
          refine st_aload rX8_isRow_74 rfl ?_
          refine st_getR rX8_isRow_75 (by first | assumption | decide | exact ⟨by decide, rfl, by decide⟩) (by first | rfl | assumption) rfl ?_
          refine st_iload rX8_isRow_78 rfl ?_
          refine st_ialdN rX8_isRow_80 (by first | assumption | decide | exact ⟨by decide, rfl, by decide⟩) (by omega) ?_
          refine st_top q9 ?_
          refine st_ishl rX8_isRow_81 ?_
          refine st_ior rX8_isRow_82 ?_
          refine st_top hor ?_
          refine st_istore3 rX8_isRow_83 rfl ?_
          refine st_iinc5 rX8_isRow_84 rfl ?_
          refine st_goto rX8_isRow_87 ?_
          rw [hdec]
          exact hn
      · have h1 : bt2 (mkE (eD m x) j) (eD m x j) = 1 := by have := bt2_lt (mkE (eD m x) j) (eD m x j); omega
        rw [if_neg h0, decide_eq_false h0, Bool.and_false] at hn
        have hor := orS (t := eD m x j) (x := mkE (eD m x) j) (by omega) (by omega) h1
        cases hb : okE (eD m x) j with
        | true =>
          refine st_iload rX8_isRow_17 rfl ?_
          first | with_reducible refine st_if_ltN rX8_isRow_19 (by omega) (fun h => absurd h (by first | decide | omega | (simp; done) | simp_all)) (fun _ => ?_) | refine st_if_lt rX8_isRow_19 (fun h => absurd h (by first | decide | omega | (simp; done) | simp_all)) (fun _ => ?_)
          refine st_aload rX8_isRow_22 rfl ?_
          refine st_getR rX8_isRow_23 (by first | assumption | decide | exact ⟨by decide, rfl, by decide⟩) (by first | rfl | assumption) rfl ?_
          refine st_iload rX8_isRow_26 rfl ?_
          refine st_iload rX8_isRow_28 rfl ?_
          refine st_aload rX8_isRow_29 rfl ?_
          refine st_getR rX8_isRow_30 (by first | assumption | decide | exact ⟨by decide, rfl, by decide⟩) (by first | rfl | assumption) rfl ?_
          refine st_c rX8_isRow_33 ?_
          refine st_ialdN rX8_isRow_34 (by first | assumption | decide | exact ⟨by decide, rfl, by decide⟩) (by omega) ?_
          refine st_top q5 ?_
          refine st_iremN rX8_isRow_35 hd ⟨hm0, by omega⟩ ?_
          refine st_iastN rX8_isRow_36 (by first | assumption | decide | exact ⟨by decide, rfl, by decide⟩) (by omega) ?_
          refine st_iload rX8_isRow_37 rfl ?_
          refine st_aload rX8_isRow_38 rfl ?_
          refine st_getR rX8_isRow_39 (by first | assumption | decide | exact ⟨by decide, rfl, by decide⟩) (by first | rfl | assumption) rfl ?_
          refine st_c rX8_isRow_42 ?_
          refine st_ialdN rX8_isRow_43 (by first | assumption | decide | exact ⟨by decide, rfl, by decide⟩) (by omega) ?_
          refine st_top q8 ?_
          refine st_idivN rX8_isRow_44 hd ⟨hm0, by omega⟩ ?_
          refine st_istore2 rX8_isRow_45 rfl ?_
          refine st_iload rX8_isRow_46 rfl ?_
          first | with_reducible refine st_if_eqN rX8_isRow_48 (by omega) (fun h => absurd h (by first | decide | omega | (simp; done) | simp_all)) (fun _ => ?_) | refine st_if_eq rX8_isRow_48 (fun h => absurd h (by first | decide | omega | (simp; done) | simp_all)) (fun _ => ?_)
          refine st_iload rX8_isRow_51 rfl ?_
          refine st_aload rX8_isRow_52 rfl ?_
          refine st_getR rX8_isRow_53 (by first | assumption | decide | exact ⟨by decide, rfl, by decide⟩) (by first | rfl | assumption) rfl ?_
          refine st_iload rX8_isRow_56 rfl ?_
          refine st_ialdN rX8_isRow_58 (by first | assumption | decide | exact ⟨by decide, rfl, by decide⟩) (by omega) ?_
          refine st_top q9 ?_
          refine st_ishr rX8_isRow_59 ?_
          refine st_c rX8_isRow_60 ?_
          refine st_iand rX8_isRow_61 ?_
          refine st_top (hbit.trans (congrArg nI h1)) ?_
          first | with_reducible refine st_if_neN rX8_isRow_62 (by omega) (fun _ => ?_) (fun h => absurd h (by first | decide | omega | (simp; done) | simp_all)) | refine st_if_ne rX8_isRow_62 (fun _ => ?_) (fun h => absurd h (by first | decide | omega | (simp; done) | simp_all))
          refine st_c rX8_isRow_69 ?_
          refine st_istore4 rX8_isRow_70 rfl ?_
          refine st_iload rX8_isRow_72 rfl ?_
          refine st_c rX8_isRow_73 ?_
          refine st_aload rX8_isRow_74 rfl ?_
          refine st_getR rX8_isRow_75 (by first | assumption | decide | exact ⟨by decide, rfl, by decide⟩) (by first | rfl | assumption) rfl ?_
          refine st_iload rX8_isRow_78 rfl ?_
          refine st_ialdN rX8_isRow_80 (by first | assumption | decide | exact ⟨by decide, rfl, by decide⟩) (by omega) ?_
          refine st_top q9 ?_
          refine st_ishl rX8_isRow_81 ?_
          refine st_ior rX8_isRow_82 ?_
          refine st_top hor ?_
          refine st_istore3 rX8_isRow_83 rfl ?_
          refine st_iinc5 rX8_isRow_84 rfl ?_
          refine st_goto rX8_isRow_87 ?_
          rw [hdec]
          exact hn
        | false =>
          refine st_iload rX8_isRow_17 rfl ?_
          first | with_reducible refine st_if_ltN rX8_isRow_19 (by omega) (fun h => absurd h (by first | decide | omega | (simp; done) | simp_all)) (fun _ => ?_) | refine st_if_lt rX8_isRow_19 (fun h => absurd h (by first | decide | omega | (simp; done) | simp_all)) (fun _ => ?_)
          refine st_aload rX8_isRow_22 rfl ?_
          refine st_getR rX8_isRow_23 (by first | assumption | decide | exact ⟨by decide, rfl, by decide⟩) (by first | rfl | assumption) rfl ?_
          refine st_iload rX8_isRow_26 rfl ?_
          refine st_iload rX8_isRow_28 rfl ?_
          refine st_aload rX8_isRow_29 rfl ?_
          refine st_getR rX8_isRow_30 (by first | assumption | decide | exact ⟨by decide, rfl, by decide⟩) (by first | rfl | assumption) rfl ?_
          refine st_c rX8_isRow_33 ?_
          refine st_ialdN rX8_isRow_34 (by first | assumption | decide | exact ⟨by decide, rfl, by decide⟩) (by omega) ?_
          refine st_top q5 ?_
          refine st_iremN rX8_isRow_35 hd ⟨hm0, by omega⟩ ?_
          refine st_iastN rX8_isRow_36 (by first | assumption | decide | exact ⟨by decide, rfl, by decide⟩) (by omega) ?_
          refine st_iload rX8_isRow_37 rfl ?_
          refine st_aload rX8_isRow_38 rfl ?_
          refine st_getR rX8_isRow_39 (by first | assumption | decide | exact ⟨by decide, rfl, by decide⟩) (by first | rfl | assumption) rfl ?_
          refine st_c rX8_isRow_42 ?_
          refine st_ialdN rX8_isRow_43 (by first | assumption | decide | exact ⟨by decide, rfl, by decide⟩) (by omega) ?_
          refine st_top q8 ?_
          refine st_idivN rX8_isRow_44 hd ⟨hm0, by omega⟩ ?_
          refine st_istore2 rX8_isRow_45 rfl ?_
          refine st_iload rX8_isRow_46 rfl ?_
          first | with_reducible refine st_if_eqN rX8_isRow_48 (by omega) (fun _ => ?_) (fun h => absurd h (by first | decide | omega | (simp; done) | simp_all)) | refine st_if_eq rX8_isRow_48 (fun _ => ?_) (fun h => absurd h (by first | decide | omega | (simp; done) | simp_all))
          refine st_c rX8_isRow_69 ?_
          refine st_istore4 rX8_isRow_70 rfl ?_
          refine st_iload rX8_isRow_72 rfl ?_
          refine st_c rX8_isRow_73 ?_
          refine st_aload rX8_isRow_74 rfl ?_
          refine st_getR rX8_isRow_75 (by first | assumption | decide | exact ⟨by decide, rfl, by decide⟩) (by first | rfl | assumption) rfl ?_
          refine st_iload rX8_isRow_78 rfl ?_
          refine st_ialdN rX8_isRow_80 (by first | assumption | decide | exact ⟨by decide, rfl, by decide⟩) (by omega) ?_
          refine st_top q9 ?_
          refine st_ishl rX8_isRow_81 ?_
          refine st_ior rX8_isRow_82 ?_
          refine st_top hor ?_
          refine st_istore3 rX8_isRow_83 rfl ?_
          refine st_iinc5 rX8_isRow_84 rfl ?_
          refine st_goto rX8_isRow_87 ?_
          rw [hdec]
          exact hn
  have hgo := key m 0 I (by omega) (fun a _ => rfl) (fun t h1 h2 => absurd h2 (by omega))
  rw [Nat.pow_zero, Nat.div_one] at hgo
  exact hgo
set_option maxHeartbeats 4000000 in
set_option maxRecDepth 100000 in
theorem s_isBorne {e : Nat → Nat} {kk : Int32 → vS → Prop} (hM : InvM I J A T) (hO : OkA A m no) (h1 : ∀ t, t < m → I 121 t = nI (e t)) (he : ∀ t, t < m → e t < m) (h : kk (vb (brF A e m)) (I, J, vRR ρ)) : V d 123 123 mX8_isBorne 0 [.ref 103, vJ, vJ] [] (I, J, vRR ρ) (Ki kk) := by
  have hm6 : m ≤ 6 := hO.1.2.2.1
  have hno6 : no ≤ 6 := hO.1.2.2.2.1
  obtain ⟨m1, m2, m3, m4, m5, m6, m7, m8, m9, m10, m11, m12, m13, m14, m15, m16⟩ := id hM
  have hmm : I 105 0 = nI m := m11.trans hO.1.1
  have hmo : I 105 1 = nI no := m12.trans hO.1.2.1
  refine st_c rX8_isBorne_0 ?_
  refine st_istore1 rX8_isBorne_1 rfl ?_
  refine st_c rX8_isBorne_2 ?_
  refine st_istore2 rX8_isBorne_3 rfl ?_
  skip
  have key : ∀ (r t : Nat), t + r = m → V d 123 123 mX8_isBorne 4 [.ref 103, .int (vb (brF A e t)), .int (nI t)] [] (I, J, vRR ρ) (Ki kk) := by
    intro r
    induction r with
    | zero =>
      intro t het
      have het : t = m := by omega
      subst het
      refine st_iload rX8_isBorne_4 rfl ?_
      refine st_aload rX8_isBorne_5 rfl ?_
      refine st_getR rX8_isBorne_6 (by first | assumption | decide | exact ⟨by decide, rfl, by decide⟩) (by first | rfl | assumption) rfl ?_
      refine st_c rX8_isBorne_9 ?_
      refine st_ialdN rX8_isBorne_10 (by first | assumption | decide | exact ⟨by decide, rfl, by decide⟩) (by omega) ?_
      refine st_top hmm ?_
      first | with_reducible refine st_icmp_geN rX8_isBorne_11 (by omega) (by omega) (fun _ => ?_) (fun h => absurd h (by first | decide | omega | (simp; done) | simp_all)) | refine st_icmp_ge rX8_isBorne_11 (fun _ => ?_) (fun h => absurd h (by first | decide | omega | (simp; done) | simp_all))
      refine st_iload rX8_isBorne_53 rfl ?_
      refine st_zret rX8_isBorne_54 rfl (by first | rfl | exact vb_nar _) ?_
      exact h
    | succ r ih =>
      intro t het
      have htm : t < m := by omega
      have hn := ih (t + 1) (by omega)
      simp only [brF] at hn
      have het2 := he t htm
      have q1 := h1 t htm
      have q2 : I 107 (e t) = A 107 (e t) := (m9 _ (by omega)).1
      have q3 : I 114 (8 + t) = A 114 (8 + t) := by rw [m3]
      cases hb : brF A e t with
      | false =>
        rw [hb, Bool.false_and] at hn
        refine st_iload rX8_isBorne_4 rfl ?_
        refine st_aload rX8_isBorne_5 rfl ?_
        refine st_getR rX8_isBorne_6 (by first | assumption | decide | exact ⟨by decide, rfl, by decide⟩) (by first | rfl | assumption) rfl ?_
        refine st_c rX8_isBorne_9 ?_
        refine st_ialdN rX8_isBorne_10 (by first | assumption | decide | exact ⟨by decide, rfl, by decide⟩) (by omega) ?_
        refine st_top hmm ?_
        first | with_reducible refine st_icmp_geN rX8_isBorne_11 (by omega) (by omega) (fun h => absurd h (by first | decide | omega | (simp; done) | simp_all)) (fun _ => ?_) | refine st_icmp_ge rX8_isBorne_11 (fun h => absurd h (by first | decide | omega | (simp; done) | simp_all)) (fun _ => ?_)
        refine st_iload rX8_isBorne_14 rfl ?_
        first | with_reducible refine st_if_eqN rX8_isBorne_15 (by omega) (fun _ => ?_) (fun h => absurd h (by first | decide | omega | (simp; done) | simp_all)) | refine st_if_eq rX8_isBorne_15 (fun _ => ?_) (fun h => absurd h (by first | decide | omega | (simp; done) | simp_all))
        refine st_c rX8_isBorne_45 ?_
        refine st_istore1 rX8_isBorne_46 rfl ?_
        first | with_reducible refine st_iincN2 rX8_isBorne_47 rfl ?_ | refine st_iinc2 rX8_isBorne_47 rfl ?_
        refine st_goto rX8_isBorne_50 ?_
        exact hn
      | true =>
        rw [hb, Bool.true_and] at hn
        refine st_iload rX8_isBorne_4 rfl ?_
        refine st_aload rX8_isBorne_5 rfl ?_
        refine st_getR rX8_isBorne_6 (by first | assumption | decide | exact ⟨by decide, rfl, by decide⟩) (by first | rfl | assumption) rfl ?_
        refine st_c rX8_isBorne_9 ?_
        refine st_ialdN rX8_isBorne_10 (by first | assumption | decide | exact ⟨by decide, rfl, by decide⟩) (by omega) ?_
        refine st_top hmm ?_
        first | with_reducible refine st_icmp_geN rX8_isBorne_11 (by omega) (by omega) (fun h => absurd h (by first | decide | omega | (simp; done) | simp_all)) (fun _ => ?_) | refine st_icmp_ge rX8_isBorne_11 (fun h => absurd h (by first | decide | omega | (simp; done) | simp_all)) (fun _ => ?_)
        refine st_iload rX8_isBorne_14 rfl ?_
        first | with_reducible refine st_if_eqN rX8_isBorne_15 (by omega) (fun h => absurd h (by first | decide | omega | (simp; done) | simp_all)) (fun _ => ?_) | refine st_if_eq rX8_isBorne_15 (fun h => absurd h (by first | decide | omega | (simp; done) | simp_all)) (fun _ => ?_)
        refine st_aload rX8_isBorne_18 rfl ?_
        refine st_getR rX8_isBorne_19 (by first | assumption | decide | exact ⟨by decide, rfl, by decide⟩) (by first | rfl | assumption) rfl ?_
        refine st_c rX8_isBorne_22 ?_
        refine st_iload rX8_isBorne_24 rfl ?_
        first | with_reducible refine st_iaddN rX8_isBorne_25 ?_ | refine st_iadd rX8_isBorne_25 ?_
        refine st_ialdN rX8_isBorne_26 (by first | assumption | decide | exact ⟨by decide, rfl, by decide⟩) (by omega) ?_
        refine st_top q3 ?_
        refine st_aload rX8_isBorne_27 rfl ?_
        refine st_getR rX8_isBorne_28 (by first | assumption | decide | exact ⟨by decide, rfl, by decide⟩) (by first | rfl | assumption) rfl ?_
        refine st_aload rX8_isBorne_31 rfl ?_
        refine st_getR rX8_isBorne_32 (by first | assumption | decide | exact ⟨by decide, rfl, by decide⟩) (by first | rfl | assumption) rfl ?_
        refine st_iload rX8_isBorne_35 rfl ?_
        refine st_ialdN rX8_isBorne_36 (by first | assumption | decide | exact ⟨by decide, rfl, by decide⟩) (by omega) ?_
        refine st_top q1 ?_
        refine st_ialdN rX8_isBorne_37 (by first | assumption | decide | exact ⟨by decide, rfl, by decide⟩) (by omega) ?_
        skip
        refine st_top q2 ?_
        refine st_icmp_lt rX8_isBorne_38 (fun h38 => ?_) (fun h38 => ?_)
        · rw [decide_eq_true h38] at hn
          refine st_c rX8_isBorne_45 ?_
          refine st_istore1 rX8_isBorne_46 rfl ?_
          first | with_reducible refine st_iincN2 rX8_isBorne_47 rfl ?_ | refine st_iinc2 rX8_isBorne_47 rfl ?_
          refine st_goto rX8_isBorne_50 ?_
          exact hn
        · rw [decide_eq_false h38] at hn
          refine st_c rX8_isBorne_41 ?_
          refine st_goto rX8_isBorne_42 ?_
          refine st_istore1 rX8_isBorne_46 rfl ?_
          first | with_reducible refine st_iincN2 rX8_isBorne_47 rfl ?_ | refine st_iinc2 rX8_isBorne_47 rfl ?_
          refine st_goto rX8_isBorne_50 ?_
          exact hn
  exact key m 0 (by omega)
set_option maxHeartbeats 4000000 in
set_option maxRecDepth 100000 in
theorem s_costRow {e : Nat → Nat} {kk : Int32 → vS → Prop} (hM : InvM I J A T) (hO : OkA A m no) (h1 : ∀ t, t < m → I 121 t = nI (e t)) (he : ∀ t, t < m → e t < m) (h : kk (nI (crV (crF A m e m))) (I, J, vRR ρ)) : V (d + 1) 123 123 mX8_costOfRow 0 [.ref 103, vJ, vJ, vJ] [] (I, J, vRR ρ) (Ki kk) := by
  have hm6 : m ≤ 6 := hO.1.2.2.1
  have hno6 : no ≤ 6 := hO.1.2.2.2.1
  obtain ⟨m1, m2, m3, m4, m5, m6, m7, m8, m9, m10, m11, m12, m13, m14, m15, m16⟩ := id hM
  have hmm : I 105 0 = nI m := m11.trans hO.1.1
  have hmo : I 105 1 = nI no := m12.trans hO.1.2.1
  refine st_c rX8_costOfRow_0 ?_
  refine st_istore1 rX8_costOfRow_1 rfl ?_
  refine st_c rX8_costOfRow_2 ?_
  refine st_istore2 rX8_costOfRow_3 rfl ?_
  skip
  have key : ∀ (r t : Nat) (x3 : Value), t + r = m → V (d + 1) 123 123 mX8_costOfRow 4 [.ref 103, .int (nI (crV (crF A m e t))), .int (nI t), x3] [] (I, J, vRR ρ) (Ki kk) := by
    intro r
    induction r with
    | zero =>
      intro t x3 het
      have het : t = m := by omega
      subst het
      refine st_iload rX8_costOfRow_4 rfl ?_
      refine st_aload rX8_costOfRow_5 rfl ?_
      refine st_getR rX8_costOfRow_6 (by first | assumption | decide | exact ⟨by decide, rfl, by decide⟩) (by first | rfl | assumption) rfl ?_
      refine st_c rX8_costOfRow_9 ?_
      refine st_ialdN rX8_costOfRow_10 (by first | assumption | decide | exact ⟨by decide, rfl, by decide⟩) (by omega) ?_
      refine st_top hmm ?_
      first | with_reducible refine st_icmp_geN rX8_costOfRow_11 (by omega) (by omega) (fun _ => ?_) (fun h => absurd h (by first | decide | omega | (simp; done) | simp_all)) | refine st_icmp_ge rX8_costOfRow_11 (fun _ => ?_) (fun h => absurd h (by first | decide | omega | (simp; done) | simp_all))
      refine st_iload rX8_costOfRow_77 rfl ?_
      refine st_iret rX8_costOfRow_78 rfl ?_
      exact h
    | succ r ih =>
      intro t x3 het
      have htm : t < m := by omega
      have hn := ih (t + 1)
      have het2 := he t htm
      have q1 := h1 t htm
      obtain ⟨p1, p2, p3⟩ := posA_ok hO het2
      have q4 : I 113 (6 * posA A m (e t) + t) = A 113 (6 * posA A m (e t) + t) := by rw [m2]
      cases hs : crF A m e t with
      | none =>
        rw [crF_n hs] at hn
        simp only [crV] at hn ⊢
        rcases hO.1.2.2.2.2.2.2.2.1 (posA A m (e t)) t p1 htm with ⟨f1, -⟩ | ⟨x, x1, f1, -⟩
        · refine st_iload rX8_costOfRow_4 rfl ?_
          refine st_aload rX8_costOfRow_5 rfl ?_
          refine st_getR rX8_costOfRow_6 (by first | assumption | decide | exact ⟨by decide, rfl, by decide⟩) (by first | rfl | assumption) rfl ?_
          refine st_c rX8_costOfRow_9 ?_
          refine st_ialdN rX8_costOfRow_10 (by first | assumption | decide | exact ⟨by decide, rfl, by decide⟩) (by omega) ?_
          refine st_top hmm ?_
          first | with_reducible refine st_icmp_geN rX8_costOfRow_11 (by omega) (by omega) (fun h => absurd h (by first | decide | omega | (simp; done) | simp_all)) (fun _ => ?_) | refine st_icmp_ge rX8_costOfRow_11 (fun h => absurd h (by first | decide | omega | (simp; done) | simp_all)) (fun _ => ?_)
          refine st_aload rX8_costOfRow_14 rfl ?_
          refine st_getR rX8_costOfRow_15 (by first | assumption | decide | exact ⟨by decide, rfl, by decide⟩) (by first | rfl | assumption) rfl ?_
          refine st_c rX8_costOfRow_18 ?_
          refine st_aload rX8_costOfRow_20 rfl ?_
          refine st_getR rX8_costOfRow_21 (by first | assumption | decide | exact ⟨by decide, rfl, by decide⟩) (by first | rfl | assumption) rfl ?_
          refine st_aload rX8_costOfRow_24 rfl ?_
          refine st_getR rX8_costOfRow_25 (by first | assumption | decide | exact ⟨by decide, rfl, by decide⟩) (by first | rfl | assumption) rfl ?_
          refine st_iload rX8_costOfRow_28 rfl ?_
          refine st_ialdN rX8_costOfRow_29 (by first | assumption | decide | exact ⟨by decide, rfl, by decide⟩) (by omega) ?_
          refine st_top q1 ?_
          refine cS2i rX8_costOfRow_30 (s_hangs (p := posA A m (e t)) (len := 56) ⟨by decide, rfl, by decide⟩ (by decide) (by omega) (by rw [m3]; exact p2) (by omega) (fun q hq => by rw [m3]; exact p3 q hq) ?_) rfl
          first | with_reducible refine st_imulN rX8_costOfRow_33 ?_ | refine st_imul rX8_costOfRow_33 ?_
          refine st_iload rX8_costOfRow_34 rfl ?_
          first | with_reducible refine st_iaddN rX8_costOfRow_35 ?_ | refine st_iadd rX8_costOfRow_35 ?_
          refine st_ialdN rX8_costOfRow_36 (by first | assumption | decide | exact ⟨by decide, rfl, by decide⟩) (by omega) ?_
          refine st_top (q4.trans f1) ?_
          refine st_istore3 rX8_costOfRow_37 rfl ?_
          refine st_iload rX8_costOfRow_38 rfl ?_
          refine st_c rX8_costOfRow_39 ?_
          first | with_reducible refine st_icmp_geN rX8_costOfRow_41 (by omega) (by omega) (fun _ => ?_) (fun h => absurd h (by first | decide | omega | (simp; done) | simp_all)) | refine st_icmp_ge rX8_costOfRow_41 (fun _ => ?_) (fun h => absurd h (by first | decide | omega | (simp; done) | simp_all))
          refine st_c rX8_costOfRow_50 ?_
          refine st_goto rX8_costOfRow_52 ?_
          refine st_istore1 rX8_costOfRow_70 rfl ?_
          first | with_reducible refine st_iincN2 rX8_costOfRow_71 rfl ?_ | refine st_iinc2 rX8_costOfRow_71 rfl ?_
          refine st_goto rX8_costOfRow_74 ?_
          exact hn _ (by omega)
        · refine st_iload rX8_costOfRow_4 rfl ?_
          refine st_aload rX8_costOfRow_5 rfl ?_
          refine st_getR rX8_costOfRow_6 (by first | assumption | decide | exact ⟨by decide, rfl, by decide⟩) (by first | rfl | assumption) rfl ?_
          refine st_c rX8_costOfRow_9 ?_
          refine st_ialdN rX8_costOfRow_10 (by first | assumption | decide | exact ⟨by decide, rfl, by decide⟩) (by omega) ?_
          refine st_top hmm ?_
          first | with_reducible refine st_icmp_geN rX8_costOfRow_11 (by omega) (by omega) (fun h => absurd h (by first | decide | omega | (simp; done) | simp_all)) (fun _ => ?_) | refine st_icmp_ge rX8_costOfRow_11 (fun h => absurd h (by first | decide | omega | (simp; done) | simp_all)) (fun _ => ?_)
          refine st_aload rX8_costOfRow_14 rfl ?_
          refine st_getR rX8_costOfRow_15 (by first | assumption | decide | exact ⟨by decide, rfl, by decide⟩) (by first | rfl | assumption) rfl ?_
          refine st_c rX8_costOfRow_18 ?_
          refine st_aload rX8_costOfRow_20 rfl ?_
          refine st_getR rX8_costOfRow_21 (by first | assumption | decide | exact ⟨by decide, rfl, by decide⟩) (by first | rfl | assumption) rfl ?_
          refine st_aload rX8_costOfRow_24 rfl ?_
          refine st_getR rX8_costOfRow_25 (by first | assumption | decide | exact ⟨by decide, rfl, by decide⟩) (by first | rfl | assumption) rfl ?_
          refine st_iload rX8_costOfRow_28 rfl ?_
          refine st_ialdN rX8_costOfRow_29 (by first | assumption | decide | exact ⟨by decide, rfl, by decide⟩) (by omega) ?_
          refine st_top q1 ?_
          refine cS2i rX8_costOfRow_30 (s_hangs (p := posA A m (e t)) (len := 56) ⟨by decide, rfl, by decide⟩ (by decide) (by omega) (by rw [m3]; exact p2) (by omega) (fun q hq => by rw [m3]; exact p3 q hq) ?_) rfl
          first | with_reducible refine st_imulN rX8_costOfRow_33 ?_ | refine st_imul rX8_costOfRow_33 ?_
          refine st_iload rX8_costOfRow_34 rfl ?_
          first | with_reducible refine st_iaddN rX8_costOfRow_35 ?_ | refine st_iadd rX8_costOfRow_35 ?_
          refine st_ialdN rX8_costOfRow_36 (by first | assumption | decide | exact ⟨by decide, rfl, by decide⟩) (by omega) ?_
          refine st_top (q4.trans f1) ?_
          refine st_istore3 rX8_costOfRow_37 rfl ?_
          refine st_iload rX8_costOfRow_38 rfl ?_
          refine st_c rX8_costOfRow_39 ?_
          first | with_reducible refine st_icmp_geN rX8_costOfRow_41 (by omega) (by omega) (fun h => absurd h (by first | decide | omega | (simp; done) | simp_all)) (fun _ => ?_) | refine st_icmp_ge rX8_costOfRow_41 (fun h => absurd h (by first | decide | omega | (simp; done) | simp_all)) (fun _ => ?_)
          refine st_iload rX8_costOfRow_44 rfl ?_
          refine st_c rX8_costOfRow_45 ?_
          first | with_reducible refine st_icmp_ltN rX8_costOfRow_47 (by omega) (by omega) (fun h => absurd h (by first | decide | omega | (simp; done) | simp_all)) (fun _ => ?_) | refine st_icmp_lt rX8_costOfRow_47 (fun h => absurd h (by first | decide | omega | (simp; done) | simp_all)) (fun _ => ?_)
          refine st_c rX8_costOfRow_50 ?_
          refine st_goto rX8_costOfRow_52 ?_
          refine st_istore1 rX8_costOfRow_70 rfl ?_
          first | with_reducible refine st_iincN2 rX8_costOfRow_71 rfl ?_ | refine st_iinc2 rX8_costOfRow_71 rfl ?_
          refine st_goto rX8_costOfRow_74 ?_
          exact hn _ (by omega)
      | some s =>
        have hle := crF_le hO he t s (by omega) hs
        obtain ⟨wt, w1, w2, w3, ⟨f1, -, f2⟩ | ⟨x, x1, f1, -, f2⟩⟩ := crF_s hO htm het2 hs
        · rw [f2] at hn
          simp only [crV] at hn ⊢
          refine st_iload rX8_costOfRow_4 rfl ?_
          refine st_aload rX8_costOfRow_5 rfl ?_
          refine st_getR rX8_costOfRow_6 (by first | assumption | decide | exact ⟨by decide, rfl, by decide⟩) (by first | rfl | assumption) rfl ?_
          refine st_c rX8_costOfRow_9 ?_
          refine st_ialdN rX8_costOfRow_10 (by first | assumption | decide | exact ⟨by decide, rfl, by decide⟩) (by omega) ?_
          refine st_top hmm ?_
          first | with_reducible refine st_icmp_geN rX8_costOfRow_11 (by omega) (by omega) (fun h => absurd h (by first | decide | omega | (simp; done) | simp_all)) (fun _ => ?_) | refine st_icmp_ge rX8_costOfRow_11 (fun h => absurd h (by first | decide | omega | (simp; done) | simp_all)) (fun _ => ?_)
          refine st_aload rX8_costOfRow_14 rfl ?_
          refine st_getR rX8_costOfRow_15 (by first | assumption | decide | exact ⟨by decide, rfl, by decide⟩) (by first | rfl | assumption) rfl ?_
          refine st_c rX8_costOfRow_18 ?_
          refine st_aload rX8_costOfRow_20 rfl ?_
          refine st_getR rX8_costOfRow_21 (by first | assumption | decide | exact ⟨by decide, rfl, by decide⟩) (by first | rfl | assumption) rfl ?_
          refine st_aload rX8_costOfRow_24 rfl ?_
          refine st_getR rX8_costOfRow_25 (by first | assumption | decide | exact ⟨by decide, rfl, by decide⟩) (by first | rfl | assumption) rfl ?_
          refine st_iload rX8_costOfRow_28 rfl ?_
          refine st_ialdN rX8_costOfRow_29 (by first | assumption | decide | exact ⟨by decide, rfl, by decide⟩) (by omega) ?_
          refine st_top q1 ?_
          refine cS2i rX8_costOfRow_30 (s_hangs (p := posA A m (e t)) (len := 56) ⟨by decide, rfl, by decide⟩ (by decide) (by omega) (by rw [m3]; exact p2) (by omega) (fun q hq => by rw [m3]; exact p3 q hq) ?_) rfl
          first | with_reducible refine st_imulN rX8_costOfRow_33 ?_ | refine st_imul rX8_costOfRow_33 ?_
          refine st_iload rX8_costOfRow_34 rfl ?_
          first | with_reducible refine st_iaddN rX8_costOfRow_35 ?_ | refine st_iadd rX8_costOfRow_35 ?_
          refine st_ialdN rX8_costOfRow_36 (by first | assumption | decide | exact ⟨by decide, rfl, by decide⟩) (by omega) ?_
          refine st_top (q4.trans f1) ?_
          refine st_istore3 rX8_costOfRow_37 rfl ?_
          refine st_iload rX8_costOfRow_38 rfl ?_
          refine st_c rX8_costOfRow_39 ?_
          first | with_reducible refine st_icmp_geN rX8_costOfRow_41 (by omega) (by omega) (fun _ => ?_) (fun h => absurd h (by first | decide | omega | (simp; done) | simp_all)) | refine st_icmp_ge rX8_costOfRow_41 (fun _ => ?_) (fun h => absurd h (by first | decide | omega | (simp; done) | simp_all))
          refine st_c rX8_costOfRow_50 ?_
          refine st_goto rX8_costOfRow_52 ?_
          refine st_istore1 rX8_costOfRow_70 rfl ?_
          first | with_reducible refine st_iincN2 rX8_costOfRow_71 rfl ?_ | refine st_iinc2 rX8_costOfRow_71 rfl ?_
          refine st_goto rX8_costOfRow_74 ?_
          exact hn _ (by omega)
        · rw [f2] at hn
          simp only [crV] at hn ⊢
          have q7 : I 107 (e t) = nI wt := ((m9 _ (by omega)).1).trans w3
          refine st_iload rX8_costOfRow_4 rfl ?_
          refine st_aload rX8_costOfRow_5 rfl ?_
          refine st_getR rX8_costOfRow_6 (by first | assumption | decide | exact ⟨by decide, rfl, by decide⟩) (by first | rfl | assumption) rfl ?_
          refine st_c rX8_costOfRow_9 ?_
          refine st_ialdN rX8_costOfRow_10 (by first | assumption | decide | exact ⟨by decide, rfl, by decide⟩) (by omega) ?_
          refine st_top hmm ?_
          first | with_reducible refine st_icmp_geN rX8_costOfRow_11 (by omega) (by omega) (fun h => absurd h (by first | decide | omega | (simp; done) | simp_all)) (fun _ => ?_) | refine st_icmp_ge rX8_costOfRow_11 (fun h => absurd h (by first | decide | omega | (simp; done) | simp_all)) (fun _ => ?_)
          refine st_aload rX8_costOfRow_14 rfl ?_
          refine st_getR rX8_costOfRow_15 (by first | assumption | decide | exact ⟨by decide, rfl, by decide⟩) (by first | rfl | assumption) rfl ?_
          refine st_c rX8_costOfRow_18 ?_
          refine st_aload rX8_costOfRow_20 rfl ?_
          refine st_getR rX8_costOfRow_21 (by first | assumption | decide | exact ⟨by decide, rfl, by decide⟩) (by first | rfl | assumption) rfl ?_
          refine st_aload rX8_costOfRow_24 rfl ?_
          refine st_getR rX8_costOfRow_25 (by first | assumption | decide | exact ⟨by decide, rfl, by decide⟩) (by first | rfl | assumption) rfl ?_
          refine st_iload rX8_costOfRow_28 rfl ?_
          refine st_ialdN rX8_costOfRow_29 (by first | assumption | decide | exact ⟨by decide, rfl, by decide⟩) (by omega) ?_
          refine st_top q1 ?_
          refine cS2i rX8_costOfRow_30 (s_hangs (p := posA A m (e t)) (len := 56) ⟨by decide, rfl, by decide⟩ (by decide) (by omega) (by rw [m3]; exact p2) (by omega) (fun q hq => by rw [m3]; exact p3 q hq) ?_) rfl
          first | with_reducible refine st_imulN rX8_costOfRow_33 ?_ | refine st_imul rX8_costOfRow_33 ?_
          refine st_iload rX8_costOfRow_34 rfl ?_
          first | with_reducible refine st_iaddN rX8_costOfRow_35 ?_ | refine st_iadd rX8_costOfRow_35 ?_
          refine st_ialdN rX8_costOfRow_36 (by first | assumption | decide | exact ⟨by decide, rfl, by decide⟩) (by omega) ?_
          refine st_top (q4.trans f1) ?_
          refine st_istore3 rX8_costOfRow_37 rfl ?_
          refine st_iload rX8_costOfRow_38 rfl ?_
          refine st_c rX8_costOfRow_39 ?_
          first | with_reducible refine st_icmp_geN rX8_costOfRow_41 (by omega) (by omega) (fun h => absurd h (by first | decide | omega | (simp; done) | simp_all)) (fun _ => ?_) | refine st_icmp_ge rX8_costOfRow_41 (fun h => absurd h (by first | decide | omega | (simp; done) | simp_all)) (fun _ => ?_)
          refine st_iload rX8_costOfRow_44 rfl ?_
          refine st_c rX8_costOfRow_45 ?_
          first | with_reducible refine st_icmp_ltN rX8_costOfRow_47 (by omega) (by omega) (fun _ => ?_) (fun h => absurd h (by first | decide | omega | (simp; done) | simp_all)) | refine st_icmp_lt rX8_costOfRow_47 (fun _ => ?_) (fun h => absurd h (by first | decide | omega | (simp; done) | simp_all))
          refine st_iload rX8_costOfRow_55 rfl ?_
          refine st_aload rX8_costOfRow_56 rfl ?_
          refine st_getR rX8_costOfRow_57 (by first | assumption | decide | exact ⟨by decide, rfl, by decide⟩) (by first | rfl | assumption) rfl ?_
          refine st_aload rX8_costOfRow_60 rfl ?_
          refine st_getR rX8_costOfRow_61 (by first | assumption | decide | exact ⟨by decide, rfl, by decide⟩) (by first | rfl | assumption) rfl ?_
          refine st_iload rX8_costOfRow_64 rfl ?_
          refine st_ialdN rX8_costOfRow_65 (by first | assumption | decide | exact ⟨by decide, rfl, by decide⟩) (by omega) ?_
          refine st_top q1 ?_
          refine st_ialdN rX8_costOfRow_66 (by first | assumption | decide | exact ⟨by decide, rfl, by decide⟩) (by omega) ?_
          refine st_top q7 ?_
          refine st_iload rX8_costOfRow_67 rfl ?_
          first | with_reducible refine st_imulN rX8_costOfRow_68 ?_ | refine st_imul rX8_costOfRow_68 ?_
          first | with_reducible refine st_iaddN rX8_costOfRow_69 ?_ | refine st_iadd rX8_costOfRow_69 ?_
          refine st_istore1 rX8_costOfRow_70 rfl ?_
          first | with_reducible refine st_iincN2 rX8_costOfRow_71 rfl ?_ | refine st_iinc2 rX8_costOfRow_71 rfl ?_
          refine st_goto rX8_costOfRow_74 ?_
          exact hn _ (by omega)
  exact key m 0 _ (by omega)
end P37
