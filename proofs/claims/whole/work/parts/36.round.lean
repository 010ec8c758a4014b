/-! ===== round ===== -/
def gcF : Nat → Nat → Nat → Nat
  | 0, a, _ => a
  | f + 1, a, b => if b = 0 then a else gcF f b (a % b)
theorem gcF_lt {B : Nat} : ∀ f a b, a < B → b < B → gcF f a b < B := by
  intro f
  induction f with
  | zero => intro a b h _; exact h
  | succ f ih =>
    intro a b ha hb
    simp only [gcF]
    by_cases h0 : b = 0
    · rw [if_pos h0]; exact ha
    · rw [if_neg h0]; exact ih _ _ hb (Nat.lt_trans (Nat.mod_lt _ (by omega)) hb)
def lcF (a b : Nat) : Nat := if gcF 64 a b = 0 then a else a / gcF 64 a b * b
def rlG (G : Nat → Nat) (t : Nat) : Nat → Nat → Nat → Nat
  | 0, len, _ => len
  | f + 1, len, u => if u = t ∨ 6 ≤ len then len else rlG G t f (len + 1) (G u)
theorem rlG_le (G : Nat → Nat) (t : Nat) : ∀ f len u, len ≤ 6 → rlG G t f len u ≤ 6 := by
  intro f
  induction f with
  | zero => intro len u h; exact h
  | succ f ih =>
    intro len u h
    simp only [rlG]
    by_cases h0 : u = t ∨ 6 ≤ len
    · rw [if_pos h0]; exact h
    · rw [if_neg h0]; exact ih _ _ (by omega)
def rpF (G : Nat → Nat) : Nat → Nat
  | 0 => 1
  | t + 1 => lcF (rpF G t) (rlG G t 6 1 (G t))
theorem rpF_le (G : Nat → Nat) : ∀ t, rpF G t ≤ 6 ^ t := by
  intro t
  induction t with
  | zero => exact Nat.le_refl _
  | succ t ih =>
    simp only [rpF, lcF]
    have h6 : (6 : Nat) ^ (t + 1) = 6 ^ t * 6 := Nat.pow_succ ..
    split
    · omega
    · rw [h6]
      exact Nat.mul_le_mul (Nat.le_trans (Nat.div_le_self _ _) ih) (rlG_le G t 6 1 _ (by omega))
def itG (G : Nat → Nat) : Nat → Nat → Nat
  | 0, t => t
  | k + 1, t => G (itG G k t)
def tu6 (a0 a1 a2 a3 a4 a5 : Nat) : Nat → Nat
  | 0 => a0
  | 1 => a1
  | 2 => a2
  | 3 => a3
  | 4 => a4
  | _ => a5
def chR (G : Nat → Nat) : Bool := decide (1 ≤ rpF G 6) && (List.range 6).all (fun t => decide (itG G (rpF G 6) t = t)) && (List.range (rpF G 6 - 1)).all (fun k => (List.range 6).any (fun t => !decide (itG G (k + 1) t = t)))
theorem rd1 : (List.range 6).all (fun a0 => (List.range 6).all (fun a1 => decide (a0 = a1) || (List.range 6).all (fun a2 => decide (a0 = a2) || decide (a1 = a2) || (List.range 6).all (fun a3 => decide (a0 = a3) || decide (a1 = a3) || decide (a2 = a3) || (List.range 6).all (fun a4 => decide (a0 = a4) || decide (a1 = a4) || decide (a2 = a4) || decide (a3 = a4) || (List.range 6).all (fun a5 => decide (a0 = a5) || decide (a1 = a5) || decide (a2 = a5) || decide (a3 = a5) || decide (a4 = a5) || chR (tu6 a0 a1 a2 a3 a4 a5))))))) = true := by decide +kernel
theorem rd2 {G : Nat → Nat} (h : ∀ t, t < 6 → G t < 6) (hi : ∀ s t, s < t → t < 6 → G s ≠ G t) : chR (tu6 (G 0) (G 1) (G 2) (G 3) (G 4) (G 5)) = true := by
  have q := List.all_eq_true.mp rd1 (G 0) (List.mem_range.mpr (h 0 (by omega)))
  have q := List.all_eq_true.mp q (G 1) (List.mem_range.mpr (h 1 (by omega)))
  rw [decide_eq_false (hi 0 1 (by omega) (by omega)), Bool.false_or] at q
  have q := List.all_eq_true.mp q (G 2) (List.mem_range.mpr (h 2 (by omega)))
  rw [decide_eq_false (hi 0 2 (by omega) (by omega)), decide_eq_false (hi 1 2 (by omega) (by omega)), Bool.false_or, Bool.false_or] at q
  have q := List.all_eq_true.mp q (G 3) (List.mem_range.mpr (h 3 (by omega)))
  rw [decide_eq_false (hi 0 3 (by omega) (by omega)), decide_eq_false (hi 1 3 (by omega) (by omega)), decide_eq_false (hi 2 3 (by omega) (by omega)), Bool.false_or, Bool.false_or, Bool.false_or] at q
  have q := List.all_eq_true.mp q (G 4) (List.mem_range.mpr (h 4 (by omega)))
  rw [decide_eq_false (hi 0 4 (by omega) (by omega)), decide_eq_false (hi 1 4 (by omega) (by omega)), decide_eq_false (hi 2 4 (by omega) (by omega)), decide_eq_false (hi 3 4 (by omega) (by omega)), Bool.false_or, Bool.false_or, Bool.false_or, Bool.false_or] at q
  have q := List.all_eq_true.mp q (G 5) (List.mem_range.mpr (h 5 (by omega)))
  rw [decide_eq_false (hi 0 5 (by omega) (by omega)), decide_eq_false (hi 1 5 (by omega) (by omega)), decide_eq_false (hi 2 5 (by omega) (by omega)), decide_eq_false (hi 3 5 (by omega) (by omega)), decide_eq_false (hi 4 5 (by omega) (by omega)), Bool.false_or, Bool.false_or, Bool.false_or, Bool.false_or, Bool.false_or] at q
  exact q
theorem tu6_at (G : Nat → Nat) {t : Nat} (ht : t < 6) : tu6 (G 0) (G 1) (G 2) (G 3) (G 4) (G 5) t = G t := by
  match t, ht with
  | 0, _ => rfl
  | 1, _ => rfl
  | 2, _ => rfl
  | 3, _ => rfl
  | 4, _ => rfl
  | 5, _ => rfl
def gm (m z t : Nat) : Nat := if t < m then gD (rD m z) t else t
def gN (m z : Nat) : Nat → Nat := tu6 (gm m z 0) (gm m z 1) (gm m z 2) (gm m z 3) (gm m z 4) (gm m z 5)
theorem gN_at {m z t : Nat} (ht : t < 6) : gN m z t = gm m z t := tu6_at (gm m z) ht
theorem gN_lt {m z t : Nat} (hm : m ≤ 6) (ht : t < m) : gN m z t < m ∧ gN m z t = gD (rD m z) t := by
  rw [gN_at (by omega), gm, if_pos ht]
  exact ⟨((drOk hm (fun t ht => rD_lt ht) t (by omega)).2.2 ht).2.1, rfl⟩
theorem gN_hi {m z t : Nat} (h1 : m ≤ t) (ht : t < 6) : gN m z t = t := by
  rw [gN_at ht, gm, if_neg (by omega)]
theorem gN_6 {m z t : Nat} (hm : m ≤ 6) (ht : t < 6) : gN m z t < 6 := by
  by_cases h : t < m
  · have := (gN_lt (z := z) hm h).1; omega
  · rw [gN_hi (by omega) ht]; exact ht
theorem rd3 {m z : Nat} (hm : m ≤ 6) : 1 ≤ rpF (gN m z) 6 ∧ (∀ t, t < 6 → itG (gN m z) (rpF (gN m z) 6) t = t) ∧ ∀ k, 1 ≤ k → k < rpF (gN m z) 6 → ∃ t, t < m ∧ itG (gN m z) k t ≠ t := by
  obtain ⟨c, hc⟩ := drPerm (m := m) (r := rD m z) hm (fun t ht => rD_lt ht)
  have q := rd2 (G := gm m z) (fun t ht => by rw [← gN_at ht]; exact gN_6 hm ht) (fun s t hst ht e => by
    simp only [gm] at e
    by_cases h1 : s < m
    · by_cases h2 : t < m
      · rw [if_pos h1, if_pos h2] at e
        have := (hc s h1).2.1
        rw [e, (hc t h2).2.1] at this
        omega
      · rw [if_pos h1, if_neg h2] at e
        have := (hc s h1).1
        omega
    · rw [if_neg h1, if_neg (by omega)] at e
      omega)
  have q : chR (gN m z) = true := q
  simp only [chR, Bool.and_eq_true, decide_eq_true_eq] at q
  refine ⟨q.1.1, fun t ht => of_decide_eq_true (List.all_eq_true.mp q.1.2 t (List.mem_range.mpr ht)), fun k h1 h2 => ?_⟩
  have q3 := List.all_eq_true.mp q.2 (k - 1) (List.mem_range.mpr (by omega))
  obtain ⟨t, ht, h3⟩ := List.any_eq_true.mp q3
  rw [show k - 1 + 1 = k by omega] at h3
  have h4 : itG (gN m z) k t ≠ t := by simpa using h3
  refine ⟨t, ?_, h4⟩
  by_cases htm : t < m
  · exact htm
  · exfalso
    apply h4
    have h6 := List.mem_range.mp ht
    clear h4 h3 q3 h1 h2
    induction k with
    | zero => rfl
    | succ k ih => simp only [itG]; rw [ih, gN_hi (by omega) h6]
def anF (f : Nat → Nat) : Nat → Bool
  | 0 => false
  | t + 1 => anF f t || decide (f t ≠ t)
theorem anF_t {f : Nat → Nat} {t : Nat} (h : f t ≠ t) : ∀ n, t < n → anF f n = true := by
  intro n
  induction n with
  | zero => intro h; omega
  | succ n ih =>
    intro hn
    simp only [anF]
    by_cases e : t = n
    · subst e; simp [h]
    · rw [ih (by omega), Bool.true_or]
theorem anF_f {f : Nat → Nat} : ∀ n, (∀ t, t < n → f t = t) → anF f n = false := by
  intro n
  induction n with
  | zero => intro _; rfl
  | succ n ih =>
    intro h
    simp only [anF, ih (fun t ht => h t (by omega)), h n (by omega)]
    simp
section P36
variable {d : Nat} {I A : Nat → Nat → Int32} {J : Nat → Nat → Int64} {ρ m no : Nat} {T : Int64} {k : Int32 → vS → Prop} {kl : Int64 → vS → Prop} {kv : vS → Prop}
set_option maxHeartbeats 4000000 in
set_option maxRecDepth 100000 in
theorem c_roundBad {z : Int32} (hz : isT 10000 z = false) (hk : k (-1) (I, J, vRR ρ)) : V (d + 1) 123 123 mX7_round 0 [.ref 0, .int z] [] (I, J, vRR ρ) (Ki k) := by
  refine st_iload rX7_round_0 rfl ?_
  refine st_c rX7_round_1 ?_
  refine st_c rX7_round_2 ?_
  refine cS3i rX7_round_5 (s_within ?_) rfl
  rw [inR_N (by decide), hz]
  first | with_reducible refine st_if_neN rX7_round_8 (by omega) (fun h => absurd h (by first | decide | omega | (simp; done) | simp_all)) (fun _ => ?_) | refine st_if_ne rX7_round_8 (fun h => absurd h (by first | decide | omega | (simp; done) | simp_all)) (fun _ => ?_)
  refine st_c rX7_round_11 ?_
  refine st_iret rX7_round_12 rfl ?_
  exact hk
set_option maxHeartbeats 4000000 in
set_option maxRecDepth 100000 in
theorem m_roundBad {z : Int32} (hM : InvM I J A T) (hz : isT 10000 z = false) (hk : ∀ I', (∀ a, a < 103 ∨ 123 ≤ a → I' a = I a) → InvM I' J A T → k (-1) (I', J, vRR ρ)) : V (d + 1) 123 123 mX8_round 0 [.ref 103, .int z, vJ, vJ, vJ] [] (I, J, vRR ρ) (Ki k) := by
  refine s_thr rX8_round_0 rX8_round_1 rX8_round_2 hM (fun I1 e1 e2 hM1 => ?_)
  refine st_iload rX8_round_5 rfl ?_
  refine st_c rX8_round_6 ?_
  refine st_c rX8_round_7 ?_
  refine cS3i rX8_round_10 (s_in ?_) rfl
  rw [inR_N (by decide), hz]
  first | with_reducible refine st_if_neN rX8_round_13 (by omega) (fun h => absurd h (by first | decide | omega | (simp; done) | simp_all)) (fun _ => ?_) | refine st_if_ne rX8_round_13 (fun h => absurd h (by first | decide | omega | (simp; done) | simp_all)) (fun _ => ?_)
  refine st_c rX8_round_16 ?_
  refine st_iret rX8_round_17 rfl ?_
  exact hk I1 (fun a ha => e1 a (by omega)) hM1
set_option maxHeartbeats 4000000 in
set_option maxRecDepth 100000 in
theorem s_cd {a b : Nat} {kk : Int32 → vS → Prop} (ha : a < 2147483648) (hb : b < 2147483648) (h : kk (nI (gcF 64 a b)) (I, J, vRR ρ)) : V d 123 123 mX7_commonDivisor 0 [.int (nI a), .int (nI b), vJ, vJ] [] (I, J, vRR ρ) (Ki kk) := by
  refine st_c rX7_commonDivisor_0 ?_
  refine st_istore2 rX7_commonDivisor_1 rfl ?_
  skip
  have key : ∀ (f s a b : Nat) (x3 : Value), s + f = 64 → a < 2147483648 → b < 2147483648 → kk (nI (gcF f a b)) (I, J, vRR ρ) → V d 123 123 mX7_commonDivisor 2 [.int (nI a), .int (nI b), .int (nI s), x3] [] (I, J, vRR ρ) (Ki kk) := by
    intro f
    induction f with
    | zero =>
      intro s a b x3 hs ha hb h
      refine st_iload rX7_commonDivisor_2 rfl ?_
      refine st_c rX7_commonDivisor_3 ?_
      first | with_reducible refine st_icmp_geN rX7_commonDivisor_5 (by omega) (by omega) (fun _ => ?_) (fun h => absurd h (by first | decide | omega | (simp; done) | simp_all)) | refine st_icmp_ge rX7_commonDivisor_5 (fun _ => ?_) (fun h => absurd h (by first | decide | omega | (simp; done) | simp_all))
      refine st_iload rX7_commonDivisor_26 rfl ?_
      refine st_iret rX7_commonDivisor_27 rfl ?_
      exact h
    | succ f ih =>
      intro s a b x3 hs ha hb h
      simp only [gcF] at h
      by_cases h0 : b = 0
      · rw [if_pos h0] at h
        refine st_iload rX7_commonDivisor_2 rfl ?_
        refine st_c rX7_commonDivisor_3 ?_
        first | with_reducible refine st_icmp_geN rX7_commonDivisor_5 (by omega) (by omega) (fun h => absurd h (by first | decide | omega | (simp; done) | simp_all)) (fun _ => ?_) | refine st_icmp_ge rX7_commonDivisor_5 (fun h => absurd h (by first | decide | omega | (simp; done) | simp_all)) (fun _ => ?_)
        refine st_iload rX7_commonDivisor_8 rfl ?_
        first | with_reducible refine st_if_eqN rX7_commonDivisor_9 (by omega) (fun _ => ?_) (fun h => absurd h (by first | decide | omega | (simp; done) | simp_all)) | refine st_if_eq rX7_commonDivisor_9 (fun _ => ?_) (fun h => absurd h (by first | decide | omega | (simp; done) | simp_all))
        refine st_iload rX7_commonDivisor_26 rfl ?_
        refine st_iret rX7_commonDivisor_27 rfl ?_
        exact h
      · rw [if_neg h0] at h
        have hr : a % b < b := Nat.mod_lt _ (by omega)
        refine st_iload rX7_commonDivisor_2 rfl ?_
        refine st_c rX7_commonDivisor_3 ?_
        first | with_reducible refine st_icmp_geN rX7_commonDivisor_5 (by omega) (by omega) (fun h => absurd h (by first | decide | omega | (simp; done) | simp_all)) (fun _ => ?_) | refine st_icmp_ge rX7_commonDivisor_5 (fun h => absurd h (by first | decide | omega | (simp; done) | simp_all)) (fun _ => ?_)
        refine st_iload rX7_commonDivisor_8 rfl ?_
        first | with_reducible refine st_if_eqN rX7_commonDivisor_9 (by omega) (fun h => absurd h (by first | decide | omega | (simp; done) | simp_all)) (fun _ => ?_) | refine st_if_eq rX7_commonDivisor_9 (fun h => absurd h (by first | decide | omega | (simp; done) | simp_all)) (fun _ => ?_)
        refine st_iload rX7_commonDivisor_12 rfl ?_
        refine st_iload rX7_commonDivisor_13 rfl ?_
        refine st_iremN rX7_commonDivisor_14 ha ⟨by omega, hb⟩ ?_
        refine st_istore3 rX7_commonDivisor_15 rfl ?_
        refine st_iload rX7_commonDivisor_16 rfl ?_
        refine st_istore0 rX7_commonDivisor_17 ?_
        refine st_iload rX7_commonDivisor_18 rfl ?_
        refine st_istore1 rX7_commonDivisor_19 rfl ?_
        first | with_reducible refine st_iincN2 rX7_commonDivisor_20 rfl ?_ | refine st_iinc2 rX7_commonDivisor_20 rfl ?_
        refine st_goto rX7_commonDivisor_23 ?_
        exact ih (s + 1) _ _ _ (by omega) hb (by omega) h
  exact key 64 0 a b _ (by omega) ha hb h
set_option maxHeartbeats 4000000 in
set_option maxRecDepth 100000 in
theorem s_lcm {a b : Nat} {kk : Int32 → vS → Prop} (ha : a < 2147483648) (hb : b < 2147483648) (h : kk (nI (lcF a b)) (I, J, vRR ρ)) : V (d + 1) 123 123 mX3_leastCommonMultiple 0 [.int (nI a), .int (nI b), vJ] [] (I, J, vRR ρ) (Ki kk) := by
  have hg := gcF_lt (B := 2147483648) 64 a b ha hb
  simp only [lcF] at h
  by_cases h0 : gcF 64 a b = 0
  · rw [if_pos h0] at h
    refine st_iload rX3_leastCommonMultiple_0 rfl ?_
    refine st_iload rX3_leastCommonMultiple_1 rfl ?_
    refine cS2i rX3_leastCommonMultiple_2 (s_cd ha hb ?_) rfl
    refine st_istore2 rX3_leastCommonMultiple_5 rfl ?_
    refine st_iload rX3_leastCommonMultiple_6 rfl ?_
    first | with_reducible refine st_if_leN rX3_leastCommonMultiple_7 (by omega) (fun _ => ?_) (fun h => absurd h (by first | decide | omega | (simp; done) | simp_all)) | refine st_if_le rX3_leastCommonMultiple_7 (fun _ => ?_) (fun h => absurd h (by first | decide | omega | (simp; done) | simp_all))
    refine st_iload rX3_leastCommonMultiple_18 rfl ?_
    refine st_iret rX3_leastCommonMultiple_19 rfl ?_
    exact h
  · rw [if_neg h0] at h
    refine st_iload rX3_leastCommonMultiple_0 rfl ?_
    refine st_iload rX3_leastCommonMultiple_1 rfl ?_
    refine cS2i rX3_leastCommonMultiple_2 (s_cd ha hb ?_) rfl
    refine st_istore2 rX3_leastCommonMultiple_5 rfl ?_
    refine st_iload rX3_leastCommonMultiple_6 rfl ?_
    first | with_reducible refine st_if_leN rX3_leastCommonMultiple_7 (by omega) (fun h => absurd h (by first | decide | omega | (simp; done) | simp_all)) (fun _ => ?_) | refine st_if_le rX3_leastCommonMultiple_7 (fun h => absurd h (by first | decide | omega | (simp; done) | simp_all)) (fun _ => ?_)
    refine st_iload rX3_leastCommonMultiple_10 rfl ?_
    refine st_iload rX3_leastCommonMultiple_11 rfl ?_
    refine st_idivN rX3_leastCommonMultiple_12 ha ⟨by omega, hg⟩ ?_
    refine st_iload rX3_leastCommonMultiple_13 rfl ?_
    first | with_reducible refine st_imulN rX3_leastCommonMultiple_14 ?_ | refine st_imul rX3_leastCommonMultiple_14 ?_
    refine st_goto rX3_leastCommonMultiple_15 ?_
    refine st_iret rX3_leastCommonMultiple_19 rfl ?_
    exact h
set_option maxHeartbeats 4000000 in
set_option maxRecDepth 100000 in
theorem s_ringLen {G : Nat → Nat} {t : Nat} {kk : Int32 → vS → Prop} (h1 : ∀ t, t < 6 → I 101 t = nI (G t) ∧ G t < 6) (ht : t < 6) (h : kk (nI (rlG G t 6 1 (G t))) (I, J, vRR ρ)) : V (d + 1) 123 123 mX3_ringLength 0 [.ref 100, .int (nI t), vJ, vJ] [] (I, J, vRR ρ) (Ki kk) := by
  refine st_c rX3_ringLength_0 ?_
  refine st_istore2 rX3_ringLength_1 rfl ?_
  refine st_aload rX3_ringLength_2 rfl ?_
  refine st_getR rX3_ringLength_3 (by first | assumption | decide | exact ⟨by decide, rfl, by decide⟩) (by first | rfl | assumption) rfl ?_
  refine st_iload rX3_ringLength_6 rfl ?_
  refine st_ialdN rX3_ringLength_7 (by first | assumption | decide | exact ⟨by decide, rfl, by decide⟩) (by omega) ?_
  refine st_top (h1 t ht).1 ?_
  refine st_istore3 rX3_ringLength_8 rfl ?_
  skip
  have key : ∀ (f len u : Nat), len + f = 7 → u < 6 → kk (nI (rlG G t f len u)) (I, J, vRR ρ) → V (d + 1) 123 123 mX3_ringLength 9 [.ref 100, .int (nI t), .int (nI len), .int (nI u)] [] (I, J, vRR ρ) (Ki kk) := by
    intro f
    induction f with
    | zero =>
      intro len u hl hu h
      by_cases hut : u = t
      · refine st_iload rX3_ringLength_9 rfl ?_
        refine st_iload rX3_ringLength_10 rfl ?_
        first | with_reducible refine st_icmp_eqN rX3_ringLength_11 (by omega) (by omega) (fun _ => ?_) (fun h => absurd h (by first | decide | omega | (simp; done) | simp_all)) | refine st_icmp_eq rX3_ringLength_11 (fun _ => ?_) (fun h => absurd h (by first | decide | omega | (simp; done) | simp_all))
        refine st_iload rX3_ringLength_35 rfl ?_
        refine st_iret rX3_ringLength_36 rfl ?_
        exact h
      · refine st_iload rX3_ringLength_9 rfl ?_
        refine st_iload rX3_ringLength_10 rfl ?_
        first | with_reducible refine st_icmp_eqN rX3_ringLength_11 (by omega) (by omega) (fun h => absurd h (by first | decide | omega | (simp; done) | simp_all)) (fun _ => ?_) | refine st_icmp_eq rX3_ringLength_11 (fun h => absurd h (by first | decide | omega | (simp; done) | simp_all)) (fun _ => ?_)
        refine st_iload rX3_ringLength_14 rfl ?_
        refine st_c rX3_ringLength_15 ?_
        first | with_reducible refine st_icmp_geN rX3_ringLength_17 (by omega) (by omega) (fun _ => ?_) (fun h => absurd h (by first | decide | omega | (simp; done) | simp_all)) | refine st_icmp_ge rX3_ringLength_17 (fun _ => ?_) (fun h => absurd h (by first | decide | omega | (simp; done) | simp_all))
        refine st_iload rX3_ringLength_35 rfl ?_
        refine st_iret rX3_ringLength_36 rfl ?_
        exact h
    | succ f ih =>
      intro len u hl hu h
      simp only [rlG] at h
      by_cases hut : u = t
      · rw [if_pos (Or.inl hut)] at h
        refine st_iload rX3_ringLength_9 rfl ?_
        refine st_iload rX3_ringLength_10 rfl ?_
        first | with_reducible refine st_icmp_eqN rX3_ringLength_11 (by omega) (by omega) (fun _ => ?_) (fun h => absurd h (by first | decide | omega | (simp; done) | simp_all)) | refine st_icmp_eq rX3_ringLength_11 (fun _ => ?_) (fun h => absurd h (by first | decide | omega | (simp; done) | simp_all))
        refine st_iload rX3_ringLength_35 rfl ?_
        refine st_iret rX3_ringLength_36 rfl ?_
        exact h
      · by_cases hl6 : 6 ≤ len
        · rw [if_pos (Or.inr hl6)] at h
          refine st_iload rX3_ringLength_9 rfl ?_
          refine st_iload rX3_ringLength_10 rfl ?_
          first | with_reducible refine st_icmp_eqN rX3_ringLength_11 (by omega) (by omega) (fun h => absurd h (by first | decide | omega | (simp; done) | simp_all)) (fun _ => ?_) | refine st_icmp_eq rX3_ringLength_11 (fun h => absurd h (by first | decide | omega | (simp; done) | simp_all)) (fun _ => ?_)
          refine st_iload rX3_ringLength_14 rfl ?_
          refine st_c rX3_ringLength_15 ?_
          first | with_reducible refine st_icmp_geN rX3_ringLength_17 (by omega) (by omega) (fun _ => ?_) (fun h => absurd h (by first | decide | omega | (simp; done) | simp_all)) | refine st_icmp_ge rX3_ringLength_17 (fun _ => ?_) (fun h => absurd h (by first | decide | omega | (simp; done) | simp_all))
          refine st_iload rX3_ringLength_35 rfl ?_
          refine st_iret rX3_ringLength_36 rfl ?_
          exact h
        · rw [if_neg (by omega)] at h
          refine st_iload rX3_ringLength_9 rfl ?_
          refine st_iload rX3_ringLength_10 rfl ?_
          first | with_reducible refine st_icmp_eqN rX3_ringLength_11 (by omega) (by omega) (fun h => absurd h (by first | decide | omega | (simp; done) | simp_all)) (fun _ => ?_) | refine st_icmp_eq rX3_ringLength_11 (fun h => absurd h (by first | decide | omega | (simp; done) | simp_all)) (fun _ => ?_)
          refine st_iload rX3_ringLength_14 rfl ?_
          refine st_c rX3_ringLength_15 ?_
          first | with_reducible refine st_icmp_geN rX3_ringLength_17 (by omega) (by omega) (fun h => absurd h (by first | decide | omega | (simp; done) | simp_all)) (fun _ => ?_) | refine st_icmp_ge rX3_ringLength_17 (fun h => absurd h (by first | decide | omega | (simp; done) | simp_all)) (fun _ => ?_)
          refine st_aload rX3_ringLength_20 rfl ?_
          refine st_getR rX3_ringLength_21 (by first | assumption | decide | exact ⟨by decide, rfl, by decide⟩) (by first | rfl | assumption) rfl ?_
          refine st_iload rX3_ringLength_24 rfl ?_
          refine cS2i rX3_ringLength_25 (s_at (by first | assumption | decide | exact ⟨by decide, rfl, by decide⟩) (by omega) ?_) rfl
          refine st_top (h1 u hu).1 ?_
          refine st_istore3 rX3_ringLength_28 rfl ?_
          first | with_reducible refine st_iincN2 rX3_ringLength_29 rfl ?_ | refine st_iinc2 rX3_ringLength_29 rfl ?_
          refine st_goto rX3_ringLength_32 ?_
          exact ih (len + 1) (G u) (by omega) (h1 u hu).2 h
  exact key 6 1 (G t) (by omega) (h1 t ht).2 h
set_option maxHeartbeats 4000000 in
set_option maxRecDepth 100000 in
theorem s_repeats {G : Nat → Nat} {kk : Int32 → vS → Prop} (h1 : ∀ t, t < 6 → I 101 t = nI (G t) ∧ G t < 6) (h : kk (nI (rpF G 6)) (I, J, vRR ρ)) : V (d + 2) 123 123 mX3_repeatsTillSame 0 [.ref 100, vJ, vJ] [] (I, J, vRR ρ) (Ki kk) := by
  refine st_c rX3_repeatsTillSame_0 ?_
  refine st_istore1 rX3_repeatsTillSame_1 rfl ?_
  refine st_c rX3_repeatsTillSame_2 ?_
  refine st_istore2 rX3_repeatsTillSame_3 rfl ?_
  skip
  have key : ∀ (r t : Nat), t + r = 6 → V (d + 2) 123 123 mX3_repeatsTillSame 4 [.ref 100, .int (nI (rpF G t)), .int (nI t)] [] (I, J, vRR ρ) (Ki kk) := by
    intro r
    induction r with
    | zero =>
      intro t he
      have he : t = 6 := by omega
      subst he
      refine st_iload rX3_repeatsTillSame_4 rfl ?_
      refine st_c rX3_repeatsTillSame_5 ?_
      first | with_reducible refine st_icmp_geN rX3_repeatsTillSame_7 (by omega) (by omega) (fun _ => ?_) (fun h => absurd h (by first | decide | omega | (simp; done) | simp_all)) | refine st_icmp_ge rX3_repeatsTillSame_7 (fun _ => ?_) (fun h => absurd h (by first | decide | omega | (simp; done) | simp_all))
      refine st_iload rX3_repeatsTillSame_26 rfl ?_
      refine st_iret rX3_repeatsTillSame_27 rfl ?_
      exact h
    | succ r ih =>
      intro t he
      have hp := rpF_le G t
      have hq : (6 : Nat) ^ t ≤ 6 ^ 6 := Nat.pow_le_pow_right (by decide) (by omega)
      have hl := rlG_le G t 6 1 (G t) (by omega)
      refine st_iload rX3_repeatsTillSame_4 rfl ?_
      refine st_c rX3_repeatsTillSame_5 ?_
      first | with_reducible refine st_icmp_geN rX3_repeatsTillSame_7 (by omega) (by omega) (fun h => absurd h (by first | decide | omega | (simp; done) | simp_all)) (fun _ => ?_) | refine st_icmp_ge rX3_repeatsTillSame_7 (fun h => absurd h (by first | decide | omega | (simp; done) | simp_all)) (fun _ => ?_)
      refine st_iload rX3_repeatsTillSame_10 rfl ?_
      refine st_aload rX3_repeatsTillSame_11 rfl ?_
      refine st_iload rX3_repeatsTillSame_12 rfl ?_
      refine cV2i rX3_repeatsTillSame_13 (by first | assumption | decide | exact ⟨by decide, rfl, by decide⟩) (s_ringLen h1 (by omega) ?_) rfl (by decide)
      refine cS2i rX3_repeatsTillSame_16 (s_lcm (by omega) (by omega) ?_) rfl
      refine st_istore1 rX3_repeatsTillSame_19 rfl ?_
      first | with_reducible refine st_iincN2 rX3_repeatsTillSame_20 rfl ?_ | refine st_iinc2 rX3_repeatsTillSame_20 rfl ?_
      refine st_goto rX3_repeatsTillSame_23 ?_
      exact ih (t + 1) (by omega)
  exact key 6 0 (by omega)
set_option maxHeartbeats 4000000 in
set_option maxRecDepth 100000 in
theorem c_round {z : Nat} (hC : InvC I J ρ A T m no) (hO : OkA A m no) (hz : z < 10000) (hk : ∀ I', (∀ a, 103 ≤ a → I' a = I a) → InvC I' J ρ A T m no → k (nI (rpF (gN m z) 6)) (I', J, vRR ρ)) : V (d + 3) 123 123 mX7_round 0 [.ref 0, .int (nI z)] [] (I, J, vRR ρ) (Ki k) := by
  obtain ⟨ht0, ht1, ht2, ht3, ht4, ht5, ht6, ht7, ht8, ht9, ht10⟩ := id hC.1
  obtain ⟨hto, o1, o2, o3, o4, o5, o6, o7, o8⟩ := toldF ht0
  have hm6 : m ≤ 6 := hO.1.2.2.1
  have hno6 : no ≤ 6 := hO.1.2.2.2.1
  have hρ : ρ ≤ 13 := by rcases ht0 with h | h <;> omega
  refine st_iload rX7_round_0 rfl ?_
  refine st_c rX7_round_1 ?_
  refine st_c rX7_round_2 ?_
  refine cS3i rX7_round_5 (s_within ?_) rfl
  rw [inR_N (by decide), isT_n hz (by decide)]
  first | with_reducible refine st_if_neN rX7_round_8 (by omega) (fun _ => ?_) (fun h => absurd h (by first | decide | omega | (simp; done) | simp_all)) | refine st_if_ne rX7_round_8 (fun _ => ?_) (fun h => absurd h (by first | decide | omega | (simp; done) | simp_all))
  refine st_aload rX7_round_13 rfl ?_
  refine st_getR rX7_round_14 (by first | assumption | decide | exact ⟨by decide, rfl, by decide⟩) (by first | rfl | assumption) rfl ?_
  refine st_aload rX7_round_17 rfl ?_
  refine st_getR rX7_round_18 (by first | assumption | decide | exact ⟨by decide, rfl, by decide⟩) (by first | rfl | assumption) rfl ?_
  refine st_getI rX7_round_21 (by first | assumption | decide | exact ⟨by decide, rfl, by decide⟩) rfl ?_
  refine st_top ht1 ?_
  refine st_iload rX7_round_24 rfl ?_
  refine cV3v rX7_round_25 (by first | assumption | decide | exact ⟨by decide, rfl, by decide⟩) (s_drawBy hm6 hz (fun I1 g g1 g2 => ?_)) rfl (by decide)
  have hG : ∀ t, t < 6 → I1 101 t = nI (gN m z t) ∧ gN m z t < 6 := fun t ht => by
    refine ⟨?_, gN_6 hm6 ht⟩
    by_cases h : t < m
    · rw [(gN_lt hm6 h).2]; exact g1 t h
    · rw [gN_hi (by omega) ht]; exact g2 t (by omega) ht
  refine st_aload rX7_round_28 rfl ?_
  refine st_getR rX7_round_29 (by first | assumption | decide | exact ⟨by decide, rfl, by decide⟩) (by first | rfl | assumption) rfl ?_
  refine cV1i rX7_round_32 (by first | assumption | decide | exact ⟨by decide, rfl, by decide⟩) (s_repeats (G := gN m z) hG ?_) rfl (by decide)
  refine st_iret rX7_round_35 rfl ?_
  exact hk I1 (fun a ha => g a (by omega) (by omega)) (InvC_same hC (fun a _ h => g a (by omega) (by omega)))
set_option maxHeartbeats 4000000 in
set_option maxRecDepth 100000 in
theorem m_round {z : Nat} {k0 : Int32 → vS → Prop} (hM : InvM I J A T) (hO : OkA A m no) (hz : z < 10000) (hk : ∀ I', (∀ a, a < 103 ∨ 123 ≤ a → I' a = I a) → InvM I' J A T → k0 (nI (rpF (gN m z) 6)) (I', J, vRR ρ)) : V (d + 2) 123 123 mX8_round 0 [.ref 103, .int (nI z), vJ, vJ, vJ] [] (I, J, vRR ρ) (Ki k0) := by
  refine s_thr rX8_round_0 rX8_round_1 rX8_round_2 hM (fun I1 e1 e2 hM1 => ?_)
  have hm6 : m ≤ 6 := hO.1.2.2.1
  have hno6 : no ≤ 6 := hO.1.2.2.2.1
  obtain ⟨m1, m2, m3, m4, m5, m6, m7, m8, m9, m10, m11, m12, m13, m14, m15, m16⟩ := id hM1
  have hmm : I1 105 0 = nI m := m11.trans hO.1.1
  have hmo : I1 105 1 = nI no := m12.trans hO.1.2.1
  obtain ⟨R1, R2, R3⟩ := rd3 (m := m) (z := z) hm6
  generalize hR : rpF (gN m z) 6 = R at R1 R2 R3 hk
  have hRb : R ≤ 46656 := by rw [← hR]; exact rpF_le _ 6
  refine st_iload rX8_round_5 rfl ?_
  refine st_c rX8_round_6 ?_
  refine st_c rX8_round_7 ?_
  refine cS3i rX8_round_10 (s_in ?_) rfl
  rw [inR_N (by decide), isT_n hz (by decide)]
  first | with_reducible refine st_if_neN rX8_round_13 (by omega) (fun _ => ?_) (fun h => absurd h (by first | decide | omega | (simp; done) | simp_all)) | refine st_if_ne rX8_round_13 (fun _ => ?_) (fun h => absurd h (by first | decide | omega | (simp; done) | simp_all))
  refine st_aload rX8_round_18 rfl ?_
  refine st_iload rX8_round_19 rfl ?_
  refine cV2v rX8_round_20 (by first | assumption | decide | exact ⟨by decide, rfl, by decide⟩) (s_draws hmm hm6 hz (fun I2 g g1 => ?_)) rfl (by decide)
  refine st_c rX8_round_23 ?_
  refine st_istore2 rX8_round_24 rfl ?_
  refine st_c rX8_round_25 ?_
  refine st_istore3 rX8_round_26 rfl ?_
  refine st_c rX8_round_27 ?_
  refine st_istore4 rX8_round_28 rfl ?_
  skip
  have hit : ∀ k t, t < m → itG (gN m z) k t < m := by
    intro k
    induction k with
    | zero => intro t ht; exact ht
    | succ k ih => intro t ht; exact (gN_lt hm6 (ih t ht)).1
  have outer : ∀ (r k : Nat) (I3 : Nat → Nat → Int32) (x4 : Value), k + r = R → (∀ a, a ≠ 121 → a ≠ 122 → I3 a = I1 a) → (∀ t, t < m → I3 121 t = nI ((gN m z) t)) → (∀ t, t < m → I3 122 t = nI (itG (gN m z) k t)) → V (d + 2) 123 123 mX8_round 56 [.ref 103, .int (nI z), .int (nI k), .int (vb (decide (k ≠ R))), x4] [] (I3, J, vRR ρ) (Ki k0) := by
    intro r
    induction r with
    | zero =>
      intro k I3 x4 he g3 ga gb
      have he : k = R := by omega
      subst he
      have hfin := hk I3 (fun a ha => by rw [g3 a (by omega) (by omega)]; exact e1 a (by omega)) (InvM_same hM1 (fun a _ _ _ h h2 => g3 a h h2) (fun q _ => by rw [g3 103 (by decide) (by decide)]))
      rw [show decide (k ≠ k) = false by simp]
      refine st_iload rX8_round_56 rfl ?_
      first | with_reducible refine st_if_eqN rX8_round_57 (by omega) (fun _ => ?_) (fun h => absurd h (by first | decide | omega | (simp; done) | simp_all)) | refine st_if_eq rX8_round_57 (fun _ => ?_) (fun h => absurd h (by first | decide | omega | (simp; done) | simp_all))
      refine st_iload rX8_round_129 rfl ?_
      refine st_iret rX8_round_130 rfl ?_
      exact hfin
    | succ r ih =>
      intro k I3 x4 he g3 ga gb
      rw [decide_eq_true (show k ≠ R by omega)]
      refine st_iload rX8_round_56 rfl ?_
      first | with_reducible refine st_if_eqN rX8_round_57 (by omega) (fun h => absurd h (by first | decide | omega | (simp; done) | simp_all)) (fun _ => ?_) | refine st_if_eq rX8_round_57 (fun h => absurd h (by first | decide | omega | (simp; done) | simp_all)) (fun _ => ?_)
      first | with_reducible refine st_iincN2 rX8_round_60 rfl ?_ | refine st_iinc2 rX8_round_60 rfl ?_
      refine st_c rX8_round_63 ?_
      refine st_istore3 rX8_round_64 rfl ?_
      refine st_c rX8_round_65 ?_
      refine st_istore4 rX8_round_66 rfl ?_
      skip
      have inner : ∀ (r2 t : Nat) (I4 : Nat → Nat → Int32), t + r2 = m → (∀ a, a ≠ 122 → I4 a = I3 a) → (∀ s, s < t → I4 122 s = nI (itG (gN m z) (k + 1) s)) → (∀ s, t ≤ s → s < m → I4 122 s = nI (itG (gN m z) k s)) → V (d + 2) 123 123 mX8_round 68 [.ref 103, .int (nI z), .int (nI (k + 1)), .int (vb (anF (itG (gN m z) (k + 1)) t)), .int (nI t)] [] (I4, J, vRR ρ) (Ki k0) := by
        intro r2
        induction r2 with
        | zero =>
          intro t I4 het g4 gc gd
          have het : t = m := by omega
          subst het
          have hn := ih (k + 1) I4 (.int (nI t)) (by omega) (fun a h1 h2 => by rw [g4 a h2, g3 a h1 h2]) (fun s hs => by rw [g4 121 (by decide)]; exact ga s hs) gc
          have hfl : decide (k + 1 ≠ R) = anF (itG (gN t z) (k + 1)) t := by
            by_cases hkR : k + 1 = R
            · rw [decide_eq_false (fun h => h hkR), anF_f t (fun s hs => by rw [hkR]; exact R2 s (by omega))]
            · obtain ⟨s, s1, s2⟩ := R3 (k + 1) (by omega) (by omega)
              rw [decide_eq_true hkR, anF_t s2 t s1]
          rw [hfl] at hn
          refine st_iload rX8_round_68 rfl ?_
          refine st_aload rX8_round_70 rfl ?_
          refine st_getR rX8_round_71 (by first | assumption | decide | exact ⟨by decide, rfl, by decide⟩) (by first | rfl | assumption) rfl ?_
          refine st_c rX8_round_74 ?_
          refine st_ialdN rX8_round_75 (by first | assumption | decide | exact ⟨by decide, rfl, by decide⟩) (by omega) ?_
          refine st_top (show I4 105 0 = nI t by rw [g4 105 (by decide), g3 105 (by decide) (by decide)]; exact hmm) ?_
          first | with_reducible refine st_icmp_geN rX8_round_76 (by omega) (by omega) (fun _ => ?_) (fun h => absurd h (by first | decide | omega | (simp; done) | simp_all)) | refine st_icmp_ge rX8_round_76 (fun _ => ?_) (fun h => absurd h (by first | decide | omega | (simp; done) | simp_all))
          refine st_goto rX8_round_126 ?_
          exact hn
        | succ r2 ih2 =>
          intro t I4 het g4 gc gd
          have htm : t < m := by omega
          have q5 : I4 105 0 = nI m := by rw [g4 105 (by decide), g3 105 (by decide) (by decide)]; exact hmm
          have q1 := gd t (Nat.le_refl _) htm
          have hi1 := hit k t htm
          have hi2 := hit (k + 1) t htm
          have q2 : I4 121 (itG (gN m z) k t) = nI (itG (gN m z) (k + 1) t) := by rw [g4 121 (by decide)]; exact ga _ hi1
          have hn := ih2 (t + 1) (up I4 122 (va_up (I4 122) t (nI (itG (gN m z) (k + 1) t)))) (by omega) (fun a ha => by rw [up_n ha, g4 a ha]) (fun s hs => by
            rw [up_s]
            by_cases e : s = t
            · subst e; rw [va_up_s]
            · rw [va_up_n e]; exact gc s (by omega)) (fun s h1 h2 => by rw [up_s, va_up_n (by omega)]; exact gd s (by omega) h2)
          simp only [anF] at hn
          have q9 : up I4 122 (va_up (I4 122) t (nI (itG (gN m z) (k + 1) t))) 122 t = nI (itG (gN m z) (k + 1) t) := by rw [up_s, va_up_s]
          cases hb : anF (itG (gN m z) (k + 1)) t with
          | true =>
            rw [hb, Bool.true_or] at hn
            refine st_iload rX8_round_68 rfl ?_
            refine st_aload rX8_round_70 rfl ?_
            refine st_getR rX8_round_71 (by first | assumption | decide | exact ⟨by decide, rfl, by decide⟩) (by first | rfl | assumption) rfl ?_
            refine st_c rX8_round_74 ?_
            refine st_ialdN rX8_round_75 (by first | assumption | decide | exact ⟨by decide, rfl, by decide⟩) (by omega) ?_
            refine st_top q5 ?_
            first | with_reducible refine st_icmp_geN rX8_round_76 (by omega) (by omega) (fun h => absurd h (by first | decide | omega | (simp; done) | simp_all)) (fun _ => ?_) | refine st_icmp_ge rX8_round_76 (fun h => absurd h (by first | decide | omega | (simp; done) | simp_all)) (fun _ => ?_)
            refine st_aload rX8_round_79 rfl ?_
            refine st_getR rX8_round_80 (by first | assumption | decide | exact ⟨by decide, rfl, by decide⟩) (by first | rfl | assumption) rfl ?_
            refine st_iload rX8_round_83 rfl ?_
            refine st_aload rX8_round_85 rfl ?_
            refine st_getR rX8_round_86 (by first | assumption | decide | exact ⟨by decide, rfl, by decide⟩) (by first | rfl | assumption) rfl ?_
            refine st_aload rX8_round_89 rfl ?_
            refine st_getR rX8_round_90 (by first | assumption | decide | exact ⟨by decide, rfl, by decide⟩) (by first | rfl | assumption) rfl ?_
            refine st_iload rX8_round_93 rfl ?_
            refine st_ialdN rX8_round_95 (by first | assumption | decide | exact ⟨by decide, rfl, by decide⟩) (by omega) ?_
            refine st_top q1 ?_
            refine st_ialdN rX8_round_96 (by first | assumption | decide | exact ⟨by decide, rfl, by decide⟩) (by omega) ?_
            refine st_top q2 ?_
            refine st_iastN rX8_round_97 (by first | assumption | decide | exact ⟨by decide, rfl, by decide⟩) (by omega) ?_
            refine st_iload rX8_round_98 rfl ?_
            first | with_reducible refine st_if_neN rX8_round_99 (by omega) (fun _ => ?_) (fun h => absurd h (by first | decide | omega | (simp; done) | simp_all)) | refine st_if_ne rX8_round_99 (fun _ => ?_) (fun h => absurd h (by first | decide | omega | (simp; done) | simp_all))
            refine st_c rX8_round_114 ?_
            refine st_goto rX8_round_115 ?_
            refine st_istore3 rX8_round_119 rfl ?_
            first | with_reducible refine st_iincN4 rX8_round_120 rfl ?_ | refine st_iinc4 rX8_round_120 rfl ?_
            refine st_goto rX8_round_123 ?_
            exact hn
          | false =>
            rw [hb, Bool.false_or] at hn
            by_cases hee : itG (gN m z) (k + 1) t = t
            · rw [decide_eq_false (fun h => h hee)] at hn
              refine st_iload rX8_round_68 rfl ?_
              refine st_aload rX8_round_70 rfl ?_
              refine st_getR rX8_round_71 (by first | assumption | decide | exact ⟨by decide, rfl, by decide⟩) (by first | rfl | assumption) rfl ?_
              refine st_c rX8_round_74 ?_
              refine st_ialdN rX8_round_75 (by first | assumption | decide | exact ⟨by decide, rfl, by decide⟩) (by omega) ?_
              refine st_top q5 ?_
              first | with_reducible refine st_icmp_geN rX8_round_76 (by omega) (by omega) (fun h => absurd h (by first | decide | omega | (simp; done) | simp_all)) (fun _ => ?_) | refine st_icmp_ge rX8_round_76 (fun h => absurd h (by first | decide | omega | (simp; done) | simp_all)) (fun _ => ?_)
              refine st_aload rX8_round_79 rfl ?_
              refine st_getR rX8_round_80 (by first | assumption | decide | exact ⟨by decide, rfl, by decide⟩) (by first | rfl | assumption) rfl ?_
              refine st_iload rX8_round_83 rfl ?_
              refine st_aload rX8_round_85 rfl ?_
              refine st_getR rX8_round_86 (by first | assumption | decide | exact ⟨by decide, rfl, by decide⟩) (by first | rfl | assumption) rfl ?_
              refine st_aload rX8_round_89 rfl ?_
              refine st_getR rX8_round_90 (by first | assumption | decide | exact ⟨by decide, rfl, by decide⟩) (by first | rfl | assumption) rfl ?_
              refine st_iload rX8_round_93 rfl ?_
              refine st_ialdN rX8_round_95 (by first | assumption | decide | exact ⟨by decide, rfl, by decide⟩) (by omega) ?_
              refine st_top q1 ?_
              refine st_ialdN rX8_round_96 (by first | assumption | decide | exact ⟨by decide, rfl, by decide⟩) (by omega) ?_
              refine st_top q2 ?_
              refine st_iastN rX8_round_97 (by first | assumption | decide | exact ⟨by decide, rfl, by decide⟩) (by omega) ?_
              refine st_iload rX8_round_98 rfl ?_
              first | with_reducible refine st_if_neN rX8_round_99 (by omega) (fun h => absurd h (by first | decide | omega | (simp; done) | simp_all)) (fun _ => ?_) | refine st_if_ne rX8_round_99 (fun h => absurd h (by first | decide | omega | (simp; done) | simp_all)) (fun _ => ?_)
              refine st_aload rX8_round_102 rfl ?_
              refine st_getR rX8_round_103 (by first | assumption | decide | exact ⟨by decide, rfl, by decide⟩) (by first | rfl | assumption) rfl ?_
              refine st_iload rX8_round_106 rfl ?_
              refine st_ialdN rX8_round_108 (by first | assumption | decide | exact ⟨by decide, rfl, by decide⟩) (by omega) ?_
              refine st_top q9 ?_
              refine st_iload rX8_round_109 rfl ?_
              first | with_reducible refine st_icmp_eqN rX8_round_111 (by omega) (by omega) (fun _ => ?_) (fun h => absurd h (by first | decide | omega | (simp; done) | simp_all)) | refine st_icmp_eq rX8_round_111 (fun _ => ?_) (fun h => absurd h (by first | decide | omega | (simp; done) | simp_all))
              refine st_c rX8_round_118 ?_
              refine st_istore3 rX8_round_119 rfl ?_
              first | with_reducible refine st_iincN4 rX8_round_120 rfl ?_ | refine st_iinc4 rX8_round_120 rfl ?_
              refine st_goto rX8_round_123 ?_
              exact hn
            · rw [decide_eq_true hee] at hn
              refine st_iload rX8_round_68 rfl ?_
              refine st_aload rX8_round_70 rfl ?_
              refine st_getR rX8_round_71 (by first | assumption | decide | exact ⟨by decide, rfl, by decide⟩) (by first | rfl | assumption) rfl ?_
              refine st_c rX8_round_74 ?_
              refine st_ialdN rX8_round_75 (by first | assumption | decide | exact ⟨by decide, rfl, by decide⟩) (by omega) ?_
              refine st_top q5 ?_
              first | with_reducible refine st_icmp_geN rX8_round_76 (by omega) (by omega) (fun h => absurd h (by first | decide | omega | (simp; done) | simp_all)) (fun _ => ?_) | refine st_icmp_ge rX8_round_76 (fun h => absurd h (by first | decide | omega | (simp; done) | simp_all)) (fun _ => ?_)
              refine st_aload rX8_round_79 rfl ?_
              refine st_getR rX8_round_80 (by first | assumption | decide | exact ⟨by decide, rfl, by decide⟩) (by first | rfl | assumption) rfl ?_
              refine st_iload rX8_round_83 rfl ?_
              refine st_aload rX8_round_85 rfl ?_
              refine st_getR rX8_round_86 (by first | assumption | decide | exact ⟨by decide, rfl, by decide⟩) (by first | rfl | assumption) rfl ?_
              refine st_aload rX8_round_89 rfl ?_
              refine st_getR rX8_round_90 (by first | assumption | decide | exact ⟨by decide, rfl, by decide⟩) (by first | rfl | assumption) rfl ?_
              refine st_iload rX8_round_93 rfl ?_
              refine st_ialdN rX8_round_95 (by first | assumption | decide | exact ⟨by decide, rfl, by decide⟩) (by omega) ?_
              refine st_top q1 ?_
              refine st_ialdN rX8_round_96 (by first | assumption | decide | exact ⟨by decide, rfl, by decide⟩) (by omega) ?_
              refine st_top q2 ?_
              refine st_iastN rX8_round_97 (by first | assumption | decide | exact ⟨by decide, rfl, by decide⟩) (by omega) ?_
              refine st_iload rX8_round_98 rfl ?_
              first | with_reducible refine st_if_neN rX8_round_99 (by omega) (fun h => absurd h (by first | decide | omega | (simp; done) | simp_all)) (fun _ => ?_) | refine st_if_ne rX8_round_99 (fun h => absurd h (by first | decide | omega | (simp; done) | simp_all)) (fun _ => ?_)
              refine st_aload rX8_round_102 rfl ?_
              refine st_getR rX8_round_103 (by first | assumption | decide | exact ⟨by decide, rfl, by decide⟩) (by first | rfl | assumption) rfl ?_
              refine st_iload rX8_round_106 rfl ?_
              refine st_ialdN rX8_round_108 (by first | assumption | decide | exact ⟨by decide, rfl, by decide⟩) (by omega) ?_
              refine st_top q9 ?_
              refine st_iload rX8_round_109 rfl ?_
              first | with_reducible refine st_icmp_eqN rX8_round_111 (by omega) (by omega) (fun h => absurd h (by first | decide | omega | (simp; done) | simp_all)) (fun _ => ?_) | refine st_icmp_eq rX8_round_111 (fun h => absurd h (by first | decide | omega | (simp; done) | simp_all)) (fun _ => ?_)
              refine st_c rX8_round_114 ?_
              refine st_goto rX8_round_115 ?_
              refine st_istore3 rX8_round_119 rfl ?_
              first | with_reducible refine st_iincN4 rX8_round_120 rfl ?_ | refine st_iinc4 rX8_round_120 rfl ?_
              refine st_goto rX8_round_123 ?_
              exact hn
      exact inner m 0 I3 (by omega) (fun a _ => rfl) (fun s hs => absurd hs (by omega)) (fun s _ hs => gb s hs)
  have fill : ∀ (r t : Nat) (I3 : Nat → Nat → Int32), t + r = m → (∀ a, a ≠ 122 → I3 a = I2 a) → (∀ s, s < t → I3 122 s = nI s) → V (d + 2) 123 123 mX8_round 30 [.ref 103, .int (nI z), .int (nI 0), .int (nI 1), .int (nI t)] [] (I3, J, vRR ρ) (Ki k0) := by
    intro r
    induction r with
    | zero =>
      intro t I3 he g3 gb
      have he : t = m := by omega
      subst he
      have hn := outer R 0 I3 (.int (nI t)) (by omega) (fun a h1 h2 => by rw [g3 a h2, g a h1]) (fun s hs => by rw [g3 121 (by decide), (gN_lt hm6 hs).2]; exact g1 s hs) gb
      rw [decide_eq_true (show 0 ≠ R by omega)] at hn
      refine st_iload rX8_round_30 rfl ?_
      refine st_aload rX8_round_32 rfl ?_
      refine st_getR rX8_round_33 (by first | assumption | decide | exact ⟨by decide, rfl, by decide⟩) (by first | rfl | assumption) rfl ?_
      refine st_c rX8_round_36 ?_
      refine st_ialdN rX8_round_37 (by first | assumption | decide | exact ⟨by decide, rfl, by decide⟩) (by omega) ?_
      refine st_top (show I3 105 0 = nI t by rw [g3 105 (by decide), g 105 (by decide)]; exact hmm) ?_
      first | with_reducible refine st_icmp_geN rX8_round_38 (by omega) (by omega) (fun _ => ?_) (fun h => absurd h (by first | decide | omega | (simp; done) | simp_all)) | refine st_icmp_ge rX8_round_38 (fun _ => ?_) (fun h => absurd h (by first | decide | omega | (simp; done) | simp_all))
      exact hn
    | succ r ih =>
      intro t I3 he g3 gb
      refine st_iload rX8_round_30 rfl ?_
      refine st_aload rX8_round_32 rfl ?_
      refine st_getR rX8_round_33 (by first | assumption | decide | exact ⟨by decide, rfl, by decide⟩) (by first | rfl | assumption) rfl ?_
      refine st_c rX8_round_36 ?_
      refine st_ialdN rX8_round_37 (by first | assumption | decide | exact ⟨by decide, rfl, by decide⟩) (by omega) ?_
      refine st_top (show I3 105 0 = nI m by rw [g3 105 (by decide), g 105 (by decide)]; exact hmm) ?_
      first | with_reducible refine st_icmp_geN rX8_round_38 (by omega) (by omega) (fun h => absurd h (by first | decide | omega | (simp; done) | simp_all)) (fun _ => ?_) | refine st_icmp_ge rX8_round_38 (fun h => absurd h (by first | decide | omega | (simp; done) | simp_all)) (fun _ => ?_)
      refine st_aload rX8_round_41 rfl ?_
      refine st_getR rX8_round_42 (by first | assumption | decide | exact ⟨by decide, rfl, by decide⟩) (by first | rfl | assumption) rfl ?_
      refine st_iload rX8_round_45 rfl ?_
      refine st_iload rX8_round_47 rfl ?_
      refine st_iastN rX8_round_49 (by first | assumption | decide | exact ⟨by decide, rfl, by decide⟩) (by omega) ?_
      first | with_reducible refine st_iincN4 rX8_round_50 rfl ?_ | refine st_iinc4 rX8_round_50 rfl ?_
      refine st_goto rX8_round_53 ?_
      refine ih (t + 1) _ (by omega) (fun a ha => by rw [up_n ha, g3 a ha]) (fun s hs => ?_)
      rw [up_s]
      by_cases e : s = t
      · subst e; rw [va_up_s]
      · rw [va_up_n e]; exact gb s (by omega)
  exact fill m 0 I2 (by omega) (fun a _ => rfl) (fun s hs => absurd hs (by omega))
end P36
