/-! ===== the draw ===== -/
def bt2 (x j : Nat) : Nat := x / 2 ^ j % 2
def popM (x : Nat) : Nat → Nat
  | 0 => 0
  | n + 1 => popM x n + bt2 x n
def pkM (mask : Nat) : Nat → Nat → Nat → Option Nat
  | 0, _, _ => none
  | f + 1, fr, rest => if bt2 mask fr = 1 ∨ 0 < rest then pkM mask f (fr + 1) (if bt2 mask fr = 1 then rest else rest - 1) else some fr
def pkC (und skip : Nat) : Nat → Nat → Nat → Nat
  | 0, t, _ => t
  | f + 1, t, sk => if t < 5 ∧ (sk < skip ∨ bt2 und t = 0) then pkC und skip f (t + 1) (sk + bt2 und t) else t
def chkP (m mask rest : Nat) : Bool := match pkM mask 7 0 rest with
  | some p => decide (p < m) && decide (bt2 mask p = 0) && decide (pkC (2 ^ m - 1 - mask) rest 6 0 0 = p)
  | none => false
theorem dr1' : (List.range 7).all (fun m => (List.range (2 ^ m)).all (fun mask => (List.range (m - popM mask m)).all (fun rest => chkP m mask rest))) = true := by decide +kernel
theorem dr1 {m mask rest : Nat} (hm : m ≤ 6) (hk : mask < 2 ^ m) (hr : rest < m - popM mask m) : ∃ p, pkM mask 7 0 rest = some p ∧ p < m ∧ bt2 mask p = 0 ∧ pkC (2 ^ m - 1 - mask) rest 6 0 0 = p := by
  have q := List.all_eq_true.mp (List.all_eq_true.mp (List.all_eq_true.mp dr1' m (List.mem_range.mpr (by omega))) mask (List.mem_range.mpr hk)) rest (List.mem_range.mpr hr)
  unfold chkP at q
  cases h : pkM mask 7 0 rest with
  | none => rw [h] at q; simp at q
  | some p =>
    rw [h] at q
    simp only [Bool.and_eq_true, decide_eq_true_eq] at q
    exact ⟨p, rfl, q.1.1, q.1.2, q.2⟩
theorem dr2' : (List.range 7).all (fun m => (List.range (2 ^ m)).all (fun mask => (List.range m).all (fun p => !decide (bt2 mask p = 0) || (decide (mask + 2 ^ p < 2 ^ m) && decide (popM (mask + 2 ^ p) m = popM mask m + 1) && decide (bt2 (2 ^ m - 1 - mask) p = 1) && (List.range 6).all (fun j => decide (bt2 (mask + 2 ^ p) j = if j = p then 1 else bt2 mask j)))))) = true := by decide +kernel
theorem dr2 {m mask p : Nat} (hm : m ≤ 6) (hk : mask < 2 ^ m) (hp : p < m) (hb : bt2 mask p = 0) : mask + 2 ^ p < 2 ^ m ∧ popM (mask + 2 ^ p) m = popM mask m + 1 ∧ bt2 (2 ^ m - 1 - mask) p = 1 ∧ ∀ j, j < 6 → bt2 (mask + 2 ^ p) j = if j = p then 1 else bt2 mask j := by
  have q := List.all_eq_true.mp (List.all_eq_true.mp (List.all_eq_true.mp dr2' m (List.mem_range.mpr (by omega))) mask (List.mem_range.mpr hk)) p (List.mem_range.mpr hp)
  simp only [hb, decide_true, Bool.not_true, Bool.false_or, Bool.and_eq_true, decide_eq_true_eq] at q
  refine ⟨q.1.1.1, q.1.1.2, q.1.2, fun j hj => ?_⟩
  have := List.all_eq_true.mp q.2 j (List.mem_range.mpr hj)
  simpa using this
theorem dr3' : (List.range 7).all (fun m => (List.range (2 ^ m)).all (fun mask => !decide (popM mask m = m) || (List.range m).all (fun j => decide (bt2 mask j = 1)))) = true := by decide +kernel
theorem dr3 {m mask j : Nat} (hm : m ≤ 6) (hk : mask < 2 ^ m) (hp : popM mask m = m) (hj : j < m) : bt2 mask j = 1 := by
  have q := List.all_eq_true.mp (List.all_eq_true.mp dr3' m (List.mem_range.mpr (by omega))) mask (List.mem_range.mpr hk)
  simp only [hp, decide_true, Bool.not_true, Bool.false_or] at q
  have := List.all_eq_true.mp q j (List.mem_range.mpr hj)
  simpa using this
theorem dr4' : (List.range 64).all (fun x => (List.range 6).all (fun p => !decide (bt2 x p = 1) || decide ((nI x &&& ((nI 1 <<< (nI p &&& 31)) ^^^ (-1))) = nI (x - 2 ^ p)))) = true := by decide +kernel
theorem dr4 {x p : Nat} (hx : x < 64) (hp : p < 6) (hb : bt2 x p = 1) : (nI x &&& ((nI 1 <<< (nI p &&& 31)) ^^^ (-1))) = nI (x - 2 ^ p) := by
  have q := List.all_eq_true.mp (List.all_eq_true.mp dr4' x (List.mem_range.mpr hx)) p (List.mem_range.mpr hp)
  simpa [hb] using q
theorem dr5' : (List.range 7).all (fun m => decide ((nI 1 <<< (nI m &&& 31)) - nI 1 = nI (2 ^ m - 1))) = true := by decide +kernel
theorem dr5 {m : Nat} (hm : m ≤ 6) : (nI 1 <<< (nI m &&& 31)) - nI 1 = nI (2 ^ m - 1) := by
  have q := List.all_eq_true.mp dr5' m (List.mem_range.mpr (by omega))
  simpa using q
def numD (z t : Nat) : Nat := (7919 * z + 6151 * t + 1) * (7919 * z + 6151 * t + 1) % 65521 / 16
def rD (m z t : Nat) : Nat := numD z t % (m - t)
def mkD (r : Nat → Nat) : Nat → Nat
  | 0 => 0
  | t + 1 => mkD r t + 2 ^ ((pkM (mkD r t) 7 0 (r t)).getD 0)
def gD (r : Nat → Nat) (t : Nat) : Nat := (pkM (mkD r t) 7 0 (r t)).getD 0
theorem popM_0 : ∀ n, popM 0 n = 0 := by
  intro n
  induction n with
  | zero => rfl
  | succ n ih => simp [popM, ih, bt2]
/-- the draw goes well: what is drawn by then, and who is next -/
theorem drOk {m : Nat} {r : Nat → Nat} (hm : m ≤ 6) (hr : ∀ t, t < m → r t < m - t) : ∀ t, t ≤ m → mkD r t < 2 ^ m ∧ popM (mkD r t) m = t ∧ (t < m → pkM (mkD r t) 7 0 (r t) = some (gD r t) ∧ gD r t < m ∧ bt2 (mkD r t) (gD r t) = 0 ∧ pkC (2 ^ m - 1 - mkD r t) (r t) 6 0 0 = gD r t) := by
  intro t
  induction t with
  | zero =>
    intro _
    refine ⟨Nat.two_pow_pos m, popM_0 m, fun h => ?_⟩
    obtain ⟨p, p1, p2, p3, p4⟩ := dr1 (mask := mkD r 0) hm (Nat.two_pow_pos m) (by rw [show popM (mkD r 0) m = 0 from popM_0 m]; exact hr 0 h)
    have e : gD r 0 = p := by rw [gD, p1]; rfl
    rw [e]
    exact ⟨p1, p2, p3, p4⟩
  | succ t ih =>
    intro ht
    obtain ⟨h1, h2, h3⟩ := ih (by omega)
    obtain ⟨q1, q2, q3, q4⟩ := h3 (by omega)
    obtain ⟨s1, s2, -, -⟩ := dr2 hm h1 q2 q3
    have e : mkD r (t + 1) = mkD r t + 2 ^ gD r t := rfl
    rw [e]
    refine ⟨s1, by rw [s2, h2], fun h => ?_⟩
    obtain ⟨p, p1, p2, p3, p4⟩ := dr1 (mask := mkD r t + 2 ^ gD r t) hm s1 (by rw [s2, h2]; exact hr (t + 1) h)
    have e2 : gD r (t + 1) = p := by rw [gD, e, p1]; rfl
    rw [e2]
    exact ⟨p1, p2, p3, p4⟩
theorem drBit {m : Nat} {r : Nat → Nat} (hm : m ≤ 6) (hr : ∀ t, t < m → r t < m - t) : ∀ t, t ≤ m → ∀ j, j < 6 → (bt2 (mkD r t) j = 1 ↔ ∃ s, s < t ∧ gD r s = j) := by
  intro t
  induction t with
  | zero => intro _ j _; simp [mkD, bt2]
  | succ t ih =>
    intro ht j hj
    obtain ⟨h1, h2, h3⟩ := drOk hm hr t (by omega)
    obtain ⟨q1, q2, q3, q4⟩ := h3 (by omega)
    obtain ⟨-, -, -, s4⟩ := dr2 hm h1 q2 q3
    have e : mkD r (t + 1) = mkD r t + 2 ^ gD r t := rfl
    rw [e, s4 j hj]
    constructor
    · intro h
      by_cases hjg : j = gD r t
      · exact ⟨t, by omega, hjg.symm⟩
      · rw [if_neg hjg] at h
        obtain ⟨s, hs, hs2⟩ := (ih (by omega) j hj).mp h
        exact ⟨s, by omega, hs2⟩
    · rintro ⟨s, hs, hs2⟩
      by_cases hst : s = t
      · subst hst; rw [if_pos hs2.symm]
      · have := (ih (by omega) j hj).mpr ⟨s, by omega, hs2⟩
        by_cases hjg : j = gD r t
        · rw [if_pos hjg]
        · rw [if_neg hjg]; exact this
/-- the draw is a permutation -/
theorem drPerm {m : Nat} {r : Nat → Nat} (hm : m ≤ 6) (hr : ∀ t, t < m → r t < m - t) : ∃ c : Nat → Nat, ∀ t, t < m → gD r t < m ∧ c (gD r t) = t ∧ c t < m ∧ gD r (c t) = t := by
  have hs : ∀ j, j < m → ∃ s, s < m ∧ gD r s = j := fun j hj => (drBit hm hr m (by omega) j (by omega)).mp (dr3 hm (drOk hm hr m (by omega)).1 (drOk hm hr m (by omega)).2.1 hj)
  have hi : ∀ s t, s < t → t < m → gD r s ≠ gD r t := fun s t hst htm e => by
    obtain ⟨-, -, h3⟩ := drOk hm hr t (by omega)
    obtain ⟨-, q2, q3, -⟩ := h3 htm
    have := (drBit hm hr t (by omega) (gD r t) (by omega)).mpr ⟨s, hst, e⟩
    omega
  refine ⟨fun j => if h : j < m then Classical.choose (hs j h) else 0, fun t ht => ?_⟩
  have hg : gD r t < m := ((drOk hm hr t (by omega)).2.2 ht).2.1
  have c1 := Classical.choose_spec (hs (gD r t) hg)
  have c2 := Classical.choose_spec (hs t ht)
  refine ⟨hg, ?_, ?_, ?_⟩
  · simp only [dif_pos hg]
    rcases Nat.lt_trichotomy (Classical.choose (hs (gD r t) hg)) t with h | h | h
    · exact absurd c1.2 (hi _ _ h ht)
    · exact h
    · exact absurd c1.2.symm (hi _ _ h c1.1)
  · simp only [dif_pos ht]; exact c2.1
  · simp only [dif_pos ht]; exact c2.2
theorem pkM_ge (mask : Nat) : ∀ (f fr rest p : Nat), pkM mask f fr rest = some p → fr ≤ p := by
  intro f
  induction f with
  | zero => intro fr rest p h; simp only [pkM] at h; cases h
  | succ f ih =>
    intro fr rest p h
    simp only [pkM] at h
    by_cases hc : bt2 mask fr = 1 ∨ 0 < rest
    · rw [if_pos hc] at h
      have := ih _ _ _ h
      omega
    · rw [if_neg hc] at h
      cases h
      exact Nat.le_refl _
theorem rD_lt {m z t : Nat} (h : t < m) : rD m z t < m - t := Nat.mod_lt _ (by omega)
section P29
variable {d : Nat} {I A : Nat → Nat → Int32} {J : Nat → Nat → Int64} {ρ m no : Nat} {T : Int64} {k : Int32 → vS → Prop} {kl : Int64 → vS → Prop} {kv : vS → Prop}
set_option maxHeartbeats 4000000 in
set_option maxRecDepth 100000 in
theorem s_number {z t : Nat} {kk : Int32 → vS → Prop} (hz : z < 10000) (ht : t < 6) (h : kk (nI (numD z t)) (I, J, vRR ρ)) : V d 123 123 mX3_numberDrawn 0 [.int (nI z), .int (nI t), vJ, vJ] [] (I, J, vRR ρ) (Ki kk) := by
  have hX : (7919 * z + 6151 * t + 1) * (7919 * z + 6151 * t + 1) < 2 ^ 63 := by
    have h1 : (7919 * z + 6151 * t + 1) ≤ 80000000 := by omega
    have := Nat.mul_le_mul h1 h1
    omega
  refine st_cl rX3_numberDrawn_0 ?_
  refine st_iload rX3_numberDrawn_3 rfl ?_
  refine st_i2l rX3_numberDrawn_4 ?_
  refine st_lmul rX3_numberDrawn_5 ?_
  refine st_cl rX3_numberDrawn_6 ?_
  refine st_iload rX3_numberDrawn_9 rfl ?_
  refine st_i2l rX3_numberDrawn_10 ?_
  refine st_lmul rX3_numberDrawn_11 ?_
  refine st_ladd rX3_numberDrawn_12 ?_
  refine st_cl rX3_numberDrawn_13 ?_
  refine st_ladd rX3_numberDrawn_14 ?_
  refine st_topl (show _ = lN (7919 * z + 6151 * t + 1) by rw [nI_l (by omega), nI_l (by omega), lN_mul, lN_mul, lN_add, lN_add]) ?_
  refine st_lstore2 rX3_numberDrawn_15 rfl ?_
  refine st_lload rX3_numberDrawn_16 rfl ?_
  refine st_lload rX3_numberDrawn_17 rfl ?_
  refine st_lmul rX3_numberDrawn_18 ?_
  refine st_topl (lN_mul _ _) ?_
  refine st_cl rX3_numberDrawn_19 ?_
  refine st_lrem rX3_numberDrawn_22 (by decide) ?_
  refine st_topl (pk_lRem hX (by decide) (by decide)) ?_
  refine st_cl rX3_numberDrawn_23 ?_
  refine st_ldiv rX3_numberDrawn_26 (by decide) ?_
  refine st_topl (pk_lDiv (Nat.lt_of_lt_of_le (Nat.mod_lt _ (by decide)) (by decide)) (by decide) (by decide)) ?_
  refine st_l2i rX3_numberDrawn_27 ?_
  refine st_top (lN_i _) ?_
  refine st_iret rX3_numberDrawn_28 rfl ?_
  exact h
set_option maxHeartbeats 4000000 in
set_option maxRecDepth 100000 in
theorem s_take {und skip p : Nat} {kk : Int32 → vS → Prop} (hu : I 100 2 = nI und) (hu6 : und < 64) (hs : skip < 6) (hp : pkC und skip 6 0 0 = p) (hp6 : p < 6) (hb : bt2 und p = 1) (h : kk (nI p) (up I 100 (va_up (I 100) 2 (nI (und - 2 ^ p))), J, vRR ρ)) : V d 123 123 mX3_takeUndrawn 0 [.ref 100, .int (nI skip), vJ, vJ] [] (I, J, vRR ρ) (Ki kk) := by
  refine st_c rX3_takeUndrawn_0 ?_
  refine st_istore2 rX3_takeUndrawn_1 rfl ?_
  refine st_c rX3_takeUndrawn_2 ?_
  refine st_istore3 rX3_takeUndrawn_3 rfl ?_
  skip
  have fin : ∀ x : Value, V d 123 123 mX3_takeUndrawn 42 [.ref 100, .int (nI skip), .int (nI p), x] [] (I, J, vRR ρ) (Ki kk) := by
    intro x
    refine st_aload rX3_takeUndrawn_42 rfl ?_
    refine st_dup rX3_takeUndrawn_43 rfl ?_
    refine st_getI rX3_takeUndrawn_44 (by first | assumption | decide | exact ⟨by decide, rfl, by decide⟩) rfl ?_
    refine st_top hu ?_
    refine st_c rX3_takeUndrawn_47 ?_
    refine st_iload rX3_takeUndrawn_48 rfl ?_
    refine st_ishl rX3_takeUndrawn_49 ?_
    refine st_c rX3_takeUndrawn_50 ?_
    refine st_ixor rX3_takeUndrawn_51 ?_
    refine st_iand rX3_takeUndrawn_52 ?_
    refine st_top (dr4 hu6 hp6 hb) ?_
    refine st_putI rfl rX3_takeUndrawn_53 (by first | assumption | decide | exact ⟨by decide, rfl, by decide⟩) ?_
    refine st_iload rX3_takeUndrawn_56 rfl ?_
    refine st_iret rX3_takeUndrawn_57 rfl ?_
    exact h
  have key : ∀ (f t sk : Nat), t + f = 6 → sk ≤ t → pkC und skip f t sk = p → V d 123 123 mX3_takeUndrawn 4 [.ref 100, .int (nI skip), .int (nI t), .int (nI sk)] [] (I, J, vRR ρ) (Ki kk) := by
    intro f
    induction f with
    | zero =>
      intro t sk ht hsk hr
      simp only [pkC] at hr
      omega
    | succ f ih =>
      intro t sk ht hsk hr
      simp only [pkC] at hr
      have hbit : (nI und >>> (nI t &&& 31)) &&& nI 1 = nI (bt2 und t) := bitB (by omega) hu6
      have hb2 : bt2 und t < 2 := Nat.mod_lt _ (by decide)
      refine st_iload rX3_takeUndrawn_4 rfl ?_
      refine st_c rX3_takeUndrawn_5 ?_
      first | with_reducible refine st_icmp_geN rX3_takeUndrawn_6 (by omega) (by omega) (fun h6 => ?_) (fun h6 => ?_) | refine st_icmp_ge rX3_takeUndrawn_6 (fun h6 => ?_) (fun h6 => ?_)
      · rw [if_neg (by omega)] at hr; subst hr; exact fin _
      · refine st_iload rX3_takeUndrawn_9 rfl ?_
        refine st_iload rX3_takeUndrawn_10 rfl ?_
        first | with_reducible refine st_icmp_ltN rX3_takeUndrawn_11 (by omega) (by omega) (fun h11 => ?_) (fun h11 => ?_) | refine st_icmp_lt rX3_takeUndrawn_11 (fun h11 => ?_) (fun h11 => ?_)
        · refine st_iload rX3_takeUndrawn_25 rfl ?_
          refine st_aload rX3_takeUndrawn_26 rfl ?_
          refine st_getI rX3_takeUndrawn_27 (by first | assumption | decide | exact ⟨by decide, rfl, by decide⟩) rfl ?_
          refine st_top hu ?_
          refine st_iload rX3_takeUndrawn_30 rfl ?_
          refine st_ishr rX3_takeUndrawn_31 ?_
          refine st_c rX3_takeUndrawn_32 ?_
          refine st_iand rX3_takeUndrawn_33 ?_
          refine st_top hbit ?_
          first | with_reducible refine st_iaddN rX3_takeUndrawn_34 ?_ | refine st_iadd rX3_takeUndrawn_34 ?_
          refine st_istore3 rX3_takeUndrawn_35 rfl ?_
          first | with_reducible refine st_iincN2 rX3_takeUndrawn_36 rfl ?_ | refine st_iinc2 rX3_takeUndrawn_36 rfl ?_
          refine st_goto rX3_takeUndrawn_39 ?_
          rw [if_pos (by omega)] at hr; exact ih (t + 1) (sk + bt2 und t) (by omega) (by omega) hr
        · refine st_aload rX3_takeUndrawn_14 rfl ?_
          refine st_getI rX3_takeUndrawn_15 (by first | assumption | decide | exact ⟨by decide, rfl, by decide⟩) rfl ?_
          refine st_top hu ?_
          refine st_iload rX3_takeUndrawn_18 rfl ?_
          refine st_ishr rX3_takeUndrawn_19 ?_
          refine st_c rX3_takeUndrawn_20 ?_
          refine st_iand rX3_takeUndrawn_21 ?_
          refine st_top hbit ?_
          first | with_reducible refine st_if_neN rX3_takeUndrawn_22 (by omega) (fun h22 => ?_) (fun h22 => ?_) | refine st_if_ne rX3_takeUndrawn_22 (fun h22 => ?_) (fun h22 => ?_)
          · rw [if_neg (by omega)] at hr; subst hr; exact fin _
          · refine st_iload rX3_takeUndrawn_25 rfl ?_
            refine st_aload rX3_takeUndrawn_26 rfl ?_
            refine st_getI rX3_takeUndrawn_27 (by first | assumption | decide | exact ⟨by decide, rfl, by decide⟩) rfl ?_
            refine st_top hu ?_
            refine st_iload rX3_takeUndrawn_30 rfl ?_
            refine st_ishr rX3_takeUndrawn_31 ?_
            refine st_c rX3_takeUndrawn_32 ?_
            refine st_iand rX3_takeUndrawn_33 ?_
            refine st_top hbit ?_
            first | with_reducible refine st_iaddN rX3_takeUndrawn_34 ?_ | refine st_iadd rX3_takeUndrawn_34 ?_
            refine st_istore3 rX3_takeUndrawn_35 rfl ?_
            first | with_reducible refine st_iincN2 rX3_takeUndrawn_36 rfl ?_ | refine st_iinc2 rX3_takeUndrawn_36 rfl ?_
            refine st_goto rX3_takeUndrawn_39 ?_
            rw [if_pos (by omega)] at hr; exact ih (t + 1) (sk + bt2 und t) (by omega) (by omega) hr
  exact key 6 0 0 (by omega) (by omega) hp
set_option maxHeartbeats 4000000 in
set_option maxRecDepth 100000 in
theorem s_drawBy {z : Nat} (hm6 : m ≤ 6) (hz : z < 10000)
    (hk : ∀ I', (∀ a, a ≠ 100 → a ≠ 101 → I' a = I a) → (∀ t, t < m → I' 101 t = nI (gD (rD m z) t)) → (∀ t, m ≤ t → t < 6 → I' 101 t = nI t) → kv (I', J, vRR ρ)) : V (d + 1) 123 123 mX3_drawBy 0 [.ref 100, .int (nI m), .int (nI z), vJ, vJ] [] (I, J, vRR ρ) (Kv kv) := by
  refine st_aload rX3_drawBy_0 rfl ?_
  refine st_c rX3_drawBy_1 ?_
  refine st_iload rX3_drawBy_2 rfl ?_
  refine st_ishl rX3_drawBy_3 ?_
  refine st_c rX3_drawBy_4 ?_
  refine st_isub rX3_drawBy_5 ?_
  refine st_top (dr5 hm6) ?_
  refine st_putI rfl rX3_drawBy_6 (by first | assumption | decide | exact ⟨by decide, rfl, by decide⟩) ?_
  refine st_c rX3_drawBy_9 ?_
  refine st_istore3 rX3_drawBy_10 rfl ?_
  skip
  have hr : ∀ t, t < m → rD m z t < m - t := fun t ht => rD_lt ht
  have h64 : 2 ^ m ≤ 64 := Nat.pow_le_pow_right (by decide) hm6
  have key : ∀ (r t : Nat) (I2 : Nat → Nat → Int32) (x : Value), t + r = 6 → (∀ a, a ≠ 100 → a ≠ 101 → I2 a = I a) → (t ≤ m → I2 100 2 = nI (2 ^ m - 1 - mkD (rD m z) t)) → (∀ s, s < t → s < m → I2 101 s = nI (gD (rD m z) s)) → (∀ s, s < t → m ≤ s → I2 101 s = nI s) → V (d + 1) 123 123 mX3_drawBy 11 [.ref 100, .int (nI m), .int (nI z), .int (nI t), x] [] (I2, J, vRR ρ) (Kv kv) := by
    intro r
    induction r with
    | zero =>
      intro t I2 x ht g gu g1 g2
      have ht : t = 6 := by omega
      subst ht
      refine st_iload rX3_drawBy_11 rfl ?_
      refine st_c rX3_drawBy_12 ?_
      first | with_reducible refine st_icmp_geN rX3_drawBy_14 (by omega) (by omega) (fun _ => ?_) (fun h => absurd h (by first | decide | omega | (simp; done) | simp_all)) | refine st_icmp_ge rX3_drawBy_14 (fun _ => ?_) (fun h => absurd h (by first | decide | omega | (simp; done) | simp_all))
      refine st_vret rX3_drawBy_55 rfl ?_
      exact hk I2 g (fun s hs => g1 s (by omega) hs) (fun s h1 h2 => g2 s (by omega) h1)
    | succ r ih =>
      intro t I2 x ht g gu g1 g2
      by_cases htm : t < m
      · obtain ⟨d1, d2, d3⟩ := drOk hm6 hr t (by omega)
        obtain ⟨p1, p2, p3, p4⟩ := d3 htm
        obtain ⟨s1, -, s3, -⟩ := dr2 hm6 d1 p2 p3
        refine st_iload rX3_drawBy_11 rfl ?_
        refine st_c rX3_drawBy_12 ?_
        first | with_reducible refine st_icmp_geN rX3_drawBy_14 (by omega) (by omega) (fun h => absurd h (by first | decide | omega | (simp; done) | simp_all)) (fun _ => ?_) | refine st_icmp_ge rX3_drawBy_14 (fun h => absurd h (by first | decide | omega | (simp; done) | simp_all)) (fun _ => ?_)
        refine st_iload rX3_drawBy_17 rfl ?_
        refine st_iload rX3_drawBy_18 rfl ?_
        first | with_reducible refine st_isubN rX3_drawBy_19 (by omega) ?_ | refine st_isub rX3_drawBy_19 ?_
        refine st_istore4 rX3_drawBy_20 rfl ?_
        refine st_aload rX3_drawBy_22 rfl ?_
        refine st_getR rX3_drawBy_23 (by first | assumption | decide | exact ⟨by decide, rfl, by decide⟩) (by first | rfl | assumption) rfl ?_
        refine st_iload rX3_drawBy_26 rfl ?_
        refine st_iload rX3_drawBy_27 rfl ?_
        first | with_reducible refine st_if_leN rX3_drawBy_29 (by omega) (fun h => absurd h (by first | decide | omega | (simp; done) | simp_all)) (fun _ => ?_) | refine st_if_le rX3_drawBy_29 (fun h => absurd h (by first | decide | omega | (simp; done) | simp_all)) (fun _ => ?_)
        refine st_aload rX3_drawBy_32 rfl ?_
        refine st_iload rX3_drawBy_33 rfl ?_
        refine st_iload rX3_drawBy_34 rfl ?_
        refine cS2i rX3_drawBy_35 (s_number hz (by omega) ?_) rfl
        refine st_iload rX3_drawBy_38 rfl ?_
        refine st_iremN rX3_drawBy_40 (show numD z t < 2147483648 from Nat.lt_of_le_of_lt (Nat.div_le_self _ _) (Nat.lt_of_lt_of_le (Nat.mod_lt _ (by decide)) (by decide))) ⟨by omega, by omega⟩ ?_
        refine cV2i rX3_drawBy_41 (by first | assumption | decide | exact ⟨by decide, rfl, by decide⟩) (s_take (gu (by omega)) (by omega) (show rD m z t < 6 by have := hr t htm; omega) p4 (by omega) s3 ?_) rfl (by decide)
        refine st_goto rX3_drawBy_44 ?_
        refine st_iastN rX3_drawBy_48 (by first | assumption | decide | exact ⟨by decide, rfl, by decide⟩) (by omega) ?_
        first | with_reducible refine st_iincN3 rX3_drawBy_49 rfl ?_ | refine st_iinc3 rX3_drawBy_49 rfl ?_
        refine st_goto rX3_drawBy_52 ?_
        refine ih (t + 1) _ _ (by omega) (fun a h1 h2 => by rw [up_n h2, up_n h1, g a h1 h2]) (fun h => ?_) (fun s h1 h2 => ?_) (fun s h1 h2 => ?_)
        · rw [up_n (by decide), up_s, va_up_s]
          congr 1
          show _ = 2 ^ m - 1 - (mkD (rD m z) t + 2 ^ gD (rD m z) t)
          omega
        · rw [up_s]
          by_cases hst : s = t
          · subst hst; rw [va_up_s]
          · rw [va_up_n hst, up_n (by decide)]; exact g1 s (by omega) h2
        · rw [up_s, va_up_n (by omega), up_n (by decide)]; exact g2 s (by omega) h2
      · have hle : nI m - nI t ≤ 0 := by
          rw [Int32.le_iff_toInt_le, pk_sub_toInt (by omega) (by omega)]
          show (m : Int) - t ≤ 0
          omega
        refine st_iload rX3_drawBy_11 rfl ?_
        refine st_c rX3_drawBy_12 ?_
        first | with_reducible refine st_icmp_geN rX3_drawBy_14 (by omega) (by omega) (fun h => absurd h (by first | decide | omega | (simp; done) | simp_all)) (fun _ => ?_) | refine st_icmp_ge rX3_drawBy_14 (fun h => absurd h (by first | decide | omega | (simp; done) | simp_all)) (fun _ => ?_)
        refine st_iload rX3_drawBy_17 rfl ?_
        refine st_iload rX3_drawBy_18 rfl ?_
        refine st_isub rX3_drawBy_19 ?_
        refine st_istore4 rX3_drawBy_20 rfl ?_
        refine st_aload rX3_drawBy_22 rfl ?_
        refine st_getR rX3_drawBy_23 (by first | assumption | decide | exact ⟨by decide, rfl, by decide⟩) (by first | rfl | assumption) rfl ?_
        refine st_iload rX3_drawBy_26 rfl ?_
        refine st_iload rX3_drawBy_27 rfl ?_
        refine st_if_le rX3_drawBy_29 (fun _ => ?_) (fun h => absurd hle h)
        refine st_iload rX3_drawBy_47 rfl ?_
        refine st_iastN rX3_drawBy_48 (by first | assumption | decide | exact ⟨by decide, rfl, by decide⟩) (by omega) ?_
        first | with_reducible refine st_iincN3 rX3_drawBy_49 rfl ?_ | refine st_iinc3 rX3_drawBy_49 rfl ?_
        refine st_goto rX3_drawBy_52 ?_
        refine ih (t + 1) _ _ (by omega) (fun a h1 h2 => by rw [up_n h2, g a h1 h2]) (fun h => absurd h (by omega)) (fun s h1 h2 => ?_) (fun s h1 h2 => ?_)
        · rw [up_s, va_up_n (by omega)]; exact g1 s (by omega) h2
        · rw [up_s]
          by_cases hst : s = t
          · subst hst; rw [va_up_s]
          · rw [va_up_n hst]; exact g2 s (by omega) h2
  refine key 6 0 _ _ (by omega) (fun a h1 _ => by rw [up_n h1]) (fun _ => ?_) (fun s h _ => absurd h (by omega)) (fun s h _ => absurd h (by omega))
  rw [up_s, va_up_s]
  rfl
set_option maxHeartbeats 4000000 in
set_option maxRecDepth 100000 in
theorem s_draws {z : Nat} (hmm : I 105 0 = nI m) (hm6 : m ≤ 6) (hz : z < 10000)
    (hk : ∀ I', (∀ a, a ≠ 121 → I' a = I a) → (∀ t, t < m → I' 121 t = nI (gD (rD m z) t)) → kv (I', J, vRR ρ)) : V d 123 123 mX8_draws 0 [.ref 103, .int (nI z), vJ, vJ, vJ, vJ, vJ, vJ] [] (I, J, vRR ρ) (Kv kv) := by
  refine st_c rX8_draws_0 ?_
  refine st_istore2 rX8_draws_1 rfl ?_
  refine st_c rX8_draws_2 ?_
  refine st_istore3 rX8_draws_3 rfl ?_
  skip
  have hr : ∀ t, t < m → rD m z t < m - t := fun t ht => rD_lt ht
  have h64 : 2 ^ m ≤ 64 := Nat.pow_le_pow_right (by decide) hm6
  have key : ∀ (r t : Nat) (I2 : Nat → Nat → Int32) (x4 x5 x6 x7 : Value), t + r = m → (∀ a, a ≠ 121 → I2 a = I a) → (∀ s, s < t → I2 121 s = nI (gD (rD m z) s)) → V d 123 123 mX8_draws 4 [.ref 103, .int (nI z), .int (nI (mkD (rD m z) t)), .int (nI t), x4, x5, x6, x7] [] (I2, J, vRR ρ) (Kv kv) := by
    intro r
    induction r with
    | zero =>
      intro t I2 x4 x5 x6 x7 ht g g1
      have ht : t = m := by omega
      subst ht
      refine st_iload rX8_draws_4 rfl ?_
      refine st_aload rX8_draws_5 rfl ?_
      refine st_getR rX8_draws_6 (by first | assumption | decide | exact ⟨by decide, rfl, by decide⟩) (by first | rfl | assumption) rfl ?_
      refine st_c rX8_draws_9 ?_
      refine st_ialdN rX8_draws_10 (by first | assumption | decide | exact ⟨by decide, rfl, by decide⟩) (by omega) ?_
      refine st_top (show I2 105 0 = nI t by rw [g 105 (by decide)]; exact hmm) ?_
      first | with_reducible refine st_icmp_geN rX8_draws_11 (by omega) (by omega) (fun _ => ?_) (fun h => absurd h (by first | decide | omega | (simp; done) | simp_all)) | refine st_icmp_ge rX8_draws_11 (fun _ => ?_) (fun h => absurd h (by first | decide | omega | (simp; done) | simp_all))
      refine st_vret rX8_draws_122 rfl ?_
      exact hk I2 g g1
    | succ r ih =>
      intro t I2 x4 x5 x6 x7 ht g g1
      have htm : t < m := by omega
      obtain ⟨d1, d2, d3⟩ := drOk hm6 hr t (by omega)
      obtain ⟨p1, p2, p3, p4⟩ := d3 htm
      obtain ⟨s1, -, s3, -⟩ := dr2 hm6 d1 p2 p3
      have h105 : I2 105 0 = nI m := by rw [g 105 (by decide)]; exact hmm
      have hX : (7919 * z + 6151 * t + 1) * (7919 * z + 6151 * t + 1) < 2 ^ 63 := by
        have h1 : (7919 * z + 6151 * t + 1) ≤ 80000000 := by omega
        have := Nat.mul_le_mul h1 h1
        omega
      have hnd : numD z t < 2 ^ 63 := Nat.lt_of_le_of_lt (Nat.div_le_self _ _) (Nat.lt_of_lt_of_le (Nat.mod_lt _ (by decide)) (by decide))
      have fin : ∀ (y : Value), V d 123 123 mX8_draws 101 [.ref 103, .int (nI z), .int (nI (mkD (rD m z) t)), .int (nI t), .long (lN (7919 * z + 6151 * t + 1)), vJ, y, .int (nI (gD (rD m z) t))] [] (I2, J, vRR ρ) (Kv kv) := by
        intro y
        refine st_aload rX8_draws_101 rfl ?_
        refine st_getR rX8_draws_102 (by first | assumption | decide | exact ⟨by decide, rfl, by decide⟩) (by first | rfl | assumption) rfl ?_
        refine st_iload rX8_draws_105 rfl ?_
        refine st_iload rX8_draws_106 rfl ?_
        refine st_iastN rX8_draws_108 (by first | assumption | decide | exact ⟨by decide, rfl, by decide⟩) (by omega) ?_
        refine st_iload rX8_draws_109 rfl ?_
        refine st_c rX8_draws_110 ?_
        refine st_iload rX8_draws_111 rfl ?_
        refine st_ishl rX8_draws_113 ?_
        refine st_ior rX8_draws_114 ?_
        refine st_top (orB (by omega) (by omega) p3) ?_
        refine st_istore2 rX8_draws_115 rfl ?_
        first | with_reducible refine st_iincN3 rX8_draws_116 rfl ?_ | refine st_iinc3 rX8_draws_116 rfl ?_
        refine st_goto rX8_draws_119 ?_
        refine ih (t + 1) _ _ _ _ _ (by omega) (fun a ha => by rw [up_n ha, g a ha]) (fun s hs => ?_)
        rw [up_s]
        by_cases hst : s = t
        · subst hst; rw [va_up_s]
        · rw [va_up_n hst]; exact g1 s (by omega)
      have loop : ∀ (f fr rest : Nat), fr + f = 7 → rest < 6 → pkM (mkD (rD m z) t) f fr rest = some (gD (rD m z) t) → V d 123 123 mX8_draws 60 [.ref 103, .int (nI z), .int (nI (mkD (rD m z) t)), .int (nI t), .long (lN (7919 * z + 6151 * t + 1)), vJ, .int (nI rest), .int (nI fr)] [] (I2, J, vRR ρ) (Kv kv) := by
        intro f
        induction f with
        | zero =>
          intro fr rest hf hr2 h
          simp only [pkM] at h
          cases h
        | succ f ihf =>
          intro fr rest hf hr2 h
          simp only [pkM] at h
          have hfr := pkM_ge _ _ _ _ _ (show pkM (mkD (rD m z) t) (f + 1) fr rest = some (gD (rD m z) t) by simp only [pkM]; exact h)
          have hbit : (nI (mkD (rD m z) t) >>> (nI fr &&& 31)) &&& nI 1 = nI (bt2 (mkD (rD m z) t) fr) := bitB (by omega) (by omega)
          have hb2 : bt2 (mkD (rD m z) t) fr < 2 := Nat.mod_lt _ (by decide)
          refine st_iload rX8_draws_60 rfl ?_
          refine st_iload rX8_draws_61 rfl ?_
          refine st_ishr rX8_draws_63 ?_
          refine st_c rX8_draws_64 ?_
          refine st_iand rX8_draws_65 ?_
          refine st_top hbit ?_
          refine st_c rX8_draws_66 ?_
          first | with_reducible refine st_icmp_eqN rX8_draws_67 (by omega) (by omega) (fun h67 => ?_) (fun h67 => ?_) | refine st_icmp_eq rX8_draws_67 (fun h67 => ?_) (fun h67 => ?_)
          · refine st_iload rX8_draws_75 rfl ?_
            refine st_iload rX8_draws_77 rfl ?_
            refine st_iload rX8_draws_78 rfl ?_
            refine st_ishr rX8_draws_80 ?_
            refine st_c rX8_draws_81 ?_
            refine st_iand rX8_draws_82 ?_
            refine st_top hbit ?_
            refine st_c rX8_draws_83 ?_
            first | with_reducible refine st_icmp_neN rX8_draws_84 (by omega) (by omega) (fun h84 => ?_) (fun h84 => ?_) | refine st_icmp_ne rX8_draws_84 (fun h84 => ?_) (fun h84 => ?_)
            · refine st_c rX8_draws_91 ?_
              first | with_reducible refine st_isubN rX8_draws_92 (by omega) ?_ | refine st_isub rX8_draws_92 ?_
              refine st_istore6 rX8_draws_93 rfl ?_
              first | with_reducible refine st_iincN7 rX8_draws_95 rfl ?_ | refine st_iinc7 rX8_draws_95 rfl ?_
              refine st_goto rX8_draws_98 ?_
              first
              | (exfalso; omega)
              | (rw [if_pos (by omega), if_pos (by omega)] at h; exact ihf (fr + 1) (rest - 0) (by omega) (by omega) h)
              | (rw [if_pos (by omega), if_neg (by omega)] at h; exact ihf (fr + 1) (rest - 1) (by omega) (by omega) h)
            · refine st_c rX8_draws_87 ?_
              refine st_goto rX8_draws_88 ?_
              first | with_reducible refine st_isubN rX8_draws_92 (by omega) ?_ | refine st_isub rX8_draws_92 ?_
              refine st_istore6 rX8_draws_93 rfl ?_
              first | with_reducible refine st_iincN7 rX8_draws_95 rfl ?_ | refine st_iinc7 rX8_draws_95 rfl ?_
              refine st_goto rX8_draws_98 ?_
              first
              | (exfalso; omega)
              | (rw [if_pos (by omega), if_pos (by omega)] at h; exact ihf (fr + 1) (rest - 0) (by omega) (by omega) h)
              | (rw [if_pos (by omega), if_neg (by omega)] at h; exact ihf (fr + 1) (rest - 1) (by omega) (by omega) h)
          · refine st_iload rX8_draws_70 rfl ?_
            first | with_reducible refine st_if_leN rX8_draws_72 (by omega) (fun h72 => ?_) (fun h72 => ?_) | refine st_if_le rX8_draws_72 (fun h72 => ?_) (fun h72 => ?_)
            · rw [if_neg (by omega)] at h; cases h; exact fin _
            · refine st_iload rX8_draws_75 rfl ?_
              refine st_iload rX8_draws_77 rfl ?_
              refine st_iload rX8_draws_78 rfl ?_
              refine st_ishr rX8_draws_80 ?_
              refine st_c rX8_draws_81 ?_
              refine st_iand rX8_draws_82 ?_
              refine st_top hbit ?_
              refine st_c rX8_draws_83 ?_
              first | with_reducible refine st_icmp_neN rX8_draws_84 (by omega) (by omega) (fun h84 => ?_) (fun h84 => ?_) | refine st_icmp_ne rX8_draws_84 (fun h84 => ?_) (fun h84 => ?_)
              · refine st_c rX8_draws_91 ?_
                first | with_reducible refine st_isubN rX8_draws_92 (by omega) ?_ | refine st_isub rX8_draws_92 ?_
                refine st_istore6 rX8_draws_93 rfl ?_
                first | with_reducible refine st_iincN7 rX8_draws_95 rfl ?_ | refine st_iinc7 rX8_draws_95 rfl ?_
                refine st_goto rX8_draws_98 ?_
                first
                | (exfalso; omega)
                | (rw [if_pos (by omega), if_pos (by omega)] at h; exact ihf (fr + 1) (rest - 0) (by omega) (by omega) h)
                | (rw [if_pos (by omega), if_neg (by omega)] at h; exact ihf (fr + 1) (rest - 1) (by omega) (by omega) h)
              · refine st_c rX8_draws_87 ?_
                refine st_goto rX8_draws_88 ?_
                first | with_reducible refine st_isubN rX8_draws_92 (by omega) ?_ | refine st_isub rX8_draws_92 ?_
                refine st_istore6 rX8_draws_93 rfl ?_
                first | with_reducible refine st_iincN7 rX8_draws_95 rfl ?_ | refine st_iinc7 rX8_draws_95 rfl ?_
                refine st_goto rX8_draws_98 ?_
                first
                | (exfalso; omega)
                | (rw [if_pos (by omega), if_pos (by omega)] at h; exact ihf (fr + 1) (rest - 0) (by omega) (by omega) h)
                | (rw [if_pos (by omega), if_neg (by omega)] at h; exact ihf (fr + 1) (rest - 1) (by omega) (by omega) h)
      have hne : ¬ lN (m - t) = 0 := fun h => by have := (pk_lEQ (a := m - t) (b := 0) (by omega) (by omega)).mp h; omega
      refine st_iload rX8_draws_4 rfl ?_
      refine st_aload rX8_draws_5 rfl ?_
      refine st_getR rX8_draws_6 (by first | assumption | decide | exact ⟨by decide, rfl, by decide⟩) (by first | rfl | assumption) rfl ?_
      refine st_c rX8_draws_9 ?_
      refine st_ialdN rX8_draws_10 (by first | assumption | decide | exact ⟨by decide, rfl, by decide⟩) (by omega) ?_
      refine st_top h105 ?_
      first | with_reducible refine st_icmp_geN rX8_draws_11 (by omega) (by omega) (fun h => absurd h (by first | decide | omega | (simp; done) | simp_all)) (fun _ => ?_) | refine st_icmp_ge rX8_draws_11 (fun h => absurd h (by first | decide | omega | (simp; done) | simp_all)) (fun _ => ?_)
      refine st_cl rX8_draws_14 ?_
      refine st_iload rX8_draws_17 rfl ?_
      refine st_i2l rX8_draws_18 ?_
      refine st_lmul rX8_draws_19 ?_
      refine st_cl rX8_draws_20 ?_
      refine st_iload rX8_draws_23 rfl ?_
      refine st_i2l rX8_draws_24 ?_
      refine st_lmul rX8_draws_25 ?_
      refine st_ladd rX8_draws_26 ?_
      refine st_cl rX8_draws_27 ?_
      refine st_ladd rX8_draws_28 ?_
      refine st_topl (show _ = lN (7919 * z + 6151 * t + 1) by rw [nI_l (by omega), nI_l (by omega), lN_mul, lN_mul, lN_add, lN_add]) ?_
      refine st_lstore4 rX8_draws_29 rfl ?_
      refine st_lload rX8_draws_31 rfl ?_
      refine st_lload rX8_draws_33 rfl ?_
      refine st_lmul rX8_draws_35 ?_
      refine st_topl (lN_mul _ _) ?_
      refine st_cl rX8_draws_36 ?_
      refine st_lrem rX8_draws_39 (by decide) ?_
      refine st_topl (pk_lRem hX (by decide) (by decide)) ?_
      refine st_cl rX8_draws_40 ?_
      refine st_ldiv rX8_draws_43 (by decide) ?_
      refine st_topl (pk_lDiv (Nat.lt_of_lt_of_le (Nat.mod_lt _ (by decide)) (by decide)) (by decide) (by decide)) ?_
      refine st_aload rX8_draws_44 rfl ?_
      refine st_getR rX8_draws_45 (by first | assumption | decide | exact ⟨by decide, rfl, by decide⟩) (by first | rfl | assumption) rfl ?_
      refine st_c rX8_draws_48 ?_
      refine st_ialdN rX8_draws_49 (by first | assumption | decide | exact ⟨by decide, rfl, by decide⟩) (by omega) ?_
      refine st_top h105 ?_
      refine st_iload rX8_draws_50 rfl ?_
      first | with_reducible refine st_isubN rX8_draws_51 (by omega) ?_ | refine st_isub rX8_draws_51 ?_
      refine st_i2l rX8_draws_52 ?_
      refine st_topl (nI_l (by omega)) ?_
      refine st_lrem rX8_draws_53 hne ?_
      refine st_topl (pk_lRem (b := m - t) hnd (by omega) (by omega)) ?_
      refine st_l2i rX8_draws_54 ?_
      refine st_top (lN_i _) ?_
      refine st_istore6 rX8_draws_55 rfl ?_
      refine st_c rX8_draws_57 ?_
      refine st_istore7 rX8_draws_58 rfl ?_
      exact loop 7 0 (rD m z t) (by omega) (by have := hr t htm; omega) p1
  exact key m 0 I _ _ _ _ (by omega) (fun a _ => rfl) (fun s hs => absurd hs (by omega))
end P29
