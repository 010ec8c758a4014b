/-! ===== the constructors ===== -/
def gdR (Z : Nat → Nat → Option Nat) (c e : Nat) : Prop := ∀ a k, c ≤ a → a < e → refk a k = true → Z a k = vRR 4 a k
theorem refk_lt {a k : Nat} (h : refk a k = true) : k < (vSH a).2 := by
  simp only [refk, Bool.and_eq_true, decide_eq_true_eq] at h
  exact h.1
theorem refk_0 {a k : Nat} (h : (vSH a).1 = 100 ∨ (vSH a).1 = 101) : refk a k = false := by
  rcases h with h | h
  · simp only [refk, h]
    rw [show vIsR (vTF 100 k) = false from rfl, show decide ((100 : Nat) = 102) = false from rfl]
    exact Bool.and_false _
  · simp only [refk, h]
    rw [show vIsR (vTF 101 k) = false from rfl, show decide ((101 : Nat) = 102) = false from rfl]
    exact Bool.and_false _
theorem gdR_n {Z : Nat → Nat → Option Nat} {a k : Nat} (h : (vSH a).1 = 100 ∨ (vSH a).1 = 101) (hr : refk a k = true) : Z a k = vRR 4 a k := by
  rw [refk_0 h] at hr
  cases hr
section P56
variable {d : Nat} {I : Nat → Nat → Int32} {J : Nat → Nat → Int64} {Z : Nat → Nat → Option Nat} {kv : vS → Prop}
set_option maxHeartbeats 4000000 in
set_option maxRecDepth 100000 in
theorem k_text (hI : ∀ a k, a < 123 → I a k = 0) (hk : ∀ Z', (∀ a, a < 1 ∨ 4 ≤ a → Z' a = Z a) → gdR Z' 1 4 → kv (I, J, Z')) : V (d + 1) 4 2 mX5_init 0 [.ref 1] [] (I, J, Z) (Kv kv) := by
  refine st_aload rX5_init_0 rfl ?_
  refine st_objI rX5_init_1 (Nat.le_of_ble_eq_true rfl) ?_
  refine st_aload rX5_init_4 rfl ?_
  refine st_c rX5_init_5 ?_
  refine st_newi rX5_init_8 (by first | rfl | assumption) (by decide) (by omega) (by omega) (fun k => hI _ k (by omega)) ?_
  refine st_putR rfl rX5_init_10 (by first | assumption | decide | exact ⟨by decide, rfl, by decide⟩ | exact ⟨by omega, rfl, by decide⟩) ?_
  refine st_aload rX5_init_13 rfl ?_
  refine st_c rX5_init_14 ?_
  refine st_newi rX5_init_15 (by first | rfl | assumption) (by decide) (by omega) (by omega) (fun k => hI _ k (by omega)) ?_
  refine st_putR rfl rX5_init_17 (by first | assumption | decide | exact ⟨by decide, rfl, by decide⟩ | exact ⟨by omega, rfl, by decide⟩) ?_
  refine st_vret rX5_init_20 rfl ?_
  refine hk _ (fun a ha => by (repeat rw [up_n (by omega)])) (fun a k h1 h2 hr => ?_)
  by_cases ha : a = 1
  · subst ha
    have hk1 : k < 7 := refk_lt hr
    have hc : k = 0 ∨ k = 1 ∨ k = 2 ∨ k = 3 ∨ k = 4 ∨ k = 5 ∨ k = 6 := by omega
    rcases hc with rfl | rfl | rfl | rfl | rfl | rfl | rfl
    · simp (disch := omega) only [up_s, va_up_s, va_up_n]; rfl
    · exact absurd hr (by decide)
    · simp (disch := omega) only [up_s, va_up_s, va_up_n]; rfl
    · exact absurd hr (by decide)
    · exact absurd hr (by decide)
    · exact absurd hr (by decide)
    · exact absurd hr (by decide)
  · refine gdR_n ?_ hr
    have hc : a = 2 ∨ a = 3 := by omega
    rcases hc with rfl | rfl <;> decide
set_option maxHeartbeats 4000000 in
set_option maxRecDepth 100000 in
theorem k_told4 (hI : ∀ a k, a < 123 → I a k = 0) (hk : ∀ Z', (∀ a, a < 4 ∨ 13 ≤ a → Z' a = Z a) → gdR Z' 4 13 → kv (I, J, Z')) : V (d + 1) 13 5 mX6_init 0 [.ref 4] [] (I, J, Z) (Kv kv) := by
  refine st_aload rX6_init_0 rfl ?_
  refine st_objI rX6_init_1 (Nat.le_of_ble_eq_true rfl) ?_
  refine st_aload rX6_init_4 rfl ?_
  refine st_c rX6_init_5 ?_
  refine st_newi rX6_init_7 (by first | rfl | assumption) (by decide) (by omega) (by omega) (fun k => hI _ k (by omega)) ?_
  refine st_putR rfl rX6_init_9 (by first | assumption | decide | exact ⟨by decide, rfl, by decide⟩ | exact ⟨by omega, rfl, by decide⟩) ?_
  refine st_aload rX6_init_12 rfl ?_
  refine st_c rX6_init_13 ?_
  refine st_newi rX6_init_15 (by first | rfl | assumption) (by decide) (by omega) (by omega) (fun k => hI _ k (by omega)) ?_
  refine st_putR rfl rX6_init_17 (by first | assumption | decide | exact ⟨by decide, rfl, by decide⟩ | exact ⟨by omega, rfl, by decide⟩) ?_
  refine st_aload rX6_init_20 rfl ?_
  refine st_c rX6_init_21 ?_
  refine st_newi rX6_init_23 (by first | rfl | assumption) (by decide) (by omega) (by omega) (fun k => hI _ k (by omega)) ?_
  refine st_putR rfl rX6_init_25 (by first | assumption | decide | exact ⟨by decide, rfl, by decide⟩ | exact ⟨by omega, rfl, by decide⟩) ?_
  refine st_aload rX6_init_28 rfl ?_
  refine st_c rX6_init_29 ?_
  refine st_newi rX6_init_31 (by first | rfl | assumption) (by decide) (by omega) (by omega) (fun k => hI _ k (by omega)) ?_
  refine st_putR rfl rX6_init_33 (by first | assumption | decide | exact ⟨by decide, rfl, by decide⟩ | exact ⟨by omega, rfl, by decide⟩) ?_
  refine st_aload rX6_init_36 rfl ?_
  refine st_c rX6_init_37 ?_
  refine st_newi rX6_init_39 (by first | rfl | assumption) (by decide) (by omega) (by omega) (fun k => hI _ k (by omega)) ?_
  refine st_putR rfl rX6_init_41 (by first | assumption | decide | exact ⟨by decide, rfl, by decide⟩ | exact ⟨by omega, rfl, by decide⟩) ?_
  refine st_aload rX6_init_44 rfl ?_
  refine st_c rX6_init_45 ?_
  refine st_newi rX6_init_47 (by first | rfl | assumption) (by decide) (by omega) (by omega) (fun k => hI _ k (by omega)) ?_
  refine st_putR rfl rX6_init_49 (by first | assumption | decide | exact ⟨by decide, rfl, by decide⟩ | exact ⟨by omega, rfl, by decide⟩) ?_
  refine st_aload rX6_init_52 rfl ?_
  refine st_c rX6_init_53 ?_
  refine st_newi rX6_init_55 (by first | rfl | assumption) (by decide) (by omega) (by omega) (fun k => hI _ k (by omega)) ?_
  refine st_putR rfl rX6_init_57 (by first | assumption | decide | exact ⟨by decide, rfl, by decide⟩ | exact ⟨by omega, rfl, by decide⟩) ?_
  refine st_aload rX6_init_60 rfl ?_
  refine st_c rX6_init_61 ?_
  refine st_newi rX6_init_63 (by first | rfl | assumption) (by decide) (by omega) (by omega) (fun k => hI _ k (by omega)) ?_
  refine st_putR rfl rX6_init_65 (by first | assumption | decide | exact ⟨by decide, rfl, by decide⟩ | exact ⟨by omega, rfl, by decide⟩) ?_
  refine st_vret rX6_init_68 rfl ?_
  refine hk _ (fun a ha => by (repeat rw [up_n (by omega)])) (fun a k h1 h2 hr => ?_)
  by_cases ha : a = 4
  · subst ha
    have hk1 : k < 11 := refk_lt hr
    have hc : k = 0 ∨ k = 1 ∨ k = 2 ∨ k = 3 ∨ k = 4 ∨ k = 5 ∨ k = 6 ∨ k = 7 ∨ k = 8 ∨ k = 9 ∨ k = 10 := by omega
    rcases hc with rfl | rfl | rfl | rfl | rfl | rfl | rfl | rfl | rfl | rfl | rfl
    · exact absurd hr (by decide)
    · exact absurd hr (by decide)
    · exact absurd hr (by decide)
    · simp (disch := omega) only [up_s, va_up_s, va_up_n]; rfl
    · simp (disch := omega) only [up_s, va_up_s, va_up_n]; rfl
    · simp (disch := omega) only [up_s, va_up_s, va_up_n]; rfl
    · simp (disch := omega) only [up_s, va_up_s, va_up_n]; rfl
    · simp (disch := omega) only [up_s, va_up_s, va_up_n]; rfl
    · simp (disch := omega) only [up_s, va_up_s, va_up_n]; rfl
    · simp (disch := omega) only [up_s, va_up_s, va_up_n]; rfl
    · simp (disch := omega) only [up_s, va_up_s, va_up_n]; rfl
  · refine gdR_n ?_ hr
    have hc : a = 5 ∨ a = 6 ∨ a = 7 ∨ a = 8 ∨ a = 9 ∨ a = 10 ∨ a = 11 ∨ a = 12 := by omega
    rcases hc with rfl | rfl | rfl | rfl | rfl | rfl | rfl | rfl <;> decide
set_option maxHeartbeats 4000000 in
set_option maxRecDepth 100000 in
theorem k_told13 (hI : ∀ a k, a < 123 → I a k = 0) (hk : ∀ Z', (∀ a, a < 13 ∨ 22 ≤ a → Z' a = Z a) → gdR Z' 13 22 → kv (I, J, Z')) : V (d + 1) 22 14 mX6_init 0 [.ref 13] [] (I, J, Z) (Kv kv) := by
  refine st_aload rX6_init_0 rfl ?_
  refine st_objI rX6_init_1 (Nat.le_of_ble_eq_true rfl) ?_
  refine st_aload rX6_init_4 rfl ?_
  refine st_c rX6_init_5 ?_
  refine st_newi rX6_init_7 (by first | rfl | assumption) (by decide) (by omega) (by omega) (fun k => hI _ k (by omega)) ?_
  refine st_putR rfl rX6_init_9 (by first | assumption | decide | exact ⟨by decide, rfl, by decide⟩ | exact ⟨by omega, rfl, by decide⟩) ?_
  refine st_aload rX6_init_12 rfl ?_
  refine st_c rX6_init_13 ?_
  refine st_newi rX6_init_15 (by first | rfl | assumption) (by decide) (by omega) (by omega) (fun k => hI _ k (by omega)) ?_
  refine st_putR rfl rX6_init_17 (by first | assumption | decide | exact ⟨by decide, rfl, by decide⟩ | exact ⟨by omega, rfl, by decide⟩) ?_
  refine st_aload rX6_init_20 rfl ?_
  refine st_c rX6_init_21 ?_
  refine st_newi rX6_init_23 (by first | rfl | assumption) (by decide) (by omega) (by omega) (fun k => hI _ k (by omega)) ?_
  refine st_putR rfl rX6_init_25 (by first | assumption | decide | exact ⟨by decide, rfl, by decide⟩ | exact ⟨by omega, rfl, by decide⟩) ?_
  refine st_aload rX6_init_28 rfl ?_
  refine st_c rX6_init_29 ?_
  refine st_newi rX6_init_31 (by first | rfl | assumption) (by decide) (by omega) (by omega) (fun k => hI _ k (by omega)) ?_
  refine st_putR rfl rX6_init_33 (by first | assumption | decide | exact ⟨by decide, rfl, by decide⟩ | exact ⟨by omega, rfl, by decide⟩) ?_
  refine st_aload rX6_init_36 rfl ?_
  refine st_c rX6_init_37 ?_
  refine st_newi rX6_init_39 (by first | rfl | assumption) (by decide) (by omega) (by omega) (fun k => hI _ k (by omega)) ?_
  refine st_putR rfl rX6_init_41 (by first | assumption | decide | exact ⟨by decide, rfl, by decide⟩ | exact ⟨by omega, rfl, by decide⟩) ?_
  refine st_aload rX6_init_44 rfl ?_
  refine st_c rX6_init_45 ?_
  refine st_newi rX6_init_47 (by first | rfl | assumption) (by decide) (by omega) (by omega) (fun k => hI _ k (by omega)) ?_
  refine st_putR rfl rX6_init_49 (by first | assumption | decide | exact ⟨by decide, rfl, by decide⟩ | exact ⟨by omega, rfl, by decide⟩) ?_
  refine st_aload rX6_init_52 rfl ?_
  refine st_c rX6_init_53 ?_
  refine st_newi rX6_init_55 (by first | rfl | assumption) (by decide) (by omega) (by omega) (fun k => hI _ k (by omega)) ?_
  refine st_putR rfl rX6_init_57 (by first | assumption | decide | exact ⟨by decide, rfl, by decide⟩ | exact ⟨by omega, rfl, by decide⟩) ?_
  refine st_aload rX6_init_60 rfl ?_
  refine st_c rX6_init_61 ?_
  refine st_newi rX6_init_63 (by first | rfl | assumption) (by decide) (by omega) (by omega) (fun k => hI _ k (by omega)) ?_
  refine st_putR rfl rX6_init_65 (by first | assumption | decide | exact ⟨by decide, rfl, by decide⟩ | exact ⟨by omega, rfl, by decide⟩) ?_
  refine st_vret rX6_init_68 rfl ?_
  refine hk _ (fun a ha => by (repeat rw [up_n (by omega)])) (fun a k h1 h2 hr => ?_)
  by_cases ha : a = 13
  · subst ha
    have hk1 : k < 11 := refk_lt hr
    have hc : k = 0 ∨ k = 1 ∨ k = 2 ∨ k = 3 ∨ k = 4 ∨ k = 5 ∨ k = 6 ∨ k = 7 ∨ k = 8 ∨ k = 9 ∨ k = 10 := by omega
    rcases hc with rfl | rfl | rfl | rfl | rfl | rfl | rfl | rfl | rfl | rfl | rfl
    · exact absurd hr (by decide)
    · exact absurd hr (by decide)
    · exact absurd hr (by decide)
    · simp (disch := omega) only [up_s, va_up_s, va_up_n]; rfl
    · simp (disch := omega) only [up_s, va_up_s, va_up_n]; rfl
    · simp (disch := omega) only [up_s, va_up_s, va_up_n]; rfl
    · simp (disch := omega) only [up_s, va_up_s, va_up_n]; rfl
    · simp (disch := omega) only [up_s, va_up_s, va_up_n]; rfl
    · simp (disch := omega) only [up_s, va_up_s, va_up_n]; rfl
    · simp (disch := omega) only [up_s, va_up_s, va_up_n]; rfl
    · simp (disch := omega) only [up_s, va_up_s, va_up_n]; rfl
  · refine gdR_n ?_ hr
    have hc : a = 14 ∨ a = 15 ∨ a = 16 ∨ a = 17 ∨ a = 18 ∨ a = 19 ∨ a = 20 ∨ a = 21 := by omega
    rcases hc with rfl | rfl | rfl | rfl | rfl | rfl | rfl | rfl <;> decide
set_option maxHeartbeats 4000000 in
set_option maxRecDepth 100000 in
theorem k_finds (hI : ∀ a k, a < 123 → I a k = 0) (hk : ∀ Z', (∀ a, a < 97 ∨ 100 ≤ a → Z' a = Z a) → gdR Z' 97 100 → kv (I, J, Z')) : V (d + 1) 100 98 mX0_init 0 [.ref 97] [] (I, J, Z) (Kv kv) := by
  refine st_aload rX0_init_0 rfl ?_
  refine st_objI rX0_init_1 (Nat.le_of_ble_eq_true rfl) ?_
  refine st_aload rX0_init_4 rfl ?_
  refine st_c rX0_init_5 ?_
  refine st_newi rX0_init_6 (by first | rfl | assumption) (by decide) (by omega) (by omega) (fun k => hI _ k (by omega)) ?_
  refine st_putR rfl rX0_init_8 (by first | assumption | decide | exact ⟨by decide, rfl, by decide⟩ | exact ⟨by omega, rfl, by decide⟩) ?_
  refine st_aload rX0_init_11 rfl ?_
  refine st_c rX0_init_12 ?_
  refine st_newi rX0_init_13 (by first | rfl | assumption) (by decide) (by omega) (by omega) (fun k => hI _ k (by omega)) ?_
  refine st_putR rfl rX0_init_15 (by first | assumption | decide | exact ⟨by decide, rfl, by decide⟩ | exact ⟨by omega, rfl, by decide⟩) ?_
  refine st_vret rX0_init_18 rfl ?_
  refine hk _ (fun a ha => by (repeat rw [up_n (by omega)])) (fun a k h1 h2 hr => ?_)
  by_cases ha : a = 97
  · subst ha
    have hk1 : k < 3 := refk_lt hr
    have hc : k = 0 ∨ k = 1 ∨ k = 2 := by omega
    rcases hc with rfl | rfl | rfl
    · simp (disch := omega) only [up_s, va_up_s, va_up_n]; rfl
    · simp (disch := omega) only [up_s, va_up_s, va_up_n]; rfl
    · exact absurd hr (by decide)
  · refine gdR_n ?_ hr
    have hc : a = 98 ∨ a = 99 := by omega
    rcases hc with rfl | rfl <;> decide
set_option maxHeartbeats 4000000 in
set_option maxRecDepth 100000 in
theorem k_lot (hI : ∀ a k, a < 123 → I a k = 0) (hk : ∀ Z', (∀ a, a < 100 ∨ 103 ≤ a → Z' a = Z a) → gdR Z' 100 103 → kv (I, J, Z')) : V (d + 1) 103 101 mX3_init 0 [.ref 100] [] (I, J, Z) (Kv kv) := by
  refine st_aload rX3_init_0 rfl ?_
  refine st_objI rX3_init_1 (Nat.le_of_ble_eq_true rfl) ?_
  refine st_aload rX3_init_4 rfl ?_
  refine st_c rX3_init_5 ?_
  refine st_newi rX3_init_7 (by first | rfl | assumption) (by decide) (by omega) (by omega) (fun k => hI _ k (by omega)) ?_
  refine st_putR rfl rX3_init_9 (by first | assumption | decide | exact ⟨by decide, rfl, by decide⟩ | exact ⟨by omega, rfl, by decide⟩) ?_
  refine st_aload rX3_init_12 rfl ?_
  refine st_c rX3_init_13 ?_
  refine st_newi rX3_init_15 (by first | rfl | assumption) (by decide) (by omega) (by omega) (fun k => hI _ k (by omega)) ?_
  refine st_putR rfl rX3_init_17 (by first | assumption | decide | exact ⟨by decide, rfl, by decide⟩ | exact ⟨by omega, rfl, by decide⟩) ?_
  refine st_vret rX3_init_20 rfl ?_
  refine hk _ (fun a ha => by (repeat rw [up_n (by omega)])) (fun a k h1 h2 hr => ?_)
  by_cases ha : a = 100
  · subst ha
    have hk1 : k < 3 := refk_lt hr
    have hc : k = 0 ∨ k = 1 ∨ k = 2 := by omega
    rcases hc with rfl | rfl | rfl
    · simp (disch := omega) only [up_s, va_up_s, va_up_n]; rfl
    · simp (disch := omega) only [up_s, va_up_s, va_up_n]; rfl
    · exact absurd hr (by decide)
  · refine gdR_n ?_ hr
    have hc : a = 101 ∨ a = 102 := by omega
    rcases hc with rfl | rfl <;> decide
set_option maxHeartbeats 4000000 in
set_option maxRecDepth 100000 in
theorem k_model (hI : ∀ a k, a < 123 → I a k = 0) (hk : ∀ Z', (∀ a, a < 103 ∨ 123 ≤ a → Z' a = Z a) → gdR Z' 103 123 → kv (I, J, Z')) : V (d + 1) 123 104 mX8_init 0 [.ref 103] [] (I, J, Z) (Kv kv) := by
  refine st_aload rX8_init_0 rfl ?_
  refine st_objI rX8_init_1 (Nat.le_of_ble_eq_true rfl) ?_
  refine st_aload rX8_init_4 rfl ?_
  refine st_c rX8_init_5 ?_
  refine st_newi rX8_init_8 (by first | rfl | assumption) (by decide) (by omega) (by omega) (fun k => hI _ k (by omega)) ?_
  refine st_putR rfl rX8_init_10 (by first | assumption | decide | exact ⟨by decide, rfl, by decide⟩ | exact ⟨by omega, rfl, by decide⟩) ?_
  refine st_aload rX8_init_13 rfl ?_
  refine st_c rX8_init_14 ?_
  refine st_newi rX8_init_15 (by first | rfl | assumption) (by decide) (by omega) (by omega) (fun k => hI _ k (by omega)) ?_
  refine st_putR rfl rX8_init_17 (by first | assumption | decide | exact ⟨by decide, rfl, by decide⟩ | exact ⟨by omega, rfl, by decide⟩) ?_
  refine st_aload rX8_init_20 rfl ?_
  refine st_c rX8_init_21 ?_
  refine st_newi rX8_init_23 (by first | rfl | assumption) (by decide) (by omega) (by omega) (fun k => hI _ k (by omega)) ?_
  refine st_putR rfl rX8_init_25 (by first | assumption | decide | exact ⟨by decide, rfl, by decide⟩ | exact ⟨by omega, rfl, by decide⟩) ?_
  refine st_aload rX8_init_28 rfl ?_
  refine st_c rX8_init_29 ?_
  refine st_newi rX8_init_31 (by first | rfl | assumption) (by decide) (by omega) (by omega) (fun k => hI _ k (by omega)) ?_
  refine st_putR rfl rX8_init_33 (by first | assumption | decide | exact ⟨by decide, rfl, by decide⟩ | exact ⟨by omega, rfl, by decide⟩) ?_
  refine st_aload rX8_init_36 rfl ?_
  refine st_c rX8_init_37 ?_
  refine st_newi rX8_init_39 (by first | rfl | assumption) (by decide) (by omega) (by omega) (fun k => hI _ k (by omega)) ?_
  refine st_putR rfl rX8_init_41 (by first | assumption | decide | exact ⟨by decide, rfl, by decide⟩ | exact ⟨by omega, rfl, by decide⟩) ?_
  refine st_aload rX8_init_44 rfl ?_
  refine st_c rX8_init_45 ?_
  refine st_newi rX8_init_47 (by first | rfl | assumption) (by decide) (by omega) (by omega) (fun k => hI _ k (by omega)) ?_
  refine st_putR rfl rX8_init_49 (by first | assumption | decide | exact ⟨by decide, rfl, by decide⟩ | exact ⟨by omega, rfl, by decide⟩) ?_
  refine st_aload rX8_init_52 rfl ?_
  refine st_c rX8_init_53 ?_
  refine st_newi rX8_init_55 (by first | rfl | assumption) (by decide) (by omega) (by omega) (fun k => hI _ k (by omega)) ?_
  refine st_putR rfl rX8_init_57 (by first | assumption | decide | exact ⟨by decide, rfl, by decide⟩ | exact ⟨by omega, rfl, by decide⟩) ?_
  refine st_aload rX8_init_60 rfl ?_
  refine st_c rX8_init_61 ?_
  refine st_newi rX8_init_63 (by first | rfl | assumption) (by decide) (by omega) (by omega) (fun k => hI _ k (by omega)) ?_
  refine st_putR rfl rX8_init_65 (by first | assumption | decide | exact ⟨by decide, rfl, by decide⟩ | exact ⟨by omega, rfl, by decide⟩) ?_
  refine st_aload rX8_init_68 rfl ?_
  refine st_c rX8_init_69 ?_
  refine st_newi rX8_init_71 (by first | rfl | assumption) (by decide) (by omega) (by omega) (fun k => hI _ k (by omega)) ?_
  refine st_putR rfl rX8_init_73 (by first | assumption | decide | exact ⟨by decide, rfl, by decide⟩ | exact ⟨by omega, rfl, by decide⟩) ?_
  refine st_aload rX8_init_76 rfl ?_
  refine st_c rX8_init_77 ?_
  refine st_newi rX8_init_79 (by first | rfl | assumption) (by decide) (by omega) (by omega) (fun k => hI _ k (by omega)) ?_
  refine st_putR rfl rX8_init_81 (by first | assumption | decide | exact ⟨by decide, rfl, by decide⟩ | exact ⟨by omega, rfl, by decide⟩) ?_
  refine st_aload rX8_init_84 rfl ?_
  refine st_c rX8_init_85 ?_
  refine st_newi rX8_init_87 (by first | rfl | assumption) (by decide) (by omega) (by omega) (fun k => hI _ k (by omega)) ?_
  refine st_putR rfl rX8_init_89 (by first | assumption | decide | exact ⟨by decide, rfl, by decide⟩ | exact ⟨by omega, rfl, by decide⟩) ?_
  refine st_aload rX8_init_92 rfl ?_
  refine st_c rX8_init_93 ?_
  refine st_newi rX8_init_95 (by first | rfl | assumption) (by decide) (by omega) (by omega) (fun k => hI _ k (by omega)) ?_
  refine st_putR rfl rX8_init_97 (by first | assumption | decide | exact ⟨by decide, rfl, by decide⟩ | exact ⟨by omega, rfl, by decide⟩) ?_
  refine st_aload rX8_init_100 rfl ?_
  refine st_c rX8_init_101 ?_
  refine st_newi rX8_init_103 (by first | rfl | assumption) (by decide) (by omega) (by omega) (fun k => hI _ k (by omega)) ?_
  refine st_putR rfl rX8_init_105 (by first | assumption | decide | exact ⟨by decide, rfl, by decide⟩ | exact ⟨by omega, rfl, by decide⟩) ?_
  refine st_aload rX8_init_108 rfl ?_
  refine st_c rX8_init_109 ?_
  refine st_newz rX8_init_110 (by first | rfl | assumption) (by decide) (by omega) (by omega) (fun k => hI _ k (by omega)) ?_
  refine st_putR rfl rX8_init_112 (by first | assumption | decide | exact ⟨by decide, rfl, by decide⟩ | exact ⟨by omega, rfl, by decide⟩) ?_
  refine st_aload rX8_init_115 rfl ?_
  refine st_c rX8_init_116 ?_
  refine st_newi rX8_init_119 (by first | rfl | assumption) (by decide) (by omega) (by omega) (fun k => hI _ k (by omega)) ?_
  refine st_putR rfl rX8_init_121 (by first | assumption | decide | exact ⟨by decide, rfl, by decide⟩ | exact ⟨by omega, rfl, by decide⟩) ?_
  refine st_aload rX8_init_124 rfl ?_
  refine st_c rX8_init_125 ?_
  refine st_newi rX8_init_126 (by first | rfl | assumption) (by decide) (by omega) (by omega) (fun k => hI _ k (by omega)) ?_
  refine st_putR rfl rX8_init_128 (by first | assumption | decide | exact ⟨by decide, rfl, by decide⟩ | exact ⟨by omega, rfl, by decide⟩) ?_
  refine st_aload rX8_init_131 rfl ?_
  refine st_c rX8_init_132 ?_
  refine st_newi rX8_init_133 (by first | rfl | assumption) (by decide) (by omega) (by omega) (fun k => hI _ k (by omega)) ?_
  refine st_putR rfl rX8_init_135 (by first | assumption | decide | exact ⟨by decide, rfl, by decide⟩ | exact ⟨by omega, rfl, by decide⟩) ?_
  refine st_aload rX8_init_138 rfl ?_
  refine st_c rX8_init_139 ?_
  refine st_newi rX8_init_141 (by first | rfl | assumption) (by decide) (by omega) (by omega) (fun k => hI _ k (by omega)) ?_
  refine st_putR rfl rX8_init_143 (by first | assumption | decide | exact ⟨by decide, rfl, by decide⟩ | exact ⟨by omega, rfl, by decide⟩) ?_
  refine st_aload rX8_init_146 rfl ?_
  refine st_c rX8_init_147 ?_
  refine st_newi rX8_init_149 (by first | rfl | assumption) (by decide) (by omega) (by omega) (fun k => hI _ k (by omega)) ?_
  refine st_putR rfl rX8_init_151 (by first | assumption | decide | exact ⟨by decide, rfl, by decide⟩ | exact ⟨by omega, rfl, by decide⟩) ?_
  refine st_vret rX8_init_154 rfl ?_
  refine hk _ (fun a ha => by (repeat rw [up_n (by omega)])) (fun a k h1 h2 hr => ?_)
  by_cases ha : a = 103
  · subst ha
    have hk1 : k < 29 := refk_lt hr
    have hc : k = 0 ∨ k = 1 ∨ k = 2 ∨ k = 3 ∨ k = 4 ∨ k = 5 ∨ k = 6 ∨ k = 7 ∨ k = 8 ∨ k = 9 ∨ k = 10 ∨ k = 11 ∨ k = 12 ∨ k = 13 ∨ k = 14 ∨ k = 15 ∨ k = 16 ∨ k = 17 ∨ k = 18 ∨ k = 19 ∨ k = 20 ∨ k = 21 ∨ k = 22 ∨ k = 23 ∨ k = 24 ∨ k = 25 ∨ k = 26 ∨ k = 27 ∨ k = 28 := by omega
    rcases hc with rfl | rfl | rfl | rfl | rfl | rfl | rfl | rfl | rfl | rfl | rfl | rfl | rfl | rfl | rfl | rfl | rfl | rfl | rfl | rfl | rfl | rfl | rfl | rfl | rfl | rfl | rfl | rfl | rfl
    · exact absurd hr (by decide)
    · exact absurd hr (by decide)
    · simp (disch := omega) only [up_s, va_up_s, va_up_n]; rfl
    · exact absurd hr (by decide)
    · exact absurd hr (by decide)
    · exact absurd hr (by decide)
    · exact absurd hr (by decide)
    · exact absurd hr (by decide)
    · exact absurd hr (by decide)
    · simp (disch := omega) only [up_s, va_up_s, va_up_n]; rfl
    · simp (disch := omega) only [up_s, va_up_s, va_up_n]; rfl
    · simp (disch := omega) only [up_s, va_up_s, va_up_n]; rfl
    · simp (disch := omega) only [up_s, va_up_s, va_up_n]; rfl
    · simp (disch := omega) only [up_s, va_up_s, va_up_n]; rfl
    · simp (disch := omega) only [up_s, va_up_s, va_up_n]; rfl
    · simp (disch := omega) only [up_s, va_up_s, va_up_n]; rfl
    · simp (disch := omega) only [up_s, va_up_s, va_up_n]; rfl
    · simp (disch := omega) only [up_s, va_up_s, va_up_n]; rfl
    · simp (disch := omega) only [up_s, va_up_s, va_up_n]; rfl
    · simp (disch := omega) only [up_s, va_up_s, va_up_n]; rfl
    · simp (disch := omega) only [up_s, va_up_s, va_up_n]; rfl
    · simp (disch := omega) only [up_s, va_up_s, va_up_n]; rfl
    · simp (disch := omega) only [up_s, va_up_s, va_up_n]; rfl
    · exact absurd hr (by decide)
    · simp (disch := omega) only [up_s, va_up_s, va_up_n]; rfl
    · simp (disch := omega) only [up_s, va_up_s, va_up_n]; rfl
    · exact absurd hr (by decide)
    · simp (disch := omega) only [up_s, va_up_s, va_up_n]; rfl
    · simp (disch := omega) only [up_s, va_up_s, va_up_n]; rfl
  · refine gdR_n ?_ hr
    have hc : a = 104 ∨ a = 105 ∨ a = 106 ∨ a = 107 ∨ a = 108 ∨ a = 109 ∨ a = 110 ∨ a = 111 ∨ a = 112 ∨ a = 113 ∨ a = 114 ∨ a = 115 ∨ a = 116 ∨ a = 117 ∨ a = 118 ∨ a = 119 ∨ a = 120 ∨ a = 121 ∨ a = 122 := by omega
    rcases hc with rfl | rfl | rfl | rfl | rfl | rfl | rfl | rfl | rfl | rfl | rfl | rfl | rfl | rfl | rfl | rfl | rfl | rfl | rfl <;> decide
set_option maxHeartbeats 4000000 in
set_option maxRecDepth 100000 in
theorem k_hang {c : Nat} (hc : vHg c) (hI : ∀ a k, a < 123 → I a k = 0) (hk : ∀ Z', (∀ a, a < c ∨ c + 5 ≤ a → Z' a = Z a) → gdR Z' c (c + 5) → kv (I, J, Z')) : V (d + 1) (c + 5) (c + 1) mX1_init 0 [.ref c] [] (I, J, Z) (Kv kv) := by
  obtain ⟨f0, f1, f2, f3, f4⟩ := hangF hc
  have a1 : vSH (c + 1) = (100, 6) := f1.2.1
  have a2 : vSH (c + 1 + 1) = (100, 6) := f2.2.1
  have a3 : vSH (c + 1 + 1 + 1) = (100, 6) := f3.2.1
  have a4 : vSH (c + 1 + 1 + 1 + 1) = (100, 36) := f4.2.1
  have h123 : c + 4 < 123 := f4.1
  refine st_aload rX1_init_0 rfl ?_
  refine st_objI rX1_init_1 (Nat.le_of_ble_eq_true rfl) ?_
  refine st_aload rX1_init_4 rfl ?_
  refine st_c rX1_init_5 ?_
  refine st_newi rX1_init_7 (by first | rfl | assumption) (by decide) (by omega) (by omega) (fun k => hI _ k (by omega)) ?_
  refine st_putR rfl rX1_init_9 ⟨by omega, hc.2, by decide⟩ ?_
  refine st_aload rX1_init_12 rfl ?_
  refine st_c rX1_init_13 ?_
  refine st_newi rX1_init_15 (by first | rfl | assumption) (by decide) (by omega) (by omega) (fun k => hI _ k (by omega)) ?_
  refine st_putR rfl rX1_init_17 ⟨by omega, hc.2, by decide⟩ ?_
  refine st_aload rX1_init_20 rfl ?_
  refine st_c rX1_init_21 ?_
  refine st_newi rX1_init_23 (by first | rfl | assumption) (by decide) (by omega) (by omega) (fun k => hI _ k (by omega)) ?_
  refine st_putR rfl rX1_init_25 ⟨by omega, hc.2, by decide⟩ ?_
  refine st_aload rX1_init_28 rfl ?_
  refine st_c rX1_init_29 ?_
  refine st_newi rX1_init_31 (by first | rfl | assumption) (by decide) (by omega) (by omega) (fun k => hI _ k (by omega)) ?_
  refine st_putR rfl rX1_init_33 ⟨by omega, hc.2, by decide⟩ ?_
  refine st_vret rX1_init_36 rfl ?_
  refine hk _ (fun a ha => by (repeat rw [up_n (by omega)])) (fun a k h1 h2 hr => ?_)
  by_cases ha : a = c
  · subst ha
    have hk1 : k < 6 := by have := refk_lt hr; rw [hc.2] at this; exact this
    rw [hRR hc]
    simp only [refk, hc.2] at hr
    have hq : k = 0 ∨ k = 1 ∨ k = 2 ∨ k = 3 ∨ k = 4 ∨ k = 5 := by omega
    rcases hq with rfl | rfl | rfl | rfl | rfl | rfl
    · exact absurd hr (by decide)
    · exact absurd hr (by decide)
    · simp (disch := omega) only [up_s, va_up_s, va_up_n]; rfl
    · simp (disch := omega) only [up_s, va_up_s, va_up_n]; rfl
    · simp (disch := omega) only [up_s, va_up_s, va_up_n]; rfl
    · simp (disch := omega) only [up_s, va_up_s, va_up_n]; rfl
  · refine gdR_n (Or.inl ?_) hr
    have hq : a = c + 1 ∨ a = c + 2 ∨ a = c + 3 ∨ a = c + 4 := by omega
    rcases hq with rfl | rfl | rfl | rfl
    · rw [f1.2.1]
    · rw [f2.2.1]
    · rw [f3.2.1]
    · rw [f4.2.1]
theorem k_past_s : ∀ i, i < 10 → vHg (34 + 5 * i) := fun i hi => ⟨by omega, by
  have hc : i = 0 ∨ i = 1 ∨ i = 2 ∨ i = 3 ∨ i = 4 ∨ i = 5 ∨ i = 6 ∨ i = 7 ∨ i = 8 ∨ i = 9 := by omega
  rcases hc with rfl | rfl | rfl | rfl | rfl | rfl | rfl | rfl | rfl | rfl <;> rfl⟩
set_option maxHeartbeats 4000000 in
set_option maxRecDepth 100000 in
theorem k_past (hI : ∀ a k, a < 123 → I a k = 0) (hJ : ∀ a k, J a k = 0) (hZ : ∀ a k, 33 ≤ a → Z a k = none) (hk : ∀ Z', (∀ a, a < 32 ∨ 84 ≤ a → Z' a = Z a) → gdR Z' 32 84 → kv (I, J, Z')) : V (d + 2) 84 33 mX4_init 0 [.ref 32, vJ] [] (I, J, Z) (Kv kv) := by
  have key : ∀ (r i : Nat) (Z2 : Nat → Nat → Option Nat), i + r = 10 → (∀ a, a < 32 ∨ 34 + 5 * i ≤ a → Z2 a = Z a) → gdR Z2 34 (34 + 5 * i) → (∀ k, refk 32 k = true → Z2 32 k = vRR 4 32 k) → (∀ j, j < i → Z2 33 j = some (34 + 5 * j)) → V (d + 2) 84 (34 + 5 * i) mX4_init 15 [.ref 32, .int (nI i)] [] (I, J, Z2) (Kv kv) := by
    intro r
    induction r with
    | zero =>
      intro i Z2 he g g2 g3 g4
      have he : i = 10 := by omega
      subst he
      refine st_iload rX4_init_15 rfl ?_
      refine st_c rX4_init_16 ?_
      first | with_reducible refine st_icmp_geN rX4_init_18 (by omega) (by omega) (fun _ => ?_) (fun h => absurd h (by first | decide | omega | (simp; done) | simp_all)) | refine st_icmp_ge rX4_init_18 (fun _ => ?_) (fun h => absurd h (by first | decide | omega | (simp; done) | simp_all))
      refine st_vret rX4_init_40 rfl ?_
      refine hk Z2 g (fun a k h1 h2 hr => ?_)
      by_cases q1 : a = 32
      · rw [q1] at hr ⊢; exact g3 k hr
      · by_cases q2 : a = 33
        · rw [q2] at hr ⊢
          rw [g4 k (refk_lt hr)]; rfl
        · by_cases q3 : a < 34
          · refine gdR_n ?_ hr
            have hq : a = 86 := by omega
            rw [hq]; decide
          · exact g2 a k (by omega) (by omega) hr
    | succ r ih =>
      intro i Z2 he g g2 g3 g4
      have hg := k_past_s i (by omega)
      have hs := hg.2
      have hrow : Z2 32 0 = some 33 := g3 0 (by decide)
      have hzn : ∀ k, Z2 (34 + 5 * i) k = none := fun k => by rw [g _ (by omega)]; exact hZ _ k (by omega)
      refine st_iload rX4_init_15 rfl ?_
      refine st_c rX4_init_16 ?_
      first | with_reducible refine st_icmp_geN rX4_init_18 (by omega) (by omega) (fun h => absurd h (by first | decide | omega | (simp; done) | simp_all)) (fun _ => ?_) | refine st_icmp_ge rX4_init_18 (fun h => absurd h (by first | decide | omega | (simp; done) | simp_all)) (fun _ => ?_)
      refine st_aload rX4_init_21 rfl ?_
      refine st_getR rX4_init_22 (by first | assumption | exact ⟨by omega, rfl, by decide⟩ | exact ⟨by omega, hs, by decide⟩) (by first | rfl | assumption) rfl ?_
      refine st_iload rX4_init_25 rfl ?_
      refine st_new rX4_init_26 (by first | rfl | assumption) (by decide) (by omega) (by omega) (fun k => hI _ k (by omega)) (fun k => hJ _ k) hzn ?_
      refine st_dup rX4_init_29 rfl ?_
      refine cI0 rX4_init_30 (k_hang hg hI (fun Z3 u v => ?_)) rfl (by decide) (by omega) (by omega)
      refine st_aastN rX4_init_33 (by first | assumption | exact ⟨by omega, rfl, by decide⟩ | exact ⟨by omega, hs, by decide⟩) (by omega) (by first | assumption | exact ⟨by omega, rfl, by decide⟩ | exact ⟨by omega, hs, by decide⟩) ?_
      first | with_reducible refine st_iincN1 rX4_init_34 rfl ?_ | refine st_iinc1 rX4_init_34 rfl ?_
      refine st_goto rX4_init_37 ?_
      have hi5 : 34 + 5 * i + 5 = 34 + 5 * (i + 1) := by omega
      rw [hi5]
      refine ih (i + 1) _ (by omega) (fun a ha => by rw [up_n (by omega), u a (by omega)]; exact g a (by omega)) (fun a k h1 h2 hr => ?_) (fun k hr => ?_) (fun j hj => ?_)
      · rw [up_n (by omega)]
        by_cases q : a < 34 + 5 * i
        · rw [u a (by omega)]; exact g2 a k h1 q hr
        · exact v a k (by omega) (by omega) hr
      · rw [up_n (by omega), u 32 (by omega)]; exact g3 k hr
      · rw [up_s]
        by_cases q : j = i
        · subst q; rw [va_up_s]
        · rw [va_up_n q, u 33 (by omega)]; exact g4 j (by omega)
  refine st_aload rX4_init_0 rfl ?_
  refine st_objI rX4_init_1 (Nat.le_of_ble_eq_true rfl) ?_
  refine st_aload rX4_init_4 rfl ?_
  refine st_c rX4_init_5 ?_
  refine st_newq rX4_init_7 (by first | rfl | assumption) (by decide) (by omega) (by omega) (fun k => by (repeat rw [up_n (by omega)]); exact hZ _ k (by omega)) ?_
  refine st_putR rfl rX4_init_10 (by first | assumption | decide | exact ⟨by decide, rfl, by decide⟩ | exact ⟨by omega, rfl, by decide⟩) ?_
  refine st_c rX4_init_13 ?_
  refine st_istore1 rX4_init_14 rfl ?_
  refine key 10 0 _ (by omega) (fun a ha => by (repeat rw [up_n (by omega)])) (fun a k h1 h2 hr => absurd h1 (by omega)) (fun k hr => ?_) (fun j hj => absurd hj (by omega))
  have hk1 : k < 3 := refk_lt hr
  have hc : k = 0 ∨ k = 1 ∨ k = 2 := by omega
  rcases hc with rfl | rfl | rfl
  · simp (disch := omega) only [up_s, va_up_s, va_up_n]; rfl
  · exact absurd hr (by decide)
  · exact absurd hr (by decide)
theorem k_images_s : ∀ i, i < 2 → vHg (87 + 5 * i) := fun i hi => ⟨by omega, by
  have hc : i = 0 ∨ i = 1 := by omega
  rcases hc with rfl | rfl <;> rfl⟩
set_option maxHeartbeats 4000000 in
set_option maxRecDepth 100000 in
theorem k_images (hI : ∀ a k, a < 123 → I a k = 0) (hJ : ∀ a k, J a k = 0) (hZ : ∀ a k, 85 ≤ a → Z a k = none) (hk : ∀ Z', (∀ a, a < 84 ∨ 97 ≤ a → Z' a = Z a) → gdR Z' 84 97 → kv (I, J, Z')) : V (d + 2) 97 85 mX2_init 0 [.ref 84, vJ] [] (I, J, Z) (Kv kv) := by
  have key : ∀ (r i : Nat) (Z2 : Nat → Nat → Option Nat), i + r = 2 → (∀ a, a < 84 ∨ 87 + 5 * i ≤ a → Z2 a = Z a) → gdR Z2 87 (87 + 5 * i) → (∀ k, refk 84 k = true → Z2 84 k = vRR 4 84 k) → (∀ j, j < i → Z2 85 j = some (87 + 5 * j)) → V (d + 2) 97 (87 + 5 * i) mX2_init 21 [.ref 84, .int (nI i)] [] (I, J, Z2) (Kv kv) := by
    intro r
    induction r with
    | zero =>
      intro i Z2 he g g2 g3 g4
      have he : i = 2 := by omega
      subst he
      refine st_iload rX2_init_21 rfl ?_
      refine st_c rX2_init_22 ?_
      first | with_reducible refine st_icmp_geN rX2_init_23 (by omega) (by omega) (fun _ => ?_) (fun h => absurd h (by first | decide | omega | (simp; done) | simp_all)) | refine st_icmp_ge rX2_init_23 (fun _ => ?_) (fun h => absurd h (by first | decide | omega | (simp; done) | simp_all))
      refine st_vret rX2_init_45 rfl ?_
      refine hk Z2 g (fun a k h1 h2 hr => ?_)
      by_cases q1 : a = 84
      · rw [q1] at hr ⊢; exact g3 k hr
      · by_cases q2 : a = 85
        · rw [q2] at hr ⊢
          rw [g4 k (refk_lt hr)]; rfl
        · by_cases q3 : a < 87
          · refine gdR_n ?_ hr
            have hq : a = 86 := by omega
            rw [hq]; decide
          · exact g2 a k (by omega) (by omega) hr
    | succ r ih =>
      intro i Z2 he g g2 g3 g4
      have hg := k_images_s i (by omega)
      have hs := hg.2
      have hrow : Z2 84 0 = some 85 := g3 0 (by decide)
      have hzn : ∀ k, Z2 (87 + 5 * i) k = none := fun k => by rw [g _ (by omega)]; exact hZ _ k (by omega)
      refine st_iload rX2_init_21 rfl ?_
      refine st_c rX2_init_22 ?_
      first | with_reducible refine st_icmp_geN rX2_init_23 (by omega) (by omega) (fun h => absurd h (by first | decide | omega | (simp; done) | simp_all)) (fun _ => ?_) | refine st_icmp_ge rX2_init_23 (fun h => absurd h (by first | decide | omega | (simp; done) | simp_all)) (fun _ => ?_)
      refine st_aload rX2_init_26 rfl ?_
      refine st_getR rX2_init_27 (by first | assumption | exact ⟨by omega, rfl, by decide⟩ | exact ⟨by omega, hs, by decide⟩) (by first | rfl | assumption) rfl ?_
      refine st_iload rX2_init_30 rfl ?_
      refine st_new rX2_init_31 (by first | rfl | assumption) (by decide) (by omega) (by omega) (fun k => hI _ k (by omega)) (fun k => hJ _ k) hzn ?_
      refine st_dup rX2_init_34 rfl ?_
      refine cI0 rX2_init_35 (k_hang hg hI (fun Z3 u v => ?_)) rfl (by decide) (by omega) (by omega)
      refine st_aastN rX2_init_38 (by first | assumption | exact ⟨by omega, rfl, by decide⟩ | exact ⟨by omega, hs, by decide⟩) (by omega) (by first | assumption | exact ⟨by omega, rfl, by decide⟩ | exact ⟨by omega, hs, by decide⟩) ?_
      first | with_reducible refine st_iincN1 rX2_init_39 rfl ?_ | refine st_iinc1 rX2_init_39 rfl ?_
      refine st_goto rX2_init_42 ?_
      have hi5 : 87 + 5 * i + 5 = 87 + 5 * (i + 1) := by omega
      rw [hi5]
      refine ih (i + 1) _ (by omega) (fun a ha => by rw [up_n (by omega), u a (by omega)]; exact g a (by omega)) (fun a k h1 h2 hr => ?_) (fun k hr => ?_) (fun j hj => ?_)
      · rw [up_n (by omega)]
        by_cases q : a < 87 + 5 * i
        · rw [u a (by omega)]; exact g2 a k h1 q hr
        · exact v a k (by omega) (by omega) hr
      · rw [up_n (by omega), u 84 (by omega)]; exact g3 k hr
      · rw [up_s]
        by_cases q : j = i
        · subst q; rw [va_up_s]
        · rw [va_up_n q, u 85 (by omega)]; exact g4 j (by omega)
  refine st_aload rX2_init_0 rfl ?_
  refine st_objI rX2_init_1 (Nat.le_of_ble_eq_true rfl) ?_
  refine st_aload rX2_init_4 rfl ?_
  refine st_c rX2_init_5 ?_
  refine st_newq rX2_init_6 (by first | rfl | assumption) (by decide) (by omega) (by omega) (fun k => by (repeat rw [up_n (by omega)]); exact hZ _ k (by omega)) ?_
  refine st_putR rfl rX2_init_9 (by first | assumption | decide | exact ⟨by decide, rfl, by decide⟩ | exact ⟨by omega, rfl, by decide⟩) ?_
  refine st_aload rX2_init_12 rfl ?_
  refine st_c rX2_init_13 ?_
  refine st_newz rX2_init_14 (by first | rfl | assumption) (by decide) (by omega) (by omega) (fun k => hI _ k (by omega)) ?_
  refine st_putR rfl rX2_init_16 (by first | assumption | decide | exact ⟨by decide, rfl, by decide⟩ | exact ⟨by omega, rfl, by decide⟩) ?_
  refine st_c rX2_init_19 ?_
  refine st_istore1 rX2_init_20 rfl ?_
  refine key 2 0 _ (by omega) (fun a ha => by (repeat rw [up_n (by omega)])) (fun a k h1 h2 hr => absurd h1 (by omega)) (fun k hr => ?_) (fun j hj => absurd hj (by omega))
  have hk1 : k < 2 := refk_lt hr
  have hc : k = 0 ∨ k = 1 := by omega
  rcases hc with rfl | rfl
  · simp (disch := omega) only [up_s, va_up_s, va_up_n]; rfl
  · simp (disch := omega) only [up_s, va_up_s, va_up_n]; rfl
set_option maxHeartbeats 4000000 in
set_option maxRecDepth 100000 in
theorem k_bell (hI : ∀ a k, a < 123 → I a k = 0) (hJ : ∀ a k, J a k = 0) (hZ : ∀ a k, 1 ≤ a → Z a k = none) (hk : ∀ Z', (∀ a, 103 ≤ a → Z' a = Z a) → gdR Z' 0 103 → kv (I, J, Z')) : V (d + 3) 103 1 mX7_init 0 [.ref 0] [] (I, J, Z) (Kv kv) := by
  refine st_aload rX7_init_0 rfl ?_
  refine st_objI rX7_init_1 (Nat.le_of_ble_eq_true rfl) ?_
  refine st_aload rX7_init_4 rfl ?_
  refine st_new rX7_init_5 rfl (by decide) (by omega) (by omega) (fun k => hI _ k (by omega)) (fun k => hJ _ k) (fun k => by (try simp (disch := omega) only [up_n]); exact hZ _ k (by omega)) ?_
  refine st_dup rX7_init_8 rfl ?_
  refine cI0 rX7_init_9 (k_text hI (fun Z0 u0 v0 => ?_)) rfl (by decide) (by omega) (by omega)
  refine st_putR rfl rX7_init_12 (by first | assumption | decide | exact ⟨by decide, rfl, by decide⟩ | exact ⟨by omega, rfl, by decide⟩) ?_
  refine st_aload rX7_init_15 rfl ?_
  refine st_new rX7_init_16 rfl (by decide) (by omega) (by omega) (fun k => hI _ k (by omega)) (fun k => hJ _ k) (fun k => by (try simp (disch := omega) only [up_n, u0]); exact hZ _ k (by omega)) ?_
  refine st_dup rX7_init_19 rfl ?_
  refine cI0 rX7_init_20 (k_told4 hI (fun Z1 u1 v1 => ?_)) rfl (by decide) (by omega) (by omega)
  refine st_putR rfl rX7_init_23 (by first | assumption | decide | exact ⟨by decide, rfl, by decide⟩ | exact ⟨by omega, rfl, by decide⟩) ?_
  refine st_aload rX7_init_26 rfl ?_
  refine st_new rX7_init_27 rfl (by decide) (by omega) (by omega) (fun k => hI _ k (by omega)) (fun k => hJ _ k) (fun k => by (try simp (disch := omega) only [up_n, u0, u1]); exact hZ _ k (by omega)) ?_
  refine st_dup rX7_init_30 rfl ?_
  refine cI0 rX7_init_31 (k_told13 hI (fun Z2 u2 v2 => ?_)) rfl (by decide) (by omega) (by omega)
  refine st_putR rfl rX7_init_34 (by first | assumption | decide | exact ⟨by decide, rfl, by decide⟩ | exact ⟨by omega, rfl, by decide⟩) ?_
  refine st_aload rX7_init_37 rfl ?_
  refine st_new rX7_init_38 rfl (by decide) (by omega) (by omega) (fun k => hI _ k (by omega)) (fun k => hJ _ k) (fun k => by (try simp (disch := omega) only [up_n, u0, u1, u2]); exact hZ _ k (by omega)) ?_
  refine st_dup rX7_init_41 rfl ?_
  refine cI0 rX7_init_42 (k_hang (c := 22) ⟨by decide, rfl⟩ hI (fun Z3 u3 v3 => ?_)) rfl (by decide) (by omega) (by omega)
  refine st_putR rfl rX7_init_45 (by first | assumption | decide | exact ⟨by decide, rfl, by decide⟩ | exact ⟨by omega, rfl, by decide⟩) ?_
  refine st_aload rX7_init_48 rfl ?_
  refine st_new rX7_init_49 rfl (by decide) (by omega) (by omega) (fun k => hI _ k (by omega)) (fun k => hJ _ k) (fun k => by (try simp (disch := omega) only [up_n, u0, u1, u2, u3]); exact hZ _ k (by omega)) ?_
  refine st_dup rX7_init_52 rfl ?_
  refine cI0 rX7_init_53 (k_hang (c := 27) ⟨by decide, rfl⟩ hI (fun Z4 u4 v4 => ?_)) rfl (by decide) (by omega) (by omega)
  refine st_putR rfl rX7_init_56 (by first | assumption | decide | exact ⟨by decide, rfl, by decide⟩ | exact ⟨by omega, rfl, by decide⟩) ?_
  refine st_aload rX7_init_59 rfl ?_
  refine st_new rX7_init_60 rfl (by decide) (by omega) (by omega) (fun k => hI _ k (by omega)) (fun k => hJ _ k) (fun k => by (try simp (disch := omega) only [up_n, u0, u1, u2, u3, u4]); exact hZ _ k (by omega)) ?_
  refine st_dup rX7_init_63 rfl ?_
  refine cI0 rX7_init_64 (k_past hI hJ (fun a k h => by simp (disch := omega) only [up_n, u0, u1, u2, u3, u4]; exact hZ a k (by omega)) (fun Z5 u5 v5 => ?_)) rfl (by decide) (by omega) (by omega)
  refine st_putR rfl rX7_init_67 (by first | assumption | decide | exact ⟨by decide, rfl, by decide⟩ | exact ⟨by omega, rfl, by decide⟩) ?_
  refine st_aload rX7_init_70 rfl ?_
  refine st_new rX7_init_71 rfl (by decide) (by omega) (by omega) (fun k => hI _ k (by omega)) (fun k => hJ _ k) (fun k => by (try simp (disch := omega) only [up_n, u0, u1, u2, u3, u4, u5]); exact hZ _ k (by omega)) ?_
  refine st_dup rX7_init_74 rfl ?_
  refine cI0 rX7_init_75 (k_images hI hJ (fun a k h => by simp (disch := omega) only [up_n, u0, u1, u2, u3, u4, u5]; exact hZ a k (by omega)) (fun Z6 u6 v6 => ?_)) rfl (by decide) (by omega) (by omega)
  refine st_putR rfl rX7_init_78 (by first | assumption | decide | exact ⟨by decide, rfl, by decide⟩ | exact ⟨by omega, rfl, by decide⟩) ?_
  refine st_aload rX7_init_81 rfl ?_
  refine st_new rX7_init_82 rfl (by decide) (by omega) (by omega) (fun k => hI _ k (by omega)) (fun k => hJ _ k) (fun k => by (try simp (disch := omega) only [up_n, u0, u1, u2, u3, u4, u5, u6]); exact hZ _ k (by omega)) ?_
  refine st_dup rX7_init_85 rfl ?_
  refine cI0 rX7_init_86 (k_finds hI (fun Z7 u7 v7 => ?_)) rfl (by decide) (by omega) (by omega)
  refine st_putR rfl rX7_init_89 (by first | assumption | decide | exact ⟨by decide, rfl, by decide⟩ | exact ⟨by omega, rfl, by decide⟩) ?_
  refine st_aload rX7_init_92 rfl ?_
  refine st_new rX7_init_93 rfl (by decide) (by omega) (by omega) (fun k => hI _ k (by omega)) (fun k => hJ _ k) (fun k => by (try simp (disch := omega) only [up_n, u0, u1, u2, u3, u4, u5, u6, u7]); exact hZ _ k (by omega)) ?_
  refine st_dup rX7_init_96 rfl ?_
  refine cI0 rX7_init_97 (k_lot hI (fun Z8 u8 v8 => ?_)) rfl (by decide) (by omega) (by omega)
  refine st_putR rfl rX7_init_100 (by first | assumption | decide | exact ⟨by decide, rfl, by decide⟩ | exact ⟨by omega, rfl, by decide⟩) ?_
  refine st_vret rX7_init_103 rfl ?_
  refine hk _ (fun a ha => by simp (disch := omega) only [up_n, u0, u1, u2, u3, u4, u5, u6, u7, u8]) (fun a k h1 h2 hr => ?_)
  by_cases q : a = 0
  · subst q
    have hk1 : k < 10 := refk_lt hr
    have hc : k = 0 ∨ k = 1 ∨ k = 2 ∨ k = 3 ∨ k = 4 ∨ k = 5 ∨ k = 6 ∨ k = 7 ∨ k = 8 ∨ k = 9 := by omega
    rcases hc with rfl | rfl | rfl | rfl | rfl | rfl | rfl | rfl | rfl | rfl
    · simp (disch := omega) only [up_s, va_up_s, va_up_n, u0, u1, u2, u3, u4, u5, u6, u7, u8]; rfl
    · simp (disch := omega) only [up_s, va_up_s, va_up_n, u0, u1, u2, u3, u4, u5, u6, u7, u8]; rfl
    · simp (disch := omega) only [up_s, va_up_s, va_up_n, u0, u1, u2, u3, u4, u5, u6, u7, u8]; rfl
    · simp (disch := omega) only [up_s, va_up_s, va_up_n, u0, u1, u2, u3, u4, u5, u6, u7, u8]; rfl
    · simp (disch := omega) only [up_s, va_up_s, va_up_n, u0, u1, u2, u3, u4, u5, u6, u7, u8]; rfl
    · simp (disch := omega) only [up_s, va_up_s, va_up_n, u0, u1, u2, u3, u4, u5, u6, u7, u8]; rfl
    · simp (disch := omega) only [up_s, va_up_s, va_up_n, u0, u1, u2, u3, u4, u5, u6, u7, u8]; rfl
    · simp (disch := omega) only [up_s, va_up_s, va_up_n, u0, u1, u2, u3, u4, u5, u6, u7, u8]; rfl
    · simp (disch := omega) only [up_s, va_up_s, va_up_n, u0, u1, u2, u3, u4, u5, u6, u7, u8]; rfl
    · exact absurd hr (by decide)
  · by_cases q0 : a < 4
    · simp (disch := omega) only [up_n, u1, u2, u3, u4, u5, u6, u7, u8]
      exact v0 a k (by omega) (by omega) hr
    · by_cases q1 : a < 13
      · simp (disch := omega) only [up_n, u2, u3, u4, u5, u6, u7, u8]
        exact v1 a k (by omega) (by omega) hr
      · by_cases q2 : a < 22
        · simp (disch := omega) only [up_n, u3, u4, u5, u6, u7, u8]
          exact v2 a k (by omega) (by omega) hr
        · by_cases q3 : a < 27
          · simp (disch := omega) only [up_n, u4, u5, u6, u7, u8]
            exact v3 a k (by omega) (by omega) hr
          · by_cases q4 : a < 32
            · simp (disch := omega) only [up_n, u5, u6, u7, u8]
              exact v4 a k (by omega) (by omega) hr
            · by_cases q5 : a < 84
              · simp (disch := omega) only [up_n, u6, u7, u8]
                exact v5 a k (by omega) (by omega) hr
              · by_cases q6 : a < 97
                · simp (disch := omega) only [up_n, u7, u8]
                  exact v6 a k (by omega) (by omega) hr
                · by_cases q7 : a < 100
                  · simp (disch := omega) only [up_n, u8]
                    exact v7 a k (by omega) (by omega) hr
                  · by_cases q8 : a < 103
                    · simp (disch := omega) only [up_n]
                      exact v8 a k (by omega) (by omega) hr
                    · omega
end P56
