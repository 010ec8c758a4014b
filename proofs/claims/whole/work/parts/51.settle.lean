/-! ===== what a text has told becomes what is: the reference settles ===== -/
def fw0 (D : Nat → Nat → Nat) (k : Nat) : Nat := if k / 6 = k % 6 then 0 else if 0 < D 4 k then D 4 k else 1000000
def fws (F : Nat → Nat) (b : Nat) (k : Nat) : Nat := if F (k / 6 * 6 + b) + F (6 * b + k % 6) < F k then F (k / 6 * 6 + b) + F (6 * b + k % 6) else F k
def fwn (D : Nat → Nat → Nat) : Nat → Nat → Nat
  | 0 => fw0 D
  | n + 1 => fws (fwn D n) n
/-- the ways are sound behind n passes -/
def OkW (F : Nat → Nat) (n : Nat) : Prop := ∀ k, k < 36 → (F k = 1000000 ∨ F k ≤ 9 * 2 ^ n) ∧ (F k = 0 ↔ k / 6 = k % 6)
theorem pw6 {n : Nat} (h : n ≤ 6) : 2 ^ n ≤ 64 := by
  have hc : n = 0 ∨ n = 1 ∨ n = 2 ∨ n = 3 ∨ n = 4 ∨ n = 5 ∨ n = 6 := by omega
  rcases hc with rfl | rfl | rfl | rfl | rfl | rfl | rfl <;> decide
theorem okW_le {F : Nat → Nat} {n k : Nat} (h : OkW F n) (hn : n ≤ 6) (hk : k < 36) : F k ≤ 1000000 := by
  have h1 := (h k hk).1
  have h2 := pw6 hn
  omega
theorem okW_0 {D : Nat → Nat → Nat} (hO : OkD D) : OkW (fw0 D) 0 := by
  intro k hk
  have h9 := hO.2.2.2.1 k hk
  simp only [fw0]
  by_cases e : k / 6 = k % 6
  · rw [if_pos e]
    exact ⟨Or.inr (by omega), fun _ => e, fun _ => rfl⟩
  · rw [if_neg e]
    by_cases e2 : 0 < D 4 k
    · rw [if_pos e2]
      exact ⟨Or.inr (by omega), fun h => absurd h (by omega), fun h => absurd h e⟩
    · rw [if_neg e2]
      exact ⟨Or.inl rfl, fun h => absurd h (by omega), fun h => absurd h e⟩
theorem okW_s {F : Nat → Nat} {n : Nat} (h : OkW F n) (hn : n < 6) : OkW (fws F n) (n + 1) := by
  intro k hk
  have h0 := h k hk
  have h1 := h (k / 6 * 6 + n) (by omega)
  have h2 := h (6 * n + k % 6) (by omega)
  rw [show (k / 6 * 6 + n) / 6 = k / 6 by omega, show (k / 6 * 6 + n) % 6 = n by omega] at h1
  rw [show (6 * n + k % 6) / 6 = n by omega, show (6 * n + k % 6) % 6 = k % 6 by omega] at h2
  have hp : 2 ^ (n + 1) = 2 * 2 ^ n := by rw [Nat.pow_succ, Nat.mul_comm]
  have h6 := pw6 (show n ≤ 6 by omega)
  rw [hp]
  simp only [fws]
  generalize F (k / 6 * 6 + n) = x at *
  generalize F (6 * n + k % 6) = y at *
  generalize F k = z at *
  generalize 2 ^ n = w at *
  by_cases e : x + y < z
  · rw [if_pos e]
    refine ⟨Or.inr ?_, fun h => ?_, fun h => ?_⟩
    · omega
    · have hx : x = 0 := by omega
      have hy : y = 0 := by omega
      have q1 := h1.2.mp hx
      have q2 := h2.2.mp hy
      omega
    · have := h0.2.mpr h; omega
  · rw [if_neg e]
    exact ⟨by omega, h0.2⟩
theorem okW_n {D : Nat → Nat → Nat} (hO : OkD D) : ∀ n, n ≤ 6 → OkW (fwn D n) n := by
  intro n
  induction n with
  | zero => intro _; exact okW_0 hO
  | succ n ih => intro h; exact okW_s (ih (by omega)) (by omega)
theorem fws_col {F : Nat → Nat} {n b : Nat} (h : OkW F n) (hb : b < 6) {a : Nat} (ha : a < 6) : fws F b (a * 6 + b) = F (a * 6 + b) := by
  have h0 := (h (6 * b + b) (by omega)).2.mpr (by omega)
  simp only [fws]
  rw [show (a * 6 + b) / 6 = a by omega, show (a * 6 + b) % 6 = b by omega, h0]
  split <;> rfl
theorem fws_row {F : Nat → Nat} {n b : Nat} (h : OkW F n) (hb : b < 6) {a : Nat} (ha : a < 6) : fws F b (6 * b + a) = F (6 * b + a) := by
  have h0 := (h (b * 6 + b) (by omega)).2.mpr (by omega)
  simp only [fws]
  rw [show (6 * b + a) / 6 = b by omega, show (6 * b + a) % 6 = a by omega, h0]
  rw [if_neg (by omega)]
def mxI (x y : Int32) : Int32 := if y ≤ x then x else y
theorem mxI_n {a b : Nat} (ha : a < 2147483648) (hb : b < 2147483648) : mxI (nI a) (nI b) = nI (max a b) := by
  simp only [mxI]
  by_cases h : b ≤ a
  · rw [if_pos (by rw [Int32.le_iff_toInt_le, nI_toInt ha, nI_toInt hb]; omega), Nat.max_eq_left h]
  · rw [if_neg (by rw [Int32.le_iff_toInt_le, nI_toInt ha, nI_toInt hb]; omega), Nat.max_eq_right (by omega)]
theorem rw_up {R R0 : Nat → Int32} {t : Nat} (h : ∀ j, R j = if j < t then R0 (6 + j) else R0 j) : ∀ j, va_up R t (R (6 + t)) j = if j < t + 1 then R0 (6 + j) else R0 j := by
  intro j
  by_cases e : j = t
  · subst e
    rw [va_up_s, h, if_neg (by omega), if_pos (by omega)]
  · rw [va_up_n e, h]
    by_cases e2 : j < t
    · rw [if_pos e2, if_pos (by omega)]
    · rw [if_neg e2, if_neg (by omega)]
/-- five rows and the sixth -/
def r5 (a : Nat) : Prop := a = 107 ∨ a = 108 ∨ a = 110 ∨ a = 111 ∨ a = 112
section P51
variable {d : Nat} {I A : Nat → Nat → Int32} {J : Nat → Nat → Int64} {ρ m no : Nat} {T : Int64} {k : Int32 → vS → Prop} {kl : Int64 → vS → Prop} {kv : vS → Prop}
variable {D : Nat → Nat → Nat} {K : Option Value → vS → Prop}
set_option maxHeartbeats 4000000 in
set_option maxRecDepth 100000 in
theorem s_set1 (hk : ∀ I', (∀ a, a ≠ 114 → I' a = I a) → (∀ j, j < 56 → I' 114 j = nI 0) → V d 123 123 mX8_settles 45 [.ref 103, .int (nI 56), vJ, vJ] [] (I', J, vRR ρ) K) : V d 123 123 mX8_settles 26 [.ref 103, .int (nI 0), vJ, vJ] [] (I, J, vRR ρ) K := by
  have key : ∀ (r t : Nat) (I2 : Nat → Nat → Int32), t + r = 56 → (∀ a, a ≠ 114 → I2 a = I a) → (∀ j, j < t → I2 114 j = nI 0) → V d 123 123 mX8_settles 26 [.ref 103, .int (nI t), vJ, vJ] [] (I2, J, vRR ρ) K := by
    intro r
    induction r with
    | zero =>
      intro t I2 he g g2
      have he : t = 56 := by omega
      subst he
      refine st_iload rX8_settles_26 rfl ?_
      refine st_c rX8_settles_27 ?_
      first | with_reducible refine st_icmp_geN rX8_settles_29 (by omega) (by omega) (fun _ => ?_) (fun h => absurd h (by first | decide | omega | (simp; done) | simp_all)) | refine st_icmp_ge rX8_settles_29 (fun _ => ?_) (fun h => absurd h (by first | decide | omega | (simp; done) | simp_all))
      exact hk I2 g g2
    | succ r ih =>
      intro t I2 he g g2
      refine st_iload rX8_settles_26 rfl ?_
      refine st_c rX8_settles_27 ?_
      first | with_reducible refine st_icmp_geN rX8_settles_29 (by omega) (by omega) (fun h => absurd h (by first | decide | omega | (simp; done) | simp_all)) (fun _ => ?_) | refine st_icmp_ge rX8_settles_29 (fun h => absurd h (by first | decide | omega | (simp; done) | simp_all)) (fun _ => ?_)
      refine st_aload rX8_settles_32 rfl ?_
      refine st_getR rX8_settles_33 (by first | assumption | decide | exact ⟨by decide, rfl, by decide⟩) (by first | rfl | assumption) rfl ?_
      refine st_iload rX8_settles_36 rfl ?_
      refine st_c rX8_settles_37 ?_
      refine st_iastN rX8_settles_38 (by first | assumption | decide | exact ⟨by decide, rfl, by decide⟩) (by omega) ?_
      first | with_reducible refine st_iincN1 rX8_settles_39 rfl ?_ | refine st_iinc1 rX8_settles_39 rfl ?_
      refine st_goto rX8_settles_42 ?_
      refine ih (t + 1) _ (by omega) (fun a ha => by rw [up_n ha, g a ha]) (fun j hj => ?_)
      rw [up_s]
      by_cases e : j = t
      · subst e; rw [va_up_s]
      · rw [va_up_n e]; exact g2 j (by omega)
  exact key 56 0 I (by omega) (fun _ _ => rfl) (fun j hj => absurd hj (by omega))
set_option maxHeartbeats 4000000 in
set_option maxRecDepth 100000 in
theorem s_set2 (hk : ∀ I', (∀ a, ¬ r5 a → a ≠ 114 → I' a = I a) → (∀ a, r5 a → ∀ j, I' a j = if j < 6 then I a (6 + j) else I a j) → (∀ j, I' 114 j = if 2 ≤ j ∧ j < 2 + 6 then nI (j - 2) else if 8 ≤ j ∧ j < 8 + 6 then mxI (I 106 (j - 2)) (I 107 (j - 2)) else I 114 j) → V d 123 123 mX8_settles 188 [.ref 103, .int (nI 6), vJ, vJ] [] (I', J, vRR ρ) K) : V d 123 123 mX8_settles 47 [.ref 103, .int (nI 0), vJ, vJ] [] (I, J, vRR ρ) K := by
  have key : ∀ (r t : Nat) (I2 : Nat → Nat → Int32), t + r = 6 → (∀ a, ¬ r5 a → a ≠ 114 → I2 a = I a) → (∀ a, r5 a → ∀ j, I2 a j = if j < t then I a (6 + j) else I a j) → (∀ j, I2 114 j = if 2 ≤ j ∧ j < 2 + t then nI (j - 2) else if 8 ≤ j ∧ j < 8 + t then mxI (I 106 (j - 2)) (I 107 (j - 2)) else I 114 j) → V d 123 123 mX8_settles 47 [.ref 103, .int (nI t), vJ, vJ] [] (I2, J, vRR ρ) K := by
    intro r
    induction r with
    | zero =>
      intro t I2 he g g2 g3
      have he : t = 6 := by omega
      subst he
      refine st_iload rX8_settles_47 rfl ?_
      refine st_c rX8_settles_48 ?_
      first | with_reducible refine st_icmp_geN rX8_settles_50 (by omega) (by omega) (fun _ => ?_) (fun h => absurd h (by first | decide | omega | (simp; done) | simp_all)) | refine st_icmp_ge rX8_settles_50 (fun _ => ?_) (fun h => absurd h (by first | decide | omega | (simp; done) | simp_all))
      exact hk I2 g g2 g3
    | succ r ih =>
      intro t I2 he g g2 g3
      refine st_iload rX8_settles_47 rfl ?_
      refine st_c rX8_settles_48 ?_
      first | with_reducible refine st_icmp_geN rX8_settles_50 (by omega) (by omega) (fun h => absurd h (by first | decide | omega | (simp; done) | simp_all)) (fun _ => ?_) | refine st_icmp_ge rX8_settles_50 (fun h => absurd h (by first | decide | omega | (simp; done) | simp_all)) (fun _ => ?_)
      refine st_aload rX8_settles_53 rfl ?_
      refine st_getR rX8_settles_54 (by first | assumption | decide | exact ⟨by decide, rfl, by decide⟩) (by first | rfl | assumption) rfl ?_
      refine st_iload rX8_settles_57 rfl ?_
      refine st_aload rX8_settles_58 rfl ?_
      refine st_getR rX8_settles_59 (by first | assumption | decide | exact ⟨by decide, rfl, by decide⟩) (by first | rfl | assumption) rfl ?_
      refine st_c rX8_settles_62 ?_
      refine st_iload rX8_settles_64 rfl ?_
      first | with_reducible refine st_iaddN rX8_settles_65 ?_ | refine st_iadd rX8_settles_65 ?_
      refine st_ialdN rX8_settles_66 (by first | assumption | decide | exact ⟨by decide, rfl, by decide⟩) (by omega) ?_
      refine st_iastN rX8_settles_67 (by first | assumption | decide | exact ⟨by decide, rfl, by decide⟩) (by omega) ?_
      refine st_aload rX8_settles_68 rfl ?_
      refine st_getR rX8_settles_69 (by first | assumption | decide | exact ⟨by decide, rfl, by decide⟩) (by first | rfl | assumption) rfl ?_
      refine st_iload rX8_settles_72 rfl ?_
      refine st_aload rX8_settles_73 rfl ?_
      refine st_getR rX8_settles_74 (by first | assumption | decide | exact ⟨by decide, rfl, by decide⟩) (by first | rfl | assumption) rfl ?_
      refine st_c rX8_settles_77 ?_
      refine st_iload rX8_settles_79 rfl ?_
      first | with_reducible refine st_iaddN rX8_settles_80 ?_ | refine st_iadd rX8_settles_80 ?_
      refine st_ialdN rX8_settles_81 (by first | assumption | decide | exact ⟨by decide, rfl, by decide⟩) (by omega) ?_
      refine st_iastN rX8_settles_82 (by first | assumption | decide | exact ⟨by decide, rfl, by decide⟩) (by omega) ?_
      refine st_aload rX8_settles_83 rfl ?_
      refine st_getR rX8_settles_84 (by first | assumption | decide | exact ⟨by decide, rfl, by decide⟩) (by first | rfl | assumption) rfl ?_
      refine st_iload rX8_settles_87 rfl ?_
      refine st_aload rX8_settles_88 rfl ?_
      refine st_getR rX8_settles_89 (by first | assumption | decide | exact ⟨by decide, rfl, by decide⟩) (by first | rfl | assumption) rfl ?_
      refine st_c rX8_settles_92 ?_
      refine st_iload rX8_settles_94 rfl ?_
      first | with_reducible refine st_iaddN rX8_settles_95 ?_ | refine st_iadd rX8_settles_95 ?_
      refine st_ialdN rX8_settles_96 (by first | assumption | decide | exact ⟨by decide, rfl, by decide⟩) (by omega) ?_
      refine st_iastN rX8_settles_97 (by first | assumption | decide | exact ⟨by decide, rfl, by decide⟩) (by omega) ?_
      refine st_aload rX8_settles_98 rfl ?_
      refine st_getR rX8_settles_99 (by first | assumption | decide | exact ⟨by decide, rfl, by decide⟩) (by first | rfl | assumption) rfl ?_
      refine st_iload rX8_settles_102 rfl ?_
      refine st_aload rX8_settles_103 rfl ?_
      refine st_getR rX8_settles_104 (by first | assumption | decide | exact ⟨by decide, rfl, by decide⟩) (by first | rfl | assumption) rfl ?_
      refine st_c rX8_settles_107 ?_
      refine st_iload rX8_settles_109 rfl ?_
      first | with_reducible refine st_iaddN rX8_settles_110 ?_ | refine st_iadd rX8_settles_110 ?_
      refine st_ialdN rX8_settles_111 (by first | assumption | decide | exact ⟨by decide, rfl, by decide⟩) (by omega) ?_
      refine st_iastN rX8_settles_112 (by first | assumption | decide | exact ⟨by decide, rfl, by decide⟩) (by omega) ?_
      refine st_aload rX8_settles_113 rfl ?_
      refine st_getR rX8_settles_114 (by first | assumption | decide | exact ⟨by decide, rfl, by decide⟩) (by first | rfl | assumption) rfl ?_
      refine st_iload rX8_settles_117 rfl ?_
      refine st_aload rX8_settles_118 rfl ?_
      refine st_getR rX8_settles_119 (by first | assumption | decide | exact ⟨by decide, rfl, by decide⟩) (by first | rfl | assumption) rfl ?_
      refine st_c rX8_settles_122 ?_
      refine st_iload rX8_settles_124 rfl ?_
      first | with_reducible refine st_iaddN rX8_settles_125 ?_ | refine st_iadd rX8_settles_125 ?_
      refine st_ialdN rX8_settles_126 (by first | assumption | decide | exact ⟨by decide, rfl, by decide⟩) (by omega) ?_
      refine st_iastN rX8_settles_127 (by first | assumption | decide | exact ⟨by decide, rfl, by decide⟩) (by omega) ?_
      refine st_aload rX8_settles_128 rfl ?_
      refine st_getR rX8_settles_129 (by first | assumption | decide | exact ⟨by decide, rfl, by decide⟩) (by first | rfl | assumption) rfl ?_
      refine st_c rX8_settles_132 ?_
      refine st_iload rX8_settles_133 rfl ?_
      first | with_reducible refine st_iaddN rX8_settles_134 ?_ | refine st_iadd rX8_settles_134 ?_
      refine st_iload rX8_settles_135 rfl ?_
      refine st_iastN rX8_settles_136 (by first | assumption | decide | exact ⟨by decide, rfl, by decide⟩) (by omega) ?_
      skip
      generalize hI3 : up _ 114 _ = I3
      have a1 : ∀ a, ¬ r5 a → a ≠ 114 → I3 a = I a := by
        intro a h1 h2
        have h3 : a ≠ 107 ∧ a ≠ 108 ∧ a ≠ 110 ∧ a ≠ 111 ∧ a ≠ 112 := by simp only [r5] at h1; omega
        rw [← hI3]
        simp (disch := omega) only [up_n]
        exact g a h1 h2
      have a2 : ∀ a, r5 a → ∀ j, I3 a j = if j < t + 1 then I a (6 + j) else I a j := by
        intro a ha
        have := rw_up (g2 a ha)
        rw [← hI3]
        rcases ha with rfl | rfl | rfl | rfl | rfl <;> (simp (disch := omega) only [up_n, up_s]; exact this)
      have a3 : ∀ j, I3 114 j = if j = 2 + t then nI t else I2 114 j := by
        intro j
        rw [← hI3]
        simp (disch := omega) only [up_n, up_s]
        rfl
      have a4 : I3 106 = I 106 := a1 106 (by simp only [r5]; omega) (by decide)
      have a5 : I3 107 t = I 107 (6 + t) := by rw [a2 107 (Or.inl rfl), if_pos (by omega)]
      have tail : V d 123 123 mX8_settles 181 [.ref 103, .int (nI t), vJ, vJ] [.int (mxI (I 106 (6 + t)) (I 107 (6 + t))), .int (nI (8 + t)), .ref 114] (I3, J, vRR ρ) K := by
        refine st_iastN rX8_settles_181 (by first | assumption | decide | exact ⟨by decide, rfl, by decide⟩) (by omega) ?_
        first | with_reducible refine st_iincN1 rX8_settles_182 rfl ?_ | refine st_iinc1 rX8_settles_182 rfl ?_
        refine st_goto rX8_settles_185 ?_
        refine ih (t + 1) _ (by omega) (fun a h1 h2 => by rw [up_n h2]; exact a1 a h1 h2) (fun a ha j => by rw [up_n (by rcases ha with h | h | h | h | h <;> omega)]; exact a2 a ha j) (fun j => ?_)
        rw [up_s]
        by_cases e : j = 8 + t
        · subst e
          rw [va_up_s, if_neg (by omega), if_pos (by omega), show 8 + t - 2 = 6 + t by omega]
        · rw [va_up_n e, a3]
          by_cases e2 : j = 2 + t
          · rw [if_pos e2, if_pos (by omega), e2, show 2 + t - 2 = t by omega]
          · rw [if_neg e2, g3]
            by_cases e3 : 2 ≤ j ∧ j < 2 + t
            · rw [if_pos e3, if_pos (by omega)]
            · rw [if_neg e3, if_neg (show ¬ (2 ≤ j ∧ j < 2 + (t + 1)) by omega)]
              by_cases e4 : 8 ≤ j ∧ j < 8 + t
              · rw [if_pos e4, if_pos (show 8 ≤ j ∧ j < 8 + (t + 1) by omega)]
              · rw [if_neg e4, if_neg (show ¬ (8 ≤ j ∧ j < 8 + (t + 1)) by omega)]
      by_cases hc : I 107 (6 + t) ≤ I 106 (6 + t)
      · rw [show mxI (I 106 (6 + t)) (I 107 (6 + t)) = I 106 (6 + t) by simp only [mxI]; rw [if_pos hc]] at tail
        refine st_aload rX8_settles_137 rfl ?_
        refine st_getR rX8_settles_138 (by first | assumption | decide | exact ⟨by decide, rfl, by decide⟩) (by first | rfl | assumption) rfl ?_
        refine st_c rX8_settles_141 ?_
        refine st_iload rX8_settles_143 rfl ?_
        first | with_reducible refine st_iaddN rX8_settles_144 ?_ | refine st_iadd rX8_settles_144 ?_
        refine st_aload rX8_settles_145 rfl ?_
        refine st_getR rX8_settles_146 (by first | assumption | decide | exact ⟨by decide, rfl, by decide⟩) (by first | rfl | assumption) rfl ?_
        refine st_c rX8_settles_149 ?_
        refine st_iload rX8_settles_151 rfl ?_
        first | with_reducible refine st_iaddN rX8_settles_152 ?_ | refine st_iadd rX8_settles_152 ?_
        refine st_ialdN rX8_settles_153 (by first | assumption | decide | exact ⟨by decide, rfl, by decide⟩) (by omega) ?_
        refine st_top (congrFun a4 _) ?_
        refine st_aload rX8_settles_154 rfl ?_
        refine st_getR rX8_settles_155 (by first | assumption | decide | exact ⟨by decide, rfl, by decide⟩) (by first | rfl | assumption) rfl ?_
        refine st_iload rX8_settles_158 rfl ?_
        refine st_ialdN rX8_settles_159 (by first | assumption | decide | exact ⟨by decide, rfl, by decide⟩) (by omega) ?_
        refine st_top a5 ?_
        refine st_icmp_ge rX8_settles_160 (fun _ => ?_) (fun h => absurd hc h)
        refine st_aload rX8_settles_172 rfl ?_
        refine st_getR rX8_settles_173 (by first | assumption | decide | exact ⟨by decide, rfl, by decide⟩) (by first | rfl | assumption) rfl ?_
        refine st_c rX8_settles_176 ?_
        refine st_iload rX8_settles_178 rfl ?_
        first | with_reducible refine st_iaddN rX8_settles_179 ?_ | refine st_iadd rX8_settles_179 ?_
        refine st_ialdN rX8_settles_180 (by first | assumption | decide | exact ⟨by decide, rfl, by decide⟩) (by omega) ?_
        refine st_top (congrFun a4 _) ?_
        exact tail
      · rw [show mxI (I 106 (6 + t)) (I 107 (6 + t)) = I 107 (6 + t) by simp only [mxI]; rw [if_neg hc]] at tail
        refine st_aload rX8_settles_137 rfl ?_
        refine st_getR rX8_settles_138 (by first | assumption | decide | exact ⟨by decide, rfl, by decide⟩) (by first | rfl | assumption) rfl ?_
        refine st_c rX8_settles_141 ?_
        refine st_iload rX8_settles_143 rfl ?_
        first | with_reducible refine st_iaddN rX8_settles_144 ?_ | refine st_iadd rX8_settles_144 ?_
        refine st_aload rX8_settles_145 rfl ?_
        refine st_getR rX8_settles_146 (by first | assumption | decide | exact ⟨by decide, rfl, by decide⟩) (by first | rfl | assumption) rfl ?_
        refine st_c rX8_settles_149 ?_
        refine st_iload rX8_settles_151 rfl ?_
        first | with_reducible refine st_iaddN rX8_settles_152 ?_ | refine st_iadd rX8_settles_152 ?_
        refine st_ialdN rX8_settles_153 (by first | assumption | decide | exact ⟨by decide, rfl, by decide⟩) (by omega) ?_
        refine st_top (congrFun a4 _) ?_
        refine st_aload rX8_settles_154 rfl ?_
        refine st_getR rX8_settles_155 (by first | assumption | decide | exact ⟨by decide, rfl, by decide⟩) (by first | rfl | assumption) rfl ?_
        refine st_iload rX8_settles_158 rfl ?_
        refine st_ialdN rX8_settles_159 (by first | assumption | decide | exact ⟨by decide, rfl, by decide⟩) (by omega) ?_
        refine st_top a5 ?_
        refine st_icmp_ge rX8_settles_160 (fun h => absurd h hc) (fun _ => ?_)
        refine st_aload rX8_settles_163 rfl ?_
        refine st_getR rX8_settles_164 (by first | assumption | decide | exact ⟨by decide, rfl, by decide⟩) (by first | rfl | assumption) rfl ?_
        refine st_iload rX8_settles_167 rfl ?_
        refine st_ialdN rX8_settles_168 (by first | assumption | decide | exact ⟨by decide, rfl, by decide⟩) (by omega) ?_
        refine st_goto rX8_settles_169 ?_
        refine st_top a5 ?_
        exact tail
  refine key 6 0 I (by omega) (fun _ _ _ => rfl) (fun a _ j => by rw [if_neg (by omega)]) (fun j => ?_)
  rw [if_neg (by omega), if_neg (by omega)]
set_option maxHeartbeats 4000000 in
set_option maxRecDepth 100000 in
theorem s_set3 (hT : ∀ k, k < 36 → I 109 (36 + k) = nI (D 4 k)) (hO : OkD D) (hk : ∀ I', (∀ a, a ≠ 109 → a ≠ 113 → I' a = I a) → (∀ k, k < 36 → I' 109 k = nI (D 4 k) ∧ I' 113 k = nI (fw0 D k)) → V d 123 123 mX8_settles 258 [.ref 103, .int (nI 36), vJ, vJ] [] (I', J, vRR ρ) K) : V d 123 123 mX8_settles 190 [.ref 103, .int (nI 0), vJ, vJ] [] (I, J, vRR ρ) K := by
  have key : ∀ (r t : Nat) (I2 : Nat → Nat → Int32), t + r = 36 → (∀ a, a ≠ 109 → a ≠ 113 → I2 a = I a) → (∀ k, k < t → I2 109 k = nI (D 4 k) ∧ I2 113 k = nI (fw0 D k)) → (∀ k, 36 ≤ k → I2 109 k = I 109 k) → V d 123 123 mX8_settles 190 [.ref 103, .int (nI t), vJ, vJ] [] (I2, J, vRR ρ) K := by
    intro r
    induction r with
    | zero =>
      intro t I2 he g g2 g3
      have he : t = 36 := by omega
      subst he
      refine st_iload rX8_settles_190 rfl ?_
      refine st_c rX8_settles_191 ?_
      first | with_reducible refine st_icmp_geN rX8_settles_193 (by omega) (by omega) (fun _ => ?_) (fun h => absurd h (by first | decide | omega | (simp; done) | simp_all)) | refine st_icmp_ge rX8_settles_193 (fun _ => ?_) (fun h => absurd h (by first | decide | omega | (simp; done) | simp_all))
      exact hk I2 g g2
    | succ r ih =>
      intro t I2 he g g2 g3
      have ht : t < 36 := by omega
      have h9 := hO.2.2.2.1 t ht
      have q0 : I2 109 (36 + t) = nI (D 4 t) := by rw [g3 _ (by omega)]; exact hT t ht
      refine st_iload rX8_settles_190 rfl ?_
      refine st_c rX8_settles_191 ?_
      first | with_reducible refine st_icmp_geN rX8_settles_193 (by omega) (by omega) (fun h => absurd h (by first | decide | omega | (simp; done) | simp_all)) (fun _ => ?_) | refine st_icmp_ge rX8_settles_193 (fun h => absurd h (by first | decide | omega | (simp; done) | simp_all)) (fun _ => ?_)
      refine st_aload rX8_settles_196 rfl ?_
      refine st_getR rX8_settles_197 (by first | assumption | decide | exact ⟨by decide, rfl, by decide⟩) (by first | rfl | assumption) rfl ?_
      refine st_iload rX8_settles_200 rfl ?_
      refine st_aload rX8_settles_201 rfl ?_
      refine st_getR rX8_settles_202 (by first | assumption | decide | exact ⟨by decide, rfl, by decide⟩) (by first | rfl | assumption) rfl ?_
      refine st_c rX8_settles_205 ?_
      refine st_iload rX8_settles_207 rfl ?_
      first | with_reducible refine st_iaddN rX8_settles_208 ?_ | refine st_iadd rX8_settles_208 ?_
      refine st_ialdN rX8_settles_209 (by first | assumption | decide | exact ⟨by decide, rfl, by decide⟩) (by omega) ?_
      refine st_top q0 ?_
      refine st_iastN rX8_settles_210 (by first | assumption | decide | exact ⟨by decide, rfl, by decide⟩) (by omega) ?_
      skip
      generalize hI3 : up I2 109 _ = I3
      have a0 : I3 109 t = nI (D 4 t) := by rw [← hI3, up_s, va_up_s]
      have tail : V d 123 123 mX8_settles 251 [.ref 103, .int (nI t), vJ, vJ] [.int (nI (fw0 D t)), .int (nI t), .ref 113] (I3, J, vRR ρ) K := by
        refine st_iastN rX8_settles_251 (by first | assumption | decide | exact ⟨by decide, rfl, by decide⟩) (by omega) ?_
        first | with_reducible refine st_iincN1 rX8_settles_252 rfl ?_ | refine st_iinc1 rX8_settles_252 rfl ?_
        refine st_goto rX8_settles_255 ?_
        refine ih (t + 1) _ (by omega) (fun a h1 h2 => by rw [up_n h2, ← hI3, up_n h1]; exact g a h1 h2) (fun k hk => ?_) (fun k hk => ?_)
        · rw [up_n (by decide), up_s]
          by_cases e : k = t
          · subst e; exact ⟨a0, by rw [va_up_s]⟩
          · rw [va_up_n e, ← hI3, up_s, va_up_n e, up_n (by decide)]; exact g2 k (by omega)
        · rw [up_n (by decide), ← hI3, up_s, va_up_n (by omega)]; exact g3 k hk
      by_cases e1 : t / 6 = t % 6
      · rw [show fw0 D t = 0 by simp only [fw0]; rw [if_pos e1]] at tail
        refine st_aload rX8_settles_211 rfl ?_
        refine st_getR rX8_settles_212 (by first | assumption | decide | exact ⟨by decide, rfl, by decide⟩) (by first | rfl | assumption) rfl ?_
        refine st_iload rX8_settles_215 rfl ?_
        refine st_iload rX8_settles_216 rfl ?_
        refine st_c rX8_settles_217 ?_
        refine st_idivN rX8_settles_219 (by omega) (by omega) ?_
        refine st_iload rX8_settles_220 rfl ?_
        refine st_c rX8_settles_221 ?_
        refine st_iremN rX8_settles_223 (by omega) (by omega) ?_
        first | with_reducible refine st_icmp_neN rX8_settles_224 (by omega) (by omega) (fun h => absurd h (by first | decide | omega | (simp; done) | simp_all)) (fun _ => ?_) | refine st_icmp_ne rX8_settles_224 (fun h => absurd h (by first | decide | omega | (simp; done) | simp_all)) (fun _ => ?_)
        refine st_c rX8_settles_227 ?_
        refine st_goto rX8_settles_228 ?_
        exact tail
      · by_cases e2 : 0 < D 4 t
        · rw [show fw0 D t = D 4 t by simp only [fw0]; rw [if_neg e1, if_pos e2]] at tail
          refine st_aload rX8_settles_211 rfl ?_
          refine st_getR rX8_settles_212 (by first | assumption | decide | exact ⟨by decide, rfl, by decide⟩) (by first | rfl | assumption) rfl ?_
          refine st_iload rX8_settles_215 rfl ?_
          refine st_iload rX8_settles_216 rfl ?_
          refine st_c rX8_settles_217 ?_
          refine st_idivN rX8_settles_219 (by omega) (by omega) ?_
          refine st_iload rX8_settles_220 rfl ?_
          refine st_c rX8_settles_221 ?_
          refine st_iremN rX8_settles_223 (by omega) (by omega) ?_
          first | with_reducible refine st_icmp_neN rX8_settles_224 (by omega) (by omega) (fun _ => ?_) (fun h => absurd h (by first | decide | omega | (simp; done) | simp_all)) | refine st_icmp_ne rX8_settles_224 (fun _ => ?_) (fun h => absurd h (by first | decide | omega | (simp; done) | simp_all))
          refine st_aload rX8_settles_231 rfl ?_
          refine st_getR rX8_settles_232 (by first | assumption | decide | exact ⟨by decide, rfl, by decide⟩) (by first | rfl | assumption) rfl ?_
          refine st_iload rX8_settles_235 rfl ?_
          refine st_ialdN rX8_settles_236 (by first | assumption | decide | exact ⟨by decide, rfl, by decide⟩) (by omega) ?_
          refine st_top a0 ?_
          first | with_reducible refine st_if_leN rX8_settles_237 (by omega) (fun h => absurd h (by first | decide | omega | (simp; done) | simp_all)) (fun _ => ?_) | refine st_if_le rX8_settles_237 (fun h => absurd h (by first | decide | omega | (simp; done) | simp_all)) (fun _ => ?_)
          refine st_aload rX8_settles_240 rfl ?_
          refine st_getR rX8_settles_241 (by first | assumption | decide | exact ⟨by decide, rfl, by decide⟩) (by first | rfl | assumption) rfl ?_
          refine st_iload rX8_settles_244 rfl ?_
          refine st_ialdN rX8_settles_245 (by first | assumption | decide | exact ⟨by decide, rfl, by decide⟩) (by omega) ?_
          refine st_goto rX8_settles_246 ?_
          refine st_top a0 ?_
          exact tail
        · rw [show fw0 D t = 1000000 by simp only [fw0]; rw [if_neg e1, if_neg e2]] at tail
          refine st_aload rX8_settles_211 rfl ?_
          refine st_getR rX8_settles_212 (by first | assumption | decide | exact ⟨by decide, rfl, by decide⟩) (by first | rfl | assumption) rfl ?_
          refine st_iload rX8_settles_215 rfl ?_
          refine st_iload rX8_settles_216 rfl ?_
          refine st_c rX8_settles_217 ?_
          refine st_idivN rX8_settles_219 (by omega) (by omega) ?_
          refine st_iload rX8_settles_220 rfl ?_
          refine st_c rX8_settles_221 ?_
          refine st_iremN rX8_settles_223 (by omega) (by omega) ?_
          first | with_reducible refine st_icmp_neN rX8_settles_224 (by omega) (by omega) (fun _ => ?_) (fun h => absurd h (by first | decide | omega | (simp; done) | simp_all)) | refine st_icmp_ne rX8_settles_224 (fun _ => ?_) (fun h => absurd h (by first | decide | omega | (simp; done) | simp_all))
          refine st_aload rX8_settles_231 rfl ?_
          refine st_getR rX8_settles_232 (by first | assumption | decide | exact ⟨by decide, rfl, by decide⟩) (by first | rfl | assumption) rfl ?_
          refine st_iload rX8_settles_235 rfl ?_
          refine st_ialdN rX8_settles_236 (by first | assumption | decide | exact ⟨by decide, rfl, by decide⟩) (by omega) ?_
          refine st_top a0 ?_
          first | with_reducible refine st_if_leN rX8_settles_237 (by omega) (fun _ => ?_) (fun h => absurd h (by first | decide | omega | (simp; done) | simp_all)) | refine st_if_le rX8_settles_237 (fun _ => ?_) (fun h => absurd h (by first | decide | omega | (simp; done) | simp_all))
          refine st_c rX8_settles_249 ?_
          exact tail
  exact key 36 0 I (by omega) (fun _ _ _ => rfl) (fun k hk => absurd hk (by omega)) (fun k _ => rfl)
set_option maxHeartbeats 4000000 in
set_option maxRecDepth 100000 in
theorem s_set4 {F : Nat → Nat} {n : Nat} {v3 : Value} (hn : n < 6) (hW : OkW F n) (hF : ∀ k, k < 36 → I 113 k = nI (F k)) (hk : ∀ I' v, (∀ a, a ≠ 113 → I' a = I a) → (∀ k, k < 36 → I' 113 k = nI (fws F n k)) → V d 123 123 mX8_settles 340 [.ref 103, .int (nI n), .int (nI 36), v] [] (I', J, vRR ρ) K) : V d 123 123 mX8_settles 272 [.ref 103, .int (nI n), .int (nI 0), v3] [] (I, J, vRR ρ) K := by
  have key : ∀ (r t : Nat) (v : Value) (I2 : Nat → Nat → Int32), t + r = 36 → (∀ a, a ≠ 113 → I2 a = I a) → (∀ k, k < 36 → I2 113 k = nI (if k < t then fws F n k else F k)) → V d 123 123 mX8_settles 272 [.ref 103, .int (nI n), .int (nI t), v] [] (I2, J, vRR ρ) K := by
    intro r
    induction r with
    | zero =>
      intro t v I2 he g g2
      have he : t = 36 := by omega
      subst he
      refine st_iload rX8_settles_272 rfl ?_
      refine st_c rX8_settles_273 ?_
      first | with_reducible refine st_icmp_geN rX8_settles_275 (by omega) (by omega) (fun _ => ?_) (fun h => absurd h (by first | decide | omega | (simp; done) | simp_all)) | refine st_icmp_ge rX8_settles_275 (fun _ => ?_) (fun h => absurd h (by first | decide | omega | (simp; done) | simp_all))
      exact hk I2 v g (fun k hk => by rw [g2 k hk, if_pos hk])
    | succ r ih =>
      intro t v I2 he g g2
      have ht : t < 36 := by omega
      have b0 := okW_le hW (by omega) ht
      have b1 := okW_le hW (by omega) (show t / 6 * 6 + n < 36 by omega)
      have b2 := okW_le hW (by omega) (show 6 * n + t % 6 < 36 by omega)
      have q0 : I2 113 t = nI (F t) := by rw [g2 t ht, if_neg (by omega)]
      have q1 : I2 113 (t / 6 * 6 + n) = nI (F (t / 6 * 6 + n)) := by
        rw [g2 _ (by omega)]
        split
        · rw [fws_col hW hn (by omega)]
        · rfl
      have q2 : I2 113 (6 * n + t % 6) = nI (F (6 * n + t % 6)) := by
        rw [g2 _ (by omega)]
        split
        · rw [fws_row hW hn (by omega)]
        · rfl
      have tail : ∀ v, V d 123 123 mX8_settles 333 [.ref 103, .int (nI n), .int (nI t), v] [.int (nI (fws F n t)), .int (nI t), .ref 113] (I2, J, vRR ρ) K := by
        intro v
        refine st_iastN rX8_settles_333 (by first | assumption | decide | exact ⟨by decide, rfl, by decide⟩) (by omega) ?_
        first | with_reducible refine st_iincN2 rX8_settles_334 rfl ?_ | refine st_iinc2 rX8_settles_334 rfl ?_
        refine st_goto rX8_settles_337 ?_
        refine ih (t + 1) _ _ (by omega) (fun a ha => by rw [up_n ha]; exact g a ha) (fun k hk => ?_)
        rw [up_s]
        by_cases e : k = t
        · subst e; rw [va_up_s, if_pos (by omega)]
        · rw [va_up_n e, g2 k hk]
          by_cases e2 : k < t
          · rw [if_pos e2, if_pos (by omega)]
          · rw [if_neg e2, if_neg (by omega)]
      by_cases e1 : F (t / 6 * 6 + n) + F (6 * n + t % 6) < F t
      · rw [show fws F n t = F (t / 6 * 6 + n) + F (6 * n + t % 6) by simp only [fws]; rw [if_pos e1]] at tail
        refine st_iload rX8_settles_272 rfl ?_
        refine st_c rX8_settles_273 ?_
        first | with_reducible refine st_icmp_geN rX8_settles_275 (by omega) (by omega) (fun h => absurd h (by first | decide | omega | (simp; done) | simp_all)) (fun _ => ?_) | refine st_icmp_ge rX8_settles_275 (fun h => absurd h (by first | decide | omega | (simp; done) | simp_all)) (fun _ => ?_)
        refine st_aload rX8_settles_278 rfl ?_
        refine st_getR rX8_settles_279 (by first | assumption | decide | exact ⟨by decide, rfl, by decide⟩) (by first | rfl | assumption) rfl ?_
        refine st_iload rX8_settles_282 rfl ?_
        refine st_c rX8_settles_283 ?_
        refine st_idivN rX8_settles_285 (by omega) (by omega) ?_
        refine st_c rX8_settles_286 ?_
        first | with_reducible refine st_imulN rX8_settles_288 ?_ | refine st_imul rX8_settles_288 ?_
        refine st_iload rX8_settles_289 rfl ?_
        first | with_reducible refine st_iaddN rX8_settles_290 ?_ | refine st_iadd rX8_settles_290 ?_
        refine st_ialdN rX8_settles_291 (by first | assumption | decide | exact ⟨by decide, rfl, by decide⟩) (by omega) ?_
        refine st_top q1 ?_
        refine st_aload rX8_settles_292 rfl ?_
        refine st_getR rX8_settles_293 (by first | assumption | decide | exact ⟨by decide, rfl, by decide⟩) (by first | rfl | assumption) rfl ?_
        refine st_c rX8_settles_296 ?_
        refine st_iload rX8_settles_298 rfl ?_
        first | with_reducible refine st_imulN rX8_settles_299 ?_ | refine st_imul rX8_settles_299 ?_
        refine st_iload rX8_settles_300 rfl ?_
        refine st_c rX8_settles_301 ?_
        refine st_iremN rX8_settles_303 (by omega) (by omega) ?_
        first | with_reducible refine st_iaddN rX8_settles_304 ?_ | refine st_iadd rX8_settles_304 ?_
        refine st_ialdN rX8_settles_305 (by first | assumption | decide | exact ⟨by decide, rfl, by decide⟩) (by omega) ?_
        refine st_top q2 ?_
        first | with_reducible refine st_iaddN rX8_settles_306 ?_ | refine st_iadd rX8_settles_306 ?_
        refine st_istore3 rX8_settles_307 rfl ?_
        refine st_aload rX8_settles_308 rfl ?_
        refine st_getR rX8_settles_309 (by first | assumption | decide | exact ⟨by decide, rfl, by decide⟩) (by first | rfl | assumption) rfl ?_
        refine st_iload rX8_settles_312 rfl ?_
        refine st_iload rX8_settles_313 rfl ?_
        refine st_aload rX8_settles_314 rfl ?_
        refine st_getR rX8_settles_315 (by first | assumption | decide | exact ⟨by decide, rfl, by decide⟩) (by first | rfl | assumption) rfl ?_
        refine st_iload rX8_settles_318 rfl ?_
        refine st_ialdN rX8_settles_319 (by first | assumption | decide | exact ⟨by decide, rfl, by decide⟩) (by omega) ?_
        refine st_top q0 ?_
        first | with_reducible refine st_icmp_geN rX8_settles_320 (by omega) (by omega) (fun h => absurd h (by first | decide | omega | (simp; done) | simp_all)) (fun _ => ?_) | refine st_icmp_ge rX8_settles_320 (fun h => absurd h (by first | decide | omega | (simp; done) | simp_all)) (fun _ => ?_)
        refine st_iload rX8_settles_323 rfl ?_
        refine st_goto rX8_settles_324 ?_
        exact tail _
      · rw [show fws F n t = F t by simp only [fws]; rw [if_neg e1]] at tail
        refine st_iload rX8_settles_272 rfl ?_
        refine st_c rX8_settles_273 ?_
        first | with_reducible refine st_icmp_geN rX8_settles_275 (by omega) (by omega) (fun h => absurd h (by first | decide | omega | (simp; done) | simp_all)) (fun _ => ?_) | refine st_icmp_ge rX8_settles_275 (fun h => absurd h (by first | decide | omega | (simp; done) | simp_all)) (fun _ => ?_)
        refine st_aload rX8_settles_278 rfl ?_
        refine st_getR rX8_settles_279 (by first | assumption | decide | exact ⟨by decide, rfl, by decide⟩) (by first | rfl | assumption) rfl ?_
        refine st_iload rX8_settles_282 rfl ?_
        refine st_c rX8_settles_283 ?_
        refine st_idivN rX8_settles_285 (by omega) (by omega) ?_
        refine st_c rX8_settles_286 ?_
        first | with_reducible refine st_imulN rX8_settles_288 ?_ | refine st_imul rX8_settles_288 ?_
        refine st_iload rX8_settles_289 rfl ?_
        first | with_reducible refine st_iaddN rX8_settles_290 ?_ | refine st_iadd rX8_settles_290 ?_
        refine st_ialdN rX8_settles_291 (by first | assumption | decide | exact ⟨by decide, rfl, by decide⟩) (by omega) ?_
        refine st_top q1 ?_
        refine st_aload rX8_settles_292 rfl ?_
        refine st_getR rX8_settles_293 (by first | assumption | decide | exact ⟨by decide, rfl, by decide⟩) (by first | rfl | assumption) rfl ?_
        refine st_c rX8_settles_296 ?_
        refine st_iload rX8_settles_298 rfl ?_
        first | with_reducible refine st_imulN rX8_settles_299 ?_ | refine st_imul rX8_settles_299 ?_
        refine st_iload rX8_settles_300 rfl ?_
        refine st_c rX8_settles_301 ?_
        refine st_iremN rX8_settles_303 (by omega) (by omega) ?_
        first | with_reducible refine st_iaddN rX8_settles_304 ?_ | refine st_iadd rX8_settles_304 ?_
        refine st_ialdN rX8_settles_305 (by first | assumption | decide | exact ⟨by decide, rfl, by decide⟩) (by omega) ?_
        refine st_top q2 ?_
        first | with_reducible refine st_iaddN rX8_settles_306 ?_ | refine st_iadd rX8_settles_306 ?_
        refine st_istore3 rX8_settles_307 rfl ?_
        refine st_aload rX8_settles_308 rfl ?_
        refine st_getR rX8_settles_309 (by first | assumption | decide | exact ⟨by decide, rfl, by decide⟩) (by first | rfl | assumption) rfl ?_
        refine st_iload rX8_settles_312 rfl ?_
        refine st_iload rX8_settles_313 rfl ?_
        refine st_aload rX8_settles_314 rfl ?_
        refine st_getR rX8_settles_315 (by first | assumption | decide | exact ⟨by decide, rfl, by decide⟩) (by first | rfl | assumption) rfl ?_
        refine st_iload rX8_settles_318 rfl ?_
        refine st_ialdN rX8_settles_319 (by first | assumption | decide | exact ⟨by decide, rfl, by decide⟩) (by omega) ?_
        refine st_top q0 ?_
        first | with_reducible refine st_icmp_geN rX8_settles_320 (by omega) (by omega) (fun _ => ?_) (fun h => absurd h (by first | decide | omega | (simp; done) | simp_all)) | refine st_icmp_ge rX8_settles_320 (fun _ => ?_) (fun h => absurd h (by first | decide | omega | (simp; done) | simp_all))
        refine st_aload rX8_settles_327 rfl ?_
        refine st_getR rX8_settles_328 (by first | assumption | decide | exact ⟨by decide, rfl, by decide⟩) (by first | rfl | assumption) rfl ?_
        refine st_iload rX8_settles_331 rfl ?_
        refine st_ialdN rX8_settles_332 (by first | assumption | decide | exact ⟨by decide, rfl, by decide⟩) (by omega) ?_
        refine st_top q0 ?_
        exact tail _
  exact key 36 0 v3 I (by omega) (fun _ _ => rfl) (fun k hk => by rw [if_neg (by omega)]; exact hF k hk)
set_option maxHeartbeats 4000000 in
set_option maxRecDepth 100000 in
theorem s_set5 (hO : OkD D) (hm : I 105 0 = nI (D 0 0)) (hF : ∀ k, k < 36 → I 113 k = nI (fw0 D k)) (hk : ∀ I' v1 v2 v3, (∀ a, a ≠ 113 → I' a = I a) → (∀ k, k < 36 → I' 113 k = nI (fwn D (D 0 0) k)) → V d 123 123 mX8_settles 346 [.ref 103, v1, v2, v3] [] (I', J, vRR ρ) K) : V d 123 123 mX8_settles 260 [.ref 103, .int (nI 0), vJ, vJ] [] (I, J, vRR ρ) K := by
  have h6 := hO.1
  have key : ∀ (r t : Nat) (v w : Value) (I2 : Nat → Nat → Int32), t + r = D 0 0 → (∀ a, a ≠ 113 → I2 a = I a) → (∀ k, k < 36 → I2 113 k = nI (fwn D t k)) → V d 123 123 mX8_settles 260 [.ref 103, .int (nI t), v, w] [] (I2, J, vRR ρ) K := by
    intro r
    induction r with
    | zero =>
      intro t v w I2 he g g2
      have he : t = D 0 0 := by omega
      subst he
      have hm2 : I2 105 0 = nI (D 0 0) := by rw [g 105 (by decide)]; exact hm
      refine st_iload rX8_settles_260 rfl ?_
      refine st_aload rX8_settles_261 rfl ?_
      refine st_getR rX8_settles_262 (by first | assumption | decide | exact ⟨by decide, rfl, by decide⟩) (by first | rfl | assumption) rfl ?_
      refine st_c rX8_settles_265 ?_
      refine st_ialdN rX8_settles_266 (by first | assumption | decide | exact ⟨by decide, rfl, by decide⟩) (by omega) ?_
      refine st_top hm2 ?_
      first | with_reducible refine st_icmp_geN rX8_settles_267 (by omega) (by omega) (fun _ => ?_) (fun h => absurd h (by first | decide | omega | (simp; done) | simp_all)) | refine st_icmp_ge rX8_settles_267 (fun _ => ?_) (fun h => absurd h (by first | decide | omega | (simp; done) | simp_all))
      exact hk I2 _ _ _ g g2
    | succ r ih =>
      intro t v w I2 he g g2
      have hm2 : I2 105 0 = nI (D 0 0) := by rw [g 105 (by decide)]; exact hm
      refine st_iload rX8_settles_260 rfl ?_
      refine st_aload rX8_settles_261 rfl ?_
      refine st_getR rX8_settles_262 (by first | assumption | decide | exact ⟨by decide, rfl, by decide⟩) (by first | rfl | assumption) rfl ?_
      refine st_c rX8_settles_265 ?_
      refine st_ialdN rX8_settles_266 (by first | assumption | decide | exact ⟨by decide, rfl, by decide⟩) (by omega) ?_
      refine st_top hm2 ?_
      first | with_reducible refine st_icmp_geN rX8_settles_267 (by omega) (by omega) (fun h => absurd h (by first | decide | omega | (simp; done) | simp_all)) (fun _ => ?_) | refine st_icmp_ge rX8_settles_267 (fun h => absurd h (by first | decide | omega | (simp; done) | simp_all)) (fun _ => ?_)
      refine st_c rX8_settles_270 ?_
      refine st_istore2 rX8_settles_271 rfl ?_
      refine s_set4 (by omega) (okW_n hO t (by omega)) g2 (fun I3 v e1 e2 => ?_)
      first | with_reducible refine st_iincN1 rX8_settles_340 rfl ?_ | refine st_iinc1 rX8_settles_340 rfl ?_
      refine st_goto rX8_settles_343 ?_
      exact ih (t + 1) _ _ I3 (by omega) (fun a ha => by rw [e1 a ha, g a ha]) e2
  exact key (D 0 0) 0 _ _ I (by omega) (fun _ _ => rfl) hF
/-- what the reference holds behind a text that was read -/
def PlA (A : Nat → Nat → Int32) (D : Nat → Nat → Nat) : Prop := A 105 0 = nI (D 0 0) ∧ A 105 1 = nI (D 0 1) ∧ (∀ t, t < D 0 0 → A 107 t = nI (D 2 t) ∧ A 108 t = nI (D 3 t)) ∧ (∀ k, k < 36 → A 109 k = nI (D 4 k)) ∧ (∀ k, k < 36 → A 113 k = nI (fwn D (D 0 0) k)) ∧ (∀ i, i < D 0 1 → A 110 i = nI (D 5 i) ∧ A 111 i = nI (D 6 i) ∧ A 112 i = nI (D 7 i)) ∧ (A 114 0 = nI 0 ∧ A 114 1 = nI 0 ∧ (∀ t, t < 6 → A 114 (2 + t) = nI t) ∧ (∀ t, t < D 0 0 → A 114 (8 + t) = nI (max (D 1 t) (D 2 t))) ∧ ∀ k, 14 ≤ k → k < 56 → A 114 k = nI 0) ∧ A 103 3 = nI 0 ∧ A 103 23 = nI 0 ∧ A 103 26 = nI 0 ∧ ∀ i, i < 2 → A 117 i = nI 0
set_option maxHeartbeats 4000000 in
set_option maxRecDepth 100000 in
theorem s_settles (hS : SD I D) (hO : OkD D) (hk : ∀ I', (∀ a, a < 103 ∨ 123 ≤ a → I' a = I a) → PlA I' D → kv (I', J, vRR ρ)) : V d 123 123 mX8_settles 0 [.ref 103, vJ, vJ, vJ] [] (I, J, vRR ρ) (Kv kv) := by
  obtain ⟨s1, s2, s3, s4, s5⟩ := hS
  obtain ⟨d1, d2, d3, d4, d5, d6⟩ := id hO
  refine st_aload rX8_settles_0 rfl ?_
  refine st_getR rX8_settles_1 (by first | assumption | decide | exact ⟨by decide, rfl, by decide⟩) (by first | rfl | assumption) rfl ?_
  refine st_c rX8_settles_4 ?_
  refine st_aload rX8_settles_5 rfl ?_
  refine st_getR rX8_settles_6 (by first | assumption | decide | exact ⟨by decide, rfl, by decide⟩) (by first | rfl | assumption) rfl ?_
  refine st_c rX8_settles_9 ?_
  refine st_ialdN rX8_settles_10 (by first | assumption | decide | exact ⟨by decide, rfl, by decide⟩) (by omega) ?_
  refine st_top s1 ?_
  refine st_iastN rX8_settles_11 (by first | assumption | decide | exact ⟨by decide, rfl, by decide⟩) (by omega) ?_
  refine st_aload rX8_settles_12 rfl ?_
  refine st_getR rX8_settles_13 (by first | assumption | decide | exact ⟨by decide, rfl, by decide⟩) (by first | rfl | assumption) rfl ?_
  refine st_c rX8_settles_16 ?_
  refine st_aload rX8_settles_17 rfl ?_
  refine st_getR rX8_settles_18 (by first | assumption | decide | exact ⟨by decide, rfl, by decide⟩) (by first | rfl | assumption) rfl ?_
  refine st_c rX8_settles_21 ?_
  refine st_ialdN rX8_settles_22 (by first | assumption | decide | exact ⟨by decide, rfl, by decide⟩) (by omega) ?_
  refine st_top (show _ = nI (D 0 1) by rw [up_s, va_up_n (by decide)]; exact s2) ?_
  refine st_iastN rX8_settles_23 (by first | assumption | decide | exact ⟨by decide, rfl, by decide⟩) (by omega) ?_
  refine st_c rX8_settles_24 ?_
  refine st_istore1 rX8_settles_25 rfl ?_
  skip
  generalize hI1 : up _ 105 _ = I1
  have a1 : ∀ a, a ≠ 105 → I1 a = I a := fun a ha => by rw [← hI1, up_n ha, up_n ha]
  have a2 : I1 105 0 = nI (D 0 0) := by rw [← hI1]; simp (disch := omega) only [up_s, va_up_s, va_up_n]
  have a3 : I1 105 1 = nI (D 0 1) := by rw [← hI1]; simp (disch := omega) only [up_s, va_up_s, va_up_n]
  refine s_set1 (fun I2 b1 b2 => ?_)
  refine st_c rX8_settles_45 ?_
  refine st_istore1 rX8_settles_46 rfl ?_
  skip
  refine s_set2 (fun I3 c1 c2 c3 => ?_)
  have nr : ∀ a, a < 107 ∨ 112 < a ∨ a = 109 → ¬ r5 a := fun a ha h => by rcases h with h | h | h | h | h <;> omega
  refine st_c rX8_settles_188 ?_
  refine st_istore1 rX8_settles_189 rfl ?_
  skip
  refine s_set3 (fun k hk => by rw [c1 109 (nr 109 (by omega)) (by decide), b1 109 (by decide), a1 109 (by decide)]; exact s4 k hk) hO (fun I4 e1 e2 => ?_)
  refine st_c rX8_settles_258 ?_
  refine st_istore1 rX8_settles_259 rfl ?_
  skip
  refine s_set5 hO (by rw [e1 105 (by decide) (by decide), c1 105 (nr 105 (by omega)) (by decide), b1 105 (by decide)]; exact a2) (fun k hk => (e2 k hk).2) (fun I5 v1 v2 v3 f1 f2 => ?_)
  refine st_aload rX8_settles_346 rfl ?_
  refine st_c rX8_settles_347 ?_
  refine st_putI rfl rX8_settles_348 (by first | assumption | decide | exact ⟨by decide, rfl, by decide⟩) ?_
  refine st_aload rX8_settles_351 rfl ?_
  refine st_c rX8_settles_352 ?_
  refine st_putI rfl rX8_settles_353 (by first | assumption | decide | exact ⟨by decide, rfl, by decide⟩) ?_
  refine st_aload rX8_settles_356 rfl ?_
  refine st_c rX8_settles_357 ?_
  refine st_putI rfl rX8_settles_358 (by first | assumption | decide | exact ⟨by decide, rfl, by decide⟩) ?_
  refine st_aload rX8_settles_361 rfl ?_
  refine st_getR rX8_settles_362 (by first | assumption | decide | exact ⟨by decide, rfl, by decide⟩) (by first | rfl | assumption) rfl ?_
  refine st_c rX8_settles_365 ?_
  refine st_c rX8_settles_366 ?_
  refine st_bastN rX8_settles_367 (by first | assumption | decide | exact ⟨by decide, rfl, by decide⟩) (by omega) rfl ?_
  refine st_aload rX8_settles_368 rfl ?_
  refine st_getR rX8_settles_369 (by first | assumption | decide | exact ⟨by decide, rfl, by decide⟩) (by first | rfl | assumption) rfl ?_
  refine st_c rX8_settles_372 ?_
  refine st_c rX8_settles_373 ?_
  refine st_bastN rX8_settles_374 (by first | assumption | decide | exact ⟨by decide, rfl, by decide⟩) (by omega) rfl ?_
  refine st_vret rX8_settles_375 rfl ?_
  refine hk _ (fun a ha => ?_) ?_
  · simp (disch := omega) only [up_n]
    rw [f1 a (by omega), e1 a (by omega) (by omega), c1 a (nr a (by omega)) (by omega), b1 a (by omega), a1 a (by omega)]
  · have h5 : ∀ a, r5 a → ∀ t, t < 6 → I5 a t = I a (6 + t) := by
      intro a ha t ht
      have hne : a ≠ 113 ∧ a ≠ 109 ∧ a ≠ 114 ∧ a ≠ 105 := by rcases ha with h | h | h | h | h <;> omega
      rw [f1 a hne.1, e1 a hne.2.1 hne.1, c2 a ha, if_pos ht, b1 a hne.2.2.1, a1 a hne.2.2.2]
    have h114 : ∀ j, I5 114 j = I3 114 j := fun j => by rw [f1 114 (by decide), e1 114 (by decide) (by decide)]
    simp (disch := omega) only [PlA, up_s, up_n, va_up_s, va_up_n]
    refine ⟨?_, ?_, fun t ht => ⟨?_, ?_⟩, fun k hk => ?_, f2, fun i hi => ⟨?_, ?_, ?_⟩, ⟨?_, ?_, fun t ht => ?_, fun t ht => ?_, fun k h1 h2 => ?_⟩, trivial, trivial, trivial, fun i hi => ?_⟩
    · rw [f1 105 (by decide), e1 105 (by decide) (by decide), c1 105 (nr 105 (by omega)) (by decide), b1 105 (by decide)]; exact a2
    · rw [f1 105 (by decide), e1 105 (by decide) (by decide), c1 105 (nr 105 (by omega)) (by decide), b1 105 (by decide)]; exact a3
    · rw [h5 107 (Or.inl rfl) t (by omega)]; exact (s3 t ht).2.1
    · rw [h5 108 (Or.inr (Or.inl rfl)) t (by omega)]; exact (s3 t ht).2.2
    · rw [f1 109 (by decide)]; exact (e2 k hk).1
    · rw [h5 110 (Or.inr (Or.inr (Or.inl rfl))) i (by omega)]; exact (s5 i hi).1
    · rw [h5 111 (Or.inr (Or.inr (Or.inr (Or.inl rfl)))) i (by omega)]; exact (s5 i hi).2.1
    · rw [h5 112 (Or.inr (Or.inr (Or.inr (Or.inr rfl)))) i (by omega)]; exact (s5 i hi).2.2
    · rw [h114, c3, if_neg (by omega), if_neg (by omega)]; exact b2 0 (by omega)
    · rw [h114, c3, if_neg (by omega), if_neg (by omega)]; exact b2 1 (by omega)
    · rw [h114, c3, if_pos (by omega), show 2 + t - 2 = t by omega]
    · have q := d3 t ht
      have q2 := s3 t ht
      rw [h114, c3, if_neg (by omega), if_pos (by omega), show 8 + t - 2 = 6 + t by omega, b1 106 (by decide), b1 107 (by decide), a1 106 (by decide), a1 107 (by decide), q2.1, q2.2.1, mxI_n (by omega) (by omega)]
    · rw [h114, c3, if_neg (by omega), if_neg (by omega)]; exact b2 k h2
    · have hc : i = 0 ∨ i = 1 := by omega
      rcases hc with rfl | rfl <;> simp (disch := omega) only [va_up_s, va_up_n]
end P51
