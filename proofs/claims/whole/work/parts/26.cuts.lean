/-! ===== cuts; trades, widens ===== -/
def wB (A : Nat → Nat → Int32) (N : Nat → Int32) (t : Nat) : Int32 := A 107 (N (2 + t)).toNatClampNeg
def ctF (A : Nat → Nat → Int32) (N : Nat → Int32) : Nat → Nat
  | 0 => 0
  | t + 1 => ctF A N t + (if N (8 + t) < wB A N t then 1 else 0)
def cutN (A : Nat → Nat → Int32) (N : Nat → Int32) (t : Nat) : Nat → Int32 := fun k => if 8 ≤ k ∧ k < 8 + t ∧ N k < wB A N (k - 8) then wB A N (k - 8) else N k
def cutF (A : Nat → Nat → Int32) (m : Nat) (N : Nat → Int32) : Nat → Int32 := va_up (cutN A N m) 1 (N 1 + nI (ctF A N m))
theorem cutN_0 (A : Nat → Nat → Int32) (N : Nat → Int32) : cutN A N 0 = N := by
  funext k; simp only [cutN]; rw [if_neg (by omega)]
theorem cutN_lo {A : Nat → Nat → Int32} {N : Nat → Int32} {t k : Nat} (h : k < 8 ∨ 8 + t ≤ k) : cutN A N t k = N k := by
  simp only [cutN]; rw [if_neg (by omega)]
theorem cutN_t {A : Nat → Nat → Int32} {N : Nat → Int32} {t : Nat} (h : N (8 + t) < wB A N t) : va_up (cutN A N t) (8 + t) (wB A N t) = cutN A N (t + 1) := by
  funext k
  simp only [cutN, va_up]
  by_cases hk : k = 8 + t
  · subst hk
    rw [if_pos rfl, if_pos ⟨by omega, by omega, by rw [show 8 + t - 8 = t by omega]; exact h⟩, show 8 + t - 8 = t by omega]
  · rw [if_neg hk]
    by_cases h2 : 8 ≤ k ∧ k < 8 + t ∧ N k < wB A N (k - 8)
    · rw [if_pos h2, if_pos ⟨h2.1, by omega, h2.2.2⟩]
    · rw [if_neg h2, if_neg (fun g => h2 ⟨g.1, by omega, g.2.2⟩)]
theorem cutN_f {A : Nat → Nat → Int32} {N : Nat → Int32} {t : Nat} (h : ¬ N (8 + t) < wB A N t) : cutN A N (t + 1) = cutN A N t := by
  funext k
  simp only [cutN]
  by_cases hk : k = 8 + t
  · subst hk
    rw [if_neg (fun g => h (by have := g.2.2; rw [show 8 + t - 8 = t by omega] at this; exact this)), if_neg (by omega)]
  · by_cases h2 : 8 ≤ k ∧ k < 8 + t ∧ N k < wB A N (k - 8)
    · rw [if_pos h2, if_pos ⟨h2.1, by omega, h2.2.2⟩]
    · rw [if_neg h2, if_neg (fun g => h2 ⟨g.1, by omega, g.2.2⟩)]
theorem ctF_le (A : Nat → Nat → Int32) (N : Nat → Int32) : ∀ t, ctF A N t ≤ t := by
  intro t
  induction t with
  | zero => exact Nat.le_refl _
  | succ t ih => simp only [ctF]; split <;> omega
section P26
variable {d : Nat} {I A : Nat → Nat → Int32} {J : Nat → Nat → Int64} {ρ m no : Nat} {T : Int64} {k : Int32 → vS → Prop} {kl : Int64 → vS → Prop} {kv : vS → Prop}
set_option maxHeartbeats 4000000 in
set_option maxRecDepth 100000 in
theorem s_cutTowers {h : Nat} {N : Nat → Int32} {kk : Int32 → vS → Prop} (hg : vHg h) (hT : CT I ρ A m no) (hm6 : m ≤ 6) (hv : HV I h m N) (hb : ∀ t, t < m → ∃ x, x < m ∧ N (2 + t) = nI x) (hlo : 13 < h ∧ ρ + 8 < h)
    (hk : ∀ I', (∀ a, a ≠ h → a ≠ h + 2 → I' a = I a) → HV I' h m (cutF A m N) → kk (nI (ctF A N m)) (I', J, vRR ρ)) : V (d + 2) 123 123 mX1_cutTowers 0 [.ref h, .ref ρ, vJ, vJ, vJ] [] (I, J, vRR ρ) (Ki kk) := by
  obtain ⟨ht0, ht1, ht2, ht3, ht4, ht5, ht6, ht7, ht8, ht9, ht10⟩ := hT
  obtain ⟨hto, o1, o2, o3, o4, o5, o6, o7, o8⟩ := toldF ht0
  obtain ⟨a0, a1, a2, a3, a4⟩ := hangF hg
  obtain ⟨v1, v2, v3, v4, v5, v6⟩ := hv
  refine st_c rX1_cutTowers_0 ?_
  refine st_istore2 rX1_cutTowers_1 rfl ?_
  refine st_c rX1_cutTowers_2 ?_
  refine st_istore3 rX1_cutTowers_3 rfl ?_
  skip
  have key : ∀ (r t : Nat) (I2 : Nat → Nat → Int32) (x : Value), t + r = m → (∀ a, a ≠ h + 2 → I2 a = I a) → (∀ j, j < m → I2 (h + 2) j = cutN A N t (8 + j)) → V (d + 2) 123 123 mX1_cutTowers 4 [.ref h, .ref ρ, .int (nI (ctF A N t)), .int (nI t), x] [] (I2, J, vRR ρ) (Ki kk) := by
    intro r
    induction r with
    | zero =>
      intro t I2 x he g gb
      have he : t = m := by omega
      subst he
      refine st_iload rX1_cutTowers_4 rfl ?_
      refine st_aload rX1_cutTowers_5 rfl ?_
      refine st_getI rX1_cutTowers_6 (by first | assumption | decide | exact ⟨by decide, rfl, by decide⟩) rfl ?_
      refine st_top (show I2 ρ 0 = nI t by rw [g ρ (by omega)]; exact ht1) ?_
      first | with_reducible refine st_icmp_geN rX1_cutTowers_9 (by omega) (by omega) (fun _ => ?_) (fun h => absurd h (by first | decide | omega | (simp; done) | simp_all)) | refine st_icmp_ge rX1_cutTowers_9 (fun _ => ?_) (fun h => absurd h (by first | decide | omega | (simp; done) | simp_all))
      refine st_aload rX1_cutTowers_59 rfl ?_
      refine st_dup rX1_cutTowers_60 rfl ?_
      refine st_getI rX1_cutTowers_61 (by first | assumption | decide | exact ⟨by decide, rfl, by decide⟩) rfl ?_
      refine st_top (show I2 h 1 = N 1 by rw [g h (by omega)]; exact v2) ?_
      refine st_iload rX1_cutTowers_64 rfl ?_
      first | with_reducible refine st_iaddN rX1_cutTowers_65 ?_ | refine st_iadd rX1_cutTowers_65 ?_
      refine st_putI rfl rX1_cutTowers_66 (by first | assumption | decide | exact ⟨by decide, rfl, by decide⟩) ?_
      refine st_iload rX1_cutTowers_69 rfl ?_
      refine st_iret rX1_cutTowers_70 rfl ?_
      refine hk _ (fun a h1 h2 => by rw [up_n h1, g a h2]) ⟨?_, ?_, fun j hj => ?_, fun j hj => ?_, fun j hj => ?_, fun j hj => ?_⟩
      · rw [up_s, va_up_n (by decide), g h (by omega), v1, cutF, va_up_n (by decide), cutN_lo (by omega)]
      · rw [up_s, va_up_s, cutF, va_up_s]
      · rw [up_n (by omega), g _ (by omega), v3 j hj, cutF, va_up_n (by omega), cutN_lo (by omega)]
      · rw [up_n (by omega), gb j hj, cutF, va_up_n (by omega)]
      · rw [up_n (by omega), g _ (by omega), v5 j hj, cutF, va_up_n (by omega), cutN_lo (by omega)]
      · rw [up_n (by omega), g _ (by omega), v6 j hj, cutF, va_up_n (by omega), cutN_lo (by omega)]
    | succ r ih =>
      intro t I2 x he g gb
      have htm : t < m := by omega
      obtain ⟨y, hy, hyb⟩ := hb t htm
      have e1 : I2 (h + 1) t = nI y := by rw [g _ (by omega), v3 t (by omega)]; exact hyb
      have e2 : I2 (h + 2) t = N (8 + t) := by rw [gb t htm, cutN_lo (by omega)]
      have e3 : I2 (ρ + 2) y = A 107 y := by rw [g _ (by omega)]; exact ht4 y hy
      have ew : wB A N t = A 107 y := by rw [wB, hyb, nI_clamp (by omega)]
      by_cases hc : N (8 + t) < wB A N t
      · have hd : decide (A 107 y ≤ N (8 + t)) = false := by rw [← ew]; exact decide_eq_false (Int32.not_le.mpr hc)
        have hn := ih (t + 1) (up I2 (h + 2) (va_up (I2 (h + 2)) t (wB A N t))) (.int (nI y)) (by omega) (fun a ha => by rw [up_n ha, g a ha]) (fun j hj => by
          rw [up_s, ← cutN_t hc]
          by_cases hj2 : j = t
          · subst hj2; rw [va_up_s, va_up_s]
          · rw [va_up_n hj2, va_up_n (by omega), gb j hj])
        simp only [ctF, if_pos hc] at hn
        refine st_iload rX1_cutTowers_4 rfl ?_
        refine st_aload rX1_cutTowers_5 rfl ?_
        refine st_getI rX1_cutTowers_6 (by first | assumption | decide | exact ⟨by decide, rfl, by decide⟩) rfl ?_
        refine st_top (show I2 ρ 0 = nI m by rw [g ρ (by omega)]; exact ht1) ?_
        first | with_reducible refine st_icmp_geN rX1_cutTowers_9 (by omega) (by omega) (fun h => absurd h (by first | decide | omega | (simp; done) | simp_all)) (fun _ => ?_) | refine st_icmp_ge rX1_cutTowers_9 (fun h => absurd h (by first | decide | omega | (simp; done) | simp_all)) (fun _ => ?_)
        refine st_aload rX1_cutTowers_12 rfl ?_
        refine st_getR rX1_cutTowers_13 (by first | assumption | decide) (by first | rfl | exact hR2 (by assumption)) rfl ?_
        refine st_iload rX1_cutTowers_16 rfl ?_
        refine cS2i rX1_cutTowers_17 (s_at (by first | assumption | decide | exact ⟨by decide, rfl, by decide⟩) (by omega) ?_) rfl
        refine st_top e1 ?_
        refine st_istore4 rX1_cutTowers_20 rfl ?_
        refine st_aload rX1_cutTowers_22 rfl ?_
        refine st_aload rX1_cutTowers_23 rfl ?_
        refine st_iload rX1_cutTowers_24 rfl ?_
        refine st_iload rX1_cutTowers_25 rfl ?_
        refine cV4i rX1_cutTowers_27 (by first | assumption | decide | exact ⟨by decide, rfl, by decide⟩) (s_bears (N := N) hg ht0 e3 e2 (by omega) (by omega) ?_) rfl (by decide)
        rw [hd]
        first | with_reducible refine st_if_neN rX1_cutTowers_30 (by omega) (fun h => absurd h (by first | decide | omega | (simp; done) | simp_all)) (fun _ => ?_) | refine st_if_ne rX1_cutTowers_30 (fun h => absurd h (by first | decide | omega | (simp; done) | simp_all)) (fun _ => ?_)
        refine st_aload rX1_cutTowers_33 rfl ?_
        refine st_getR rX1_cutTowers_34 (by first | assumption | decide) (by first | rfl | exact hR3 (by assumption)) rfl ?_
        refine st_iload rX1_cutTowers_37 rfl ?_
        refine st_aload rX1_cutTowers_38 rfl ?_
        refine st_getR rX1_cutTowers_39 (by assumption) (tR4 (by assumption)) rfl ?_
        refine st_iload rX1_cutTowers_42 rfl ?_
        refine cS2i rX1_cutTowers_44 (s_at (by first | assumption | decide | exact ⟨by decide, rfl, by decide⟩) (by omega) ?_) rfl
        refine st_top (e3.trans ew.symm) ?_
        refine cS3v rX1_cutTowers_47 (s_put (by first | assumption | decide | exact ⟨by decide, rfl, by decide⟩) (by omega) ?_) rfl
        first | with_reducible refine st_iincN2 rX1_cutTowers_50 rfl ?_ | refine st_iinc2 rX1_cutTowers_50 rfl ?_
        first | with_reducible refine st_iincN3 rX1_cutTowers_53 rfl ?_ | refine st_iinc3 rX1_cutTowers_53 rfl ?_
        refine st_goto rX1_cutTowers_56 ?_
        exact hn
      · have hd : decide (A 107 y ≤ N (8 + t)) = true := by rw [← ew]; exact decide_eq_true (Int32.not_lt.mp hc)
        have hn := ih (t + 1) I2 (.int (nI y)) (by omega) g (fun j hj => by rw [cutN_f hc]; exact gb j hj)
        simp only [ctF, if_neg hc, Nat.add_zero] at hn
        refine st_iload rX1_cutTowers_4 rfl ?_
        refine st_aload rX1_cutTowers_5 rfl ?_
        refine st_getI rX1_cutTowers_6 (by first | assumption | decide | exact ⟨by decide, rfl, by decide⟩) rfl ?_
        refine st_top (show I2 ρ 0 = nI m by rw [g ρ (by omega)]; exact ht1) ?_
        first | with_reducible refine st_icmp_geN rX1_cutTowers_9 (by omega) (by omega) (fun h => absurd h (by first | decide | omega | (simp; done) | simp_all)) (fun _ => ?_) | refine st_icmp_ge rX1_cutTowers_9 (fun h => absurd h (by first | decide | omega | (simp; done) | simp_all)) (fun _ => ?_)
        refine st_aload rX1_cutTowers_12 rfl ?_
        refine st_getR rX1_cutTowers_13 (by first | assumption | decide) (by first | rfl | exact hR2 (by assumption)) rfl ?_
        refine st_iload rX1_cutTowers_16 rfl ?_
        refine cS2i rX1_cutTowers_17 (s_at (by first | assumption | decide | exact ⟨by decide, rfl, by decide⟩) (by omega) ?_) rfl
        refine st_top e1 ?_
        refine st_istore4 rX1_cutTowers_20 rfl ?_
        refine st_aload rX1_cutTowers_22 rfl ?_
        refine st_aload rX1_cutTowers_23 rfl ?_
        refine st_iload rX1_cutTowers_24 rfl ?_
        refine st_iload rX1_cutTowers_25 rfl ?_
        refine cV4i rX1_cutTowers_27 (by first | assumption | decide | exact ⟨by decide, rfl, by decide⟩) (s_bears (N := N) hg ht0 e3 e2 (by omega) (by omega) ?_) rfl (by decide)
        rw [hd]
        first | with_reducible refine st_if_neN rX1_cutTowers_30 (by omega) (fun _ => ?_) (fun h => absurd h (by first | decide | omega | (simp; done) | simp_all)) | refine st_if_ne rX1_cutTowers_30 (fun _ => ?_) (fun h => absurd h (by first | decide | omega | (simp; done) | simp_all))
        first | with_reducible refine st_iincN3 rX1_cutTowers_53 rfl ?_ | refine st_iinc3 rX1_cutTowers_53 rfl ?_
        refine st_goto rX1_cutTowers_56 ?_
        exact hn
  exact key m 0 I _ (by omega) (fun a _ => rfl) (fun j hj => by rw [cutN_0]; exact v4 j hj)
set_option maxHeartbeats 4000000 in
set_option maxRecDepth 100000 in
theorem s_cuts {a : Nat} {N : Nat → Int32} {kk : Int32 → vS → Prop} (ha : a = 114 ∨ a = 115) (hmm : I 105 0 = nI m) (hm6 : m ≤ 6) (h7 : ∀ t, t < 6 → I 107 t = A 107 t) (hN : I a = N) (hb : ∀ t, t < m → ∃ x, x < m ∧ N (2 + t) = nI x)
    (hk : ∀ I', (∀ b, b ≠ a → I' b = I b) → I' a = cutF A m N → kk (nI (ctF A N m)) (I', J, vRR ρ)) : V d 123 123 mX8_cuts 0 [.ref 103, .ref a, vJ, vJ] [] (I, J, vRR ρ) (Ki kk) := by
  have har : vAr 123 a 100 56 := by rcases ha with rfl | rfl <;> exact ⟨by decide, rfl, by decide⟩
  refine st_c rX8_cuts_0 ?_
  refine st_istore2 rX8_cuts_1 rfl ?_
  refine st_c rX8_cuts_2 ?_
  refine st_istore3 rX8_cuts_3 rfl ?_
  skip
  have key : ∀ (r t : Nat) (I2 : Nat → Nat → Int32), t + r = m → (∀ b, b ≠ a → I2 b = I b) → I2 a = cutN A N t → V d 123 123 mX8_cuts 4 [.ref 103, .ref a, .int (nI (ctF A N t)), .int (nI t)] [] (I2, J, vRR ρ) (Ki kk) := by
    intro r
    induction r with
    | zero =>
      intro t I2 he g gb
      have he : t = m := by omega
      subst he
      refine st_iload rX8_cuts_4 rfl ?_
      refine st_aload rX8_cuts_5 rfl ?_
      refine st_getR rX8_cuts_6 (by first | assumption | decide | exact ⟨by decide, rfl, by decide⟩) (by first | rfl | assumption) rfl ?_
      refine st_c rX8_cuts_9 ?_
      refine st_ialdN rX8_cuts_10 (by first | assumption | decide | exact ⟨by decide, rfl, by decide⟩) (by omega) ?_
      refine st_top (show I2 105 0 = nI t by rw [g 105 (by omega)]; exact hmm) ?_
      first | with_reducible refine st_icmp_geN rX8_cuts_11 (by omega) (by omega) (fun _ => ?_) (fun h => absurd h (by first | decide | omega | (simp; done) | simp_all)) | refine st_icmp_ge rX8_cuts_11 (fun _ => ?_) (fun h => absurd h (by first | decide | omega | (simp; done) | simp_all))
      refine st_aload rX8_cuts_58 rfl ?_
      refine st_c rX8_cuts_59 ?_
      refine st_dup2 rX8_cuts_60 rfl rfl ?_
      refine st_ialdN rX8_cuts_61 (by first | assumption | decide | exact ⟨by decide, rfl, by decide⟩) (by omega) ?_
      refine st_iload rX8_cuts_62 rfl ?_
      first | with_reducible refine st_iaddN rX8_cuts_63 ?_ | refine st_iadd rX8_cuts_63 ?_
      refine st_iastN rX8_cuts_64 (by first | assumption | decide | exact ⟨by decide, rfl, by decide⟩) (by omega) ?_
      refine st_iload rX8_cuts_65 rfl ?_
      refine st_iret rX8_cuts_66 rfl ?_
      refine hk _ (fun b hb => by rw [up_n hb, g b hb]) ?_
      rw [up_s, gb, cutF, cutN_lo (by omega)]
    | succ r ih =>
      intro t I2 he g gb
      have htm : t < m := by omega
      obtain ⟨y, hy, hyb⟩ := hb t htm
      have e1 : I2 a (2 + t) = nI y := by rw [gb, cutN_lo (by omega)]; exact hyb
      have e2 : I2 a (8 + t) = N (8 + t) := by rw [gb, cutN_lo (by omega)]
      have ew : wB A N t = A 107 y := by rw [wB, hyb, nI_clamp (by omega)]
      have e3 : I2 107 y = wB A N t := by rw [g 107 (by omega), ew]; exact h7 y (by omega)
      refine st_iload rX8_cuts_4 rfl ?_
      refine st_aload rX8_cuts_5 rfl ?_
      refine st_getR rX8_cuts_6 (by first | assumption | decide | exact ⟨by decide, rfl, by decide⟩) (by first | rfl | assumption) rfl ?_
      refine st_c rX8_cuts_9 ?_
      refine st_ialdN rX8_cuts_10 (by first | assumption | decide | exact ⟨by decide, rfl, by decide⟩) (by omega) ?_
      refine st_top (show I2 105 0 = nI m by rw [g 105 (by omega)]; exact hmm) ?_
      first | with_reducible refine st_icmp_geN rX8_cuts_11 (by omega) (by omega) (fun h => absurd h (by first | decide | omega | (simp; done) | simp_all)) (fun _ => ?_) | refine st_icmp_ge rX8_cuts_11 (fun h => absurd h (by first | decide | omega | (simp; done) | simp_all)) (fun _ => ?_)
      refine st_aload rX8_cuts_14 rfl ?_
      refine st_c rX8_cuts_15 ?_
      refine st_iload rX8_cuts_17 rfl ?_
      first | with_reducible refine st_iaddN rX8_cuts_18 ?_ | refine st_iadd rX8_cuts_18 ?_
      refine st_ialdN rX8_cuts_19 (by first | assumption | decide | exact ⟨by decide, rfl, by decide⟩) (by omega) ?_
      refine st_top e2 ?_
      refine st_aload rX8_cuts_20 rfl ?_
      refine st_getR rX8_cuts_21 (by first | assumption | decide | exact ⟨by decide, rfl, by decide⟩) (by first | rfl | assumption) rfl ?_
      refine st_aload rX8_cuts_24 rfl ?_
      refine st_c rX8_cuts_25 ?_
      refine st_iload rX8_cuts_26 rfl ?_
      first | with_reducible refine st_iaddN rX8_cuts_27 ?_ | refine st_iadd rX8_cuts_27 ?_
      refine st_ialdN rX8_cuts_28 (by first | assumption | decide | exact ⟨by decide, rfl, by decide⟩) (by omega) ?_
      refine st_top e1 ?_
      refine st_ialdN rX8_cuts_29 (by first | assumption | decide | exact ⟨by decide, rfl, by decide⟩) (by omega) ?_
      refine st_top e3 ?_
      first | with_reducible refine st_icmp_geN rX8_cuts_30 (by omega) (by omega) (fun h30 => ?_) (fun h30 => ?_) | refine st_icmp_ge rX8_cuts_30 (fun h30 => ?_) (fun h30 => ?_)
      · first | with_reducible refine st_iincN3 rX8_cuts_52 rfl ?_ | refine st_iinc3 rX8_cuts_52 rfl ?_
        refine st_goto rX8_cuts_55 ?_
        first
        | (have hn := ih (t + 1) I2 (by omega) g (by rw [cutN_f (Int32.not_lt.mpr h30)]; exact gb)
           simp only [ctF, if_neg (Int32.not_lt.mpr h30), Nat.add_zero] at hn
           exact hn)
        | (have hc : N (8 + t) < wB A N t := Int32.not_le.mp h30
           have hn := ih (t + 1) (up I2 a (va_up (I2 a) (8 + t) (wB A N t))) (by omega) (fun b hb => by rw [up_n hb, g b hb]) (by rw [up_s, gb, cutN_t hc])
           simp only [ctF, if_pos hc] at hn
           exact hn)
      · refine st_aload rX8_cuts_33 rfl ?_
        refine st_c rX8_cuts_34 ?_
        refine st_iload rX8_cuts_36 rfl ?_
        first | with_reducible refine st_iaddN rX8_cuts_37 ?_ | refine st_iadd rX8_cuts_37 ?_
        refine st_aload rX8_cuts_38 rfl ?_
        refine st_getR rX8_cuts_39 (by first | assumption | decide | exact ⟨by decide, rfl, by decide⟩) (by first | rfl | assumption) rfl ?_
        refine st_aload rX8_cuts_42 rfl ?_
        refine st_c rX8_cuts_43 ?_
        refine st_iload rX8_cuts_44 rfl ?_
        first | with_reducible refine st_iaddN rX8_cuts_45 ?_ | refine st_iadd rX8_cuts_45 ?_
        refine st_ialdN rX8_cuts_46 (by first | assumption | decide | exact ⟨by decide, rfl, by decide⟩) (by omega) ?_
        refine st_top e1 ?_
        refine st_ialdN rX8_cuts_47 (by first | assumption | decide | exact ⟨by decide, rfl, by decide⟩) (by omega) ?_
        refine st_top e3 ?_
        refine st_iastN rX8_cuts_48 (by first | assumption | decide | exact ⟨by decide, rfl, by decide⟩) (by omega) ?_
        first | with_reducible refine st_iincN2 rX8_cuts_49 rfl ?_ | refine st_iinc2 rX8_cuts_49 rfl ?_
        first | with_reducible refine st_iincN3 rX8_cuts_52 rfl ?_ | refine st_iinc3 rX8_cuts_52 rfl ?_
        refine st_goto rX8_cuts_55 ?_
        first
        | (have hn := ih (t + 1) I2 (by omega) g (by rw [cutN_f (Int32.not_lt.mpr h30)]; exact gb)
           simp only [ctF, if_neg (Int32.not_lt.mpr h30), Nat.add_zero] at hn
           exact hn)
        | (have hc : N (8 + t) < wB A N t := Int32.not_le.mp h30
           have hn := ih (t + 1) (up I2 a (va_up (I2 a) (8 + t) (wB A N t))) (by omega) (fun b hb => by rw [up_n hb, g b hb]) (by rw [up_s, gb, cutN_t hc])
           simp only [ctF, if_pos hc] at hn
           exact hn)
  exact key m 0 I (by omega) (fun a _ => rfl) (by rw [cutN_0]; exact hN)
end P26
