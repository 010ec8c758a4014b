/-! ===== a term passes ===== -/
def jdV (A : Nat → Nat → Int32) (N : Nat → Int32) (i : Nat) : Int32 := if N (2 + (A 111 i).toNatClampNeg) = A 110 i then nI 1 else nI 2
def jdN (A : Nat → Nat → Int32) (n : Nat) (N : Nat → Int32) : Nat → Int32 := fun k => if 14 ≤ k ∧ k < 14 + n ∧ A 112 (k - 14) = N 0 then jdV A N (k - 14) else N k
def skN (t : Nat) (N : Nat → Int32) : Nat → Int32 := fun k => if 20 ≤ k ∧ k < 56 ∧ (k - 20) % 6 < t ∧ N (2 + (k - 20) % 6) = nI ((k - 20) / 6) then N k + nI 1 else N k
def mvN (g : Nat → Nat) (m : Nat) (N : Nat → Int32) : Nat → Int32 := fun k => if 2 ≤ k ∧ k < 2 + m then N (2 + g (k - 2)) else N k
def psN (A : Nat → Nat → Int32) (m no : Nat) (g : Nat → Nat) (N : Nat → Int32) : Nat → Int32 := va_up (mvN g m (skN m (jdN A no N))) 0 (N 0 + nI 1)
theorem jdN_0 (A : Nat → Nat → Int32) (N : Nat → Int32) : jdN A 0 N = N := by
  funext k; simp only [jdN]; rw [if_neg (by omega)]
theorem jdN_o {A : Nat → Nat → Int32} {N : Nat → Int32} {n k : Nat} (h : k < 14 ∨ 14 + n ≤ k) : jdN A n N k = N k := by
  simp only [jdN]; rw [if_neg (by omega)]
theorem jdN_t {A : Nat → Nat → Int32} {N : Nat → Int32} {n : Nat} (h : A 112 n = N 0) : va_up (jdN A n N) (14 + n) (jdV A N n) = jdN A (n + 1) N := by
  funext k
  simp only [jdN, va_up]
  by_cases hk : k = 14 + n
  · subst hk
    rw [if_pos rfl, if_pos ⟨by omega, by omega, by rw [show 14 + n - 14 = n by omega]; exact h⟩, show 14 + n - 14 = n by omega]
  · rw [if_neg hk]
    by_cases h2 : 14 ≤ k ∧ k < 14 + n ∧ A 112 (k - 14) = N 0
    · rw [if_pos h2, if_pos ⟨h2.1, by omega, h2.2.2⟩]
    · rw [if_neg h2, if_neg (fun g => h2 ⟨g.1, by omega, g.2.2⟩)]
theorem jdN_f {A : Nat → Nat → Int32} {N : Nat → Int32} {n : Nat} (h : ¬ A 112 n = N 0) : jdN A (n + 1) N = jdN A n N := by
  funext k
  simp only [jdN]
  by_cases hk : k = 14 + n
  · subst hk
    rw [if_neg (fun g => h (by have := g.2.2; rw [show 14 + n - 14 = n by omega] at this; exact this)), if_neg (by omega)]
  · by_cases h2 : 14 ≤ k ∧ k < 14 + n ∧ A 112 (k - 14) = N 0
    · rw [if_pos h2, if_pos ⟨h2.1, by omega, h2.2.2⟩]
    · rw [if_neg h2, if_neg (fun g => h2 ⟨g.1, by omega, g.2.2⟩)]
theorem skN_0 (N : Nat → Int32) : skN 0 N = N := by
  funext k; simp only [skN]; rw [if_neg (by omega)]
theorem skN_o {N : Nat → Int32} {t k : Nat} (h : k < 20) : skN t N k = N k := by
  simp only [skN]; rw [if_neg (by omega)]
theorem skN_at {N : Nat → Int32} {t y : Nat} (ht : t < 6) (hy : y < 6) : skN t N (20 + (6 * y + t)) = N (20 + (6 * y + t)) := by
  simp only [skN]; rw [if_neg (by omega)]
theorem skN_s {N : Nat → Int32} {t y : Nat} (ht : t < 6) (hy : y < 6) (h : N (2 + t) = nI y) : va_up (skN t N) (20 + (6 * y + t)) (N (20 + (6 * y + t)) + nI 1) = skN (t + 1) N := by
  funext k
  simp only [skN, va_up]
  by_cases hk : k = 20 + (6 * y + t)
  · subst hk
    rw [if_pos rfl, if_pos ⟨by omega, by omega, by omega, by rw [show (20 + (6 * y + t) - 20) % 6 = t by omega, show (20 + (6 * y + t) - 20) / 6 = y by omega]; exact h⟩]
  · rw [if_neg hk]
    by_cases h2 : 20 ≤ k ∧ k < 56 ∧ (k - 20) % 6 < t ∧ N (2 + (k - 20) % 6) = nI ((k - 20) / 6)
    · rw [if_pos h2, if_pos ⟨h2.1, h2.2.1, by omega, h2.2.2.2⟩]
    · rw [if_neg h2, if_neg]
      rintro ⟨g1, g2, g3, g4⟩
      by_cases e : (k - 20) % 6 = t
      · rw [e, h] at g4
        have := (nI_eq (by omega) (by omega)).mp g4
        omega
      · exact h2 ⟨g1, g2, by omega, g4⟩
theorem ok_pass {A : Nat → Nat → Int32} {m no te : Nat} {g : Nat → Nat} {N : Nat → Int32} (hm : m ≤ 6) (hno : no ≤ 6) (h : OkN A m no N) (h0 : N 0 = nI te) (h80 : te < 80) (hg : ∃ c : Nat → Nat, ∀ t, t < m → g t < m ∧ c (g t) = t ∧ c t < m ∧ g (c t) = t) : OkN A m no (cutF A m (psN A m no g N)) ∧ cutF A m (psN A m no g N) 0 = nI (te + 1) ∧ ∀ t, t < m → ∃ x, x < m ∧ psN A m no g N (2 + t) = nI x := by
  obtain ⟨⟨b, c, hp⟩, hw, te', h2, h3, h4⟩ := h
  obtain ⟨gc, hg⟩ := hg
  have hte : te' = te := (nI_eq (by omega) (by omega)).mp (h3.symm.trans h0)
  subst hte
  have e2 : ∀ t, t < m → psN A m no g N (2 + t) = nI (b (g t)) := fun t ht => by
    rw [psN, va_up_n (by omega), mvN, if_pos (by omega), skN_o (by have := (hg t ht).1; rw [show 2 + t - 2 = t by omega]; omega), jdN_o (by have := (hg t ht).1; rw [show 2 + t - 2 = t by omega]; omega), show 2 + t - 2 = t by omega]
    exact (hp _ (hg t ht).1).1
  have e0 : psN A m no g N 0 = nI (te' + 1) := by rw [psN, va_up_s, h3, nI_add]
  have hp2 : PermN m (psN A m no g N) := ⟨fun t => b (g t), fun x => gc (c x), fun t ht => by
    have a1 := hg t ht
    have a2 := hp _ a1.1
    have a3 := hp t ht
    have a4 := hg _ a3.2.2.2.1
    refine ⟨e2 t ht, a2.2.1, ?_, a4.2.2.1, ?_⟩
    · show gc (c (b (g t))) = t
      rw [a2.2.2.1, a1.2.1]
    · show b (g (gc (c t))) = t
      rw [a4.2.2.2, a3.2.2.2.2]⟩
  refine ⟨ok_cut hm hno hp2 ⟨te' + 1, by omega, e0, fun i hi hne => ?_⟩, ?_, fun t ht => ⟨_, (hp _ (hg t ht).1).2.1, e2 t ht⟩⟩
  · rw [psN, va_up_n (by omega), mvN, if_neg (by omega), skN_o (by omega), jdN] at hne
    by_cases hc : 14 ≤ 14 + i ∧ 14 + i < 14 + no ∧ A 112 (14 + i - 14) = N 0
    · have := hc.2.2
      rw [show 14 + i - 14 = i by omega, h3] at this
      exact ⟨te', by omega, this⟩
    · rw [if_neg hc] at hne
      obtain ⟨x, hx, hx2⟩ := h4 i hi hne
      exact ⟨x, by omega, hx2⟩
  · rw [cutF, va_up_n (by decide), cutN_lo (by omega), e0]
section P30
variable {d : Nat} {I A : Nat → Nat → Int32} {J : Nat → Nat → Int64} {ρ m no : Nat} {T : Int64} {k : Int32 → vS → Prop} {kl : Int64 → vS → Prop} {kv : vS → Prop}
set_option maxHeartbeats 4000000 in
set_option maxRecDepth 100000 in
theorem s_judge {h : Nat} {N : Nat → Int32} (hg : vHg h) (hT : CT I ρ A m no) (hm6 : m ≤ 6) (hno6 : no ≤ 6) (hlo : 13 < h ∧ ρ + 8 < h) (hv : HV I h m N) (hoa : ∀ i, i < no → (∃ x, x < m ∧ A 110 i = nI x) ∧ (∃ x, x < m ∧ A 111 i = nI x) ∧ ∃ x, x ≤ 60 ∧ A 112 i = nI x)
    (hk : ∀ I', (∀ a, a ≠ h + 3 → I' a = I a) → HV I' h m (jdN A no N) → kv (I', J, vRR ρ)) : V (d + 1) 123 123 mX1_judgeOaths 0 [.ref h, .ref ρ, vJ, vJ] [] (I, J, vRR ρ) (Kv kv) := by
  obtain ⟨ht0, ht1, ht2, ht3, ht4, ht5, ht6, ht7, ht8, ht9, ht10⟩ := id hT
  obtain ⟨hto, o1, o2, o3, o4, o5, o6, o7, o8⟩ := toldF ht0
  obtain ⟨a0, a1, a2, a3, a4⟩ := hangF hg
  obtain ⟨v1, v2, v3, v4, v5, v6⟩ := hv
  refine st_c rX1_judgeOaths_0 ?_
  refine st_istore2 rX1_judgeOaths_1 rfl ?_
  have key : ∀ (r i : Nat) (I2 : Nat → Nat → Int32) (x : Value), i + r = no → (∀ a, a ≠ h + 3 → I2 a = I a) → (∀ j, j < 6 → I2 (h + 3) j = jdN A i N (14 + j)) → V (d + 1) 123 123 mX1_judgeOaths 2 [.ref h, .ref ρ, .int (nI i), x] [] (I2, J, vRR ρ) (Kv kv) := by
    intro r
    induction r with
    | zero =>
      intro i I2 x he g gb
      have he : i = no := by omega
      subst he
      refine st_iload rX1_judgeOaths_2 rfl ?_
      refine st_aload rX1_judgeOaths_3 rfl ?_
      refine st_getI rX1_judgeOaths_4 (by first | assumption | decide | exact ⟨by decide, rfl, by decide⟩) rfl ?_
      refine st_top (show I2 ρ 2 = nI i by rw [g ρ (by omega)]; exact ht3) ?_
      first | with_reducible refine st_icmp_geN rX1_judgeOaths_7 (by omega) (by omega) (fun _ => ?_) (fun h => absurd h (by first | decide | omega | (simp; done) | simp_all)) | refine st_icmp_ge rX1_judgeOaths_7 (fun _ => ?_) (fun h => absurd h (by first | decide | omega | (simp; done) | simp_all))
      refine st_vret rX1_judgeOaths_80 rfl ?_
      refine hk _ g ⟨?_, ?_, fun j hj => ?_, fun j hj => ?_, gb, fun j hj => ?_⟩
      · rw [g _ (by omega), jdN_o (by omega)]; exact v1
      · rw [g _ (by omega), jdN_o (by omega)]; exact v2
      · rw [g _ (by omega), jdN_o (by omega)]; exact v3 j hj
      · rw [g _ (by omega), jdN_o (by omega)]; exact v4 j hj
      · rw [g _ (by omega), jdN_o (by omega)]; exact v6 j hj
    | succ r ih =>
      intro i I2 x he g gb
      have hi : i < no := by omega
      obtain ⟨⟨ob, ob1, ob2⟩, ⟨ot, ot1, ot2⟩, -⟩ := hoa i hi
      have q12 : I2 (ρ + 8) i = A 112 i := by rw [g _ (by omega)]; exact ht10 i hi
      have q11 : I2 (ρ + 7) i = nI ot := by rw [g _ (by omega), ← ot2]; exact ht9 i hi
      have q10 : I2 (ρ + 6) i = A 110 i := by rw [g _ (by omega)]; exact ht8 i hi
      have q0 : I2 h 0 = N 0 := by rw [g _ (by omega)]; exact v1
      have qb : I2 (h + 1) ot = N (2 + ot) := by rw [g _ (by omega)]; exact v3 ot (by omega)
      have nxt : A 112 i = N 0 → ∀ y : Value, V (d + 1) 123 123 mX1_judgeOaths 2 [.ref h, .ref ρ, .int (nI (i + 1)), y] [] (up I2 (h + 3) (va_up (I2 (h + 3)) i (jdV A N i)), J, vRR ρ) (Kv kv) := fun hc y => ih (i + 1) _ y (by omega) (fun a ha => by rw [up_n ha, g a ha]) (fun j hj => by
        rw [up_s, ← jdN_t hc]
        by_cases hj2 : j = i
        · subst hj2; rw [va_up_s, va_up_s]
        · rw [va_up_n hj2, va_up_n (show 14 + j ≠ 14 + i by omega)]; exact gb j hj)
      refine st_iload rX1_judgeOaths_2 rfl ?_
      refine st_aload rX1_judgeOaths_3 rfl ?_
      refine st_getI rX1_judgeOaths_4 (by first | assumption | decide | exact ⟨by decide, rfl, by decide⟩) rfl ?_
      refine st_top (show I2 ρ 2 = nI no by rw [g ρ (by omega)]; exact ht3) ?_
      first | with_reducible refine st_icmp_geN rX1_judgeOaths_7 (by omega) (by omega) (fun h => absurd h (by first | decide | omega | (simp; done) | simp_all)) (fun _ => ?_) | refine st_icmp_ge rX1_judgeOaths_7 (fun h => absurd h (by first | decide | omega | (simp; done) | simp_all)) (fun _ => ?_)
      refine st_aload rX1_judgeOaths_10 rfl ?_
      refine st_getR rX1_judgeOaths_11 (by assumption) (tR10 (by assumption)) rfl ?_
      refine st_iload rX1_judgeOaths_14 rfl ?_
      refine cS2i rX1_judgeOaths_15 (s_at (by first | assumption | decide | exact ⟨by decide, rfl, by decide⟩) (by omega) ?_) rfl
      refine st_top q12 ?_
      refine st_aload rX1_judgeOaths_18 rfl ?_
      refine st_getI rX1_judgeOaths_19 (by first | assumption | decide | exact ⟨by decide, rfl, by decide⟩) rfl ?_
      refine st_top q0 ?_
      first | with_reducible refine st_icmp_neN rX1_judgeOaths_22 (by omega) (by omega) (fun h22 => ?_) (fun h22 => ?_) | refine st_icmp_ne rX1_judgeOaths_22 (fun h22 => ?_) (fun h22 => ?_)
      · first | with_reducible refine st_iincN2 rX1_judgeOaths_74 rfl ?_ | refine st_iinc2 rX1_judgeOaths_74 rfl ?_
        refine st_goto rX1_judgeOaths_77 ?_
        first
        | (exfalso; omega)
        | (exact ih (i + 1) I2 _ (by omega) g (fun j hj => by rw [jdN_f h22]; exact gb j hj))
        | (have e := nxt h22; rw [jdV, ot2, nI_clamp (by omega), if_pos h48] at e; exact e _)
        | (have e := nxt h22; rw [jdV, ot2, nI_clamp (by omega), if_neg h48] at e; exact e _)
      · refine st_aload rX1_judgeOaths_25 rfl ?_
        refine st_getR rX1_judgeOaths_26 (by first | assumption | decide) (by first | rfl | exact hR2 (by assumption)) rfl ?_
        refine st_aload rX1_judgeOaths_29 rfl ?_
        refine st_getR rX1_judgeOaths_30 (by assumption) (tR9 (by assumption)) rfl ?_
        refine st_iload rX1_judgeOaths_33 rfl ?_
        refine cS2i rX1_judgeOaths_34 (s_at (by first | assumption | decide | exact ⟨by decide, rfl, by decide⟩) (by omega) ?_) rfl
        refine st_top q11 ?_
        refine cS2i rX1_judgeOaths_37 (s_at (by first | assumption | decide | exact ⟨by decide, rfl, by decide⟩) (by omega) ?_) rfl
        refine st_top qb ?_
        refine st_aload rX1_judgeOaths_40 rfl ?_
        refine st_getR rX1_judgeOaths_41 (by assumption) (tR8 (by assumption)) rfl ?_
        refine st_iload rX1_judgeOaths_44 rfl ?_
        refine cS2i rX1_judgeOaths_45 (s_at (by first | assumption | decide | exact ⟨by decide, rfl, by decide⟩) (by omega) ?_) rfl
        refine st_top q10 ?_
        first | with_reducible refine st_icmp_neN rX1_judgeOaths_48 (by omega) (by omega) (fun h48 => ?_) (fun h48 => ?_) | refine st_icmp_ne rX1_judgeOaths_48 (fun h48 => ?_) (fun h48 => ?_)
        · refine st_c rX1_judgeOaths_55 ?_
          refine st_istore3 rX1_judgeOaths_56 rfl ?_
          refine st_aload rX1_judgeOaths_57 rfl ?_
          refine st_getR rX1_judgeOaths_58 (by first | assumption | decide) (by first | rfl | exact hR4 (by assumption)) rfl ?_
          refine st_iload rX1_judgeOaths_61 rfl ?_
          refine st_iload rX1_judgeOaths_62 rfl ?_
          first | with_reducible refine st_if_eqN rX1_judgeOaths_63 (by omega) (fun h63 => ?_) (fun h63 => ?_) | refine st_if_eq rX1_judgeOaths_63 (fun h63 => ?_) (fun h63 => ?_)
          · refine st_c rX1_judgeOaths_70 ?_
            refine cS3v rX1_judgeOaths_71 (s_put (by first | assumption | decide | exact ⟨by decide, rfl, by decide⟩) (by omega) ?_) rfl
            first | with_reducible refine st_iincN2 rX1_judgeOaths_74 rfl ?_ | refine st_iinc2 rX1_judgeOaths_74 rfl ?_
            refine st_goto rX1_judgeOaths_77 ?_
            first
            | (exfalso; omega)
            | (exact ih (i + 1) I2 _ (by omega) g (fun j hj => by rw [jdN_f h22]; exact gb j hj))
            | (have e := nxt h22; rw [jdV, ot2, nI_clamp (by omega), if_pos h48] at e; exact e _)
            | (have e := nxt h22; rw [jdV, ot2, nI_clamp (by omega), if_neg h48] at e; exact e _)
          · refine st_c rX1_judgeOaths_66 ?_
            refine st_goto rX1_judgeOaths_67 ?_
            refine cS3v rX1_judgeOaths_71 (s_put (by first | assumption | decide | exact ⟨by decide, rfl, by decide⟩) (by omega) ?_) rfl
            first | with_reducible refine st_iincN2 rX1_judgeOaths_74 rfl ?_ | refine st_iinc2 rX1_judgeOaths_74 rfl ?_
            refine st_goto rX1_judgeOaths_77 ?_
            first
            | (exfalso; omega)
            | (exact ih (i + 1) I2 _ (by omega) g (fun j hj => by rw [jdN_f h22]; exact gb j hj))
            | (have e := nxt h22; rw [jdV, ot2, nI_clamp (by omega), if_pos h48] at e; exact e _)
            | (have e := nxt h22; rw [jdV, ot2, nI_clamp (by omega), if_neg h48] at e; exact e _)
        · refine st_c rX1_judgeOaths_51 ?_
          refine st_goto rX1_judgeOaths_52 ?_
          refine st_istore3 rX1_judgeOaths_56 rfl ?_
          refine st_aload rX1_judgeOaths_57 rfl ?_
          refine st_getR rX1_judgeOaths_58 (by first | assumption | decide) (by first | rfl | exact hR4 (by assumption)) rfl ?_
          refine st_iload rX1_judgeOaths_61 rfl ?_
          refine st_iload rX1_judgeOaths_62 rfl ?_
          first | with_reducible refine st_if_eqN rX1_judgeOaths_63 (by omega) (fun h63 => ?_) (fun h63 => ?_) | refine st_if_eq rX1_judgeOaths_63 (fun h63 => ?_) (fun h63 => ?_)
          · refine st_c rX1_judgeOaths_70 ?_
            refine cS3v rX1_judgeOaths_71 (s_put (by first | assumption | decide | exact ⟨by decide, rfl, by decide⟩) (by omega) ?_) rfl
            first | with_reducible refine st_iincN2 rX1_judgeOaths_74 rfl ?_ | refine st_iinc2 rX1_judgeOaths_74 rfl ?_
            refine st_goto rX1_judgeOaths_77 ?_
            first
            | (exfalso; omega)
            | (exact ih (i + 1) I2 _ (by omega) g (fun j hj => by rw [jdN_f h22]; exact gb j hj))
            | (have e := nxt h22; rw [jdV, ot2, nI_clamp (by omega), if_pos h48] at e; exact e _)
            | (have e := nxt h22; rw [jdV, ot2, nI_clamp (by omega), if_neg h48] at e; exact e _)
          · refine st_c rX1_judgeOaths_66 ?_
            refine st_goto rX1_judgeOaths_67 ?_
            refine cS3v rX1_judgeOaths_71 (s_put (by first | assumption | decide | exact ⟨by decide, rfl, by decide⟩) (by omega) ?_) rfl
            first | with_reducible refine st_iincN2 rX1_judgeOaths_74 rfl ?_ | refine st_iinc2 rX1_judgeOaths_74 rfl ?_
            refine st_goto rX1_judgeOaths_77 ?_
            first
            | (exfalso; omega)
            | (exact ih (i + 1) I2 _ (by omega) g (fun j hj => by rw [jdN_f h22]; exact gb j hj))
            | (have e := nxt h22; rw [jdV, ot2, nI_clamp (by omega), if_pos h48] at e; exact e _)
            | (have e := nxt h22; rw [jdV, ot2, nI_clamp (by omega), if_neg h48] at e; exact e _)
  exact key no 0 I _ (by omega) (fun a _ => rfl) (fun j hj => by rw [jdN_0]; exact v5 j hj)
set_option maxHeartbeats 4000000 in
set_option maxRecDepth 100000 in
theorem s_carry {h : Nat} {N : Nat → Int32} {g : Nat → Nat} (hg : vHg h) (hlo : h + 4 < 100) (hm6 : m ≤ 6) (hv : ∀ t, t < 6 → I (h + 1) t = N (2 + t)) (hf : ∀ t, t < m → I 101 t = nI (g t) ∧ g t < m) (hf2 : ∀ t, m ≤ t → t < 6 → I 101 t = nI t)
    (hk : ∀ I', (∀ a, a ≠ h + 1 → a ≠ 102 → I' a = I a) → (∀ t, t < 6 → I' (h + 1) t = mvN g m N (2 + t)) → kv (I', J, vRR ρ)) : V (d + 1) 123 123 mX3_carry 0 [.ref 100, .ref (h + 1), vJ] [] (I, J, vRR ρ) (Kv kv) := by
  obtain ⟨a0, a1, a2, a3, a4⟩ := hangF hg
  have hfx : ∀ t, t < 6 → ∃ x, x < 6 ∧ I 101 t = nI x ∧ N (2 + x) = mvN g m N (2 + t) := fun t ht => by
    by_cases h1 : t < m
    · refine ⟨g t, by have := (hf t h1).2; omega, (hf t h1).1, ?_⟩
      rw [mvN, if_pos (by omega), show 2 + t - 2 = t by omega]
    · refine ⟨t, ht, hf2 t (by omega) ht, ?_⟩
      rw [mvN, if_neg (by omega)]
  refine st_c rX3_carry_0 ?_
  refine st_istore2 rX3_carry_1 rfl ?_
  have key : ∀ (r t : Nat) (I2 : Nat → Nat → Int32), t + r = 6 → (∀ a, a ≠ 102 → I2 a = I a) → (∀ j, j < t → I2 102 j = mvN g m N (2 + j)) → V (d + 1) 123 123 mX3_carry 2 [.ref 100, .ref (h + 1), .int (nI t)] [] (I2, J, vRR ρ) (Kv kv) := by
    intro r
    induction r with
    | zero =>
      intro t I2 he g1 gb
      have he : t = 6 := by omega
      subst he
      refine st_iload rX3_carry_2 rfl ?_
      refine st_c rX3_carry_3 ?_
      first | with_reducible refine st_icmp_geN rX3_carry_5 (by omega) (by omega) (fun _ => ?_) (fun h => absurd h (by first | decide | omega | (simp; done) | simp_all)) | refine st_icmp_ge rX3_carry_5 (fun _ => ?_) (fun h => absurd h (by first | decide | omega | (simp; done) | simp_all))
      refine st_c rX3_carry_30 ?_
      refine st_istore2 rX3_carry_31 rfl ?_
      skip
      have key2 : ∀ (r t : Nat) (I3 : Nat → Nat → Int32), t + r = 6 → (∀ a, a ≠ h + 1 → I3 a = I2 a) → (∀ j, j < t → I3 (h + 1) j = mvN g m N (2 + j)) → V (d + 1) 123 123 mX3_carry 32 [.ref 100, .ref (h + 1), .int (nI t)] [] (I3, J, vRR ρ) (Kv kv) := by
        intro r
        induction r with
        | zero =>
          intro t I3 he g2 gc
          have he : t = 6 := by omega
          subst he
          refine st_iload rX3_carry_32 rfl ?_
          refine st_c rX3_carry_33 ?_
          first | with_reducible refine st_icmp_geN rX3_carry_35 (by omega) (by omega) (fun _ => ?_) (fun h => absurd h (by first | decide | omega | (simp; done) | simp_all)) | refine st_icmp_ge rX3_carry_35 (fun _ => ?_) (fun h => absurd h (by first | decide | omega | (simp; done) | simp_all))
          refine st_vret rX3_carry_55 rfl ?_
          exact hk I3 (fun a h1 h2 => by rw [g2 a h1, g1 a h2]) gc
        | succ r ih2 =>
          intro t I3 he g2 gc
          refine st_iload rX3_carry_32 rfl ?_
          refine st_c rX3_carry_33 ?_
          first | with_reducible refine st_icmp_geN rX3_carry_35 (by omega) (by omega) (fun h => absurd h (by first | decide | omega | (simp; done) | simp_all)) (fun _ => ?_) | refine st_icmp_ge rX3_carry_35 (fun h => absurd h (by first | decide | omega | (simp; done) | simp_all)) (fun _ => ?_)
          refine st_aload rX3_carry_38 rfl ?_
          refine st_iload rX3_carry_39 rfl ?_
          refine st_aload rX3_carry_40 rfl ?_
          refine st_getR rX3_carry_41 (by first | assumption | decide | exact ⟨by decide, rfl, by decide⟩) (by first | rfl | assumption) rfl ?_
          refine st_iload rX3_carry_44 rfl ?_
          refine st_ialdN rX3_carry_45 (by first | assumption | decide | exact ⟨by decide, rfl, by decide⟩) (by omega) ?_
          refine st_top (show I3 102 t = mvN g m N (2 + t) by rw [g2 102 (by omega)]; exact gb t (by omega)) ?_
          refine cS3v rX3_carry_46 (s_put (by first | assumption | decide | exact ⟨by decide, rfl, by decide⟩) (by omega) ?_) rfl
          first | with_reducible refine st_iincN2 rX3_carry_49 rfl ?_ | refine st_iinc2 rX3_carry_49 rfl ?_
          refine st_goto rX3_carry_52 ?_
          refine ih2 (t + 1) _ (by omega) (fun a ha => by rw [up_n ha, g2 a ha]) (fun j hj => ?_)
          rw [up_s]
          by_cases hj2 : j = t
          · subst hj2; rw [va_up_s]
          · rw [va_up_n hj2]; exact gc j (by omega)
      exact key2 6 0 I2 (by omega) (fun a _ => rfl) (fun j hj => absurd hj (by omega))
    | succ r ih =>
      intro t I2 he g1 gb
      obtain ⟨x, hx, hx2, hx3⟩ := hfx t (by omega)
      refine st_iload rX3_carry_2 rfl ?_
      refine st_c rX3_carry_3 ?_
      first | with_reducible refine st_icmp_geN rX3_carry_5 (by omega) (by omega) (fun h => absurd h (by first | decide | omega | (simp; done) | simp_all)) (fun _ => ?_) | refine st_icmp_ge rX3_carry_5 (fun h => absurd h (by first | decide | omega | (simp; done) | simp_all)) (fun _ => ?_)
      refine st_aload rX3_carry_8 rfl ?_
      refine st_getR rX3_carry_9 (by first | assumption | decide | exact ⟨by decide, rfl, by decide⟩) (by first | rfl | assumption) rfl ?_
      refine st_iload rX3_carry_12 rfl ?_
      refine st_aload rX3_carry_13 rfl ?_
      refine st_aload rX3_carry_14 rfl ?_
      refine st_getR rX3_carry_15 (by first | assumption | decide | exact ⟨by decide, rfl, by decide⟩) (by first | rfl | assumption) rfl ?_
      refine st_iload rX3_carry_18 rfl ?_
      refine st_ialdN rX3_carry_19 (by first | assumption | decide | exact ⟨by decide, rfl, by decide⟩) (by omega) ?_
      refine st_top (show I2 101 t = nI x by rw [g1 101 (by omega)]; exact hx2) ?_
      refine cS2i rX3_carry_20 (s_at (by first | assumption | decide | exact ⟨by decide, rfl, by decide⟩) (by omega) ?_) rfl
      refine st_top (show I2 (h + 1) x = mvN g m N (2 + t) by rw [g1 (h + 1) (by omega), hv x hx, hx3]) ?_
      refine st_iastN rX3_carry_23 (by first | assumption | decide | exact ⟨by decide, rfl, by decide⟩) (by omega) ?_
      first | with_reducible refine st_iincN2 rX3_carry_24 rfl ?_ | refine st_iinc2 rX3_carry_24 rfl ?_
      refine st_goto rX3_carry_27 ?_
      refine ih (t + 1) _ (by omega) (fun a ha => by rw [up_n ha, g1 a ha]) (fun j hj => ?_)
      rw [up_s]
      by_cases hj2 : j = t
      · subst hj2; rw [va_up_s]
      · rw [va_up_n hj2]; exact gb j (by omega)
  exact key 6 0 I (by omega) (fun a _ => rfl) (fun j hj => absurd hj (by omega))
end P30
