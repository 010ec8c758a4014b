/-! ===== oaths, crossed, the past, the images ===== -/
def cntE (f : Nat → Int32) (x : Int32) : Nat → Nat
  | 0 => 0
  | n + 1 => cntE f x n + (if f n = x then 1 else 0)
theorem cntE_le (f : Nat → Int32) (x : Int32) : ∀ n, cntE f x n ≤ n := by
  intro n
  induction n with
  | zero => exact Nat.le_refl _
  | succ n ih => simp only [cntE]; split <;> omega
/-- n places of g laid into f from o on -/
def cpR (f g : Nat → Int32) (o n : Nat) : Nat → Int32 := fun k => if o ≤ k ∧ k < o + n then g (k - o) else f k
theorem cpR_0 (f g : Nat → Int32) (o : Nat) : cpR f g o 0 = f := by
  funext k
  simp only [cpR]
  rw [if_neg (by omega)]
theorem cpR_s (f g : Nat → Int32) (o n : Nat) : va_up (cpR f g o n) (o + n) (g n) = cpR f g o (n + 1) := by
  funext k
  simp only [cpR, va_up]
  by_cases h : k = o + n
  · subst h
    rw [if_pos rfl, if_pos (by omega)]
    congr 1
    omega
  · rw [if_neg h]
    by_cases h2 : o ≤ k ∧ k < o + n
    · rw [if_pos h2, if_pos (by omega)]
    · rw [if_neg h2, if_neg (by omega)]
theorem cpR_in {f g : Nat → Int32} {o n k : Nat} (h : k < n) : cpR f g o n (o + k) = g k := by
  simp only [cpR]
  rw [if_pos (by omega)]
  congr 1
  omega
theorem cpR_out {f g : Nat → Int32} {o n k : Nat} (h : k < o ∨ o + n ≤ k) : cpR f g o n k = f k := by
  simp only [cpR]
  rw [if_neg (by omega)]
theorem OkN_N {A : Nat → Nat → Int32} {m no : Nat} {N N' : Nat → Int32} (h : OkN A m no N) (hm : m ≤ 6) (hn : no ≤ 6) (e : ∀ k, k < 56 → N' k = N k) : OkN A m no N' := by
  obtain ⟨⟨b, c, h1⟩, h2, te, h3, h4, h5⟩ := h
  refine ⟨⟨b, c, fun t ht => ?_⟩, fun t x ht hx hx6 => ?_, te, h3, by rw [e 0 (by omega)]; exact h4, fun i hi hne => ?_⟩
  · rw [e (2 + t) (by omega)]; exact h1 t ht
  · rw [e (2 + t) (by omega)] at hx; rw [e (8 + t) (by omega)]; exact h2 t x ht hx hx6
  · rw [e (14 + i) (by omega)] at hne; exact h5 i hi hne
theorem Ok60_N {N N' : Nat → Int32} (h : Ok60 N) (e : N' 0 = N 0) : Ok60 N' := by
  obtain ⟨te, h1, h2⟩ := h
  exact ⟨te, h1, e.trans h2⟩
section P18
variable {d : Nat} {I A : Nat → Nat → Int32} {J : Nat → Nat → Int64} {ρ m no : Nat} {T : Int64} {k : Int32 → vS → Prop} {kl : Int64 → vS → Prop} {kv : vS → Prop}
set_option maxHeartbeats 4000000 in
set_option maxRecDepth 100000 in
theorem c_oathsBad {q : Int32} (hq : isT 3 q = false) (hk : k (-1) (I, J, vRR ρ)) : V (d + 1) 123 123 mX7_oaths 0 [.ref 0, .int q, vJ, vJ] [] (I, J, vRR ρ) (Ki k) := by
  refine st_iload rX7_oaths_0 rfl ?_
  refine st_c rX7_oaths_1 ?_
  refine st_c rX7_oaths_2 ?_
  refine cS3i rX7_oaths_3 (s_within ?_) rfl
  rw [inR_N (by decide), hq]
  first | refine st_if_neN rX7_oaths_6 (by omega) (fun h => absurd h (by first | decide | omega | (simp; done) | simp_all)) (fun _ => ?_) | refine st_if_ne rX7_oaths_6 (fun h => absurd h (by first | decide | omega | (simp; done) | simp_all)) (fun _ => ?_)
  refine st_c rX7_oaths_9 ?_
  refine st_iret rX7_oaths_10 rfl ?_
  exact hk
set_option maxHeartbeats 4000000 in
set_option maxRecDepth 100000 in
theorem m_oathsBad {q : Int32} (hM : InvM I J A T) (hq : isT 3 q = false) (hk : ∀ I', (∀ a, a < 103 ∨ 123 ≤ a → I' a = I a) → InvM I' J A T → k (-1) (I', J, vRR ρ)) : V (d + 1) 123 123 mX8_oaths 0 [.ref 103, .int q, vJ, vJ] [] (I, J, vRR ρ) (Ki k) := by
  refine s_thr rX8_oaths_0 rX8_oaths_1 rX8_oaths_2 hM (fun I1 e1 e2 hM1 => ?_)
  refine st_iload rX8_oaths_5 rfl ?_
  refine st_c rX8_oaths_6 ?_
  refine st_c rX8_oaths_7 ?_
  refine cS3i rX8_oaths_8 (s_in ?_) rfl
  rw [inR_N (by decide), hq]
  first | refine st_if_neN rX8_oaths_11 (by omega) (fun h => absurd h (by first | decide | omega | (simp; done) | simp_all)) (fun _ => ?_) | refine st_if_ne rX8_oaths_11 (fun h => absurd h (by first | decide | omega | (simp; done) | simp_all)) (fun _ => ?_)
  refine st_c rX8_oaths_14 ?_
  refine st_iret rX8_oaths_15 rfl ?_
  exact hk I1 (fun a ha => e1 a (by omega)) hM1
set_option maxHeartbeats 4000000 in
set_option maxRecDepth 100000 in
theorem c_oaths {q : Nat} (hC : InvC I J ρ A T m no) (hO : OkA A m no) (hq : q < 3) (hk : k (nI (cntE (fun i => A 114 (14 + i)) (nI q) no)) (I, J, vRR ρ)) : V (d + 1) 123 123 mX7_oaths 0 [.ref 0, .int (nI q), vJ, vJ] [] (I, J, vRR ρ) (Ki k) := by
  obtain ⟨ht0, ht1, ht2, ht3, ht4, ht5, ht6, ht7, ht8, ht9, ht10⟩ := id hC.1
  obtain ⟨hto, o1, o2, o3, o4, o5, o6, o7, o8⟩ := toldF ht0
  have hm6 : m ≤ 6 := hO.1.2.2.1
  have hno6 : no ≤ 6 := hO.1.2.2.2.1
  have hv := hC.2.2.1
  have hg : vHg 22 := ⟨by decide, rfl⟩
  refine st_iload rX7_oaths_0 rfl ?_
  refine st_c rX7_oaths_1 ?_
  refine st_c rX7_oaths_2 ?_
  refine cS3i rX7_oaths_3 (s_within ?_) rfl
  rw [inR_N (by decide), isT_n hq (by omega)]
  first | refine st_if_neN rX7_oaths_6 (by omega) (fun _ => ?_) (fun h => absurd h (by first | decide | omega | (simp; done) | simp_all)) | refine st_if_ne rX7_oaths_6 (fun _ => ?_) (fun h => absurd h (by first | decide | omega | (simp; done) | simp_all))
  refine st_c rX7_oaths_11 ?_
  refine st_istore2 rX7_oaths_12 rfl ?_
  refine st_c rX7_oaths_13 ?_
  refine st_istore3 rX7_oaths_14 rfl ?_
  skip
  have key : ∀ (r i : Nat), i + r = no → V (d + 1) 123 123 mX7_oaths 15 [.ref 0, .int (nI q), .int (nI (cntE (fun i => A 114 (14 + i)) (nI q) i)), .int (nI i)] [] (I, J, vRR ρ) (Ki k) := by
    intro r
    induction r with
    | zero =>
      intro i hi
      have hi : i = no := by omega
      subst hi
      refine st_iload rX7_oaths_15 rfl ?_
      refine st_aload rX7_oaths_16 rfl ?_
      refine st_getR rX7_oaths_17 (by first | assumption | decide | exact ⟨by decide, rfl, by decide⟩) (by first | rfl | assumption) rfl ?_
      refine st_getI rX7_oaths_20 (by first | assumption | decide | exact ⟨by decide, rfl, by decide⟩) rfl ?_
      refine st_top ht3 ?_
      first | refine st_icmp_geN rX7_oaths_23 (by omega) (by omega) (fun _ => ?_) (fun h => absurd h (by first | decide | omega | (simp; done) | simp_all)) | refine st_icmp_ge rX7_oaths_23 (fun _ => ?_) (fun h => absurd h (by first | decide | omega | (simp; done) | simp_all))
      refine st_iload rX7_oaths_50 rfl ?_
      refine st_iret rX7_oaths_51 rfl ?_
      exact hk
    | succ r ih =>
      intro i hi
      have hn := ih (i + 1) (by omega)
      refine st_iload rX7_oaths_15 rfl ?_
      refine st_aload rX7_oaths_16 rfl ?_
      refine st_getR rX7_oaths_17 (by first | assumption | decide | exact ⟨by decide, rfl, by decide⟩) (by first | rfl | assumption) rfl ?_
      refine st_getI rX7_oaths_20 (by first | assumption | decide | exact ⟨by decide, rfl, by decide⟩) rfl ?_
      refine st_top ht3 ?_
      first | refine st_icmp_geN rX7_oaths_23 (by omega) (by omega) (fun h => absurd h (by first | decide | omega | (simp; done) | simp_all)) (fun _ => ?_) | refine st_icmp_ge rX7_oaths_23 (fun h => absurd h (by first | decide | omega | (simp; done) | simp_all)) (fun _ => ?_)
      refine st_aload rX7_oaths_26 rfl ?_
      refine st_getR rX7_oaths_27 (by first | assumption | decide | exact ⟨by decide, rfl, by decide⟩) (by first | rfl | assumption) rfl ?_
      refine st_getR rX7_oaths_30 (by first | assumption | decide) (by first | rfl | exact hR4 (by assumption)) rfl ?_
      refine st_iload rX7_oaths_33 rfl ?_
      refine cS2i rX7_oaths_34 (s_at (by first | assumption | decide | exact ⟨by decide, rfl, by decide⟩) (by omega) ?_) rfl
      refine st_top (hv.2.2.2.2.1 i (by omega)) ?_
      refine st_iload rX7_oaths_37 rfl ?_
      first | refine st_icmp_neN rX7_oaths_38 (by omega) (by omega) (fun h38 => ?_) (fun h38 => ?_) | refine st_icmp_ne rX7_oaths_38 (fun h38 => ?_) (fun h38 => ?_)
      · first | refine st_iincN3 rX7_oaths_44 rfl ?_ | refine st_iinc3 rX7_oaths_44 rfl ?_
        refine st_goto rX7_oaths_47 ?_
        first | (rw [show cntE (fun i => A 114 (14 + i)) (nI q) (i + 1) = cntE (fun i => A 114 (14 + i)) (nI q) i + 1 by simp only [cntE]; rw [if_pos h38]] at hn; exact hn) | (rw [show cntE (fun i => A 114 (14 + i)) (nI q) (i + 1) = cntE (fun i => A 114 (14 + i)) (nI q) i + 0 by simp only [cntE]; rw [if_neg h38]] at hn; exact hn)
      · first | refine st_iincN2 rX7_oaths_41 rfl ?_ | refine st_iinc2 rX7_oaths_41 rfl ?_
        first | refine st_iincN3 rX7_oaths_44 rfl ?_ | refine st_iinc3 rX7_oaths_44 rfl ?_
        refine st_goto rX7_oaths_47 ?_
        first | (rw [show cntE (fun i => A 114 (14 + i)) (nI q) (i + 1) = cntE (fun i => A 114 (14 + i)) (nI q) i + 1 by simp only [cntE]; rw [if_pos h38]] at hn; exact hn) | (rw [show cntE (fun i => A 114 (14 + i)) (nI q) (i + 1) = cntE (fun i => A 114 (14 + i)) (nI q) i + 0 by simp only [cntE]; rw [if_neg h38]] at hn; exact hn)
  exact key no 0 (by omega)
set_option maxHeartbeats 4000000 in
set_option maxRecDepth 100000 in
theorem m_oaths {q : Nat} (hM : InvM I J A T) (hO : OkA A m no) (hq : q < 3) (hk : ∀ I', (∀ a, a < 103 ∨ 123 ≤ a → I' a = I a) → InvM I' J A T → k (nI (cntE (fun i => A 114 (14 + i)) (nI q) no)) (I', J, vRR ρ)) : V (d + 1) 123 123 mX8_oaths 0 [.ref 103, .int (nI q), vJ, vJ] [] (I, J, vRR ρ) (Ki k) := by
  refine s_thr rX8_oaths_0 rX8_oaths_1 rX8_oaths_2 hM (fun I1 e1 e2 hM1 => ?_)
  have hm6 : m ≤ 6 := hO.1.2.2.1
  have hno6 : no ≤ 6 := hO.1.2.2.2.1
  obtain ⟨m1, m2, m3, m4, m5, m6, m7, m8, m9, m10, m11, m12, m13, m14, m15, m16⟩ := id hM1
  have hmm : I1 105 0 = nI m := m11.trans hO.1.1
  have hmo : I1 105 1 = nI no := m12.trans hO.1.2.1
  refine st_iload rX8_oaths_5 rfl ?_
  refine st_c rX8_oaths_6 ?_
  refine st_c rX8_oaths_7 ?_
  refine cS3i rX8_oaths_8 (s_in ?_) rfl
  rw [inR_N (by decide), isT_n hq (by omega)]
  first | refine st_if_neN rX8_oaths_11 (by omega) (fun _ => ?_) (fun h => absurd h (by first | decide | omega | (simp; done) | simp_all)) | refine st_if_ne rX8_oaths_11 (fun _ => ?_) (fun h => absurd h (by first | decide | omega | (simp; done) | simp_all))
  refine st_c rX8_oaths_16 ?_
  refine st_istore2 rX8_oaths_17 rfl ?_
  refine st_c rX8_oaths_18 ?_
  refine st_istore3 rX8_oaths_19 rfl ?_
  skip
  have key : ∀ (r i : Nat), i + r = no → V (d + 1) 123 123 mX8_oaths 20 [.ref 103, .int (nI q), .int (nI (cntE (fun i => A 114 (14 + i)) (nI q) i)), .int (nI i)] [] (I1, J, vRR ρ) (Ki k) := by
    intro r
    induction r with
    | zero =>
      intro i hi
      have hi : i = no := by omega
      subst hi
      refine st_iload rX8_oaths_20 rfl ?_
      refine st_aload rX8_oaths_21 rfl ?_
      refine st_getR rX8_oaths_22 (by first | assumption | decide | exact ⟨by decide, rfl, by decide⟩) (by first | rfl | assumption) rfl ?_
      refine st_c rX8_oaths_25 ?_
      refine st_ialdN rX8_oaths_26 (by first | assumption | decide | exact ⟨by decide, rfl, by decide⟩) (by omega) ?_
      refine st_top hmo ?_
      first | refine st_icmp_geN rX8_oaths_27 (by omega) (by omega) (fun _ => ?_) (fun h => absurd h (by first | decide | omega | (simp; done) | simp_all)) | refine st_icmp_ge rX8_oaths_27 (fun _ => ?_) (fun h => absurd h (by first | decide | omega | (simp; done) | simp_all))
      refine st_iload rX8_oaths_57 rfl ?_
      refine st_iret rX8_oaths_58 rfl ?_
      exact hk I1 (fun a ha => e1 a (by omega)) hM1
    | succ r ih =>
      intro i hi
      have hn := ih (i + 1) (by omega)
      refine st_iload rX8_oaths_20 rfl ?_
      refine st_aload rX8_oaths_21 rfl ?_
      refine st_getR rX8_oaths_22 (by first | assumption | decide | exact ⟨by decide, rfl, by decide⟩) (by first | rfl | assumption) rfl ?_
      refine st_c rX8_oaths_25 ?_
      refine st_ialdN rX8_oaths_26 (by first | assumption | decide | exact ⟨by decide, rfl, by decide⟩) (by omega) ?_
      refine st_top hmo ?_
      first | refine st_icmp_geN rX8_oaths_27 (by omega) (by omega) (fun h => absurd h (by first | decide | omega | (simp; done) | simp_all)) (fun _ => ?_) | refine st_icmp_ge rX8_oaths_27 (fun h => absurd h (by first | decide | omega | (simp; done) | simp_all)) (fun _ => ?_)
      refine st_iload rX8_oaths_30 rfl ?_
      refine st_aload rX8_oaths_31 rfl ?_
      refine st_getR rX8_oaths_32 (by first | assumption | decide | exact ⟨by decide, rfl, by decide⟩) (by first | rfl | assumption) rfl ?_
      refine st_c rX8_oaths_35 ?_
      refine st_iload rX8_oaths_37 rfl ?_
      first | refine st_iaddN rX8_oaths_38 ?_ | refine st_iadd rX8_oaths_38 ?_
      refine st_ialdN rX8_oaths_39 (by first | assumption | decide | exact ⟨by decide, rfl, by decide⟩) (by omega) ?_
      rw [m3]
      refine st_iload rX8_oaths_40 rfl ?_
      first | refine st_icmp_neN rX8_oaths_41 (by omega) (by omega) (fun h41 => ?_) (fun h41 => ?_) | refine st_icmp_ne rX8_oaths_41 (fun h41 => ?_) (fun h41 => ?_)
      · refine st_c rX8_oaths_48 ?_
        first | refine st_iaddN rX8_oaths_49 ?_ | refine st_iadd rX8_oaths_49 ?_
        refine st_istore2 rX8_oaths_50 rfl ?_
        first | refine st_iincN3 rX8_oaths_51 rfl ?_ | refine st_iinc3 rX8_oaths_51 rfl ?_
        refine st_goto rX8_oaths_54 ?_
        first | (rw [show cntE (fun i => A 114 (14 + i)) (nI q) (i + 1) = cntE (fun i => A 114 (14 + i)) (nI q) i + 1 by simp only [cntE]; rw [if_pos h41]] at hn; exact hn) | (rw [show cntE (fun i => A 114 (14 + i)) (nI q) (i + 1) = cntE (fun i => A 114 (14 + i)) (nI q) i + 0 by simp only [cntE]; rw [if_neg h41]] at hn; exact hn)
      · refine st_c rX8_oaths_44 ?_
        refine st_goto rX8_oaths_45 ?_
        first | refine st_iaddN rX8_oaths_49 ?_ | refine st_iadd rX8_oaths_49 ?_
        refine st_istore2 rX8_oaths_50 rfl ?_
        first | refine st_iincN3 rX8_oaths_51 rfl ?_ | refine st_iinc3 rX8_oaths_51 rfl ?_
        refine st_goto rX8_oaths_54 ?_
        first | (rw [show cntE (fun i => A 114 (14 + i)) (nI q) (i + 1) = cntE (fun i => A 114 (14 + i)) (nI q) i + 1 by simp only [cntE]; rw [if_pos h41]] at hn; exact hn) | (rw [show cntE (fun i => A 114 (14 + i)) (nI q) (i + 1) = cntE (fun i => A 114 (14 + i)) (nI q) i + 0 by simp only [cntE]; rw [if_neg h41]] at hn; exact hn)
  exact key no 0 (by omega)
end P18
