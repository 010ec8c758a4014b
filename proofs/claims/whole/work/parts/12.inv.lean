/-! ===== the two sides of the picture: A is what the reference's cells hold ===== -/
def farC (x : Int32) : Int32 := if x = nI 1000000 then -9 else x
/-- how many of the first n places hold a number above 0 -/
def cntP (f : Nat → Int32) : Nat → Nat
  | 0 => 0
  | n + 1 => cntP f n + (if 0 < f n then 1 else 0)
abbrev rw56 (A : Nat → Nat → Int32) (a j : Nat) : Nat → Int32 := fun k => A a (56 * j + k)
/-- the bells in the towns are a permutation -/
def PermN (m : Nat) (N : Nat → Int32) : Prop := ∃ b c : Nat → Nat, ∀ t, t < m → N (2 + t) = nI (b t) ∧ b t < m ∧ c (b t) = t ∧ c t < m ∧ b (c t) = t
def OkN (A : Nat → Nat → Int32) (m no : Nat) (N : Nat → Int32) : Prop := PermN m N ∧ (∀ t x, t < m → N (2 + t) = nI x → x < 6 → A 107 x ≤ N (8 + t)) ∧ ∃ te : Nat, te ≤ 80 ∧ N 0 = nI te ∧ ∀ i, i < no → N (14 + i) ≠ nI 0 → ∃ x, x < te ∧ A 112 i = nI x
def Ok60 (N : Nat → Int32) : Prop := ∃ te : Nat, te ≤ 60 ∧ N 0 = nI te
def OkT (A : Nat → Nat → Int32) (m no : Nat) : Prop := A 105 0 = nI m ∧ A 105 1 = nI no ∧ m ≤ 6 ∧ no ≤ 6 ∧ (∀ t, t < m → ∃ x, 1 ≤ x ∧ x ≤ 99 ∧ A 107 t = nI x) ∧ (∀ t, t < m → ∃ x, x ≤ 6 ∧ A 108 t = nI x) ∧ (∀ k, k < 36 → ∃ x, x ≤ 9 ∧ A 109 k = nI x)
  ∧ (∀ a b, a < m → b < m → A 113 (6 * a + b) = nI 1000000 ∧ a ≠ b ∨ ∃ x, x ≤ 576 ∧ A 113 (6 * a + b) = nI x ∧ (x = 0 ↔ a = b)) ∧ (∀ i, i < no → (∃ x, x < m ∧ A 110 i = nI x) ∧ (∃ x, x < m ∧ A 111 i = nI x) ∧ ∃ x, x ≤ 60 ∧ A 112 i = nI x)
def OkL (A : Nat → Nat → Int32) : Prop := ∃ L, L ≤ 200 ∧ A 103 3 = nI L ∧ ∀ j, j < L → ∃ x, x < 256 ∧ A 104 j = nI x
def OkU (A : Nat → Nat → Int32) (m no : Nat) : Prop := ∃ u, u ≤ 10 ∧ A 103 23 = nI u ∧ ∀ j, j < u → OkN A m no (rw56 A 118 j) ∧ Ok60 (rw56 A 118 j)
def OkI (A : Nat → Nat → Int32) (m no : Nat) : Prop := ∀ i, i < 2 → (A 117 i = nI 0 ∨ A 117 i = nI 1) ∧ (A 117 i = nI 1 → OkN A m no (rw56 A 116 i) ∧ Ok60 (rw56 A 116 i))
def OkF (A : Nat → Nat → Int32) (m : Nat) : Prop := ∃ f, f ≤ 5 ∧ A 103 26 = nI f ∧ ∀ e, e < f → (∃ x, x < m ∧ A 119 e = nI x) ∧ ∃ x, x < m ∧ A 120 e = nI x
def OkA (A : Nat → Nat → Int32) (m no : Nat) : Prop := OkT A m no ∧ OkL A ∧ OkN A m no (A 114) ∧ Ok60 (A 114) ∧ OkU A m no ∧ OkI A m no ∧ OkF A m
/-- the class's cells against A -/
def CT (I : Nat → Nat → Int32) (ρ : Nat) (A : Nat → Nat → Int32) (m no : Nat) : Prop := vTo ρ ∧ I ρ 0 = nI m ∧ I ρ 1 = nI (cntP (A 109) 36 / 2) ∧ I ρ 2 = nI no ∧ (∀ t, t < m → I (ρ + 2) t = A 107 t) ∧ (∀ t, t < m → I (ρ + 3) t = A 108 t) ∧ (∀ a b, a < m → b < m → I (ρ + 4) (a * 6 + b) = A 109 (6 * a + b)) ∧ (∀ a b, a < m → b < m → I (ρ + 5) (a * 6 + b) = farC (A 113 (6 * a + b)))
  ∧ (∀ i, i < no → I (ρ + 6) i = A 110 i) ∧ (∀ i, i < no → I (ρ + 7) i = A 111 i) ∧ (∀ i, i < no → I (ρ + 8) i = A 112 i)
def CL (I A : Nat → Nat → Int32) : Prop := I 1 1 = A 103 3 ∧ ∀ L, A 103 3 = nI L → L ≤ 200 → ∀ j, j < L → I 2 j = A 104 j
def CU (I A : Nat → Nat → Int32) (m : Nat) : Prop := ∃ q, q < 10 ∧ I 32 1 = nI q ∧ I 32 2 = A 103 23 ∧ ∀ u, u ≤ 10 → A 103 23 = nI u → ∀ j, j < u → HV I (34 + 5 * ((q + 11 + j - u) % 10)) m (rw56 A 118 j)
def CI (I A : Nat → Nat → Int32) (m : Nat) : Prop := ∀ i, i < 2 → I 86 i = A 117 i ∧ (A 117 i = nI 1 → HV I (87 + 5 * i) m (rw56 A 116 i))
def CF (I A : Nat → Nat → Int32) : Prop := I 97 2 = A 103 26 ∧ ∀ f, f ≤ 5 → A 103 26 = nI f → ∀ e, e < f → I 98 e = A 119 e ∧ I 99 e = A 120 e
def InvC (I : Nat → Nat → Int32) (J : Nat → Nat → Int64) (ρ : Nat) (A : Nat → Nat → Int32) (T : Int64) (m no : Nat) : Prop := CT I ρ A m no ∧ CL I A ∧ HV I 22 m (A 114) ∧ CU I A m ∧ CI I A m ∧ CF I A ∧ J 0 9 = T
/-- the reference's cells are A's, as far as calls can see them -/
def InvM (I : Nat → Nat → Int32) (J : Nat → Nat → Int64) (A : Nat → Nat → Int32) (T : Int64) : Prop := I 104 = A 104 ∧ I 113 = A 113 ∧ I 114 = A 114 ∧ I 116 = A 116 ∧ I 117 = A 117 ∧ I 118 = A 118 ∧ I 119 = A 119 ∧ I 120 = A 120 ∧ (∀ k, k < 6 → I 107 k = A 107 k ∧ I 108 k = A 108 k ∧ I 110 k = A 110 k ∧ I 111 k = A 111 k ∧ I 112 k = A 112 k) ∧ (∀ k, k < 36 → I 109 k = A 109 k) ∧ I 105 0 = A 105 0 ∧ I 105 1 = A 105 1 ∧ I 103 3 = A 103 3 ∧ I 103 23 = A 103 23 ∧ I 103 26 = A 103 26 ∧ J 103 1 = T
theorem InvC_same {I I' : Nat → Nat → Int32} {J : Nat → Nat → Int64} {ρ : Nat} {A : Nat → Nat → Int32} {T : Int64} {m no : Nat} (h : InvC I J ρ A T m no) (e : ∀ a, a < 27 ∨ 31 < a → a < 100 → I' a = I a) : InvC I' J ρ A T m no := by
  obtain ⟨hT, hL, hN, ⟨q, u0, u1, u2, u3⟩, hI, hF, hJ⟩ := h
  have hρ : ρ ≤ 13 := by rcases hT.1 with h | h <;> omega
  obtain ⟨t0, t1, t2, t3, t4, t5, t6, t7, t8, t9, t10⟩ := hT
  refine ⟨⟨t0, ?_, ?_, ?_, fun t ht => ?_, fun t ht => ?_, fun a b ha hb => ?_, fun a b ha hb => ?_, fun t ht => ?_, fun t ht => ?_, fun t ht => ?_⟩, ⟨?_, fun L hL1 hL2 j hj => ?_⟩, HV_cong hN (fun a _ _ => e a (by omega) (by omega)), ⟨q, u0, ?_, ?_, fun u v1 v2 j hj => HV_cong (u3 u v1 v2 j hj) (fun a _ _ => e a (by omega) (by omega))⟩, fun i hi => ⟨?_, fun h1 => HV_cong ((hI i hi).2 h1) (fun a _ _ => e a (by omega) (by omega))⟩, ⟨?_, fun f f1 f2 i hi => ⟨?_, ?_⟩⟩, hJ⟩
  · rw [e ρ (by omega) (by omega)]; exact t1
  · rw [e ρ (by omega) (by omega)]; exact t2
  · rw [e ρ (by omega) (by omega)]; exact t3
  · rw [e (ρ + 2) (by omega) (by omega)]; exact t4 t ht
  · rw [e (ρ + 3) (by omega) (by omega)]; exact t5 t ht
  · rw [e (ρ + 4) (by omega) (by omega)]; exact t6 a b ha hb
  · rw [e (ρ + 5) (by omega) (by omega)]; exact t7 a b ha hb
  · rw [e (ρ + 6) (by omega) (by omega)]; exact t8 t ht
  · rw [e (ρ + 7) (by omega) (by omega)]; exact t9 t ht
  · rw [e (ρ + 8) (by omega) (by omega)]; exact t10 t ht
  · rw [e 1 (by omega) (by omega)]; exact hL.1
  · rw [e 2 (by omega) (by omega)]; exact hL.2 L hL1 hL2 j hj
  · rw [e 32 (by omega) (by omega)]; exact u1
  · rw [e 32 (by omega) (by omega)]; exact u2
  · rw [e 86 (by omega) (by omega)]; exact (hI i hi).1
  · rw [e 97 (by omega) (by omega)]; exact hF.1
  · rw [e 98 (by omega) (by omega)]; exact (hF.2 f f1 f2 i hi).1
  · rw [e 99 (by omega) (by omega)]; exact (hF.2 f f1 f2 i hi).2
theorem InvM_same {I I' : Nat → Nat → Int32} {J : Nat → Nat → Int64} {A : Nat → Nat → Int32} {T : Int64} (h : InvM I J A T) (e : ∀ a, 103 < a → a < 123 → a ≠ 115 → a ≠ 121 → a ≠ 122 → I' a = I a) (e3 : ∀ k, k ≠ 0 → I' 103 k = I 103 k) : InvM I' J A T := by
  obtain ⟨m1, m2, m3, m4, m5, m6, m7, m8, m9, m10, m11, m12, m13, m14, m15, m16⟩ := h
  refine ⟨?_, ?_, ?_, ?_, ?_, ?_, ?_, ?_, fun k hk => ?_, fun k hk => ?_, ?_, ?_, ?_, ?_, ?_, m16⟩
  · rw [e 104 (by omega) (by omega) (by omega) (by omega) (by omega)]; exact m1
  · rw [e 113 (by omega) (by omega) (by omega) (by omega) (by omega)]; exact m2
  · rw [e 114 (by omega) (by omega) (by omega) (by omega) (by omega)]; exact m3
  · rw [e 116 (by omega) (by omega) (by omega) (by omega) (by omega)]; exact m4
  · rw [e 117 (by omega) (by omega) (by omega) (by omega) (by omega)]; exact m5
  · rw [e 118 (by omega) (by omega) (by omega) (by omega) (by omega)]; exact m6
  · rw [e 119 (by omega) (by omega) (by omega) (by omega) (by omega)]; exact m7
  · rw [e 120 (by omega) (by omega) (by omega) (by omega) (by omega)]; exact m8
  · rw [e 107 (by omega) (by omega) (by omega) (by omega) (by omega), e 108 (by omega) (by omega) (by omega) (by omega) (by omega), e 110 (by omega) (by omega) (by omega) (by omega) (by omega), e 111 (by omega) (by omega) (by omega) (by omega) (by omega), e 112 (by omega) (by omega) (by omega) (by omega) (by omega)]; exact m9 k hk
  · rw [e 109 (by omega) (by omega) (by omega) (by omega) (by omega)]; exact m10 k hk
  · rw [e 105 (by omega) (by omega) (by omega) (by omega) (by omega)]; exact m11
  · rw [e 105 (by omega) (by omega) (by omega) (by omega) (by omega)]; exact m12
  · rw [e3 3 (by omega)]; exact m13
  · rw [e3 23 (by omega)]; exact m14
  · rw [e3 26 (by omega)]; exact m15
section P12
variable {d : Nat} {I A : Nat → Nat → Int32} {J : Nat → Nat → Int64} {Z : Nat → Nat → Option Nat} {ρ m no : Nat} {T : Int64} {k : Int32 → vS → Prop} {K : Option Value → vS → Prop} {M : vM} {ls : List Value}
/-- 'thrown = 0', the reference's first act in every call -/
theorem s_thr (r0 : vLa M 0 0 1) (r1 : vCn M 1 (nI 0) 2) (r2 : vPf M 2 8 0 5) (hM : InvM I J A T) (h : ∀ I', (∀ a, a ≠ 103 → I' a = I a) → (∀ q, q ≠ 0 → I' 103 q = I 103 q) → InvM I' J A T → V d 123 123 M 5 (.ref 103 :: ls) [] (I', J, Z) K) : V d 123 123 M 0 (.ref 103 :: ls) [] (I, J, Z) K := by
  refine st_aload r0 rfl ?_
  refine st_c r1 ?_
  refine st_putI rfl r2 (by decide) ?_
  have e1 : ∀ a, a ≠ 103 → up I 103 (va_up (I 103) 0 (nI 0)) a = I a := fun a ha => up_n ha
  have e2 : ∀ q, q ≠ 0 → up I 103 (va_up (I 103) 0 (nI 0)) 103 q = I 103 q := fun q hq => by rw [up_s, va_up_n hq]
  exact h _ e1 e2 (InvM_same hM (fun a h1 _ _ _ _ => e1 a (by omega)) e2)
set_option maxHeartbeats 4000000 in
set_option maxRecDepth 100000 in
theorem s_isTown {t : Int32} {kk : Int32 → vS → Prop} (hM : I 105 0 = nI m) (hm : m ≤ 6) (h : kk (vb (isT m t)) (I, J, vRR ρ)) : V (d + 1) 123 123 mX8_isTown 0 [.ref 103, .int t] [] (I, J, vRR ρ) (Ki kk) := by
  refine st_iload rX8_isTown_0 rfl ?_
  refine st_c rX8_isTown_1 ?_
  refine st_aload rX8_isTown_2 rfl ?_
  refine st_getR rX8_isTown_3 (by first | assumption | decide | exact ⟨by decide, rfl, by decide⟩) (by first | rfl | assumption) rfl ?_
  refine st_c rX8_isTown_6 ?_
  refine st_ialdN rX8_isTown_7 (by first | assumption | decide | exact ⟨by decide, rfl, by decide⟩) (by omega) ?_
  refine st_top hM ?_
  refine st_c rX8_isTown_8 ?_
  first | refine st_isubN rX8_isTown_9 (by omega) ?_ | refine st_isub rX8_isTown_9 ?_
  refine cS3i rX8_isTown_10 (s_in ?_) rfl
  refine st_zret rX8_isTown_13 rfl (by first | rfl | exact vb_nar _) ?_
  rw [inR_T (by omega)]; exact h
set_option maxHeartbeats 4000000 in
set_option maxRecDepth 100000 in
theorem s_hangs {a b p len : Nat} {kk : Int32 → vS → Prop} (ha : vAr 123 a 100 len) (hl : 8 ≤ len) (hp : p < 6) (hb : I a (2 + p) = nI b) (hb6 : b < 6) (hf : ∀ q, q < p → ∃ c, c < 6 ∧ I a (2 + q) = nI c ∧ c ≠ b) (hk : kk (nI p) (I, J, Z)) : V d 123 123 mX8_hangs 0 [.ref a, .int (nI b), vJ] [] (I, J, Z) (Ki kk) := by
  refine st_c rX8_hangs_0 ?_
  refine st_istore2 rX8_hangs_1 rfl ?_
  have key : ∀ (i q : Nat), q + i = p → V d 123 123 mX8_hangs 2 [.ref a, .int (nI b), .int (nI q)] [] (I, J, Z) (Ki kk) := by
    intro i
    induction i with
    | zero =>
      intro q hq
      have hqp : q = p := by omega
      subst hqp
      refine st_aload rX8_hangs_2 rfl ?_
      refine st_c rX8_hangs_3 ?_
      refine st_iload rX8_hangs_4 rfl ?_
      first | refine st_iaddN rX8_hangs_5 ?_ | refine st_iadd rX8_hangs_5 ?_
      refine st_ialdN rX8_hangs_6 (by first | assumption | decide | exact ⟨by decide, rfl, by decide⟩) (by omega) ?_
      refine st_top hb ?_
      refine st_iload rX8_hangs_7 rfl ?_
      first | refine st_icmp_eqN rX8_hangs_8 (by omega) (by omega) (fun _ => ?_) (fun h => absurd h (by first | decide | omega | (simp; done) | simp_all)) | refine st_icmp_eq rX8_hangs_8 (fun _ => ?_) (fun h => absurd h (by first | decide | omega | (simp; done) | simp_all))
      refine st_iload rX8_hangs_17 rfl ?_
      refine st_iret rX8_hangs_18 rfl ?_
      exact hk
    | succ i ih =>
      intro q hq
      obtain ⟨c, hc6, hc, hcb⟩ := hf q (by omega)
      refine st_aload rX8_hangs_2 rfl ?_
      refine st_c rX8_hangs_3 ?_
      refine st_iload rX8_hangs_4 rfl ?_
      first | refine st_iaddN rX8_hangs_5 ?_ | refine st_iadd rX8_hangs_5 ?_
      refine st_ialdN rX8_hangs_6 (by first | assumption | decide | exact ⟨by decide, rfl, by decide⟩) (by omega) ?_
      refine st_top hc ?_
      refine st_iload rX8_hangs_7 rfl ?_
      first | refine st_icmp_eqN rX8_hangs_8 (by omega) (by omega) (fun h => absurd h (by first | decide | omega | (simp; done) | simp_all)) (fun _ => ?_) | refine st_icmp_eq rX8_hangs_8 (fun h => absurd h (by first | decide | omega | (simp; done) | simp_all)) (fun _ => ?_)
      first | refine st_iincN2 rX8_hangs_11 rfl ?_ | refine st_iinc2 rX8_hangs_11 rfl ?_
      refine st_goto rX8_hangs_14 ?_
      exact ih (q + 1) (by omega)
  exact key p 0 (by omega)
end P12
