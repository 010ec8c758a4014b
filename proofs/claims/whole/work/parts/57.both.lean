/-! ===== a call on both sides ===== -/
def LI (I : Nat → Nat → Int32) (J : Nat → Nat → Int64) (ρ : Nat) : Prop := ∃ A T m no, InvC I J ρ A T m no ∧ InvM I J A T ∧ OkA A m no
def GG (G : vS → Prop) (I : Nat → Nat → Int32) : Prop := ∀ I' J' ρ', LI I' J' ρ' → (∀ a, 123 ≤ a → I' a = I a) → G (I', J', vRR ρ')
abbrev KB (G : vS → Prop) (N : vM) (lM : List Value) (I : Nat → Nat → Int32) : Int32 → vS → Prop := fun x σ => (∀ a, 103 ≤ a → σ.1 a = I a) ∧ V 7 123 123 N 0 (.ref 103 :: lM) [] σ (Ki fun y τ => x = y ∧ G τ)
abbrev KBl (G : vS → Prop) (N : vM) (lM : List Value) (I : Nat → Nat → Int32) : Int64 → vS → Prop := fun x σ => (∀ a, 103 ≤ a → σ.1 a = I a) ∧ V 7 123 123 N 0 (.ref 103 :: lM) [] σ (Kl fun y τ => x = y ∧ G τ)
theorem OkN_e {A : Nat → Nat → Int32} {m no : Nat} {N N' : Nat → Int32} (h : OkN A m no N) (hm : m ≤ 6) (hno : no ≤ 6) (e : ∀ q, q < 56 → N' q = N q) : OkN A m no N' := by
  obtain ⟨⟨b, c, h1⟩, h2, te, h3, h4, h5⟩ := h
  refine ⟨⟨b, c, fun t ht => ?_⟩, fun t x ht hx h6 => ?_, te, h3, ?_, fun i hi hne => ?_⟩
  · rw [e _ (by omega)]; exact h1 t ht
  · rw [e _ (by omega)] at hx ⊢; exact h2 t x ht hx h6
  · rw [e _ (by omega)]; exact h4
  · rw [e _ (by omega)] at hne; exact h5 i hi hne
theorem isT_01 {x : Int32} (h : isT 2 x = true) : x = nI 0 ∨ x = nI 1 := by
  obtain ⟨j, hj, rfl⟩ := isT_t (by decide) h
  have hc : j = 0 ∨ j = 1 := by omega
  rcases hc with rfl | rfl
  · exact Or.inl rfl
  · exact Or.inr rfl
section P57
variable {I A : Nat → Nat → Int32} {J : Nat → Nat → Int64} {ρ m no : Nat} {T : Int64} {G : vS → Prop} {x y z : Int32}
theorem b_type (hC : InvC I J ρ A T m no) (hM : InvM I J A T) (hO : OkA A m no) (hG : GG G I) : V 7 123 123 mX7_type 0 [.ref 0, .int x] [] (I, J, vRR ρ) (Ki (KB G mX8_type [.int x] I)) := by
  have hm6 : m ≤ 6 := hO.1.2.2.1
  have hno6 : no ≤ 6 := hO.1.2.2.2.1
  cases hx : isT 256 x with
  | false =>
    exact c_typeBad hx ⟨fun _ _ => rfl, m_typeBad hM hx (fun I2 e2 hM2 => ⟨rfl, hG I2 J ρ ⟨A, T, m, no, InvC_m hC (fun a ha => e2 a (Or.inl ha)), hM2, hO⟩ (fun a ha => e2 a (Or.inr ha))⟩)⟩
  | true =>
    obtain ⟨L, l1, l2, l3⟩ := hO.2.1
    by_cases h200 : L = 200
    · subst h200
      exact c_typeFull hC hx l2 ⟨fun _ _ => rfl, m_typeFull hM hx l2 (fun I2 e2 hM2 => ⟨rfl, hG I2 J ρ ⟨A, T, m, no, InvC_m hC (fun a ha => e2 a (Or.inl ha)), hM2, hO⟩ (fun a ha => e2 a (Or.inr ha))⟩)⟩
    · exact c_type hC hx l2 (by omega) (fun I1 e1 hC1 => ⟨e1, m_type (InvM_c hM e1) hx l2 (by omega) (fun I2 e2 hM2 => ⟨rfl, hG I2 J ρ ⟨_, T, m, no, InvC_m hC1 (fun a ha => e2 a (Or.inl ha)), hM2, ok_type hO l2 (by omega) hx⟩ (fun a ha => (e2 a (Or.inr ha)).trans (e1 a (by omega)))⟩)⟩)
theorem b_clear (hC : InvC I J ρ A T m no) (hM : InvM I J A T) (hO : OkA A m no) (hG : GG G I) : V 7 123 123 mX7_clear 0 [.ref 0] [] (I, J, vRR ρ) (Ki (KB G mX8_clear [vJ] I)) := by
  have hm6 : m ≤ 6 := hO.1.2.2.1
  have hno6 : no ≤ 6 := hO.1.2.2.2.1
  exact c_clear hC (fun I1 e1 hC1 => ⟨e1, m_clear (InvM_c hM e1) (fun I2 e2 hM2 => ⟨rfl, hG I2 J ρ ⟨_, T, m, no, InvC_m hC1 (fun a ha => e2 a (Or.inl ha)), hM2, ok_clear hO⟩ (fun a ha => (e2 a (Or.inr ha)).trans (e1 a (by omega)))⟩)⟩)
theorem b_town (hC : InvC I J ρ A T m no) (hM : InvM I J A T) (hO : OkA A m no) (hG : GG G I) : V 7 123 123 mX7_town 0 [.ref 0, .int x, .int y] [] (I, J, vRR ρ) (Ki (KB G mX8_town [.int x, .int y] I)) := by
  have hm6 : m ≤ 6 := hO.1.2.2.1
  have hno6 : no ≤ 6 := hO.1.2.2.2.1
  cases hx : isT m x with
  | false =>
    exact c_townBad hC hO (Or.inl hx) ⟨fun _ _ => rfl, m_townBad hM hO (Or.inl hx) (fun I2 e2 hM2 => ⟨rfl, hG I2 J ρ ⟨A, T, m, no, InvC_m hC (fun a ha => e2 a (Or.inl ha)), hM2, hO⟩ (fun a ha => e2 a (Or.inr ha))⟩)⟩
  | true =>
    obtain ⟨t, qt, rfl⟩ := isT_t (by omega) hx
    cases hy : isT 4 y with
    | false =>
      exact c_townBad hC hO (Or.inr hy) ⟨fun _ _ => rfl, m_townBad hM hO (Or.inr hy) (fun I2 e2 hM2 => ⟨rfl, hG I2 J ρ ⟨A, T, m, no, InvC_m hC (fun a ha => e2 a (Or.inl ha)), hM2, hO⟩ (fun a ha => e2 a (Or.inr ha))⟩)⟩
    | true =>
      obtain ⟨q, qq, rfl⟩ := isT_t (by omega) hy
      obtain ⟨p, p1, p2, p3⟩ := posP hO.2.2.1.1 hm6 qt
      exact c_town hC hO qt qq p1 p2 p3 ⟨fun _ _ => rfl, m_town hM hO qt qq p1 p2 p3 (fun I2 e2 hM2 => ⟨rfl, hG I2 J ρ ⟨A, T, m, no, InvC_m hC (fun a ha => e2 a (Or.inl ha)), hM2, hO⟩ (fun a ha => e2 a (Or.inr ha))⟩)⟩
theorem b_bell (hC : InvC I J ρ A T m no) (hM : InvM I J A T) (hO : OkA A m no) (hG : GG G I) : V 7 123 123 mX7_bell 0 [.ref 0, .int x, .int y] [] (I, J, vRR ρ) (Ki (KB G mX8_bell [.int x, .int y] I)) := by
  have hm6 : m ≤ 6 := hO.1.2.2.1
  have hno6 : no ≤ 6 := hO.1.2.2.2.1
  cases hx : isT m x with
  | false =>
    exact c_bellBad hC hO (Or.inl hx) ⟨fun _ _ => rfl, m_bellBad hM hO (Or.inl hx) (fun I2 e2 hM2 => ⟨rfl, hG I2 J ρ ⟨A, T, m, no, InvC_m hC (fun a ha => e2 a (Or.inl ha)), hM2, hO⟩ (fun a ha => e2 a (Or.inr ha))⟩)⟩
  | true =>
    obtain ⟨t, qt, rfl⟩ := isT_t (by omega) hx
    cases hy : isT 4 y with
    | false =>
      exact c_bellBad hC hO (Or.inr hy) ⟨fun _ _ => rfl, m_bellBad hM hO (Or.inr hy) (fun I2 e2 hM2 => ⟨rfl, hG I2 J ρ ⟨A, T, m, no, InvC_m hC (fun a ha => e2 a (Or.inl ha)), hM2, hO⟩ (fun a ha => e2 a (Or.inr ha))⟩)⟩
    | true =>
      obtain ⟨q, qq, rfl⟩ := isT_t (by omega) hy
      obtain ⟨p, p1, p2, p3⟩ := posP hO.2.2.1.1 hm6 qt
      exact c_bell hC hO qt qq p1 p2 p3 ⟨fun _ _ => rfl, m_bell hM hO qt qq p1 p2 p3 (fun I2 e2 hM2 => ⟨rfl, hG I2 J ρ ⟨A, T, m, no, InvC_m hC (fun a ha => e2 a (Or.inl ha)), hM2, hO⟩ (fun a ha => e2 a (Or.inr ha))⟩)⟩
theorem b_far (hC : InvC I J ρ A T m no) (hM : InvM I J A T) (hO : OkA A m no) (hG : GG G I) : V 7 123 123 mX7_far 0 [.ref 0, .int x, .int y] [] (I, J, vRR ρ) (Ki (KB G mX8_far [.int x, .int y] I)) := by
  have hm6 : m ≤ 6 := hO.1.2.2.1
  have hno6 : no ≤ 6 := hO.1.2.2.2.1
  cases hx : isT m x with
  | false =>
    exact c_farBad hC hO (Or.inl hx) ⟨fun _ _ => rfl, m_farBad hM hO (Or.inl hx) (fun I2 e2 hM2 => ⟨rfl, hG I2 J ρ ⟨A, T, m, no, InvC_m hC (fun a ha => e2 a (Or.inl ha)), hM2, hO⟩ (fun a ha => e2 a (Or.inr ha))⟩)⟩
  | true =>
    obtain ⟨a, qa, rfl⟩ := isT_t (by omega) hx
    cases hy : isT m y with
    | false =>
      exact c_farBad hC hO (Or.inr hy) ⟨fun _ _ => rfl, m_farBad hM hO (Or.inr hy) (fun I2 e2 hM2 => ⟨rfl, hG I2 J ρ ⟨A, T, m, no, InvC_m hC (fun a ha => e2 a (Or.inl ha)), hM2, hO⟩ (fun a ha => e2 a (Or.inr ha))⟩)⟩
    | true =>
      obtain ⟨b, qb, rfl⟩ := isT_t (by omega) hy
      exact c_far hC hO qa qb ⟨fun _ _ => rfl, m_far hM hO qa qb (fun I2 e2 hM2 => ⟨rfl, hG I2 J ρ ⟨A, T, m, no, InvC_m hC (fun a ha => e2 a (Or.inl ha)), hM2, hO⟩ (fun a ha => e2 a (Or.inr ha))⟩)⟩
theorem b_oath (hC : InvC I J ρ A T m no) (hM : InvM I J A T) (hO : OkA A m no) (hG : GG G I) : V 7 123 123 mX7_oath 0 [.ref 0, .int x, .int y] [] (I, J, vRR ρ) (Ki (KB G mX8_oath [.int x, .int y] I)) := by
  have hm6 : m ≤ 6 := hO.1.2.2.1
  have hno6 : no ≤ 6 := hO.1.2.2.2.1
  cases hx : isT no x with
  | false =>
    exact c_oathBad hC hO (Or.inl hx) ⟨fun _ _ => rfl, m_oathBad hM hO (Or.inl hx) (fun I2 e2 hM2 => ⟨rfl, hG I2 J ρ ⟨A, T, m, no, InvC_m hC (fun a ha => e2 a (Or.inl ha)), hM2, hO⟩ (fun a ha => e2 a (Or.inr ha))⟩)⟩
  | true =>
    obtain ⟨i, qi, rfl⟩ := isT_t (by omega) hx
    cases hy : isT 4 y with
    | false =>
      exact c_oathBad hC hO (Or.inr hy) ⟨fun _ _ => rfl, m_oathBad hM hO (Or.inr hy) (fun I2 e2 hM2 => ⟨rfl, hG I2 J ρ ⟨A, T, m, no, InvC_m hC (fun a ha => e2 a (Or.inl ha)), hM2, hO⟩ (fun a ha => e2 a (Or.inr ha))⟩)⟩
    | true =>
      obtain ⟨q, qq, rfl⟩ := isT_t (by omega) hy
      exact c_oath hC hO qi qq ⟨fun _ _ => rfl, m_oath hM hO qi qq (fun I2 e2 hM2 => ⟨rfl, hG I2 J ρ ⟨A, T, m, no, InvC_m hC (fun a ha => e2 a (Or.inl ha)), hM2, hO⟩ (fun a ha => e2 a (Or.inr ha))⟩)⟩
theorem b_now (hC : InvC I J ρ A T m no) (hM : InvM I J A T) (hO : OkA A m no) (hG : GG G I) : V 7 123 123 mX7_now 0 [.ref 0, .int x] [] (I, J, vRR ρ) (Ki (KB G mX8_now [.int x, vJ, vJ, vJ] I)) := by
  have hm6 : m ≤ 6 := hO.1.2.2.1
  have hno6 : no ≤ 6 := hO.1.2.2.2.1
  cases hx : isT 5 x with
  | false =>
    exact c_nowBad hx ⟨fun _ _ => rfl, m_nowBad hM hx (fun I2 e2 hM2 => ⟨rfl, hG I2 J ρ ⟨A, T, m, no, InvC_m hC (fun a ha => e2 a (Or.inl ha)), hM2, hO⟩ (fun a ha => e2 a (Or.inr ha))⟩)⟩
  | true =>
    obtain ⟨q, qq, rfl⟩ := isT_t (by omega) hx
    exact c_now hC hO qq ⟨fun _ _ => rfl, m_now hM hO qq (fun I2 e2 hM2 => ⟨rfl, hG I2 J ρ ⟨A, T, m, no, InvC_m hC (fun a ha => e2 a (Or.inl ha)), hM2, hO⟩ (fun a ha => e2 a (Or.inr ha))⟩)⟩
theorem b_lots (hC : InvC I J ρ A T m no) (hM : InvM I J A T) (hO : OkA A m no) (hG : GG G I) : V 7 123 123 mX7_lots 0 [.ref 0, .int x] [] (I, J, vRR ρ) (Ki (KB G mX8_lots [.int x] I)) := by
  have hm6 : m ≤ 6 := hO.1.2.2.1
  have hno6 : no ≤ 6 := hO.1.2.2.2.1
  cases hx : isT 10000 x with
  | false =>
    exact c_lotsBad hx ⟨fun _ _ => rfl, m_lotsBad hM hx (fun I2 e2 hM2 => ⟨rfl, hG I2 J ρ ⟨A, T, m, no, InvC_m hC (fun a ha => e2 a (Or.inl ha)), hM2, hO⟩ (fun a ha => e2 a (Or.inr ha))⟩)⟩
  | true =>
    obtain ⟨z, qz, rfl⟩ := isT_t (by omega) hx
    obtain ⟨u, u1, u2, u3⟩ := hO.2.2.2.2.1
    obtain ⟨te, t1, t2⟩ := hO.2.2.2.1
    by_cases h60 : te = 60
    · subst h60
      exact c_lotsNo hC hO qz t2 ⟨fun _ _ => rfl, m_lotsNo hM qz t2 (fun I2 e2 hM2 => ⟨rfl, hG I2 J ρ ⟨A, T, m, no, InvC_m hC (fun a ha => e2 a (Or.inl ha)), hM2, hO⟩ (fun a ha => e2 a (Or.inr ha))⟩)⟩
    · exact c_lots hC hO qz u2 u1 t2 (by omega) (fun I1 e1 hC1 => ⟨e1, m_lots (InvM_c hM e1) hO qz u2 u1 t2 (by omega) (fun I2 e2 hM2 => ⟨rfl, hG I2 J ρ ⟨_, T, m, no, InvC_m hC1 (fun a ha => e2 a (Or.inl ha)), hM2, ok_lots hO u2 u1 t2 (by omega)⟩ (fun a ha => (e2 a (Or.inr ha)).trans (e1 a (by omega)))⟩)⟩)
theorem b_trades (hC : InvC I J ρ A T m no) (hM : InvM I J A T) (hO : OkA A m no) (hG : GG G I) : V 7 123 123 mX7_trades 0 [.ref 0, .int x, .int y, vJ] [] (I, J, vRR ρ) (Ki (KB G mX8_trades [.int x, .int y, vJ] I)) := by
  have hm6 : m ≤ 6 := hO.1.2.2.1
  have hno6 : no ≤ 6 := hO.1.2.2.2.1
  cases hx : isT m x with
  | false =>
    exact c_tradesBad hC hO (Or.inl hx) ⟨fun _ _ => rfl, m_tradesBad hM hO (Or.inl hx) (fun I2 e2 hM2 => ⟨rfl, hG I2 J ρ ⟨A, T, m, no, InvC_m hC (fun a ha => e2 a (Or.inl ha)), hM2, hO⟩ (fun a ha => e2 a (Or.inr ha))⟩)⟩
  | true =>
    obtain ⟨a, qa, rfl⟩ := isT_t (by omega) hx
    cases hy : isT m y with
    | false =>
      exact c_tradesBad hC hO (Or.inr (Or.inl hy)) ⟨fun _ _ => rfl, m_tradesBad hM hO (Or.inr (Or.inl hy)) (fun I2 e2 hM2 => ⟨rfl, hG I2 J ρ ⟨A, T, m, no, InvC_m hC (fun a ha => e2 a (Or.inl ha)), hM2, hO⟩ (fun a ha => e2 a (Or.inr ha))⟩)⟩
    | true =>
      obtain ⟨b, qb, rfl⟩ := isT_t (by omega) hy
      obtain ⟨u, u1, u2, u3⟩ := hO.2.2.2.2.1
      by_cases hab : a = b
      · subst hab
        exact c_tradesBad hC hO (Or.inr (Or.inr rfl)) ⟨fun _ _ => rfl, m_tradesBad hM hO (Or.inr (Or.inr rfl)) (fun I2 e2 hM2 => ⟨rfl, hG I2 J ρ ⟨A, T, m, no, InvC_m hC (fun a ha => e2 a (Or.inl ha)), hM2, hO⟩ (fun a ha => e2 a (Or.inr ha))⟩)⟩
      · exact c_trades hC hO qa qb hab u2 u1 (fun I1 e1 hC1 => ⟨e1, m_trades (InvM_c hM e1) hO qa qb hab u2 u1 (fun I2 e2 hM2 => ⟨rfl, hG I2 J ρ ⟨_, T, m, no, InvC_m hC1 (fun a ha => e2 a (Or.inl ha)), hM2, ok_trades hO u2 u1 qa qb hab⟩ (fun a ha => (e2 a (Or.inr ha)).trans (e1 a (by omega)))⟩)⟩)
theorem b_widens (hC : InvC I J ρ A T m no) (hM : InvM I J A T) (hO : OkA A m no) (hG : GG G I) : V 7 123 123 mX7_widens 0 [.ref 0, .int x, .int y, vJ] [] (I, J, vRR ρ) (Ki (KB G mX8_widens [.int x, .int y, vJ] I)) := by
  have hm6 : m ≤ 6 := hO.1.2.2.1
  have hno6 : no ≤ 6 := hO.1.2.2.2.1
  cases hx : isT m x with
  | false =>
    exact c_widensBad hC hO (Or.inl hx) ⟨fun _ _ => rfl, m_widensBad hM hO (Or.inl hx) (fun I2 e2 hM2 => ⟨rfl, hG I2 J ρ ⟨A, T, m, no, InvC_m hC (fun a ha => e2 a (Or.inl ha)), hM2, hO⟩ (fun a ha => e2 a (Or.inr ha))⟩)⟩
  | true =>
    obtain ⟨t, qt, rfl⟩ := isT_t (by omega) hx
    cases hy : inR y (nI 1) (nI 99) with
    | false =>
      exact c_widensBad hC hO (Or.inr hy) ⟨fun _ _ => rfl, m_widensBad hM hO (Or.inr hy) (fun I2 e2 hM2 => ⟨rfl, hG I2 J ρ ⟨A, T, m, no, InvC_m hC (fun a ha => e2 a (Or.inl ha)), hM2, hO⟩ (fun a ha => e2 a (Or.inr ha))⟩)⟩
    | true =>
      obtain ⟨u, u1, u2, u3⟩ := hO.2.2.2.2.1
      obtain ⟨b, c, hbc⟩ := id hO.2.2.1.1
      obtain ⟨b1, b2, -⟩ := hbc t qt
      by_cases hs : y < A 107 (b t)
      · exact c_widensNo hC hO qt hy b1 b2 hs ⟨fun _ _ => rfl, m_widensNo hM hO qt hy b1 b2 hs (fun I2 e2 hM2 => ⟨rfl, hG I2 J ρ ⟨A, T, m, no, InvC_m hC (fun a ha => e2 a (Or.inl ha)), hM2, hO⟩ (fun a ha => e2 a (Or.inr ha))⟩)⟩
      · exact c_widens hC hO qt hy b1 b2 hs u2 u1 (fun I1 e1 hC1 => ⟨e1, m_widens (InvM_c hM e1) hO qt hy b1 b2 hs u2 u1 (fun I2 e2 hM2 => ⟨rfl, hG I2 J ρ ⟨_, T, m, no, InvC_m hC1 (fun a ha => e2 a (Or.inl ha)), hM2, ok_widens hO u2 u1 qt b1 (by omega) hs⟩ (fun a ha => (e2 a (Or.inr ha)).trans (e1 a (by omega)))⟩)⟩)
theorem b_undo (hC : InvC I J ρ A T m no) (hM : InvM I J A T) (hO : OkA A m no) (hG : GG G I) : V 7 123 123 mX7_undo 0 [.ref 0] [] (I, J, vRR ρ) (Ki (KB G mX8_undo [vJ] I)) := by
  have hm6 : m ≤ 6 := hO.1.2.2.1
  have hno6 : no ≤ 6 := hO.1.2.2.2.1
  obtain ⟨u, u1, u2, u3⟩ := hO.2.2.2.2.1
  match u, u1, u2, u3 with
  | 0, _, u2, _ => exact c_undoNo hC hO u2 ⟨fun _ _ => rfl, m_undoNo hM u2 (fun I2 e2 hM2 => ⟨rfl, hG I2 J ρ ⟨A, T, m, no, InvC_m hC (fun a ha => e2 a (Or.inl ha)), hM2, hO⟩ (fun a ha => e2 a (Or.inr ha))⟩)⟩
  | u + 1, u1, u2, u3 => exact c_undo hC hO u2 (by omega) (fun I1 e1 hC1 => ⟨e1, m_undo (InvM_c hM e1) hO u2 (by omega) (fun I2 e2 hM2 => ⟨rfl, hG I2 J ρ ⟨_, T, m, no, InvC_m hC1 (fun a ha => e2 a (Or.inl ha)), hM2, ok_back hO (u3 u (by omega)).1 (u3 u (by omega)).2 u2 (by omega) u1⟩ (fun a ha => (e2 a (Or.inr ha)).trans (e1 a (by omega)))⟩)⟩)
theorem b_inLots (hC : InvC I J ρ A T m no) (hM : InvM I J A T) (hO : OkA A m no) (hG : GG G I) : V 7 123 123 mX7_inLots 0 [.ref 0, .int x, .int y, .int z, vJ, vJ] [] (I, J, vRR ρ) (Ki (KB G mX8_inLots [.int x, .int y, .int z, vJ, vJ] I)) := by
  have hm6 : m ≤ 6 := hO.1.2.2.1
  have hno6 : no ≤ 6 := hO.1.2.2.2.1
  cases hx : isT 10000 x with
  | false =>
    exact c_inLotsBad hC hO (Or.inl hx) ⟨fun _ _ => rfl, m_inLotsBad hM hO (Or.inl hx) (fun I2 e2 hM2 => ⟨rfl, hG I2 J ρ ⟨A, T, m, no, InvC_m hC (fun a ha => e2 a (Or.inl ha)), hM2, hO⟩ (fun a ha => e2 a (Or.inr ha))⟩)⟩
  | true =>
    obtain ⟨a, qa, rfl⟩ := isT_t (by omega) hx
    cases hy : isT 21 y with
    | false =>
      exact c_inLotsBad hC hO (Or.inr (Or.inl hy)) ⟨fun _ _ => rfl, m_inLotsBad hM hO (Or.inr (Or.inl hy)) (fun I2 e2 hM2 => ⟨rfl, hG I2 J ρ ⟨A, T, m, no, InvC_m hC (fun a ha => e2 a (Or.inl ha)), hM2, hO⟩ (fun a ha => e2 a (Or.inr ha))⟩)⟩
    | true =>
      obtain ⟨c, qc, rfl⟩ := isT_t (by omega) hy
      obtain ⟨te, t1, t2⟩ := hO.2.2.2.1
      have eN : ∀ q, q < 56 → cpR (I 115) (A 114) 0 56 q = A 114 q := fun q hq => by have := cpR_in (f := I 115) (g := A 114) (o := 0) hq; rw [Nat.zero_add] at this; exact this
      have good : (z = -1 ∨ ∃ x, x < m ∧ z = nI x) → V 7 123 123 mX7_inLots 0 [.ref 0, .int (nI a), .int (nI c), .int z, vJ, vJ] [] (I, J, vRR ρ) (Ki (KB G mX8_inLots [.int (nI a), .int (nI c), .int z, vJ, vJ] I)) := fun htt => by
        exact c_inLots (N := cpR (I 115) (A 114) 0 56) hC hO qa qc htt eN (by rw [eN 0 (by omega)]; exact t2) t1 (fun I1 e1 hC1 => ⟨e1, m_inLots (N := cpR (I 115) (A 114) 0 56) (InvM_c hM e1) hO qa qc htt (by rw [e1 115 (by omega)]) (OkN_e hO.2.2.1 hm6 hno6 eN) (by rw [eN 0 (by omega)]; exact t2) t1 (fun I2 e2 hM2 => ⟨rfl, hG I2 J ρ ⟨_, T, m, no, InvC_m hC1 (fun a ha => e2 a (Or.inl ha)), hM2, hO⟩ (fun a ha => (e2 a (Or.inr ha)).trans (e1 a (by omega)))⟩)⟩)
      by_cases h1 : z = -1
      · exact good (Or.inl h1)
      · cases hz : isT m z with
        | false => exact c_inLotsBad hC hO (Or.inr (Or.inr ⟨h1, hz⟩)) ⟨fun _ _ => rfl, m_inLotsBad hM hO (Or.inr (Or.inr ⟨h1, hz⟩)) (fun I2 e2 hM2 => ⟨rfl, hG I2 J ρ ⟨A, T, m, no, InvC_m hC (fun a ha => e2 a (Or.inl ha)), hM2, hO⟩ (fun a ha => e2 a (Or.inr ha))⟩)⟩
        | true => exact good (Or.inr (isT_t (by omega) hz))
theorem b_cost (hC : InvC I J ρ A T m no) (hM : InvM I J A T) (hO : OkA A m no) (hG : GG G I) : V 7 123 123 mX7_cost 0 [.ref 0, .int x, vJ, vJ, vJ, vJ] [] (I, J, vRR ρ) (Ki (KB G mX8_cost [.int x, vJ, vJ, vJ] I)) := by
  have hm6 : m ≤ 6 := hO.1.2.2.1
  have hno6 : no ≤ 6 := hO.1.2.2.2.1
  cases hx : isT 10000 x with
  | false =>
    exact c_costBad hx ⟨fun _ _ => rfl, m_costBad hM hx (fun I2 e2 hM2 => ⟨rfl, hG I2 J ρ ⟨A, T, m, no, InvC_m hC (fun a ha => e2 a (Or.inl ha)), hM2, hO⟩ (fun a ha => e2 a (Or.inr ha))⟩)⟩
  | true =>
    obtain ⟨z, qz, rfl⟩ := isT_t (by omega) hx
    exact c_cost hC hO qz (fun I1 e1 hC1 => ⟨e1, m_cost (InvM_c hM e1) hO qz (fun I2 e2 hM2 => ⟨rfl, hG I2 J ρ ⟨_, T, m, no, InvC_m hC1 (fun a ha => e2 a (Or.inl ha)), hM2, hO⟩ (fun a ha => (e2 a (Or.inr ha)).trans (e1 a (by omega)))⟩)⟩)
theorem b_round (hC : InvC I J ρ A T m no) (hM : InvM I J A T) (hO : OkA A m no) (hG : GG G I) : V 7 123 123 mX7_round 0 [.ref 0, .int x] [] (I, J, vRR ρ) (Ki (KB G mX8_round [.int x, vJ, vJ, vJ] I)) := by
  have hm6 : m ≤ 6 := hO.1.2.2.1
  have hno6 : no ≤ 6 := hO.1.2.2.2.1
  cases hx : isT 10000 x with
  | false =>
    exact c_roundBad hx ⟨fun _ _ => rfl, m_roundBad hM hx (fun I2 e2 hM2 => ⟨rfl, hG I2 J ρ ⟨A, T, m, no, InvC_m hC (fun a ha => e2 a (Or.inl ha)), hM2, hO⟩ (fun a ha => e2 a (Or.inr ha))⟩)⟩
  | true =>
    obtain ⟨z, qz, rfl⟩ := isT_t (by omega) hx
    exact c_round hC hO qz (fun I1 e1 hC1 => ⟨e1, m_round (InvM_c hM e1) hO qz (fun I2 e2 hM2 => ⟨rfl, hG I2 J ρ ⟨_, T, m, no, InvC_m hC1 (fun a ha => e2 a (Or.inl ha)), hM2, hO⟩ (fun a ha => (e2 a (Or.inr ha)).trans (e1 a (by omega)))⟩)⟩)
theorem b_home (hC : InvC I J ρ A T m no) (hM : InvM I J A T) (hO : OkA A m no) (hG : GG G I) : V 7 123 123 mX7_home 0 [.ref 0, .int x] [] (I, J, vRR ρ) (Ki (KB G mX8_home [.int x, vJ, vJ, vJ, vJ, vJ] I)) := by
  have hm6 : m ≤ 6 := hO.1.2.2.1
  have hno6 : no ≤ 6 := hO.1.2.2.2.1
  cases hx : isT 2 x with
  | false =>
    exact c_homeBad hx ⟨fun _ _ => rfl, m_homeBad hM hx (fun I2 e2 hM2 => ⟨rfl, hG I2 J ρ ⟨A, T, m, no, InvC_m hC (fun a ha => e2 a (Or.inl ha)), hM2, hO⟩ (fun a ha => e2 a (Or.inr ha))⟩)⟩
  | true =>
    rcases isT_01 hx with rfl | rfl
    · exact c_home0 hC hO (fun I1 e1 hC1 => ⟨e1, m_home (InvM_c hM e1) hO (Or.inl rfl) (fun I2 e2 hM2 => ⟨(if_pos rfl).symm, hG I2 J ρ ⟨_, T, m, no, InvC_m hC1 (fun a ha => e2 a (Or.inl ha)), hM2, hO⟩ (fun a ha => (e2 a (Or.inr ha)).trans (e1 a (by omega)))⟩)⟩)
    · exact c_home1 hC hO (fun I1 e1 hC1 => ⟨e1, m_home (InvM_c hM e1) hO (Or.inr rfl) (fun I2 e2 hM2 => ⟨(if_neg (by decide)).symm, hG I2 J ρ ⟨_, T, m, no, InvC_m hC1 (fun a ha => e2 a (Or.inl ha)), hM2, hO⟩ (fun a ha => (e2 a (Or.inr ha)).trans (e1 a (by omega)))⟩)⟩)
theorem b_hang (hC : InvC I J ρ A T m no) (hM : InvM I J A T) (hO : OkA A m no) (hG : GG G I) : V 7 123 123 mX7_hang 0 [.ref 0, .int x] [] (I, J, vRR ρ) (Ki (KB G mX8_hang [.int x, vJ, vJ, vJ] I)) := by
  have hm6 : m ≤ 6 := hO.1.2.2.1
  have hno6 : no ≤ 6 := hO.1.2.2.2.1
  by_cases h1 : x = -1
  · subst h1
    exact c_hang0 hC hO (fun I1 e1 hC1 => ⟨e1, m_hang (InvM_c hM e1) hO (Or.inl rfl) (fun I2 e2 hM2 => ⟨(if_pos rfl).symm, hG I2 J ρ ⟨_, T, m, no, InvC_m hC1 (fun a ha => e2 a (Or.inl ha)), hM2, hO⟩ (fun a ha => (e2 a (Or.inr ha)).trans (e1 a (by omega)))⟩)⟩)
  · cases hx : isT m x with
    | false => exact c_hangBad hC hO h1 hx ⟨fun _ _ => rfl, m_hangBad hM hO h1 hx (fun I2 e2 hM2 => ⟨rfl, hG I2 J ρ ⟨A, T, m, no, InvC_m hC (fun a ha => e2 a (Or.inl ha)), hM2, hO⟩ (fun a ha => e2 a (Or.inr ha))⟩)⟩
    | true =>
      obtain ⟨t, qt, rfl⟩ := isT_t (by omega) hx
      exact c_hang1 hC hO qt (fun I1 e1 hC1 => ⟨e1, m_hang (InvM_c hM e1) hO (Or.inr ⟨t, qt, rfl⟩) (fun I2 e2 hM2 => ⟨(by rw [if_neg h1, nI_clamp (by omega)]), hG I2 J ρ ⟨_, T, m, no, InvC_m hC1 (fun a ha => e2 a (Or.inl ha)), hM2, hO⟩ (fun a ha => (e2 a (Or.inr ha)).trans (e1 a (by omega)))⟩)⟩)
theorem b_crossed (hC : InvC I J ρ A T m no) (hM : InvM I J A T) (hO : OkA A m no) (hG : GG G I) : V 7 123 123 mX7_crossed 0 [.ref 0, vJ, vJ] [] (I, J, vRR ρ) (Ki (KB G mX8_crossed [vJ, vJ, vJ, vJ] I)) := by
  have hm6 : m ≤ 6 := hO.1.2.2.1
  have hno6 : no ≤ 6 := hO.1.2.2.2.1
  exact c_crossed hC hO rfl ⟨fun _ _ => rfl, m_crossed hM hO rfl (fun I2 e2 hM2 => ⟨rfl, hG I2 J ρ ⟨A, T, m, no, InvC_m hC (fun a ha => e2 a (Or.inl ha)), hM2, hO⟩ (fun a ha => e2 a (Or.inr ha))⟩)⟩
theorem b_oaths (hC : InvC I J ρ A T m no) (hM : InvM I J A T) (hO : OkA A m no) (hG : GG G I) : V 7 123 123 mX7_oaths 0 [.ref 0, .int x, vJ, vJ] [] (I, J, vRR ρ) (Ki (KB G mX8_oaths [.int x, vJ, vJ] I)) := by
  have hm6 : m ≤ 6 := hO.1.2.2.1
  have hno6 : no ≤ 6 := hO.1.2.2.2.1
  cases hx : isT 3 x with
  | false =>
    exact c_oathsBad hx ⟨fun _ _ => rfl, m_oathsBad hM hx (fun I2 e2 hM2 => ⟨rfl, hG I2 J ρ ⟨A, T, m, no, InvC_m hC (fun a ha => e2 a (Or.inl ha)), hM2, hO⟩ (fun a ha => e2 a (Or.inr ha))⟩)⟩
  | true =>
    obtain ⟨q, qq, rfl⟩ := isT_t (by omega) hx
    exact c_oaths hC hO qq ⟨fun _ _ => rfl, m_oaths hM hO qq (fun I2 e2 hM2 => ⟨rfl, hG I2 J ρ ⟨A, T, m, no, InvC_m hC (fun a ha => e2 a (Or.inl ha)), hM2, hO⟩ (fun a ha => e2 a (Or.inr ha))⟩)⟩
theorem b_strokes (hC : InvC I J ρ A T m no) (hM : InvM I J A T) (hO : OkA A m no) (hG : GG G I) : V 7 123 123 mX7_strokes 0 [.ref 0, .int x, .int y] [] (I, J, vRR ρ) (Ki (KB G mX8_strokes [.int x, .int y] I)) := by
  have hm6 : m ≤ 6 := hO.1.2.2.1
  have hno6 : no ≤ 6 := hO.1.2.2.2.1
  cases hx : isT m x with
  | false =>
    exact c_strokesBad hC hO (Or.inl hx) ⟨fun _ _ => rfl, m_strokesBad hM hO (Or.inl hx) (fun I2 e2 hM2 => ⟨rfl, hG I2 J ρ ⟨A, T, m, no, InvC_m hC (fun a ha => e2 a (Or.inl ha)), hM2, hO⟩ (fun a ha => e2 a (Or.inr ha))⟩)⟩
  | true =>
    obtain ⟨b, qb, rfl⟩ := isT_t (by omega) hx
    cases hy : isT m y with
    | false =>
      exact c_strokesBad hC hO (Or.inr hy) ⟨fun _ _ => rfl, m_strokesBad hM hO (Or.inr hy) (fun I2 e2 hM2 => ⟨rfl, hG I2 J ρ ⟨A, T, m, no, InvC_m hC (fun a ha => e2 a (Or.inl ha)), hM2, hO⟩ (fun a ha => e2 a (Or.inr ha))⟩)⟩
    | true =>
      obtain ⟨t, qt, rfl⟩ := isT_t (by omega) hy
      exact c_strokes hC hO qb qt ⟨fun _ _ => rfl, m_strokes hM hO qb qt (fun I2 e2 hM2 => ⟨rfl, hG I2 J ρ ⟨A, T, m, no, InvC_m hC (fun a ha => e2 a (Or.inl ha)), hM2, hO⟩ (fun a ha => e2 a (Or.inr ha))⟩)⟩
theorem b_found (hC : InvC I J ρ A T m no) (hM : InvM I J A T) (hO : OkA A m no) (hG : GG G I) : V 7 123 123 mX7_found 0 [.ref 0, .int x, .int y] [] (I, J, vRR ρ) (Ki (KB G mX8_found [.int x, .int y] I)) := by
  have hm6 : m ≤ 6 := hO.1.2.2.1
  have hno6 : no ≤ 6 := hO.1.2.2.2.1
  cases hx : isT m x with
  | false =>
    exact c_foundBad hC hO (Or.inl hx) ⟨fun _ _ => rfl, m_foundBad hM hO (Or.inl hx) (fun I2 e2 hM2 => ⟨rfl, hG I2 J ρ ⟨A, T, m, no, InvC_m hC (fun a ha => e2 a (Or.inl ha)), hM2, hO⟩ (fun a ha => e2 a (Or.inr ha))⟩)⟩
  | true =>
    obtain ⟨b, qb, rfl⟩ := isT_t (by omega) hx
    cases hy : isT m y with
    | false =>
      exact c_foundBad hC hO (Or.inr hy) ⟨fun _ _ => rfl, m_foundBad hM hO (Or.inr hy) (fun I2 e2 hM2 => ⟨rfl, hG I2 J ρ ⟨A, T, m, no, InvC_m hC (fun a ha => e2 a (Or.inl ha)), hM2, hO⟩ (fun a ha => e2 a (Or.inr ha))⟩)⟩
    | true =>
      obtain ⟨t, qt, rfl⟩ := isT_t (by omega) hy
      obtain ⟨f, f1, f2, f3⟩ := hO.2.2.2.2.2.2
      by_cases h5 : f = 5
      · subst h5
        exact c_foundFull hC hO qb qt f2 ⟨fun _ _ => rfl, m_foundFull hM hO qb qt f2 (fun I2 e2 hM2 => ⟨rfl, hG I2 J ρ ⟨A, T, m, no, InvC_m hC (fun a ha => e2 a (Or.inl ha)), hM2, hO⟩ (fun a ha => e2 a (Or.inr ha))⟩)⟩
      · exact c_found hC hO qb qt f2 (by omega) (fun I1 e1 hC1 => ⟨e1, m_found (InvM_c hM e1) hO qb qt f2 (by omega) (fun I2 e2 hM2 => ⟨rfl, hG I2 J ρ ⟨_, T, m, no, InvC_m hC1 (fun a ha => e2 a (Or.inl ha)), hM2, ok_found hO f2 (by omega) qb qt⟩ (fun a ha => (e2 a (Or.inr ha)).trans (e1 a (by omega)))⟩)⟩)
theorem b_forget (hC : InvC I J ρ A T m no) (hM : InvM I J A T) (hO : OkA A m no) (hG : GG G I) : V 7 123 123 mX7_forget 0 [.ref 0] [] (I, J, vRR ρ) (Ki (KB G mX8_forget [vJ] I)) := by
  have hm6 : m ≤ 6 := hO.1.2.2.1
  have hno6 : no ≤ 6 := hO.1.2.2.2.1
  exact c_forget hC (fun I1 e1 hC1 => ⟨e1, m_forget (InvM_c hM e1) (fun I2 e2 hM2 => ⟨rfl, hG I2 J ρ ⟨_, T, m, no, InvC_m hC1 (fun a ha => e2 a (Or.inl ha)), hM2, ok_forget hO⟩ (fun a ha => (e2 a (Or.inr ha)).trans (e1 a (by omega)))⟩)⟩)
theorem b_which (hC : InvC I J ρ A T m no) (hM : InvM I J A T) (hO : OkA A m no) (hG : GG G I) : V 7 123 123 mX7_which 0 [.ref 0, .int x, vJ, vJ] [] (I, J, vRR ρ) (Ki (KB G mX8_which [.int x, vJ, vJ, vJ, vJ, vJ] I)) := by
  have hm6 : m ≤ 6 := hO.1.2.2.1
  have hno6 : no ≤ 6 := hO.1.2.2.2.1
  cases hx : isT 2 x with
  | false =>
    exact c_whichBad hx ⟨fun _ _ => rfl, m_whichBad hM hx (fun I2 e2 hM2 => ⟨rfl, hG I2 J ρ ⟨A, T, m, no, InvC_m hC (fun a ha => e2 a (Or.inl ha)), hM2, hO⟩ (fun a ha => e2 a (Or.inr ha))⟩)⟩
  | true =>
    obtain ⟨f, f1, f2, f3⟩ := hO.2.2.2.2.2.2
    exact c_which hC hO (isT_01 hx) f1 f2 (fun I1 e1 hC1 => ⟨e1, m_which (InvM_c hM e1) hO (isT_01 hx) f1 f2 (fun I2 e2 hM2 => ⟨rfl, hG I2 J ρ ⟨_, T, m, no, InvC_m hC1 (fun a ha => e2 a (Or.inl ha)), hM2, hO⟩ (fun a ha => (e2 a (Or.inr ha)).trans (e1 a (by omega)))⟩)⟩)
theorem b_odds (hC : InvC I J ρ A T m no) (hM : InvM I J A T) (hO : OkA A m no) (hG : GG G I) : V 7 123 123 mX7_odds 0 [.ref 0, .int x, vJ, vJ, vJ] [] (I, J, vRR ρ) (Ki (KB G mX8_odds [.int x, vJ, vJ, vJ] I)) := by
  have hm6 : m ≤ 6 := hO.1.2.2.1
  have hno6 : no ≤ 6 := hO.1.2.2.2.1
  cases hx : isT 2 x with
  | false =>
    exact c_oddsBad hx ⟨fun _ _ => rfl, m_oddsBad hM hx (fun I2 e2 hM2 => ⟨rfl, hG I2 J ρ ⟨A, T, m, no, InvC_m hC (fun a ha => e2 a (Or.inl ha)), hM2, hO⟩ (fun a ha => e2 a (Or.inr ha))⟩)⟩
  | true =>
    exact c_odds hC hO (isT_01 hx) (fun I1 e1 hC1 => ⟨e1, m_odds (InvM_c hM e1) hO (isT_01 hx) (fun I2 e2 hM2 => ⟨rfl, hG I2 J ρ ⟨_, T, m, no, InvC_m hC1 (fun a ha => e2 a (Or.inl ha)), hM2, hO⟩ (fun a ha => (e2 a (Or.inr ha)).trans (e1 a (by omega)))⟩)⟩)
theorem b_rate (hC : InvC I J ρ A T m no) (hM : InvM I J A T) (hO : OkA A m no) (hG : GG G I) : V 7 123 123 mX7_rate 0 [.ref 0, .int x, .int y] [] (I, J, vRR ρ) (Ki (KB G mX8_rate [.int x, .int y, vJ, vJ] I)) := by
  have hm6 : m ≤ 6 := hO.1.2.2.1
  have hno6 : no ≤ 6 := hO.1.2.2.2.1
  cases hx : isT 6 x with
  | false =>
    exact c_rateBad hC hO (Or.inl hx) ⟨fun _ _ => rfl, m_rateBad hM hO (Or.inl hx) (fun I2 e2 hM2 => ⟨rfl, hG I2 J ρ ⟨A, T, m, no, InvC_m hC (fun a ha => e2 a (Or.inl ha)), hM2, hO⟩ (fun a ha => e2 a (Or.inr ha))⟩)⟩
  | true =>
    obtain ⟨q, qq, rfl⟩ := isT_t (by omega) hx
    cases hy : isT m y with
    | false =>
      exact c_rateBad hC hO (Or.inr hy) ⟨fun _ _ => rfl, m_rateBad hM hO (Or.inr hy) (fun I2 e2 hM2 => ⟨rfl, hG I2 J ρ ⟨A, T, m, no, InvC_m hC (fun a ha => e2 a (Or.inl ha)), hM2, hO⟩ (fun a ha => e2 a (Or.inr ha))⟩)⟩
    | true =>
      obtain ⟨b, qb, rfl⟩ := isT_t (by omega) hy
      obtain ⟨p, p1, p2, p3⟩ := posP hO.2.2.1.1 hm6 qb
      refine c_rate hC hO qb qq p1 p2 p3 (fun J1 j1 j2 => ⟨fun _ _ => rfl, ?_⟩)
      have hM1 : InvM I J1 A T := by
        obtain ⟨m1, m2, m3, m4, m5, m6, m7, m8, m9, m10, m11, m12, m13, m14, m15, m16⟩ := hM
        exact ⟨m1, m2, m3, m4, m5, m6, m7, m8, m9, m10, m11, m12, m13, m14, m15, by rw [j1 103 (by decide)]; exact m16⟩
      refine m_rate hM1 hO qb qq p1 p2 p3 (fun I2 J2 e2 j3 hM2 => ⟨rfl, hG I2 J2 ρ ⟨A, T + rateT q, m, no, ?_, hM2, hO⟩ (fun a ha => e2 a (Or.inr ha))⟩)
      obtain ⟨i1, i2, i3, i4, i5, i6, -⟩ := InvC_m (I' := I2) hC (fun a ha => e2 a (Or.inl ha))
      exact ⟨i1, i2, i3, i4, i5, i6, by rw [j3 0 (by decide)]; exact j2⟩
theorem b_keep (hC : InvC I J ρ A T m no) (hM : InvM I J A T) (hO : OkA A m no) (hG : GG G I) : V 7 123 123 mX7_keep 0 [.ref 0, .int x] [] (I, J, vRR ρ) (Ki (KB G mX8_keep [.int x, vJ] I)) := by
  have hm6 : m ≤ 6 := hO.1.2.2.1
  have hno6 : no ≤ 6 := hO.1.2.2.2.1
  cases hx : isT 2 x with
  | false =>
    exact c_keepBad hx ⟨fun _ _ => rfl, m_keepBad hM hx (fun I2 e2 hM2 => ⟨rfl, hG I2 J ρ ⟨A, T, m, no, InvC_m hC (fun a ha => e2 a (Or.inl ha)), hM2, hO⟩ (fun a ha => e2 a (Or.inr ha))⟩)⟩
  | true =>
    obtain ⟨i, qi, rfl⟩ := isT_t (by omega) hx
    exact c_keep hC hO qi (fun I1 e1 hC1 => ⟨e1, m_keep (InvM_c hM e1) hO qi (fun I2 e2 hM2 => ⟨rfl, hG I2 J ρ ⟨_, T, m, no, InvC_m hC1 (fun a ha => e2 a (Or.inl ha)), hM2, ok_keep hO qi⟩ (fun a ha => (e2 a (Or.inr ha)).trans (e1 a (by omega)))⟩)⟩)
theorem b_back (hC : InvC I J ρ A T m no) (hM : InvM I J A T) (hO : OkA A m no) (hG : GG G I) : V 7 123 123 mX7_back 0 [.ref 0, .int x] [] (I, J, vRR ρ) (Ki (KB G mX8_back [.int x, vJ] I)) := by
  have hm6 : m ≤ 6 := hO.1.2.2.1
  have hno6 : no ≤ 6 := hO.1.2.2.2.1
  cases hx : isT 2 x with
  | false =>
    exact c_backBad hx ⟨fun _ _ => rfl, m_backBad hM hx (fun I2 e2 hM2 => ⟨rfl, hG I2 J ρ ⟨A, T, m, no, InvC_m hC (fun a ha => e2 a (Or.inl ha)), hM2, hO⟩ (fun a ha => e2 a (Or.inr ha))⟩)⟩
  | true =>
    obtain ⟨i, qi, rfl⟩ := isT_t (by omega) hx
    obtain ⟨k1, k2⟩ := hO.2.2.2.2.2.1 i qi
    rcases k1 with k1 | k1
    · exact c_backNo hC hO qi k1 ⟨fun _ _ => rfl, m_backNo hM qi k1 (fun I2 e2 hM2 => ⟨rfl, hG I2 J ρ ⟨A, T, m, no, InvC_m hC (fun a ha => e2 a (Or.inl ha)), hM2, hO⟩ (fun a ha => e2 a (Or.inr ha))⟩)⟩
    · obtain ⟨u, u1, u2, u3⟩ := hO.2.2.2.2.1
      exact c_back hC hO qi k1 (fun I1 e1 hC1 => ⟨e1, m_back (InvM_c hM e1) hO qi k1 (fun I2 e2 hM2 => ⟨rfl, hG I2 J ρ ⟨_, T, m, no, InvC_m hC1 (fun a ha => e2 a (Or.inl ha)), hM2, ok_back hO (k2 k1).1 (k2 k1).2 u2 (by omega) u1⟩ (fun a ha => (e2 a (Or.inr ha)).trans (e1 a (by omega)))⟩)⟩)
theorem b_count (hC : InvC I J ρ A T m no) (hM : InvM I J A T) (hO : OkA A m no) (hG : GG G I) : V 7 123 123 mX7_count 0 [.ref 0, .int x] [] (I, J, vRR ρ) (Ki (KB G mX8_count [.int x] I)) := by
  have hm6 : m ≤ 6 := hO.1.2.2.1
  have hno6 : no ≤ 6 := hO.1.2.2.2.1
  cases hx : isT 5 x with
  | false =>
    exact c_countBad hx ⟨fun _ _ => rfl, m_countBad hM hx (fun I2 e2 hM2 => ⟨rfl, hG I2 J ρ ⟨A, T, m, no, InvC_m hC (fun a ha => e2 a (Or.inl ha)), hM2, hO⟩ (fun a ha => e2 a (Or.inr ha))⟩)⟩
  | true =>
    obtain ⟨q, qq, rfl⟩ := isT_t (by omega) hx
    exact c_count hC hO qq ⟨fun _ _ => rfl, m_count hM hO qq (fun I2 e2 hM2 => ⟨rfl, hG I2 J ρ ⟨A, T, m, no, InvC_m hC (fun a ha => e2 a (Or.inl ha)), hM2, hO⟩ (fun a ha => e2 a (Or.inr ha))⟩)⟩
theorem b_trace (hC : InvC I J ρ A T m no) (hM : InvM I J A T) (hO : OkA A m no) (hG : GG G I) : V 7 123 123 mX7_trace 0 [.ref 0] [] (I, J, vRR ρ) (Kl (KBl G mX8_trace [] I)) := by
  have hm6 : m ≤ 6 := hO.1.2.2.1
  have hno6 : no ≤ 6 := hO.1.2.2.2.1
  exact c_trace hC ⟨fun _ _ => rfl, m_trace hM (fun I2 e2 hM2 => ⟨rfl, hG I2 J ρ ⟨A, T, m, no, InvC_m hC (fun a ha => e2 a (by omega)), hM2, hO⟩ (fun a ha => e2 a (by omega))⟩)⟩
theorem b_plain (hC : InvC I J ρ A T m no) (hM : InvM I J A T) (hO : OkA A m no) (hG : GG G I) : V 7 123 123 mX7_plain 0 [.ref 0, vJ, vJ] [] (I, J, vRR ρ) (Ki (KB G mX8_plain [vJ, vJ] I)) := by
  have hm6 : m ≤ 6 := hO.1.2.2.1
  have hno6 : no ≤ 6 := hO.1.2.2.2.1
  obtain ⟨L, l1, l2, l3⟩ := hO.2.1
  have hl : ∃ l : Nat → Nat, ∀ j, j < L → A 104 j = nI (l j) ∧ l j < 256 := by
    refine ⟨fun j => (A 104 j).toNatClampNeg, fun j hj => ?_⟩
    obtain ⟨v, v1, v2⟩ := l3 j hj
    show A 104 j = nI (A 104 j).toNatClampNeg ∧ (A 104 j).toNatClampNeg < 256
    rw [v2, nI_clamp (by omega)]
    exact ⟨rfl, v1⟩
  obtain ⟨l, hl⟩ := hl
  have hX : CX I l L := ⟨l1, hC.2.1.1.trans l2, fun j hj => ⟨(hC.2.1.2 L l2 l1 j hj).trans (hl j hj).1, (hl j hj).2⟩⟩
  have hX2 : ∀ I1 : Nat → Nat → Int32, InvM I1 J A T → MT I1 l L := fun I1 h => ⟨l1, h.2.2.2.2.2.2.2.2.2.2.2.2.1.trans l2, fun j hj => ⟨by rw [h.1]; exact (hl j hj).1, (hl j hj).2⟩⟩
  refine c_plain hX hC (fun I1 s n E e1 hC1 hpr hs => ⟨e1, ?_⟩) (fun I1 n E e1 hpr hn hE hC1 => ⟨e1, ?_⟩)
  · have hM1 := InvM_c hM e1
    refine m_plain (hX2 I1 hM1) hM1 (fun I2 s2 n2 E2 e2 hM2 hpr2 hs2 => ?_) (fun I2 n2 E2 e2 hpr2 hn2 hE2 hP hM2 => ?_)
    · rw [hpr] at hpr2
      cases hpr2
      exact ⟨rfl, hG I2 J ρ ⟨A, T, m, no, InvC_m hC1 (fun a ha => e2 a (Or.inl ha)), hM2, hO⟩ (fun a ha => (e2 a (Or.inr ha)).trans (e1 a (by omega)))⟩
    · rw [hpr] at hpr2
      cases hpr2
  · have hM1 := InvM_c hM e1
    refine m_plain (hX2 I1 hM1) hM1 (fun I2 s2 n2 E2 e2 hM2 hpr2 hs2 => ?_) (fun I2 n2 E2 e2 hpr2 hn2 hE2 hP hM2 => ?_)
    · rw [hpr] at hpr2
      cases hpr2
    · rw [hpr] at hpr2
      cases hpr2
      exact ⟨rfl, hG I2 J (17 - ρ) ⟨I2, T, E 0 0, E 0 1, InvC_m (hC1 I2 hP) (fun a ha => e2 a (Or.inl ha)), hM2, ok_plain hP hE⟩ (fun a ha => (e2 a (Or.inr ha)).trans (e1 a (by omega)))⟩
end P57
