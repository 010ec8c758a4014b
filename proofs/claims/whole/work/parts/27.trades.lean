/-! ===== trades, widens ===== -/
theorem ok_cut {A : Nat → Nat → Int32} {m no : Nat} {N : Nat → Int32} (hm : m ≤ 6) (hno : no ≤ 6) (hp : PermN m N) (ht : ∃ te : Nat, te ≤ 80 ∧ N 0 = nI te ∧ ∀ i, i < no → N (14 + i) ≠ nI 0 → ∃ x, x < te ∧ A 112 i = nI x) : OkN A m no (cutF A m N) := by
  have e : ∀ k, k ≠ 1 → k < 8 ∨ 8 + m ≤ k → cutF A m N k = N k := fun k h1 h2 => by rw [cutF, va_up_n h1, cutN_lo h2]
  obtain ⟨b, c, h1⟩ := hp
  obtain ⟨te, h2, h3, h4⟩ := ht
  refine ⟨⟨b, c, fun t ht => by rw [e _ (by omega) (by omega)]; exact h1 t ht⟩, fun t x ht hx hx6 => ?_, te, h2, by rw [e _ (by omega) (by omega)]; exact h3, fun i hi hne => by rw [e _ (by omega) (by omega)] at hne; exact h4 i hi hne⟩
  rw [e _ (by omega) (by omega)] at hx
  have ew : wB A N t = A 107 x := by rw [wB, hx, nI_clamp (by omega)]
  rw [cutF, va_up_n (by omega), cutN]
  by_cases hc : N (8 + t) < wB A N t
  · rw [if_pos ⟨by omega, by omega, by rw [show 8 + t - 8 = t by omega]; exact hc⟩, show 8 + t - 8 = t by omega, ew]
    exact Int32.le_refl _
  · rw [if_neg (fun g => hc (by have := g.2.2; rw [show 8 + t - 8 = t by omega] at this; exact this)), ← ew]
    exact Int32.not_lt.mp hc
def swN (N : Nat → Int32) (a b : Nat) : Nat → Int32 := va_up (va_up N (2 + a) (N (2 + b))) (2 + b) (N (2 + a))
theorem swN_o {N : Nat → Int32} {a b k : Nat} (h1 : k ≠ 2 + a) (h2 : k ≠ 2 + b) : swN N a b k = N k := by rw [swN, va_up_n h2, va_up_n h1]
theorem swN_p {N : Nat → Int32} {m a b : Nat} (h : PermN m N) (ha : a < m) (hb : b < m) (hab : a ≠ b) : PermN m (swN N a b) := by
  obtain ⟨f, c, hp⟩ := h
  have sab : ∀ t, t < m → (if t = a then b else if t = b then a else t) < m := fun t ht => by split; exact hb; split; exact ha; exact ht
  refine ⟨fun t => f (if t = a then b else if t = b then a else t), fun x => (if c x = a then b else if c x = b then a else c x), fun t ht => ?_⟩
  have h1 := hp _ (sab t ht)
  have h2 := hp t ht
  refine ⟨?_, h1.2.1, ?_, sab _ h2.2.2.2.1, ?_⟩
  · rw [← h1.1, swN]
    by_cases e1 : t = b
    · subst e1
      rw [va_up_s, if_neg (Ne.symm hab), if_pos rfl]
    · rw [va_up_n (by omega)]
      by_cases e2 : t = a
      · subst e2
        rw [va_up_s, if_pos rfl]
      · rw [va_up_n (by omega), if_neg e2, if_neg e1]
  · show (if c (f _) = a then b else if c (f _) = b then a else c (f _)) = t
    rw [h1.2.2.1]
    by_cases e2 : t = a
    · subst e2; rw [if_pos rfl, if_neg (Ne.symm hab), if_pos rfl]
    · rw [if_neg e2]
      by_cases e1 : t = b
      · subst e1; rw [if_pos rfl, if_pos rfl]
      · rw [if_neg e1, if_neg e2, if_neg e1]
  · show f (if (if c t = a then b else if c t = b then a else c t) = a then b else if (if c t = a then b else if c t = b then a else c t) = b then a else (if c t = a then b else if c t = b then a else c t)) = t
    have : (if (if c t = a then b else if c t = b then a else c t) = a then b else if (if c t = a then b else if c t = b then a else c t) = b then a else (if c t = a then b else if c t = b then a else c t)) = c t := by
      by_cases e2 : c t = a
      · rw [if_pos e2, if_neg (Ne.symm hab), if_pos rfl, e2]
      · rw [if_neg e2]
        by_cases e1 : c t = b
        · rw [if_pos e1, if_pos rfl, e1]
        · rw [if_neg e1, if_neg e2, if_neg e1]
    rw [this]
    exact h2.2.2.2.2
section P27
variable {d : Nat} {I A : Nat → Nat → Int32} {J : Nat → Nat → Int64} {ρ m no : Nat} {T : Int64} {k : Int32 → vS → Prop} {kl : Int64 → vS → Prop} {kv : vS → Prop}
theorem ok_trades {a b u : Nat} (h : OkA A m no) (hu : A 103 23 = nI u) (hu10 : u ≤ 10) (ha : a < m) (hb : b < m) (hab : a ≠ b) : OkA (aDo A u (cutF A m (swN (A 114) a b))) m no := by
  have hm := h.1.2.2.1
  have hn := h.1.2.2.2.1
  obtain ⟨te, h2, h3, h4⟩ := h.2.2.1.2.2
  refine ok_do h hu hu10 (ok_cut hm hn (swN_p h.2.2.1.1 ha hb hab) ⟨te, h2, by rw [swN_o (by omega) (by omega)]; exact h3, fun i hi hne => by rw [swN_o (by omega) (by omega)] at hne; exact h4 i hi hne⟩) (Ok60_N h.2.2.2.1 ?_)
  rw [cutF, va_up_n (by decide), cutN_lo (by omega), swN_o (by omega) (by omega)]
set_option maxHeartbeats 4000000 in
set_option maxRecDepth 100000 in
theorem c_tradesBad {a b : Int32} (hC : InvC I J ρ A T m no) (hO : OkA A m no) (hb : isT m a = false ∨ isT m b = false ∨ a = b) (hk : k (-1) (I, J, vRR ρ)) : V (d + 2) 123 123 mX7_trades 0 [.ref 0, .int a, .int b, vJ] [] (I, J, vRR ρ) (Ki k) := by
  obtain ⟨ht0, ht1, ht2, ht3, ht4, ht5, ht6, ht7, ht8, ht9, ht10⟩ := id hC.1
  obtain ⟨hto, o1, o2, o3, o4, o5, o6, o7, o8⟩ := toldF ht0
  have hm6 : m ≤ 6 := hO.1.2.2.1
  have hno6 : no ≤ 6 := hO.1.2.2.2.1
  by_cases h1 : isT m a = true
  · by_cases h2 : isT m b = true
    · have h3 : a = b := by rcases hb with h | h | h; exact absurd h1 (by rw [h]; decide); exact absurd h2 (by rw [h]; decide); exact h
      subst h3
      refine st_aload rX7_trades_0 rfl ?_
      refine st_getR rX7_trades_1 (by first | assumption | decide | exact ⟨by decide, rfl, by decide⟩) (by first | rfl | assumption) rfl ?_
      refine st_iload rX7_trades_4 rfl ?_
      refine cV2i rX7_trades_5 (by first | assumption | decide | exact ⟨by decide, rfl, by decide⟩) (s_hasTown ht0 ht1 hm6 ?_) rfl (by decide)
      rw [h1]
      first | with_reducible refine st_if_eqN rX7_trades_8 (by omega) (fun h => absurd h (by first | decide | omega | (simp; done) | simp_all)) (fun _ => ?_) | refine st_if_eq rX7_trades_8 (fun h => absurd h (by first | decide | omega | (simp; done) | simp_all)) (fun _ => ?_)
      refine st_aload rX7_trades_11 rfl ?_
      refine st_getR rX7_trades_12 (by first | assumption | decide | exact ⟨by decide, rfl, by decide⟩) (by first | rfl | assumption) rfl ?_
      refine st_iload rX7_trades_15 rfl ?_
      refine cV2i rX7_trades_16 (by first | assumption | decide | exact ⟨by decide, rfl, by decide⟩) (s_hasTown ht0 ht1 hm6 ?_) rfl (by decide)
      rw [h2]
      first | with_reducible refine st_if_eqN rX7_trades_19 (by omega) (fun h => absurd h (by first | decide | omega | (simp; done) | simp_all)) (fun _ => ?_) | refine st_if_eq rX7_trades_19 (fun h => absurd h (by first | decide | omega | (simp; done) | simp_all)) (fun _ => ?_)
      refine st_iload rX7_trades_22 rfl ?_
      refine st_iload rX7_trades_23 rfl ?_
      refine st_icmp_ne rX7_trades_24 (fun h => absurd rfl h) (fun _ => ?_)
      refine st_c rX7_trades_27 ?_
      refine st_iret rX7_trades_28 rfl ?_
      exact hk
    · have h2 : isT m b = false := by simpa using h2
      refine st_aload rX7_trades_0 rfl ?_
      refine st_getR rX7_trades_1 (by first | assumption | decide | exact ⟨by decide, rfl, by decide⟩) (by first | rfl | assumption) rfl ?_
      refine st_iload rX7_trades_4 rfl ?_
      refine cV2i rX7_trades_5 (by first | assumption | decide | exact ⟨by decide, rfl, by decide⟩) (s_hasTown ht0 ht1 hm6 ?_) rfl (by decide)
      rw [h1]
      first | with_reducible refine st_if_eqN rX7_trades_8 (by omega) (fun h => absurd h (by first | decide | omega | (simp; done) | simp_all)) (fun _ => ?_) | refine st_if_eq rX7_trades_8 (fun h => absurd h (by first | decide | omega | (simp; done) | simp_all)) (fun _ => ?_)
      refine st_aload rX7_trades_11 rfl ?_
      refine st_getR rX7_trades_12 (by first | assumption | decide | exact ⟨by decide, rfl, by decide⟩) (by first | rfl | assumption) rfl ?_
      refine st_iload rX7_trades_15 rfl ?_
      refine cV2i rX7_trades_16 (by first | assumption | decide | exact ⟨by decide, rfl, by decide⟩) (s_hasTown ht0 ht1 hm6 ?_) rfl (by decide)
      rw [h2]
      first | with_reducible refine st_if_eqN rX7_trades_19 (by omega) (fun _ => ?_) (fun h => absurd h (by first | decide | omega | (simp; done) | simp_all)) | refine st_if_eq rX7_trades_19 (fun _ => ?_) (fun h => absurd h (by first | decide | omega | (simp; done) | simp_all))
      refine st_c rX7_trades_27 ?_
      refine st_iret rX7_trades_28 rfl ?_
      exact hk
  · have h1 : isT m a = false := by simpa using h1
    refine st_aload rX7_trades_0 rfl ?_
    refine st_getR rX7_trades_1 (by first | assumption | decide | exact ⟨by decide, rfl, by decide⟩) (by first | rfl | assumption) rfl ?_
    refine st_iload rX7_trades_4 rfl ?_
    refine cV2i rX7_trades_5 (by first | assumption | decide | exact ⟨by decide, rfl, by decide⟩) (s_hasTown ht0 ht1 hm6 ?_) rfl (by decide)
    rw [h1]
    first | with_reducible refine st_if_eqN rX7_trades_8 (by omega) (fun _ => ?_) (fun h => absurd h (by first | decide | omega | (simp; done) | simp_all)) | refine st_if_eq rX7_trades_8 (fun _ => ?_) (fun h => absurd h (by first | decide | omega | (simp; done) | simp_all))
    refine st_c rX7_trades_27 ?_
    refine st_iret rX7_trades_28 rfl ?_
    exact hk
set_option maxHeartbeats 4000000 in
set_option maxRecDepth 100000 in
theorem m_tradesBad {a b : Int32} (hM : InvM I J A T) (hO : OkA A m no) (hb : isT m a = false ∨ isT m b = false ∨ a = b) (hk : ∀ I', (∀ a, a < 103 ∨ 123 ≤ a → I' a = I a) → InvM I' J A T → k (-1) (I', J, vRR ρ)) : V (d + 2) 123 123 mX8_trades 0 [.ref 103, .int a, .int b, vJ] [] (I, J, vRR ρ) (Ki k) := by
  refine s_thr rX8_trades_0 rX8_trades_1 rX8_trades_2 hM (fun I1 e1 e2 hM1 => ?_)
  have hm6 : m ≤ 6 := hO.1.2.2.1
  have hno6 : no ≤ 6 := hO.1.2.2.2.1
  obtain ⟨m1, m2, m3, m4, m5, m6, m7, m8, m9, m10, m11, m12, m13, m14, m15, m16⟩ := id hM1
  have hmm : I1 105 0 = nI m := m11.trans hO.1.1
  have hmo : I1 105 1 = nI no := m12.trans hO.1.2.1
  by_cases h1 : isT m a = true
  · by_cases h2 : isT m b = true
    · have h3 : a = b := by rcases hb with h | h | h; exact absurd h1 (by rw [h]; decide); exact absurd h2 (by rw [h]; decide); exact h
      subst h3
      refine st_aload rX8_trades_5 rfl ?_
      refine st_iload rX8_trades_6 rfl ?_
      refine cV2i rX8_trades_7 (by first | assumption | decide | exact ⟨by decide, rfl, by decide⟩) (s_isTown hmm hm6 ?_) rfl (by decide)
      rw [h1]
      first | with_reducible refine st_if_eqN rX8_trades_10 (by omega) (fun h => absurd h (by first | decide | omega | (simp; done) | simp_all)) (fun _ => ?_) | refine st_if_eq rX8_trades_10 (fun h => absurd h (by first | decide | omega | (simp; done) | simp_all)) (fun _ => ?_)
      refine st_aload rX8_trades_13 rfl ?_
      refine st_iload rX8_trades_14 rfl ?_
      refine cV2i rX8_trades_15 (by first | assumption | decide | exact ⟨by decide, rfl, by decide⟩) (s_isTown hmm hm6 ?_) rfl (by decide)
      rw [h2]
      first | with_reducible refine st_if_eqN rX8_trades_18 (by omega) (fun h => absurd h (by first | decide | omega | (simp; done) | simp_all)) (fun _ => ?_) | refine st_if_eq rX8_trades_18 (fun h => absurd h (by first | decide | omega | (simp; done) | simp_all)) (fun _ => ?_)
      refine st_iload rX8_trades_21 rfl ?_
      refine st_iload rX8_trades_22 rfl ?_
      refine st_icmp_ne rX8_trades_23 (fun h => absurd rfl h) (fun _ => ?_)
      refine st_c rX8_trades_26 ?_
      refine st_iret rX8_trades_27 rfl ?_
      exact hk I1 (fun a ha => e1 a (by omega)) hM1
    · have h2 : isT m b = false := by simpa using h2
      refine st_aload rX8_trades_5 rfl ?_
      refine st_iload rX8_trades_6 rfl ?_
      refine cV2i rX8_trades_7 (by first | assumption | decide | exact ⟨by decide, rfl, by decide⟩) (s_isTown hmm hm6 ?_) rfl (by decide)
      rw [h1]
      first | with_reducible refine st_if_eqN rX8_trades_10 (by omega) (fun h => absurd h (by first | decide | omega | (simp; done) | simp_all)) (fun _ => ?_) | refine st_if_eq rX8_trades_10 (fun h => absurd h (by first | decide | omega | (simp; done) | simp_all)) (fun _ => ?_)
      refine st_aload rX8_trades_13 rfl ?_
      refine st_iload rX8_trades_14 rfl ?_
      refine cV2i rX8_trades_15 (by first | assumption | decide | exact ⟨by decide, rfl, by decide⟩) (s_isTown hmm hm6 ?_) rfl (by decide)
      rw [h2]
      first | with_reducible refine st_if_eqN rX8_trades_18 (by omega) (fun _ => ?_) (fun h => absurd h (by first | decide | omega | (simp; done) | simp_all)) | refine st_if_eq rX8_trades_18 (fun _ => ?_) (fun h => absurd h (by first | decide | omega | (simp; done) | simp_all))
      refine st_c rX8_trades_26 ?_
      refine st_iret rX8_trades_27 rfl ?_
      exact hk I1 (fun a ha => e1 a (by omega)) hM1
  · have h1 : isT m a = false := by simpa using h1
    refine st_aload rX8_trades_5 rfl ?_
    refine st_iload rX8_trades_6 rfl ?_
    refine cV2i rX8_trades_7 (by first | assumption | decide | exact ⟨by decide, rfl, by decide⟩) (s_isTown hmm hm6 ?_) rfl (by decide)
    rw [h1]
    first | with_reducible refine st_if_eqN rX8_trades_10 (by omega) (fun _ => ?_) (fun h => absurd h (by first | decide | omega | (simp; done) | simp_all)) | refine st_if_eq rX8_trades_10 (fun _ => ?_) (fun h => absurd h (by first | decide | omega | (simp; done) | simp_all))
    refine st_c rX8_trades_26 ?_
    refine st_iret rX8_trades_27 rfl ?_
    exact hk I1 (fun a ha => e1 a (by omega)) hM1
set_option maxHeartbeats 4000000 in
set_option maxRecDepth 100000 in
theorem c_trades {a b u : Nat} (hC : InvC I J ρ A T m no) (hO : OkA A m no) (ha : a < m) (hb : b < m) (hab : a ≠ b) (hu : A 103 23 = nI u) (hu10 : u ≤ 10) (hk : ∀ I', (∀ a, 103 ≤ a → I' a = I a) → InvC I' J ρ (aDo A u (cutF A m (swN (A 114) a b))) T m no → k (nI (ctF A (swN (A 114) a b) m)) (I', J, vRR ρ)) : V (d + 3) 123 123 mX7_trades 0 [.ref 0, .int (nI a), .int (nI b), vJ] [] (I, J, vRR ρ) (Ki k) := by
  obtain ⟨ht0, ht1, ht2, ht3, ht4, ht5, ht6, ht7, ht8, ht9, ht10⟩ := id hC.1
  obtain ⟨hto, o1, o2, o3, o4, o5, o6, o7, o8⟩ := toldF ht0
  have hm6 : m ≤ 6 := hO.1.2.2.1
  have hno6 : no ≤ 6 := hO.1.2.2.2.1
  have hbx : ∀ t, t < m → ∃ x, x < m ∧ swN (A 114) a b (2 + t) = nI x := by
    obtain ⟨f, c, hp⟩ := swN_p hO.2.2.1.1 ha hb hab
    exact fun t ht => ⟨f t, (hp t ht).2.1, (hp t ht).1⟩
  have hv := hC.2.2.1
  obtain ⟨q, u0, u1, u2, u3⟩ := hC.2.2.2.1
  have hg : vHg 22 := ⟨by decide, rfl⟩
  have hρ : ρ ≤ 13 := by rcases ht0 with h | h <;> omega
  refine st_aload rX7_trades_0 rfl ?_
  refine st_getR rX7_trades_1 (by first | assumption | decide | exact ⟨by decide, rfl, by decide⟩) (by first | rfl | assumption) rfl ?_
  refine st_iload rX7_trades_4 rfl ?_
  refine cV2i rX7_trades_5 (by first | assumption | decide | exact ⟨by decide, rfl, by decide⟩) (s_hasTown ht0 ht1 hm6 ?_) rfl (by decide)
  rw [isT_n ha (by omega)]
  first | with_reducible refine st_if_eqN rX7_trades_8 (by omega) (fun h => absurd h (by first | decide | omega | (simp; done) | simp_all)) (fun _ => ?_) | refine st_if_eq rX7_trades_8 (fun h => absurd h (by first | decide | omega | (simp; done) | simp_all)) (fun _ => ?_)
  refine st_aload rX7_trades_11 rfl ?_
  refine st_getR rX7_trades_12 (by first | assumption | decide | exact ⟨by decide, rfl, by decide⟩) (by first | rfl | assumption) rfl ?_
  refine st_iload rX7_trades_15 rfl ?_
  refine cV2i rX7_trades_16 (by first | assumption | decide | exact ⟨by decide, rfl, by decide⟩) (s_hasTown ht0 ht1 hm6 ?_) rfl (by decide)
  rw [isT_n hb (by omega)]
  first | with_reducible refine st_if_eqN rX7_trades_19 (by omega) (fun h => absurd h (by first | decide | omega | (simp; done) | simp_all)) (fun _ => ?_) | refine st_if_eq rX7_trades_19 (fun h => absurd h (by first | decide | omega | (simp; done) | simp_all)) (fun _ => ?_)
  refine st_iload rX7_trades_22 rfl ?_
  refine st_iload rX7_trades_23 rfl ?_
  first | with_reducible refine st_icmp_neN rX7_trades_24 (by omega) (by omega) (fun _ => ?_) (fun h => absurd h (by first | decide | omega | (simp; done) | simp_all)) | refine st_icmp_ne rX7_trades_24 (fun _ => ?_) (fun h => absurd h (by first | decide | omega | (simp; done) | simp_all))
  refine st_aload rX7_trades_29 rfl ?_
  refine st_getR rX7_trades_30 (by first | assumption | decide | exact ⟨by decide, rfl, by decide⟩) (by first | rfl | assumption) rfl ?_
  refine st_aload rX7_trades_33 rfl ?_
  refine st_getR rX7_trades_34 (by first | assumption | decide | exact ⟨by decide, rfl, by decide⟩) (by first | rfl | assumption) rfl ?_
  refine cV2v rX7_trades_37 (by first | assumption | decide | exact ⟨by decide, rfl, by decide⟩) (s_remember u1 u0 (u2.trans hu) hu10 (fun I1 g gq gu gv => ?_)) rfl (by decide)
  have ev : ∀ t, t < 6 → I1 23 t = A 114 (2 + t) := fun t ht => by rw [g 23 (by omega) (by omega)]; exact hv.2.2.1 t ht
  refine st_aload rX7_trades_40 rfl ?_
  refine st_getR rX7_trades_41 (by first | assumption | decide | exact ⟨by decide, rfl, by decide⟩) (by first | rfl | assumption) rfl ?_
  refine st_getR rX7_trades_44 (by first | assumption | decide) (by first | rfl | exact hR2 (by assumption)) rfl ?_
  refine st_iload rX7_trades_47 rfl ?_
  refine cS2i rX7_trades_48 (s_at (by first | assumption | decide | exact ⟨by decide, rfl, by decide⟩) (by omega) ?_) rfl
  refine st_top (ev a (by omega)) ?_
  refine st_istore3 rX7_trades_51 rfl ?_
  refine st_aload rX7_trades_52 rfl ?_
  refine st_getR rX7_trades_53 (by first | assumption | decide | exact ⟨by decide, rfl, by decide⟩) (by first | rfl | assumption) rfl ?_
  refine st_getR rX7_trades_56 (by first | assumption | decide) (by first | rfl | exact hR2 (by assumption)) rfl ?_
  refine st_iload rX7_trades_59 rfl ?_
  refine st_aload rX7_trades_60 rfl ?_
  refine st_getR rX7_trades_61 (by first | assumption | decide | exact ⟨by decide, rfl, by decide⟩) (by first | rfl | assumption) rfl ?_
  refine st_getR rX7_trades_64 (by first | assumption | decide) (by first | rfl | exact hR2 (by assumption)) rfl ?_
  refine st_iload rX7_trades_67 rfl ?_
  refine cS2i rX7_trades_68 (s_at (by first | assumption | decide | exact ⟨by decide, rfl, by decide⟩) (by omega) ?_) rfl
  refine st_top (ev b (by omega)) ?_
  refine cS3v rX7_trades_71 (s_put (by first | assumption | decide | exact ⟨by decide, rfl, by decide⟩) (by omega) ?_) rfl
  refine st_aload rX7_trades_74 rfl ?_
  refine st_getR rX7_trades_75 (by first | assumption | decide | exact ⟨by decide, rfl, by decide⟩) (by first | rfl | assumption) rfl ?_
  refine st_getR rX7_trades_78 (by first | assumption | decide) (by first | rfl | exact hR2 (by assumption)) rfl ?_
  refine st_iload rX7_trades_81 rfl ?_
  refine st_iload rX7_trades_82 rfl ?_
  refine cS3v rX7_trades_83 (s_put (by first | assumption | decide | exact ⟨by decide, rfl, by decide⟩) (by omega) ?_) rfl
  generalize hI2 : up (up I1 23 (va_up (I1 23) a (A 114 (2 + b)))) 23 _ = I2
  have g2 : ∀ x, x ≠ 23 → I2 x = I1 x := fun x hx => by rw [← hI2, up_n hx, up_n hx]
  have g23 : ∀ t, t < 6 → I2 23 t = swN (A 114) a b (2 + t) := fun t ht => by
    rw [← hI2, up_s, up_s, swN]
    by_cases e1 : t = b
    · subst e1; rw [va_up_s, va_up_s]
    · by_cases e2 : t = a
      · subst e2; rw [va_up_n e1, va_up_s, va_up_n (show 2 + t ≠ 2 + b by omega), va_up_s]
      · rw [va_up_n e1, va_up_n e2, va_up_n (show 2 + t ≠ 2 + b by omega), va_up_n (show 2 + t ≠ 2 + a by omega)]; exact ev t ht
  have gi : ∀ x, x ≠ 23 → x ≠ 32 → x < 34 ∨ 83 < x → I2 x = I x := fun x h1 h2 h3 => by rw [g2 x h1, g x h2 (by omega)]
  have hT2 : CT I2 ρ A m no := CT_c hC.1 (fun x _ _ => gi x (by omega) (by omega) (by omega)) (fun x _ _ => rfl)
  have hv2 : HV I2 22 m (swN (A 114) a b) := by
    obtain ⟨v1, v2, v3, v4, v5, v6⟩ := hv
    refine ⟨?_, ?_, g23, fun t ht => ?_, fun t ht => ?_, fun t ht => ?_⟩
    · rw [gi 22 (by omega) (by omega) (by omega), swN_o (by omega) (by omega)]; exact v1
    · rw [gi 22 (by omega) (by omega) (by omega), swN_o (by omega) (by omega)]; exact v2
    · rw [gi 24 (by omega) (by omega) (by omega), swN_o (by omega) (by omega)]; exact v4 t ht
    · rw [gi 25 (by omega) (by omega) (by omega), swN_o (by omega) (by omega)]; exact v5 t ht
    · rw [gi 26 (by omega) (by omega) (by omega), swN_o (by omega) (by omega)]; exact v6 t ht
  refine st_aload rX7_trades_86 rfl ?_
  refine st_getR rX7_trades_87 (by first | assumption | decide | exact ⟨by decide, rfl, by decide⟩) (by first | rfl | assumption) rfl ?_
  refine st_aload rX7_trades_90 rfl ?_
  refine st_getR rX7_trades_91 (by first | assumption | decide | exact ⟨by decide, rfl, by decide⟩) (by first | rfl | assumption) rfl ?_
  refine cV2i rX7_trades_94 (by first | assumption | decide | exact ⟨by decide, rfl, by decide⟩) (s_cutTowers (N := swN (A 114) a b) (m := m) (A := A) (no := no) hg hT2 hm6 hv2 hbx ⟨by omega, by omega⟩ (fun I3 g3 hv3 => ?_)) rfl (by decide)
  refine st_iret rX7_trades_97 rfl ?_
  refine hk I3 (fun x hx => by rw [g3 x (by omega) (by omega)]; exact gi x (by omega) (by omega) (by omega)) ?_
  exact C_do hC hm6 hu hu10 u1 u0 (u3 u hu10 hu) g gq gu gv (fun x h1 h2 => by rw [g3 x (by omega) (by omega), g2 x (by omega)]) hv3
set_option maxHeartbeats 4000000 in
set_option maxRecDepth 100000 in
theorem m_trades {a b u : Nat} (hM : InvM I J A T) (hO : OkA A m no) (ha : a < m) (hb : b < m) (hab : a ≠ b) (hu : A 103 23 = nI u) (hu10 : u ≤ 10) (hk : ∀ I', (∀ a, a < 103 ∨ 123 ≤ a → I' a = I a) → InvM I' J (aDo A u (cutF A m (swN (A 114) a b))) T → k (nI (ctF A (swN (A 114) a b) m)) (I', J, vRR ρ)) : V (d + 2) 123 123 mX8_trades 0 [.ref 103, .int (nI a), .int (nI b), vJ] [] (I, J, vRR ρ) (Ki k) := by
  refine s_thr rX8_trades_0 rX8_trades_1 rX8_trades_2 hM (fun I1 e1 e2 hM1 => ?_)
  have hm6 : m ≤ 6 := hO.1.2.2.1
  have hno6 : no ≤ 6 := hO.1.2.2.2.1
  obtain ⟨m1, m2, m3, m4, m5, m6, m7, m8, m9, m10, m11, m12, m13, m14, m15, m16⟩ := id hM1
  have hmm : I1 105 0 = nI m := m11.trans hO.1.1
  have hmo : I1 105 1 = nI no := m12.trans hO.1.2.1
  have hbx : ∀ t, t < m → ∃ x, x < m ∧ swN (A 114) a b (2 + t) = nI x := by
    obtain ⟨f, c, hp⟩ := swN_p hO.2.2.1.1 ha hb hab
    exact fun t ht => ⟨f t, (hp t ht).2.1, (hp t ht).1⟩
  refine st_aload rX8_trades_5 rfl ?_
  refine st_iload rX8_trades_6 rfl ?_
  refine cV2i rX8_trades_7 (by first | assumption | decide | exact ⟨by decide, rfl, by decide⟩) (s_isTown hmm hm6 ?_) rfl (by decide)
  rw [isT_n ha (by omega)]
  first | with_reducible refine st_if_eqN rX8_trades_10 (by omega) (fun h => absurd h (by first | decide | omega | (simp; done) | simp_all)) (fun _ => ?_) | refine st_if_eq rX8_trades_10 (fun h => absurd h (by first | decide | omega | (simp; done) | simp_all)) (fun _ => ?_)
  refine st_aload rX8_trades_13 rfl ?_
  refine st_iload rX8_trades_14 rfl ?_
  refine cV2i rX8_trades_15 (by first | assumption | decide | exact ⟨by decide, rfl, by decide⟩) (s_isTown hmm hm6 ?_) rfl (by decide)
  rw [isT_n hb (by omega)]
  first | with_reducible refine st_if_eqN rX8_trades_18 (by omega) (fun h => absurd h (by first | decide | omega | (simp; done) | simp_all)) (fun _ => ?_) | refine st_if_eq rX8_trades_18 (fun h => absurd h (by first | decide | omega | (simp; done) | simp_all)) (fun _ => ?_)
  refine st_iload rX8_trades_21 rfl ?_
  refine st_iload rX8_trades_22 rfl ?_
  first | with_reducible refine st_icmp_neN rX8_trades_23 (by omega) (by omega) (fun _ => ?_) (fun h => absurd h (by first | decide | omega | (simp; done) | simp_all)) | refine st_icmp_ne rX8_trades_23 (fun _ => ?_) (fun h => absurd h (by first | decide | omega | (simp; done) | simp_all))
  refine st_aload rX8_trades_28 rfl ?_
  refine cV1v rX8_trades_29 (by first | assumption | decide | exact ⟨by decide, rfl, by decide⟩) (s_notes (A := A) (m14.trans hu) hu10 m3 m6 (fun I2 g g3 g23 g8 => ?_)) rfl (by decide)
  have ev : I2 114 = A 114 := by rw [g 114 (by decide) (by decide)]; exact m3
  refine st_aload rX8_trades_32 rfl ?_
  refine st_getR rX8_trades_33 (by first | assumption | decide | exact ⟨by decide, rfl, by decide⟩) (by first | rfl | assumption) rfl ?_
  refine st_c rX8_trades_36 ?_
  refine st_iload rX8_trades_37 rfl ?_
  first | with_reducible refine st_iaddN rX8_trades_38 ?_ | refine st_iadd rX8_trades_38 ?_
  refine st_ialdN rX8_trades_39 (by first | assumption | decide | exact ⟨by decide, rfl, by decide⟩) (by omega) ?_
  refine st_istore3 rX8_trades_40 rfl ?_
  refine st_aload rX8_trades_41 rfl ?_
  refine st_getR rX8_trades_42 (by first | assumption | decide | exact ⟨by decide, rfl, by decide⟩) (by first | rfl | assumption) rfl ?_
  refine st_c rX8_trades_45 ?_
  refine st_iload rX8_trades_46 rfl ?_
  first | with_reducible refine st_iaddN rX8_trades_47 ?_ | refine st_iadd rX8_trades_47 ?_
  refine st_aload rX8_trades_48 rfl ?_
  refine st_getR rX8_trades_49 (by first | assumption | decide | exact ⟨by decide, rfl, by decide⟩) (by first | rfl | assumption) rfl ?_
  refine st_c rX8_trades_52 ?_
  refine st_iload rX8_trades_53 rfl ?_
  first | with_reducible refine st_iaddN rX8_trades_54 ?_ | refine st_iadd rX8_trades_54 ?_
  refine st_ialdN rX8_trades_55 (by first | assumption | decide | exact ⟨by decide, rfl, by decide⟩) (by omega) ?_
  refine st_iastN rX8_trades_56 (by first | assumption | decide | exact ⟨by decide, rfl, by decide⟩) (by omega) ?_
  refine st_aload rX8_trades_57 rfl ?_
  refine st_getR rX8_trades_58 (by first | assumption | decide | exact ⟨by decide, rfl, by decide⟩) (by first | rfl | assumption) rfl ?_
  refine st_c rX8_trades_61 ?_
  refine st_iload rX8_trades_62 rfl ?_
  first | with_reducible refine st_iaddN rX8_trades_63 ?_ | refine st_iadd rX8_trades_63 ?_
  refine st_iload rX8_trades_64 rfl ?_
  refine st_iastN rX8_trades_65 (by first | assumption | decide | exact ⟨by decide, rfl, by decide⟩) (by omega) ?_
  generalize hI3 : up (up I2 114 _) 114 _ = I3
  have gx : ∀ x, x ≠ 114 → I3 x = I2 x := fun x hx => by rw [← hI3, up_n hx, up_n hx]
  have g4 : I3 114 = swN (A 114) a b := by rw [← hI3, up_s, up_s, ev, swN]
  refine st_aload rX8_trades_66 rfl ?_
  refine st_aload rX8_trades_67 rfl ?_
  refine st_getR rX8_trades_68 (by first | assumption | decide | exact ⟨by decide, rfl, by decide⟩) (by first | rfl | assumption) rfl ?_
  refine cV2i rX8_trades_71 (by first | assumption | decide | exact ⟨by decide, rfl, by decide⟩) (s_cuts (m := m) (A := A) (N := swN (A 114) a b) (Or.inl rfl) (show _ = nI m by rw [gx 105 (by decide), g 105 (by decide) (by decide)]; exact hmm) hm6 (fun t ht => by rw [gx 107 (by decide), g 107 (by decide) (by decide)]; exact (m9 t ht).1) g4 hbx (fun I4 h4 h44 => ?_)) rfl (by decide)
  refine st_iret rX8_trades_74 rfl ?_
  have e := @aDo_e A u (cutF A m (swN (A 114) a b))
  have f := @aDo_f A u (cutF A m (swN (A 114) a b))
  have gg : ∀ x, x ≠ 103 → x ≠ 114 → x ≠ 118 → I4 x = I1 x := fun x h1 h2 h3 => by rw [h4 x h2, gx x h2, g x h1 h3]
  have gg3 : ∀ q, q ≠ 23 → I4 103 q = I1 103 q := fun q hq => by rw [h4 103 (by decide), gx 103 (by decide), g3 q hq]
  have gg23 : I4 103 23 = nI (min 10 (u + 1)) := by rw [h4 103 (by decide), gx 103 (by decide), g23]
  have gg8 : I4 118 = wNt A u := by rw [h4 118 (by decide), gx 118 (by decide), g8]
  refine hk _ (fun x hx => by rw [gg x (by omega) (by omega) (by omega)]; exact e1 x (by omega)) ?_
  simp (disch := omega) only [InvM, e, f, gg, gg3, gg23, gg8, h44, aDo_3, aDo_4, aDo_8]
  exact ⟨m1, m2, trivial, m4, m5, trivial, m7, m8, m9, m10, m11, m12, m13, trivial, m15, m16⟩
end P27
