/-! ===== the class's lexer ===== -/
def tK (l : Nat → Nat) (L p : Nat) : Nat := if tC l L p = 0 then 0 else if tC l L p = 2 then 1 else if tC l L p = 4 then 2 else tV l L p
/-- the class's text against l, L -/
def CX (I : Nat → Nat → Int32) (l : Nat → Nat) (L : Nat) : Prop := L ≤ 200 ∧ I 1 1 = nI L ∧ ∀ j, j < L → I 2 j = nI (l j) ∧ l j < 256
theorem mn_n {a b : Nat} (ha : a < 2147483648) (hb : b < 2147483648) : (if nI a < nI b then nI a else nI b) = nI (min b a) := by
  by_cases h : a < b
  · rw [if_pos (by rw [Int32.lt_iff_toInt_lt, nI_toInt ha, nI_toInt hb]; omega), Nat.min_eq_right (by omega)]
  · rw [if_neg (by rw [Int32.lt_iff_toInt_lt, nI_toInt ha, nI_toInt hb]; omega), Nat.min_eq_left (by omega)]
section P42
variable {d : Nat} {I A : Nat → Nat → Int32} {J : Nat → Nat → Int64} {ρ m no : Nat} {T : Int64} {k : Int32 → vS → Prop} {kl : Int64 → vS → Prop} {kv : vS → Prop}
set_option maxHeartbeats 4000000 in
set_option maxRecDepth 100000 in
theorem s_isDig {x : Nat} {kk : Int32 → vS → Prop} (hx : x < 2147483648) (h : kk (vb (dgt x)) (I, J, vRR ρ)) : V d 123 123 mX5_isDigit 0 [.int (nI x)] [] (I, J, vRR ρ) (Ki kk) := by
  refine st_iload rX5_isDigit_0 rfl ?_
  refine st_c rX5_isDigit_1 ?_
  first | with_reducible refine st_icmp_ltN rX5_isDigit_3 (by omega) (by omega) (fun h3 => ?_) (fun h3 => ?_) | refine st_icmp_lt rX5_isDigit_3 (fun h3 => ?_) (fun h3 => ?_)
  · refine st_c rX5_isDigit_16 ?_
    refine st_zret rX5_isDigit_17 rfl (by first | rfl | exact vb_nar _) ?_
    first
    | (rw [show dgt x = false by simp only [dgt, Bool.and_eq_false_iff, decide_eq_false_iff_not]; omega] at h; exact h)
    | (rw [show dgt x = true by simp only [dgt, Bool.and_eq_true, decide_eq_true_eq]; omega] at h; exact h)
  · refine st_iload rX5_isDigit_6 rfl ?_
    refine st_c rX5_isDigit_7 ?_
    first | with_reducible refine st_icmp_gtN rX5_isDigit_9 (by omega) (by omega) (fun h9 => ?_) (fun h9 => ?_) | refine st_icmp_gt rX5_isDigit_9 (fun h9 => ?_) (fun h9 => ?_)
    · refine st_c rX5_isDigit_16 ?_
      refine st_zret rX5_isDigit_17 rfl (by first | rfl | exact vb_nar _) ?_
      first
      | (rw [show dgt x = false by simp only [dgt, Bool.and_eq_false_iff, decide_eq_false_iff_not]; omega] at h; exact h)
      | (rw [show dgt x = true by simp only [dgt, Bool.and_eq_true, decide_eq_true_eq]; omega] at h; exact h)
    · refine st_c rX5_isDigit_12 ?_
      refine st_goto rX5_isDigit_13 ?_
      refine st_zret rX5_isDigit_17 rfl (by first | rfl | exact vb_nar _) ?_
      first
      | (rw [show dgt x = false by simp only [dgt, Bool.and_eq_false_iff, decide_eq_false_iff_not]; omega] at h; exact h)
      | (rw [show dgt x = true by simp only [dgt, Bool.and_eq_true, decide_eq_true_eq]; omega] at h; exact h)
set_option maxHeartbeats 4000000 in
set_option maxRecDepth 100000 in
theorem s_readNumber {l : Nat → Nat} {L s : Nat} (hT : CX I l L) (hs : s < L) (h3 : I 1 3 = nI s) (h4 : I 1 4 = nI s)
    (hk : ∀ I', (∀ a, a ≠ 1 → I' a = I a) → (∀ q, q < 3 ∨ 6 < q → I' 1 q = I 1 q) → I' 1 3 = nI (nmF l (L - s) s 0).1 → I' 1 4 = nI s → I' 1 5 = nI (if 99 < (nmF l (L - s) s 0).2 ∨ l s = 48 ∧ 1 < (nmF l (L - s) s 0).1 - s then 2 else 1) → I' 1 6 = nI (min 100 (nmF l (L - s) s 0).2) → kv (I', J, vRR ρ)) : V (d + 1) 123 123 mX5_readNumber 0 [.ref 1, vJ] [] (I, J, vRR ρ) (Kv kv) := by
  obtain ⟨hL, hT1, hT2⟩ := hT
  obtain ⟨n1, n2, n3⟩ := nmF_le l (L - s) s 0 (by omega)
  generalize hrr : nmF l (L - s) s 0 = rr at *
  have hls := hT2 s hs
  have fin : ∀ (I4 : Nat → Nat → Int32), (∀ a, a ≠ 1 → I4 a = I a) → (∀ q, q < 3 ∨ 6 < q → I4 1 q = I 1 q) → I4 1 3 = nI rr.1 → I4 1 4 = nI s → I4 1 6 = nI (min 100 rr.2) → V (d + 1) 123 123 mX5_readNumber 77 [.ref 1, vJ] [] (I4, J, vRR ρ) (Kv kv) := by
    intro I4 b1 b3 b4 b5 b6
    have q2 : I4 2 s = nI (l s) := by rw [b1 2 (by decide)]; exact hls.1
    refine st_aload rX5_readNumber_77 rfl ?_
    refine st_getR rX5_readNumber_78 (by first | assumption | decide | exact ⟨by decide, rfl, by decide⟩) (by first | rfl | assumption) rfl ?_
    refine st_aload rX5_readNumber_81 rfl ?_
    refine st_getI rX5_readNumber_82 (by first | assumption | decide | exact ⟨by decide, rfl, by decide⟩) rfl ?_
    refine st_top b5 ?_
    refine cS2i rX5_readNumber_85 (s_at (by first | assumption | decide | exact ⟨by decide, rfl, by decide⟩) (by omega) ?_) rfl
    refine st_top q2 ?_
    refine st_c rX5_readNumber_88 ?_
    first | with_reducible refine st_icmp_neN rX5_readNumber_90 (by omega) (by omega) (fun h90 => ?_) (fun h90 => ?_) | refine st_icmp_ne rX5_readNumber_90 (fun h90 => ?_) (fun h90 => ?_)
    · refine st_c rX5_readNumber_110 ?_
      refine st_istore1 rX5_readNumber_111 rfl ?_
      refine st_aload rX5_readNumber_112 rfl ?_
      refine st_iload rX5_readNumber_113 rfl ?_
      first | with_reducible refine st_if_neN rX5_readNumber_114 (by omega) (fun h114 => ?_) (fun h114 => ?_) | refine st_if_ne rX5_readNumber_114 (fun h114 => ?_) (fun h114 => ?_)
      · refine st_c rX5_readNumber_126 ?_
        refine st_goto rX5_readNumber_127 ?_
        refine st_putI rfl rX5_readNumber_131 (by first | assumption | decide | exact ⟨by decide, rfl, by decide⟩) ?_
        refine st_vret rX5_readNumber_134 rfl ?_
        refine hk _ (fun a ha => by rw [up_n ha, b1 a ha]) (fun q hq => by rw [up_s, va_up_n (by omega)]; exact b3 q hq) ?_ ?_ ?_ ?_
        · rw [up_s, va_up_n (by decide)]; exact b4
        · rw [up_s, va_up_n (by decide)]; exact b5
        · rw [up_s, va_up_s]
          congr 1
          split <;> omega
        · rw [up_s, va_up_n (by decide)]; exact b6
      · refine st_aload rX5_readNumber_117 rfl ?_
        refine st_getI rX5_readNumber_118 (by first | assumption | decide | exact ⟨by decide, rfl, by decide⟩) rfl ?_
        refine st_top b6 ?_
        refine st_c rX5_readNumber_121 ?_
        first | with_reducible refine st_icmp_leN rX5_readNumber_123 (by omega) (by omega) (fun h123 => ?_) (fun h123 => ?_) | refine st_icmp_le rX5_readNumber_123 (fun h123 => ?_) (fun h123 => ?_)
        · refine st_c rX5_readNumber_130 ?_
          refine st_putI rfl rX5_readNumber_131 (by first | assumption | decide | exact ⟨by decide, rfl, by decide⟩) ?_
          refine st_vret rX5_readNumber_134 rfl ?_
          refine hk _ (fun a ha => by rw [up_n ha, b1 a ha]) (fun q hq => by rw [up_s, va_up_n (by omega)]; exact b3 q hq) ?_ ?_ ?_ ?_
          · rw [up_s, va_up_n (by decide)]; exact b4
          · rw [up_s, va_up_n (by decide)]; exact b5
          · rw [up_s, va_up_s]
            congr 1
            split <;> omega
          · rw [up_s, va_up_n (by decide)]; exact b6
        · refine st_c rX5_readNumber_126 ?_
          refine st_goto rX5_readNumber_127 ?_
          refine st_putI rfl rX5_readNumber_131 (by first | assumption | decide | exact ⟨by decide, rfl, by decide⟩) ?_
          refine st_vret rX5_readNumber_134 rfl ?_
          refine hk _ (fun a ha => by rw [up_n ha, b1 a ha]) (fun q hq => by rw [up_s, va_up_n (by omega)]; exact b3 q hq) ?_ ?_ ?_ ?_
          · rw [up_s, va_up_n (by decide)]; exact b4
          · rw [up_s, va_up_n (by decide)]; exact b5
          · rw [up_s, va_up_s]
            congr 1
            split <;> omega
          · rw [up_s, va_up_n (by decide)]; exact b6
    · refine st_aload rX5_readNumber_93 rfl ?_
      refine st_getI rX5_readNumber_94 (by first | assumption | decide | exact ⟨by decide, rfl, by decide⟩) rfl ?_
      refine st_top b4 ?_
      refine st_aload rX5_readNumber_97 rfl ?_
      refine st_getI rX5_readNumber_98 (by first | assumption | decide | exact ⟨by decide, rfl, by decide⟩) rfl ?_
      refine st_top b5 ?_
      first | with_reducible refine st_isubN rX5_readNumber_101 (by omega) ?_ | refine st_isub rX5_readNumber_101 ?_
      refine st_c rX5_readNumber_102 ?_
      first | with_reducible refine st_icmp_leN rX5_readNumber_103 (by omega) (by omega) (fun h103 => ?_) (fun h103 => ?_) | refine st_icmp_le rX5_readNumber_103 (fun h103 => ?_) (fun h103 => ?_)
      · refine st_c rX5_readNumber_110 ?_
        refine st_istore1 rX5_readNumber_111 rfl ?_
        refine st_aload rX5_readNumber_112 rfl ?_
        refine st_iload rX5_readNumber_113 rfl ?_
        first | with_reducible refine st_if_neN rX5_readNumber_114 (by omega) (fun h114 => ?_) (fun h114 => ?_) | refine st_if_ne rX5_readNumber_114 (fun h114 => ?_) (fun h114 => ?_)
        · refine st_c rX5_readNumber_126 ?_
          refine st_goto rX5_readNumber_127 ?_
          refine st_putI rfl rX5_readNumber_131 (by first | assumption | decide | exact ⟨by decide, rfl, by decide⟩) ?_
          refine st_vret rX5_readNumber_134 rfl ?_
          refine hk _ (fun a ha => by rw [up_n ha, b1 a ha]) (fun q hq => by rw [up_s, va_up_n (by omega)]; exact b3 q hq) ?_ ?_ ?_ ?_
          · rw [up_s, va_up_n (by decide)]; exact b4
          · rw [up_s, va_up_n (by decide)]; exact b5
          · rw [up_s, va_up_s]
            congr 1
            split <;> omega
          · rw [up_s, va_up_n (by decide)]; exact b6
        · refine st_aload rX5_readNumber_117 rfl ?_
          refine st_getI rX5_readNumber_118 (by first | assumption | decide | exact ⟨by decide, rfl, by decide⟩) rfl ?_
          refine st_top b6 ?_
          refine st_c rX5_readNumber_121 ?_
          first | with_reducible refine st_icmp_leN rX5_readNumber_123 (by omega) (by omega) (fun h123 => ?_) (fun h123 => ?_) | refine st_icmp_le rX5_readNumber_123 (fun h123 => ?_) (fun h123 => ?_)
          · refine st_c rX5_readNumber_130 ?_
            refine st_putI rfl rX5_readNumber_131 (by first | assumption | decide | exact ⟨by decide, rfl, by decide⟩) ?_
            refine st_vret rX5_readNumber_134 rfl ?_
            refine hk _ (fun a ha => by rw [up_n ha, b1 a ha]) (fun q hq => by rw [up_s, va_up_n (by omega)]; exact b3 q hq) ?_ ?_ ?_ ?_
            · rw [up_s, va_up_n (by decide)]; exact b4
            · rw [up_s, va_up_n (by decide)]; exact b5
            · rw [up_s, va_up_s]
              congr 1
              split <;> omega
            · rw [up_s, va_up_n (by decide)]; exact b6
          · refine st_c rX5_readNumber_126 ?_
            refine st_goto rX5_readNumber_127 ?_
            refine st_putI rfl rX5_readNumber_131 (by first | assumption | decide | exact ⟨by decide, rfl, by decide⟩) ?_
            refine st_vret rX5_readNumber_134 rfl ?_
            refine hk _ (fun a ha => by rw [up_n ha, b1 a ha]) (fun q hq => by rw [up_s, va_up_n (by omega)]; exact b3 q hq) ?_ ?_ ?_ ?_
            · rw [up_s, va_up_n (by decide)]; exact b4
            · rw [up_s, va_up_n (by decide)]; exact b5
            · rw [up_s, va_up_s]
              congr 1
              split <;> omega
            · rw [up_s, va_up_n (by decide)]; exact b6
      · refine st_c rX5_readNumber_106 ?_
        refine st_goto rX5_readNumber_107 ?_
        refine st_istore1 rX5_readNumber_111 rfl ?_
        refine st_aload rX5_readNumber_112 rfl ?_
        refine st_iload rX5_readNumber_113 rfl ?_
        first | with_reducible refine st_if_neN rX5_readNumber_114 (by omega) (fun h114 => ?_) (fun h114 => ?_) | refine st_if_ne rX5_readNumber_114 (fun h114 => ?_) (fun h114 => ?_)
        · refine st_c rX5_readNumber_126 ?_
          refine st_goto rX5_readNumber_127 ?_
          refine st_putI rfl rX5_readNumber_131 (by first | assumption | decide | exact ⟨by decide, rfl, by decide⟩) ?_
          refine st_vret rX5_readNumber_134 rfl ?_
          refine hk _ (fun a ha => by rw [up_n ha, b1 a ha]) (fun q hq => by rw [up_s, va_up_n (by omega)]; exact b3 q hq) ?_ ?_ ?_ ?_
          · rw [up_s, va_up_n (by decide)]; exact b4
          · rw [up_s, va_up_n (by decide)]; exact b5
          · rw [up_s, va_up_s]
            congr 1
            split <;> omega
          · rw [up_s, va_up_n (by decide)]; exact b6
        · refine st_aload rX5_readNumber_117 rfl ?_
          refine st_getI rX5_readNumber_118 (by first | assumption | decide | exact ⟨by decide, rfl, by decide⟩) rfl ?_
          refine st_top b6 ?_
          refine st_c rX5_readNumber_121 ?_
          first | with_reducible refine st_icmp_leN rX5_readNumber_123 (by omega) (by omega) (fun h123 => ?_) (fun h123 => ?_) | refine st_icmp_le rX5_readNumber_123 (fun h123 => ?_) (fun h123 => ?_)
          · refine st_c rX5_readNumber_130 ?_
            refine st_putI rfl rX5_readNumber_131 (by first | assumption | decide | exact ⟨by decide, rfl, by decide⟩) ?_
            refine st_vret rX5_readNumber_134 rfl ?_
            refine hk _ (fun a ha => by rw [up_n ha, b1 a ha]) (fun q hq => by rw [up_s, va_up_n (by omega)]; exact b3 q hq) ?_ ?_ ?_ ?_
            · rw [up_s, va_up_n (by decide)]; exact b4
            · rw [up_s, va_up_n (by decide)]; exact b5
            · rw [up_s, va_up_s]
              congr 1
              split <;> omega
            · rw [up_s, va_up_n (by decide)]; exact b6
          · refine st_c rX5_readNumber_126 ?_
            refine st_goto rX5_readNumber_127 ?_
            refine st_putI rfl rX5_readNumber_131 (by first | assumption | decide | exact ⟨by decide, rfl, by decide⟩) ?_
            refine st_vret rX5_readNumber_134 rfl ?_
            refine hk _ (fun a ha => by rw [up_n ha, b1 a ha]) (fun q hq => by rw [up_s, va_up_n (by omega)]; exact b3 q hq) ?_ ?_ ?_ ?_
            · rw [up_s, va_up_n (by decide)]; exact b4
            · rw [up_s, va_up_n (by decide)]; exact b5
            · rw [up_s, va_up_s]
              congr 1
              split <;> omega
            · rw [up_s, va_up_n (by decide)]; exact b6
  have key : ∀ (f r v : Nat) (I4 : Nat → Nat → Int32), r + f = L → nmF l f r v = rr → v ≤ 999 → (∀ a, a ≠ 1 → I4 a = I a) → (∀ q, q < 3 ∨ 6 < q → I4 1 q = I 1 q) → I4 1 3 = nI r → I4 1 4 = nI s → I4 1 6 = nI (min 100 v) → V (d + 1) 123 123 mX5_readNumber 5 [.ref 1, vJ] [] (I4, J, vRR ρ) (Kv kv) := by
    intro f
    induction f with
    | zero =>
      intro r v I4 hf hn hv b1 b3 b4 b5 b6
      have q1 : I4 1 1 = nI L := by rw [b3 1 (by omega)]; exact hT1
      simp only [nmF] at hn
      subst hn
      refine st_aload rX5_readNumber_5 rfl ?_
      refine st_getI rX5_readNumber_6 (by first | assumption | decide | exact ⟨by decide, rfl, by decide⟩) rfl ?_
      refine st_top b4 ?_
      refine st_aload rX5_readNumber_9 rfl ?_
      refine st_getI rX5_readNumber_10 (by first | assumption | decide | exact ⟨by decide, rfl, by decide⟩) rfl ?_
      refine st_top q1 ?_
      first | with_reducible refine st_icmp_geN rX5_readNumber_13 (by omega) (by omega) (fun _ => ?_) (fun h => absurd h (by first | decide | omega | (simp; done) | simp_all)) | refine st_icmp_ge rX5_readNumber_13 (fun _ => ?_) (fun h => absurd h (by first | decide | omega | (simp; done) | simp_all))
      exact fin I4 b1 b3 b4 b5 b6
    | succ f ih =>
      intro r v I4 hf hn hv b1 b3 b4 b5 b6
      have q1 : I4 1 1 = nI L := by rw [b3 1 (by omega)]; exact hT1
      have hrl := hT2 r (by omega)
      have q2 : I4 2 r = nI (l r) := by rw [b1 2 (by decide)]; exact hrl.1
      simp only [nmF] at hn
      cases hdr : dgt (l r) with
      | false =>
        rw [hdr, if_neg (by decide)] at hn
        subst hn
        refine st_aload rX5_readNumber_5 rfl ?_
        refine st_getI rX5_readNumber_6 (by first | assumption | decide | exact ⟨by decide, rfl, by decide⟩) rfl ?_
        refine st_top b4 ?_
        refine st_aload rX5_readNumber_9 rfl ?_
        refine st_getI rX5_readNumber_10 (by first | assumption | decide | exact ⟨by decide, rfl, by decide⟩) rfl ?_
        refine st_top q1 ?_
        first | with_reducible refine st_icmp_geN rX5_readNumber_13 (by omega) (by omega) (fun h => absurd h (by first | decide | omega | (simp; done) | simp_all)) (fun _ => ?_) | refine st_icmp_ge rX5_readNumber_13 (fun h => absurd h (by first | decide | omega | (simp; done) | simp_all)) (fun _ => ?_)
        refine st_aload rX5_readNumber_16 rfl ?_
        refine st_getR rX5_readNumber_17 (by first | assumption | decide | exact ⟨by decide, rfl, by decide⟩) (by first | rfl | assumption) rfl ?_
        refine st_aload rX5_readNumber_20 rfl ?_
        refine st_getI rX5_readNumber_21 (by first | assumption | decide | exact ⟨by decide, rfl, by decide⟩) rfl ?_
        refine st_top b4 ?_
        refine cS2i rX5_readNumber_24 (s_at (by first | assumption | decide | exact ⟨by decide, rfl, by decide⟩) (by omega) ?_) rfl
        refine st_top q2 ?_
        refine cS1i rX5_readNumber_27 (s_isDig (by omega) ?_) rfl
        rw [hdr]
        first | with_reducible refine st_if_eqN rX5_readNumber_30 (by omega) (fun _ => ?_) (fun h => absurd h (by first | decide | omega | (simp; done) | simp_all)) | refine st_if_eq rX5_readNumber_30 (fun _ => ?_) (fun h => absurd h (by first | decide | omega | (simp; done) | simp_all))
        exact fin I4 b1 b3 b4 b5 b6
      | true =>
        rw [hdr, if_pos rfl] at hn
        have hd9 := dgt_t hdr
        have hmin : min 100 (10 * min 100 v + l r - 48) = min 100 (if 99 < v then v else 10 * v + l r - 48) := by split <;> omega
        have hv2 : (if 99 < v then v else 10 * v + l r - 48) ≤ 999 := by split <;> omega
        refine st_aload rX5_readNumber_5 rfl ?_
        refine st_getI rX5_readNumber_6 (by first | assumption | decide | exact ⟨by decide, rfl, by decide⟩) rfl ?_
        refine st_top b4 ?_
        refine st_aload rX5_readNumber_9 rfl ?_
        refine st_getI rX5_readNumber_10 (by first | assumption | decide | exact ⟨by decide, rfl, by decide⟩) rfl ?_
        refine st_top q1 ?_
        first | with_reducible refine st_icmp_geN rX5_readNumber_13 (by omega) (by omega) (fun h => absurd h (by first | decide | omega | (simp; done) | simp_all)) (fun _ => ?_) | refine st_icmp_ge rX5_readNumber_13 (fun h => absurd h (by first | decide | omega | (simp; done) | simp_all)) (fun _ => ?_)
        refine st_aload rX5_readNumber_16 rfl ?_
        refine st_getR rX5_readNumber_17 (by first | assumption | decide | exact ⟨by decide, rfl, by decide⟩) (by first | rfl | assumption) rfl ?_
        refine st_aload rX5_readNumber_20 rfl ?_
        refine st_getI rX5_readNumber_21 (by first | assumption | decide | exact ⟨by decide, rfl, by decide⟩) rfl ?_
        refine st_top b4 ?_
        refine cS2i rX5_readNumber_24 (s_at (by first | assumption | decide | exact ⟨by decide, rfl, by decide⟩) (by omega) ?_) rfl
        refine st_top q2 ?_
        refine cS1i rX5_readNumber_27 (s_isDig (by omega) ?_) rfl
        rw [hdr]
        first | with_reducible refine st_if_eqN rX5_readNumber_30 (by omega) (fun h => absurd h (by first | decide | omega | (simp; done) | simp_all)) (fun _ => ?_) | refine st_if_eq rX5_readNumber_30 (fun h => absurd h (by first | decide | omega | (simp; done) | simp_all)) (fun _ => ?_)
        refine st_aload rX5_readNumber_33 rfl ?_
        refine st_c rX5_readNumber_34 ?_
        refine st_c rX5_readNumber_36 ?_
        refine st_aload rX5_readNumber_38 rfl ?_
        refine st_getI rX5_readNumber_39 (by first | assumption | decide | exact ⟨by decide, rfl, by decide⟩) rfl ?_
        refine st_top b6 ?_
        first | with_reducible refine st_imulN rX5_readNumber_42 ?_ | refine st_imul rX5_readNumber_42 ?_
        refine st_aload rX5_readNumber_43 rfl ?_
        refine st_getR rX5_readNumber_44 (by first | assumption | decide | exact ⟨by decide, rfl, by decide⟩) (by first | rfl | assumption) rfl ?_
        refine st_aload rX5_readNumber_47 rfl ?_
        refine st_getI rX5_readNumber_48 (by first | assumption | decide | exact ⟨by decide, rfl, by decide⟩) rfl ?_
        refine st_top b4 ?_
        refine cS2i rX5_readNumber_51 (s_at (by first | assumption | decide | exact ⟨by decide, rfl, by decide⟩) (by omega) ?_) rfl
        refine st_top q2 ?_
        first | with_reducible refine st_iaddN rX5_readNumber_54 ?_ | refine st_iadd rX5_readNumber_54 ?_
        refine st_c rX5_readNumber_55 ?_
        first | with_reducible refine st_isubN rX5_readNumber_57 (by omega) ?_ | refine st_isub rX5_readNumber_57 ?_
        refine st_min rX5_readNumber_58 (Nat.le_of_ble_eq_true rfl) ?_
        refine st_top ((mn_n (by omega) (by omega)).trans (congrArg nI hmin)) ?_
        refine st_putI rfl rX5_readNumber_61 (by first | assumption | decide | exact ⟨by decide, rfl, by decide⟩) ?_
        refine st_aload rX5_readNumber_64 rfl ?_
        refine st_dup rX5_readNumber_65 rfl ?_
        refine st_getI rX5_readNumber_66 (by first | assumption | decide | exact ⟨by decide, rfl, by decide⟩) rfl ?_
        refine st_top (show _ = nI r by rw [up_s, va_up_n (by decide)]; exact b4) ?_
        refine st_c rX5_readNumber_69 ?_
        first | with_reducible refine st_iaddN rX5_readNumber_70 ?_ | refine st_iadd rX5_readNumber_70 ?_
        refine st_putI rfl rX5_readNumber_71 (by first | assumption | decide | exact ⟨by decide, rfl, by decide⟩) ?_
        refine st_goto rX5_readNumber_74 ?_
        refine ih (r + 1) _ _ (by omega) hn hv2 (fun a ha => by rw [up_n ha, up_n ha, b1 a ha]) (fun q hq => by rw [up_s, va_up_n (by omega), up_s, va_up_n (by omega)]; exact b3 q hq) ?_ ?_ ?_
        · rw [up_s, va_up_s]
        · rw [up_s, va_up_n (by decide), up_s, va_up_n (by decide)]; exact b5
        · rw [up_s, va_up_n (by decide), up_s, va_up_s]
  refine st_aload rX5_readNumber_0 rfl ?_
  refine st_c rX5_readNumber_1 ?_
  refine st_putI rfl rX5_readNumber_2 (by first | assumption | decide | exact ⟨by decide, rfl, by decide⟩) ?_
  refine key (L - s) s 0 _ (by omega) hrr (by omega) (fun a ha => by rw [up_n ha]) (fun q hq => by rw [up_s, va_up_n (by omega)]) ?_ ?_ ?_
  · rw [up_s, va_up_n (by decide)]; exact h3
  · rw [up_s, va_up_n (by decide)]; exact h4
  · rw [up_s, va_up_s]; rfl
set_option maxHeartbeats 4000000 in
set_option maxRecDepth 100000 in
theorem s_nextToken {l : Nat → Nat} {L p : Nat} (hT : CX I l L) (hp : p ≤ L) (h3 : I 1 3 = nI p)
    (hk : ∀ I', (∀ a, a ≠ 1 → I' a = I a) → (∀ q, q < 3 ∨ 6 < q → I' 1 q = I 1 q) → I' 1 3 = nI (tN l L p) → I' 1 4 = nI (tS l L p) → I' 1 5 = nI (tK l L p) → (tC l L p = 2 → I' 1 6 = nI (tV l L p)) → kv (I', J, vRR ρ)) : V (d + 2) 123 123 mX5_nextToken 0 [.ref 1, vJ] [] (I, J, vRR ρ) (Kv kv) := by
  have hCX : ∀ I2 : Nat → Nat → Int32, (∀ a, a ≠ 1 → I2 a = I a) → (∀ q, q < 3 ∨ 6 < q → I2 1 q = I 1 q) → CX I2 l L := fun I2 g g3 => ⟨hT.1, by rw [g3 1 (by omega)]; exact hT.2.1, fun j hj => by rw [g 2 (by decide)]; exact hT.2.2 j hj⟩
  have hL := hT.1
  have rest : ∀ (I2 : Nat → Nat → Int32), (∀ a, a ≠ 1 → I2 a = I a) → (∀ q, q < 3 ∨ 6 < q → I2 1 q = I 1 q) → I2 1 3 = nI (tS l L p) → V (d + 2) 123 123 mX5_nextToken 40 [.ref 1, vJ] [] (I2, J, vRR ρ) (Kv kv) := by
    intro I2 g g3 g4
    obtain ⟨s1, s2, s3⟩ := tS_le l hp
    obtain ⟨r1, r2, r3⟩ := tR_le l hp
    have hkk := hk
    have hrr : tR l L p = nmF l (L - tS l L p) (tS l L p) 0 := rfl
    simp only [tN, tK, tC, tV] at hkk
    simp only [hrr] at hkk r1 r2 r3
    refine st_aload rX5_nextToken_40 rfl ?_
    refine st_aload rX5_nextToken_41 rfl ?_
    refine st_getI rX5_nextToken_42 (by first | assumption | decide | exact ⟨by decide, rfl, by decide⟩) rfl ?_
    refine st_top g4 ?_
    refine st_putI rfl rX5_nextToken_45 (by first | assumption | decide | exact ⟨by decide, rfl, by decide⟩) ?_
    skip
    have b1 : ∀ a, a ≠ 1 → (up I2 1 (va_up (I2 1) 4 (nI (tS l L p)))) a = I a := fun a ha => by rw [up_n ha, g a ha]
    generalize hI3 : up I2 1 (va_up (I2 1) 4 (nI (tS l L p))) = I3 at b1
    have b3 : ∀ q, q < 3 ∨ 6 < q → I3 1 q = I 1 q := fun q hq => by rw [← hI3, up_s, va_up_n (by omega)]; exact g3 q hq
    have b4 : I3 1 3 = nI (tS l L p) := by rw [← hI3, up_s, va_up_n (by omega)]; exact g4
    have b5 : I3 1 4 = nI (tS l L p) := by rw [← hI3, up_s, va_up_s]
    have hT2 := hCX I3 b1 b3
    have q1 := hT2.2.1
    by_cases e : tS l L p = L
    · simp only [if_pos e] at hkk
      refine st_aload rX5_nextToken_48 rfl ?_
      refine st_getI rX5_nextToken_49 (by first | assumption | decide | exact ⟨by decide, rfl, by decide⟩) rfl ?_
      refine st_top b4 ?_
      refine st_aload rX5_nextToken_52 rfl ?_
      refine st_getI rX5_nextToken_53 (by first | assumption | decide | exact ⟨by decide, rfl, by decide⟩) rfl ?_
      refine st_top q1 ?_
      first | with_reducible refine st_icmp_ltN rX5_nextToken_56 (by omega) (by omega) (fun h => absurd h (by first | decide | omega | (simp; done) | simp_all)) (fun _ => ?_) | refine st_icmp_lt rX5_nextToken_56 (fun h => absurd h (by first | decide | omega | (simp; done) | simp_all)) (fun _ => ?_)
      refine st_aload rX5_nextToken_59 rfl ?_
      refine st_c rX5_nextToken_60 ?_
      refine st_putI rfl rX5_nextToken_61 (by first | assumption | decide | exact ⟨by decide, rfl, by decide⟩) ?_
      refine st_vret rX5_nextToken_64 rfl ?_
      refine hkk _ (fun a ha => by rw [up_n ha, b1 a ha]) (fun q hq => by rw [up_s, va_up_n (by omega)]; exact b3 q hq) ?_ ?_ ?_ ?_
      · rw [up_s, va_up_n (by decide), ← e]; exact b4
      · rw [up_s, va_up_n (by decide)]; exact b5
      · rw [up_s, va_up_s]; rfl
      · intro h; exact absurd h (by decide)
    · simp only [if_neg e] at hkk
      have hls := hT2.2.2 (tS l L p) (by omega)
      cases hd : dgt (l (tS l L p)) with
      | false =>
        simp only [hd, Bool.false_eq_true, if_false] at hkk
        refine st_aload rX5_nextToken_48 rfl ?_
        refine st_getI rX5_nextToken_49 (by first | assumption | decide | exact ⟨by decide, rfl, by decide⟩) rfl ?_
        refine st_top b4 ?_
        refine st_aload rX5_nextToken_52 rfl ?_
        refine st_getI rX5_nextToken_53 (by first | assumption | decide | exact ⟨by decide, rfl, by decide⟩) rfl ?_
        refine st_top q1 ?_
        first | with_reducible refine st_icmp_ltN rX5_nextToken_56 (by omega) (by omega) (fun _ => ?_) (fun h => absurd h (by first | decide | omega | (simp; done) | simp_all)) | refine st_icmp_lt rX5_nextToken_56 (fun _ => ?_) (fun h => absurd h (by first | decide | omega | (simp; done) | simp_all))
        refine st_aload rX5_nextToken_65 rfl ?_
        refine st_getR rX5_nextToken_66 (by first | assumption | decide | exact ⟨by decide, rfl, by decide⟩) (by first | rfl | assumption) rfl ?_
        refine st_aload rX5_nextToken_69 rfl ?_
        refine st_getI rX5_nextToken_70 (by first | assumption | decide | exact ⟨by decide, rfl, by decide⟩) rfl ?_
        refine st_top b4 ?_
        refine cS2i rX5_nextToken_73 (s_at (by first | assumption | decide | exact ⟨by decide, rfl, by decide⟩) (by omega) ?_) rfl
        refine st_top hls.1 ?_
        refine st_istore1 rX5_nextToken_76 rfl ?_
        refine st_iload rX5_nextToken_77 rfl ?_
        refine cS1i rX5_nextToken_78 (s_isDig (by omega) ?_) rfl
        rw [hd]
        first | with_reducible refine st_if_eqN rX5_nextToken_81 (by omega) (fun _ => ?_) (fun h => absurd h (by first | decide | omega | (simp; done) | simp_all)) | refine st_if_eq rX5_nextToken_81 (fun _ => ?_) (fun h => absurd h (by first | decide | omega | (simp; done) | simp_all))
        refine st_aload rX5_nextToken_89 rfl ?_
        refine st_dup rX5_nextToken_90 rfl ?_
        refine st_getI rX5_nextToken_91 (by first | assumption | decide | exact ⟨by decide, rfl, by decide⟩) rfl ?_
        refine st_top b4 ?_
        refine st_c rX5_nextToken_94 ?_
        first | with_reducible refine st_iaddN rX5_nextToken_95 ?_ | refine st_iadd rX5_nextToken_95 ?_
        refine st_putI rfl rX5_nextToken_96 (by first | assumption | decide | exact ⟨by decide, rfl, by decide⟩) ?_
        refine st_aload rX5_nextToken_99 rfl ?_
        refine st_iload rX5_nextToken_100 rfl ?_
        refine st_c rX5_nextToken_101 ?_
        first | with_reducible refine st_icmp_eqN rX5_nextToken_103 (by omega) (by omega) (fun h103 => ?_) (fun h103 => ?_) | refine st_icmp_eq rX5_nextToken_103 (fun h103 => ?_) (fun h103 => ?_)
        · refine st_iload rX5_nextToken_124 rfl ?_
          refine st_goto rX5_nextToken_125 ?_
          refine st_putI rfl rX5_nextToken_129 (by first | assumption | decide | exact ⟨by decide, rfl, by decide⟩) ?_
          refine st_vret rX5_nextToken_132 rfl ?_
          refine hkk _ (fun a ha => by rw [up_n ha, up_n ha, b1 a ha]) (fun q hq => by rw [up_s, va_up_n (by omega), up_s, va_up_n (by omega)]; exact b3 q hq) ?_ ?_ ?_ ?_
          · rw [up_s, va_up_n (by decide), up_s, va_up_s]
          · rw [up_s, va_up_n (by decide), up_s, va_up_n (by decide)]; exact b5
          · rw [up_s, va_up_s]
            congr 1
            repeat' split
            all_goals omega
          · intro h
            repeat' split at h
            all_goals omega
        · refine st_iload rX5_nextToken_106 rfl ?_
          refine st_c rX5_nextToken_107 ?_
          first | with_reducible refine st_icmp_eqN rX5_nextToken_109 (by omega) (by omega) (fun h109 => ?_) (fun h109 => ?_) | refine st_icmp_eq rX5_nextToken_109 (fun h109 => ?_) (fun h109 => ?_)
          · refine st_iload rX5_nextToken_124 rfl ?_
            refine st_goto rX5_nextToken_125 ?_
            refine st_putI rfl rX5_nextToken_129 (by first | assumption | decide | exact ⟨by decide, rfl, by decide⟩) ?_
            refine st_vret rX5_nextToken_132 rfl ?_
            refine hkk _ (fun a ha => by rw [up_n ha, up_n ha, b1 a ha]) (fun q hq => by rw [up_s, va_up_n (by omega), up_s, va_up_n (by omega)]; exact b3 q hq) ?_ ?_ ?_ ?_
            · rw [up_s, va_up_n (by decide), up_s, va_up_s]
            · rw [up_s, va_up_n (by decide), up_s, va_up_n (by decide)]; exact b5
            · rw [up_s, va_up_s]
              congr 1
              repeat' split
              all_goals omega
            · intro h
              repeat' split at h
              all_goals omega
          · refine st_iload rX5_nextToken_112 rfl ?_
            refine st_c rX5_nextToken_113 ?_
            first | with_reducible refine st_icmp_eqN rX5_nextToken_115 (by omega) (by omega) (fun h115 => ?_) (fun h115 => ?_) | refine st_icmp_eq rX5_nextToken_115 (fun h115 => ?_) (fun h115 => ?_)
            · refine st_iload rX5_nextToken_124 rfl ?_
              refine st_goto rX5_nextToken_125 ?_
              refine st_putI rfl rX5_nextToken_129 (by first | assumption | decide | exact ⟨by decide, rfl, by decide⟩) ?_
              refine st_vret rX5_nextToken_132 rfl ?_
              refine hkk _ (fun a ha => by rw [up_n ha, up_n ha, b1 a ha]) (fun q hq => by rw [up_s, va_up_n (by omega), up_s, va_up_n (by omega)]; exact b3 q hq) ?_ ?_ ?_ ?_
              · rw [up_s, va_up_n (by decide), up_s, va_up_s]
              · rw [up_s, va_up_n (by decide), up_s, va_up_n (by decide)]; exact b5
              · rw [up_s, va_up_s]
                congr 1
                repeat' split
                all_goals omega
              · intro h
                repeat' split at h
                all_goals omega
            · refine st_iload rX5_nextToken_118 rfl ?_
              refine st_c rX5_nextToken_119 ?_
              first | with_reducible refine st_icmp_neN rX5_nextToken_121 (by omega) (by omega) (fun h121 => ?_) (fun h121 => ?_) | refine st_icmp_ne rX5_nextToken_121 (fun h121 => ?_) (fun h121 => ?_)
              · refine st_c rX5_nextToken_128 ?_
                refine st_putI rfl rX5_nextToken_129 (by first | assumption | decide | exact ⟨by decide, rfl, by decide⟩) ?_
                refine st_vret rX5_nextToken_132 rfl ?_
                refine hkk _ (fun a ha => by rw [up_n ha, up_n ha, b1 a ha]) (fun q hq => by rw [up_s, va_up_n (by omega), up_s, va_up_n (by omega)]; exact b3 q hq) ?_ ?_ ?_ ?_
                · rw [up_s, va_up_n (by decide), up_s, va_up_s]
                · rw [up_s, va_up_n (by decide), up_s, va_up_n (by decide)]; exact b5
                · rw [up_s, va_up_s]
                  congr 1
                  repeat' split
                  all_goals omega
                · intro h
                  repeat' split at h
                  all_goals omega
              · refine st_iload rX5_nextToken_124 rfl ?_
                refine st_goto rX5_nextToken_125 ?_
                refine st_putI rfl rX5_nextToken_129 (by first | assumption | decide | exact ⟨by decide, rfl, by decide⟩) ?_
                refine st_vret rX5_nextToken_132 rfl ?_
                refine hkk _ (fun a ha => by rw [up_n ha, up_n ha, b1 a ha]) (fun q hq => by rw [up_s, va_up_n (by omega), up_s, va_up_n (by omega)]; exact b3 q hq) ?_ ?_ ?_ ?_
                · rw [up_s, va_up_n (by decide), up_s, va_up_s]
                · rw [up_s, va_up_n (by decide), up_s, va_up_n (by decide)]; exact b5
                · rw [up_s, va_up_s]
                  congr 1
                  repeat' split
                  all_goals omega
                · intro h
                  repeat' split at h
                  all_goals omega
      | true =>
        simp only [hd, if_true] at hkk
        have hd9 := dgt_t hd
        refine st_aload rX5_nextToken_48 rfl ?_
        refine st_getI rX5_nextToken_49 (by first | assumption | decide | exact ⟨by decide, rfl, by decide⟩) rfl ?_
        refine st_top b4 ?_
        refine st_aload rX5_nextToken_52 rfl ?_
        refine st_getI rX5_nextToken_53 (by first | assumption | decide | exact ⟨by decide, rfl, by decide⟩) rfl ?_
        refine st_top q1 ?_
        first | with_reducible refine st_icmp_ltN rX5_nextToken_56 (by omega) (by omega) (fun _ => ?_) (fun h => absurd h (by first | decide | omega | (simp; done) | simp_all)) | refine st_icmp_lt rX5_nextToken_56 (fun _ => ?_) (fun h => absurd h (by first | decide | omega | (simp; done) | simp_all))
        refine st_aload rX5_nextToken_65 rfl ?_
        refine st_getR rX5_nextToken_66 (by first | assumption | decide | exact ⟨by decide, rfl, by decide⟩) (by first | rfl | assumption) rfl ?_
        refine st_aload rX5_nextToken_69 rfl ?_
        refine st_getI rX5_nextToken_70 (by first | assumption | decide | exact ⟨by decide, rfl, by decide⟩) rfl ?_
        refine st_top b4 ?_
        refine cS2i rX5_nextToken_73 (s_at (by first | assumption | decide | exact ⟨by decide, rfl, by decide⟩) (by omega) ?_) rfl
        refine st_top hls.1 ?_
        refine st_istore1 rX5_nextToken_76 rfl ?_
        refine st_iload rX5_nextToken_77 rfl ?_
        refine cS1i rX5_nextToken_78 (s_isDig (by omega) ?_) rfl
        rw [hd]
        first | with_reducible refine st_if_eqN rX5_nextToken_81 (by omega) (fun h => absurd h (by first | decide | omega | (simp; done) | simp_all)) (fun _ => ?_) | refine st_if_eq rX5_nextToken_81 (fun h => absurd h (by first | decide | omega | (simp; done) | simp_all)) (fun _ => ?_)
        refine st_aload rX5_nextToken_84 rfl ?_
        refine cV1v rX5_nextToken_85 (by first | assumption | decide | exact ⟨by decide, rfl, by decide⟩) (s_readNumber hT2 (by omega) b4 b5 (fun I4 c1 c3 c4 c5 c6 c7 => ?_)) rfl (by decide)
        refine st_vret rX5_nextToken_88 rfl ?_
        refine hkk I4 (fun a ha => by rw [c1 a ha, b1 a ha]) (fun q hq => by rw [c3 q hq, b3 q hq]) c4 c5 ?_ ?_
        · rw [c6]
          congr 1
          by_cases hb : 99 < (nmF l (L - tS l L p) (tS l L p) 0).2 ∨ l (tS l L p) = 48 ∧ 1 < (nmF l (L - tS l L p) (tS l L p) 0).1 - tS l L p
          · simp only [if_pos hb]; rfl
          · simp only [if_neg hb]; rfl
        · intro h
          by_cases hb : 99 < (nmF l (L - tS l L p) (tS l L p) 0).2 ∨ l (tS l L p) = 48 ∧ 1 < (nmF l (L - tS l L p) (tS l L p) 0).1 - tS l L p
          · simp only [if_pos hb] at h; omega
          · rw [c7, Nat.min_eq_right (by omega)]
  have key : ∀ (f q : Nat) (I2 : Nat → Nat → Int32), q + f = L → spF l f q = tS l L p → (∀ a, a ≠ 1 → I2 a = I a) → (∀ q, q < 3 ∨ 6 < q → I2 1 q = I 1 q) → I2 1 3 = nI q → V (d + 2) 123 123 mX5_nextToken 0 [.ref 1, vJ] [] (I2, J, vRR ρ) (Kv kv) := by
    intro f
    induction f with
    | zero =>
      intro q I2 hf hsp g g3 g4
      have q1 := (hCX I2 g g3).2.1
      simp only [spF] at hsp
      refine st_aload rX5_nextToken_0 rfl ?_
      refine st_getI rX5_nextToken_1 (by first | assumption | decide | exact ⟨by decide, rfl, by decide⟩) rfl ?_
      refine st_top g4 ?_
      refine st_aload rX5_nextToken_4 rfl ?_
      refine st_getI rX5_nextToken_5 (by first | assumption | decide | exact ⟨by decide, rfl, by decide⟩) rfl ?_
      refine st_top q1 ?_
      first | with_reducible refine st_icmp_geN rX5_nextToken_8 (by omega) (by omega) (fun _ => ?_) (fun h => absurd h (by first | decide | omega | (simp; done) | simp_all)) | refine st_icmp_ge rX5_nextToken_8 (fun _ => ?_) (fun h => absurd h (by first | decide | omega | (simp; done) | simp_all))
      exact rest I2 g g3 (by rw [← hsp]; exact g4)
    | succ f ih =>
      intro q I2 hf hsp g g3 g4
      have q1 := (hCX I2 g g3).2.1
      have hql := (hCX I2 g g3).2.2 q (by omega)
      simp only [spF] at hsp
      by_cases h32 : l q = 32
      · rw [if_pos h32] at hsp
        refine st_aload rX5_nextToken_0 rfl ?_
        refine st_getI rX5_nextToken_1 (by first | assumption | decide | exact ⟨by decide, rfl, by decide⟩) rfl ?_
        refine st_top g4 ?_
        refine st_aload rX5_nextToken_4 rfl ?_
        refine st_getI rX5_nextToken_5 (by first | assumption | decide | exact ⟨by decide, rfl, by decide⟩) rfl ?_
        refine st_top q1 ?_
        first | with_reducible refine st_icmp_geN rX5_nextToken_8 (by omega) (by omega) (fun h => absurd h (by first | decide | omega | (simp; done) | simp_all)) (fun _ => ?_) | refine st_icmp_ge rX5_nextToken_8 (fun h => absurd h (by first | decide | omega | (simp; done) | simp_all)) (fun _ => ?_)
        refine st_aload rX5_nextToken_11 rfl ?_
        refine st_getR rX5_nextToken_12 (by first | assumption | decide | exact ⟨by decide, rfl, by decide⟩) (by first | rfl | assumption) rfl ?_
        refine st_aload rX5_nextToken_15 rfl ?_
        refine st_getI rX5_nextToken_16 (by first | assumption | decide | exact ⟨by decide, rfl, by decide⟩) rfl ?_
        refine st_top g4 ?_
        refine cS2i rX5_nextToken_19 (s_at (by first | assumption | decide | exact ⟨by decide, rfl, by decide⟩) (by omega) ?_) rfl
        refine st_top hql.1 ?_
        refine st_c rX5_nextToken_22 ?_
        first | with_reducible refine st_icmp_neN rX5_nextToken_24 (by omega) (by omega) (fun h => absurd h (by first | decide | omega | (simp; done) | simp_all)) (fun _ => ?_) | refine st_icmp_ne rX5_nextToken_24 (fun h => absurd h (by first | decide | omega | (simp; done) | simp_all)) (fun _ => ?_)
        refine st_aload rX5_nextToken_27 rfl ?_
        refine st_dup rX5_nextToken_28 rfl ?_
        refine st_getI rX5_nextToken_29 (by first | assumption | decide | exact ⟨by decide, rfl, by decide⟩) rfl ?_
        refine st_top g4 ?_
        refine st_c rX5_nextToken_32 ?_
        first | with_reducible refine st_iaddN rX5_nextToken_33 ?_ | refine st_iadd rX5_nextToken_33 ?_
        refine st_putI rfl rX5_nextToken_34 (by first | assumption | decide | exact ⟨by decide, rfl, by decide⟩) ?_
        refine st_goto rX5_nextToken_37 ?_
        refine ih (q + 1) _ (by omega) hsp (fun a ha => by rw [up_n ha, g a ha]) (fun q hq => by rw [up_s, va_up_n (by omega)]; exact g3 q hq) (by rw [up_s, va_up_s])
      · rw [if_neg h32] at hsp
        refine st_aload rX5_nextToken_0 rfl ?_
        refine st_getI rX5_nextToken_1 (by first | assumption | decide | exact ⟨by decide, rfl, by decide⟩) rfl ?_
        refine st_top g4 ?_
        refine st_aload rX5_nextToken_4 rfl ?_
        refine st_getI rX5_nextToken_5 (by first | assumption | decide | exact ⟨by decide, rfl, by decide⟩) rfl ?_
        refine st_top q1 ?_
        first | with_reducible refine st_icmp_geN rX5_nextToken_8 (by omega) (by omega) (fun h => absurd h (by first | decide | omega | (simp; done) | simp_all)) (fun _ => ?_) | refine st_icmp_ge rX5_nextToken_8 (fun h => absurd h (by first | decide | omega | (simp; done) | simp_all)) (fun _ => ?_)
        refine st_aload rX5_nextToken_11 rfl ?_
        refine st_getR rX5_nextToken_12 (by first | assumption | decide | exact ⟨by decide, rfl, by decide⟩) (by first | rfl | assumption) rfl ?_
        refine st_aload rX5_nextToken_15 rfl ?_
        refine st_getI rX5_nextToken_16 (by first | assumption | decide | exact ⟨by decide, rfl, by decide⟩) rfl ?_
        refine st_top g4 ?_
        refine cS2i rX5_nextToken_19 (s_at (by first | assumption | decide | exact ⟨by decide, rfl, by decide⟩) (by omega) ?_) rfl
        refine st_top hql.1 ?_
        refine st_c rX5_nextToken_22 ?_
        first | with_reducible refine st_icmp_neN rX5_nextToken_24 (by omega) (by omega) (fun _ => ?_) (fun h => absurd h (by first | decide | omega | (simp; done) | simp_all)) | refine st_icmp_ne rX5_nextToken_24 (fun _ => ?_) (fun h => absurd h (by first | decide | omega | (simp; done) | simp_all))
        exact rest I2 g g3 (by rw [← hsp]; exact g4)
  exact key (L - p) p I (by omega) rfl (fun a _ => rfl) (fun q _ => rfl) h3
end P42
