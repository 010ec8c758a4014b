/-! ===== passTerm, drawn; lots ===== -/
section P31
variable {d : Nat} {I A : Nat → Nat → Int32} {J : Nat → Nat → Int64} {ρ m no : Nat} {T : Int64} {k : Int32 → vS → Prop} {kl : Int64 → vS → Prop} {kv : vS → Prop}
set_option maxHeartbeats 4000000 in
set_option maxRecDepth 100000 in
theorem s_passTerm {h z te : Nat} {N : Nat → Int32} {kk : Int32 → vS → Prop} (hg : vHg h) (hT : CT I ρ A m no) (hA : OkT A m no) (hlo : 13 < h ∧ ρ + 8 < h ∧ h + 4 < 100) (hv : HV I h m N) (hN : OkN A m no N) (h0 : N 0 = nI te) (h80 : te < 80) (hz : z < 10000)
    (hk : ∀ I', (∀ a, a < h ∨ h + 4 < a → a < 100 ∨ 102 < a → I' a = I a) → HV I' h m (cutF A m (psN A m no (gD (rD m z)) N)) → kk (nI (ctF A (psN A m no (gD (rD m z)) N) m)) (I', J, vRR ρ)) : V (d + 3) 123 123 mX1_passTerm 0 [.ref h, .ref ρ, .ref 100, .int (nI z), vJ, vJ] [] (I, J, vRR ρ) (Ki kk) := by
  have hm6 : m ≤ 6 := hA.2.2.1
  have hno6 : no ≤ 6 := hA.2.2.2.1
  have hoa := hA.2.2.2.2.2.2.2.2
  have hpm := drPerm (m := m) (r := rD m z) hm6 (fun t ht => rD_lt ht)
  obtain ⟨hok, hok0, hbx⟩ := ok_pass (g := (gD (rD m z))) hm6 hno6 hN h0 h80 hpm
  obtain ⟨pb, pc, hpp⟩ := hN.1
  obtain ⟨ht0, ht1, -⟩ := id hT
  obtain ⟨hto, o1, o2, o3, o4, o5, o6, o7, o8⟩ := toldF ht0
  obtain ⟨a0, a1, a2, a3, a4⟩ := hangF hg
  refine st_aload rX1_passTerm_0 rfl ?_
  refine st_aload rX1_passTerm_1 rfl ?_
  refine cV2v rX1_passTerm_2 (by first | assumption | decide | exact ⟨by decide, rfl, by decide⟩) (s_judge (N := N) hg hT hm6 hno6 ⟨by omega, by omega⟩ hv hoa (fun I1 g1 hv1 => ?_)) rfl (by decide)
  refine st_c rX1_passTerm_5 ?_
  refine st_istore4 rX1_passTerm_6 rfl ?_
  skip
  have q1 : I1 ρ 0 = nI m := by rw [g1 ρ (by omega)]; exact ht1
  obtain ⟨v1, v2, v3, v4, v5, v6⟩ := hv1
  have key : ∀ (r t : Nat) (I2 : Nat → Nat → Int32) (x : Value), t + r = m → (∀ a, a ≠ h + 4 → I2 a = I1 a) → (∀ j, j < 36 → I2 (h + 4) j = skN t (jdN A no N) (20 + j)) → V (d + 3) 123 123 mX1_passTerm 8 [.ref h, .ref ρ, .ref 100, .int (nI z), .int (nI t), x] [] (I2, J, vRR ρ) (Ki kk) := by
    intro r
    induction r with
    | zero =>
      intro t I2 x he g gb
      have he : t = m := by omega
      subst he
      refine st_iload rX1_passTerm_8 rfl ?_
      refine st_aload rX1_passTerm_10 rfl ?_
      refine st_getI rX1_passTerm_11 (by first | assumption | decide | exact ⟨by decide, rfl, by decide⟩) rfl ?_
      refine st_top (show I2 ρ 0 = nI t by rw [g ρ (by omega)]; exact q1) ?_
      first | with_reducible refine st_icmp_geN rX1_passTerm_14 (by omega) (by omega) (fun _ => ?_) (fun h => absurd h (by first | decide | omega | (simp; done) | simp_all)) | refine st_icmp_ge rX1_passTerm_14 (fun _ => ?_) (fun h => absurd h (by first | decide | omega | (simp; done) | simp_all))
      refine st_aload rX1_passTerm_59 rfl ?_
      refine st_aload rX1_passTerm_60 rfl ?_
      refine st_getI rX1_passTerm_61 (by first | assumption | decide | exact ⟨by decide, rfl, by decide⟩) rfl ?_
      refine st_top (show I2 ρ 0 = nI t by rw [g ρ (by omega)]; exact q1) ?_
      refine st_iload rX1_passTerm_64 rfl ?_
      refine cV3v rX1_passTerm_65 (by first | assumption | decide | exact ⟨by decide, rfl, by decide⟩) (s_drawBy hm6 hz (fun I3 g3 gf gf2 => ?_)) rfl (by decide)
      refine st_aload rX1_passTerm_68 rfl ?_
      refine st_aload rX1_passTerm_69 rfl ?_
      refine st_getR rX1_passTerm_70 (by first | assumption | decide) (by first | rfl | exact hR2 (by assumption)) rfl ?_
      refine cV2v rX1_passTerm_73 (by first | assumption | decide | exact ⟨by decide, rfl, by decide⟩) (s_carry (N := skN t (jdN A no N)) (m := t) (g := (gD (rD t z))) hg (by omega) hm6 (fun j hj => by rw [g3 (h + 1) (by omega) (by omega), g (h + 1) (by omega), v3 j hj, skN_o (by omega)]) (fun j hj => ⟨gf j hj, (drPerm (m := t) (r := rD t z) hm6 (fun s hs => rD_lt hs)).elim (fun c hc => (hc j hj).1)⟩) gf2 (fun I4 g4 gb4 => ?_)) rfl (by decide)
      refine st_aload rX1_passTerm_76 rfl ?_
      refine st_dup rX1_passTerm_77 rfl ?_
      refine st_getI rX1_passTerm_78 (by first | assumption | decide | exact ⟨by decide, rfl, by decide⟩) rfl ?_
      have e40 : I4 h 0 = N 0 := by rw [g4 h (by omega) (by omega), g3 h (by omega) (by omega), g h (by omega), v1, jdN_o (by omega)]
      refine st_top e40 ?_
      refine st_c rX1_passTerm_81 ?_
      first | with_reducible refine st_iaddN rX1_passTerm_82 ?_ | refine st_iadd rX1_passTerm_82 ?_
      refine st_putI rfl rX1_passTerm_83 (by first | assumption | decide | exact ⟨by decide, rfl, by decide⟩) ?_
      generalize hI5 : up I4 h (va_up (I4 h) 0 (N 0 + nI 1)) = I5
      have g5 : ∀ a, a ≠ h → I5 a = I4 a := fun a ha => by rw [← hI5, up_n ha]
      have gall : ∀ a, a < h ∨ h + 4 < a → a < 100 ∨ 102 < a → I5 a = I a := fun a h1 h2 => by rw [g5 a (by omega), g4 a (by omega) (by omega), g3 a (by omega) (by omega), g a (by omega), g1 a (by omega)]
      have hT5 : CT I5 ρ A t no := CT_c hT (fun a _ _ => gall a (by omega) (by omega)) (fun a _ _ => rfl)
      have hv5 : HV I5 h t (psN A t no (gD (rD t z)) N) := by
        refine ⟨?_, ?_, fun j hj => ?_, fun j hj => ?_, fun j hj => ?_, fun j hj => ?_⟩
        · rw [← hI5, up_s, va_up_s, psN, va_up_s]
        · rw [← hI5, up_s, va_up_n (by decide), g4 h (by omega) (by omega), g3 h (by omega) (by omega), g h (by omega), v2, psN, va_up_n (by decide), mvN, if_neg (by omega), skN_o (by omega)]
        · rw [g5 _ (by omega), gb4 j hj, psN, va_up_n (by omega)]
        · rw [g5 _ (by omega), g4 _ (by omega) (by omega), g3 _ (by omega) (by omega), g _ (by omega), v4 j hj, psN, va_up_n (by omega), mvN, if_neg (by omega), skN_o (by omega)]
        · rw [g5 _ (by omega), g4 _ (by omega) (by omega), g3 _ (by omega) (by omega), g _ (by omega), v5 j hj, psN, va_up_n (by omega), mvN, if_neg (by omega), skN_o (by omega)]
        · rw [g5 _ (by omega), g4 _ (by omega) (by omega), g3 _ (by omega) (by omega), gb j hj, psN, va_up_n (by omega), mvN, if_neg (by omega)]
      refine st_aload rX1_passTerm_86 rfl ?_
      refine st_aload rX1_passTerm_87 rfl ?_
      refine cV2i rX1_passTerm_88 (by first | assumption | decide | exact ⟨by decide, rfl, by decide⟩) (s_cutTowers (N := psN A t no (gD (rD t z)) N) (m := t) (A := A) (no := no) hg hT5 hm6 hv5 hbx ⟨by omega, by omega⟩ (fun I6 g6 hv6 => ?_)) rfl (by decide)
      refine st_iret rX1_passTerm_91 rfl ?_
      exact hk I6 (fun a h1 h2 => by rw [g6 a (by omega) (by omega)]; exact gall a h1 h2) hv6
    | succ r ih =>
      intro t I2 x he g gb
      have htm : t < m := by omega
      have hy := hpp t htm
      have e1 : I2 (h + 1) t = nI (pb t) := by rw [g _ (by omega), v3 t (by omega), jdN_o (by omega)]; exact hy.1
      have e2 : I2 (h + 4) (pb t * 6 + t) = jdN A no N (20 + (6 * pb t + t)) := by rw [gb _ (by omega), show 20 + (pb t * 6 + t) = 20 + (6 * pb t + t) by omega, skN_at (by omega) (by omega)]
      refine st_iload rX1_passTerm_8 rfl ?_
      refine st_aload rX1_passTerm_10 rfl ?_
      refine st_getI rX1_passTerm_11 (by first | assumption | decide | exact ⟨by decide, rfl, by decide⟩) rfl ?_
      refine st_top (show I2 ρ 0 = nI m by rw [g ρ (by omega)]; exact q1) ?_
      first | with_reducible refine st_icmp_geN rX1_passTerm_14 (by omega) (by omega) (fun h => absurd h (by first | decide | omega | (simp; done) | simp_all)) (fun _ => ?_) | refine st_icmp_ge rX1_passTerm_14 (fun h => absurd h (by first | decide | omega | (simp; done) | simp_all)) (fun _ => ?_)
      refine st_aload rX1_passTerm_17 rfl ?_
      refine st_getR rX1_passTerm_18 (by first | assumption | decide) (by first | rfl | exact hR2 (by assumption)) rfl ?_
      refine st_iload rX1_passTerm_21 rfl ?_
      refine cS2i rX1_passTerm_23 (s_at (by first | assumption | decide | exact ⟨by decide, rfl, by decide⟩) (by omega) ?_) rfl
      refine st_top e1 ?_
      refine st_iload rX1_passTerm_26 rfl ?_
      refine cS2i rX1_passTerm_28 (s_pair ?_) rfl
      refine st_istore5 rX1_passTerm_31 rfl ?_
      refine st_aload rX1_passTerm_33 rfl ?_
      refine st_getR rX1_passTerm_34 (by first | assumption | decide) (by first | rfl | exact hR5 (by assumption)) rfl ?_
      refine st_iload rX1_passTerm_37 rfl ?_
      refine st_aload rX1_passTerm_39 rfl ?_
      refine st_getR rX1_passTerm_40 (by first | assumption | decide) (by first | rfl | exact hR5 (by assumption)) rfl ?_
      refine st_iload rX1_passTerm_43 rfl ?_
      refine cS2i rX1_passTerm_45 (s_at (by first | assumption | decide | exact ⟨by decide, rfl, by decide⟩) (by omega) ?_) rfl
      refine st_top e2 ?_
      refine st_c rX1_passTerm_48 ?_
      first | with_reducible refine st_iaddN rX1_passTerm_49 ?_ | refine st_iadd rX1_passTerm_49 ?_
      refine cS3v rX1_passTerm_50 (s_put (by first | assumption | decide | exact ⟨by decide, rfl, by decide⟩) (by omega) ?_) rfl
      first | with_reducible refine st_iincN4 rX1_passTerm_53 rfl ?_ | refine st_iinc4 rX1_passTerm_53 rfl ?_
      refine st_goto rX1_passTerm_56 ?_
      refine ih (t + 1) _ _ (by omega) (fun a ha => by rw [up_n ha, g a ha]) (fun j hj => ?_)
      rw [up_s, ← skN_s (y := pb t) (by omega) (by omega) (by rw [jdN_o (by omega)]; exact hy.1)]
      by_cases hj2 : j = pb t * 6 + t
      · subst hj2; rw [va_up_s, show 20 + (pb t * 6 + t) = 20 + (6 * pb t + t) by omega, va_up_s]
      · rw [va_up_n hj2, va_up_n (show 20 + j ≠ 20 + (6 * pb t + t) by omega)]; exact gb j hj
  exact key m 0 I1 _ (by omega) (fun a _ => rfl) (fun j hj => by rw [skN_0]; exact v6 j hj)
set_option maxHeartbeats 4000000 in
set_option maxRecDepth 100000 in
theorem s_drawn {a z te : Nat} {N : Nat → Int32} {kk : Int32 → vS → Prop} (ha : a = 114 ∨ a = 115) (hA : OkT A m no) (hmm : I 105 0 = nI m) (hmo : I 105 1 = nI no) (h9 : ∀ k, k < 6 → I 107 k = A 107 k ∧ I 108 k = A 108 k ∧ I 110 k = A 110 k ∧ I 111 k = A 111 k ∧ I 112 k = A 112 k) (hI : I a = N) (hN : OkN A m no N) (h0 : N 0 = nI te) (h80 : te < 80) (hz : z < 10000)
    (hk : ∀ I', (∀ b, b ≠ a → b ≠ 121 → b ≠ 122 → I' b = I b) → I' a = cutF A m (psN A m no (gD (rD m z)) N) → kk (nI (ctF A (psN A m no (gD (rD m z)) N) m)) (I', J, vRR ρ)) : V (d + 1) 123 123 mX8_drawn 0 [.ref 103, .ref a, .int (nI z), vJ] [] (I, J, vRR ρ) (Ki kk) := by
  have hm6 : m ≤ 6 := hA.2.2.1
  have hno6 : no ≤ 6 := hA.2.2.2.1
  have hoa := hA.2.2.2.2.2.2.2.2
  have hpm := drPerm (m := m) (r := rD m z) hm6 (fun t ht => rD_lt ht)
  obtain ⟨hok, hok0, hbx⟩ := ok_pass (g := (gD (rD m z))) hm6 hno6 hN h0 h80 hpm
  obtain ⟨pb, pc, hpp⟩ := hN.1
  have hdue : ∀ i, i < no → A 112 i = N 0 → N (14 + i) = nI 0 := fun i hi e => by
    obtain ⟨te', h1, h2, h3⟩ := hN.2.2
    rcases Classical.em (N (14 + i) = nI 0) with h | h
    · exact h
    · obtain ⟨x, hx, hx2⟩ := h3 i hi h
      rw [hx2, h2] at e
      have := (nI_eq (by omega) (by omega)).mp e
      omega
  have har : vAr 123 a 100 56 := by rcases ha with rfl | rfl <;> exact ⟨by decide, rfl, by decide⟩
  refine st_c rX8_drawn_0 ?_
  refine st_istore3 rX8_drawn_1 rfl ?_
  have tail : ∀ (I1 : Nat → Nat → Int32) (x : Value), x.category = 1 → (∀ b, b ≠ a → I1 b = I b) → I1 a = jdN A no N → V (d + 1) 123 123 mX8_drawn 69 [.ref 103, .ref a, .int (nI z), x] [] (I1, J, vRR ρ) (Ki kk) := by
    intro I1 x hx g1 ga1
    refine st_aload rX8_drawn_69 rfl ?_
    refine st_iload rX8_drawn_70 rfl ?_
    refine cV2v rX8_drawn_71 (by first | assumption | decide | exact ⟨by decide, rfl, by decide⟩) (s_draws (show I1 105 0 = nI m by rw [g1 105 (by omega)]; exact hmm) hm6 hz (fun I2 g2 gd => ?_)) rfl (by decide)
    refine st_c rX8_drawn_74 ?_
    refine st_istore3 rX8_drawn_75 rfl ?_
    skip
    have key : ∀ (r t : Nat) (I3 : Nat → Nat → Int32), t + r = m → (∀ b, b ≠ a → b ≠ 122 → I3 b = I2 b) → I3 a = skN t (jdN A no N) → (∀ j, j < t → I3 122 j = N (2 + (gD (rD m z)) j)) → V (d + 1) 123 123 mX8_drawn 76 [.ref 103, .ref a, .int (nI z), .int (nI t)] [] (I3, J, vRR ρ) (Ki kk) := by
      intro r
      induction r with
      | zero =>
        intro t I3 he g3 ga3 gb3
        have he : t = m := by omega
        subst he
        have e105 : I3 105 0 = nI t := by rw [g3 105 (by omega) (by omega), g2 105 (by omega), g1 105 (by omega)]; exact hmm
        refine st_iload rX8_drawn_76 rfl ?_
        refine st_aload rX8_drawn_77 rfl ?_
        refine st_getR rX8_drawn_78 (by first | assumption | decide | exact ⟨by decide, rfl, by decide⟩) (by first | rfl | assumption) rfl ?_
        refine st_c rX8_drawn_81 ?_
        refine st_ialdN rX8_drawn_82 (by first | assumption | decide | exact ⟨by decide, rfl, by decide⟩) (by omega) ?_
        refine st_top e105 ?_
        first | with_reducible refine st_icmp_geN rX8_drawn_83 (by omega) (by omega) (fun _ => ?_) (fun h => absurd h (by first | decide | omega | (simp; done) | simp_all)) | refine st_icmp_ge rX8_drawn_83 (fun _ => ?_) (fun h => absurd h (by first | decide | omega | (simp; done) | simp_all))
        refine st_c rX8_drawn_127 ?_
        refine st_istore3 rX8_drawn_128 rfl ?_
        skip
        have key2 : ∀ (r s : Nat) (I4 : Nat → Nat → Int32), s + r = t → (∀ b, b ≠ a → I4 b = I3 b) → I4 a = mvN (gD (rD t z)) s (skN t (jdN A no N)) → V (d + 1) 123 123 mX8_drawn 129 [.ref 103, .ref a, .int (nI z), .int (nI s)] [] (I4, J, vRR ρ) (Ki kk) := by
          intro r
          induction r with
          | zero =>
            intro s I4 he g4 ga4
            have he : s = t := by omega
            subst he
            refine st_iload rX8_drawn_129 rfl ?_
            refine st_aload rX8_drawn_130 rfl ?_
            refine st_getR rX8_drawn_131 (by first | assumption | decide | exact ⟨by decide, rfl, by decide⟩) (by first | rfl | assumption) rfl ?_
            refine st_c rX8_drawn_134 ?_
            refine st_ialdN rX8_drawn_135 (by first | assumption | decide | exact ⟨by decide, rfl, by decide⟩) (by omega) ?_
            refine st_top (show I4 105 0 = nI s by rw [g4 105 (by omega)]; exact e105) ?_
            first | with_reducible refine st_icmp_geN rX8_drawn_136 (by omega) (by omega) (fun _ => ?_) (fun h => absurd h (by first | decide | omega | (simp; done) | simp_all)) | refine st_icmp_ge rX8_drawn_136 (fun _ => ?_) (fun h => absurd h (by first | decide | omega | (simp; done) | simp_all))
            refine st_aload rX8_drawn_156 rfl ?_
            refine st_c rX8_drawn_157 ?_
            refine st_dup2 rX8_drawn_158 rfl rfl ?_
            refine st_ialdN rX8_drawn_159 (by first | assumption | decide | exact ⟨by decide, rfl, by decide⟩) (by omega) ?_
            refine st_top (show I4 a 0 = N 0 by rw [ga4, mvN, if_neg (by omega), skN_o (by omega), jdN_o (by omega)]) ?_
            refine st_c rX8_drawn_160 ?_
            first | with_reducible refine st_iaddN rX8_drawn_161 ?_ | refine st_iadd rX8_drawn_161 ?_
            refine st_iastN rX8_drawn_162 (by first | assumption | decide | exact ⟨by decide, rfl, by decide⟩) (by omega) ?_
            generalize hI5 : up I4 a (va_up (I4 a) 0 (N 0 + nI 1)) = I5
            have g5 : ∀ b, b ≠ a → I5 b = I4 b := fun b hb => by rw [← hI5, up_n hb]
            have ga5 : I5 a = psN A s no (gD (rD s z)) N := by rw [← hI5, up_s, ga4, psN]
            refine st_aload rX8_drawn_163 rfl ?_
            refine st_aload rX8_drawn_164 rfl ?_
            refine cV2i rX8_drawn_165 (by first | assumption | decide | exact ⟨by decide, rfl, by decide⟩) (s_cuts (m := s) (A := A) (N := psN A s no (gD (rD s z)) N) ha (by rw [g5 105 (by omega), g4 105 (by omega)]; exact e105) hm6 (fun j hj => by rw [g5 107 (by omega), g4 107 (by omega), g3 107 (by omega) (by omega), g2 107 (by omega), g1 107 (by omega)]; exact (h9 j hj).1) ga5 hbx (fun I6 g6 ga6 => ?_)) rfl (by decide)
            refine st_iret rX8_drawn_168 rfl ?_
            exact hk I6 (fun b h1 h2 h3 => by rw [g6 b h1, g5 b h1, g4 b h1, g3 b h1 h3, g2 b h2, g1 b h1]) ga6
          | succ r ih2 =>
            intro s I4 he g4 ga4
            refine st_iload rX8_drawn_129 rfl ?_
            refine st_aload rX8_drawn_130 rfl ?_
            refine st_getR rX8_drawn_131 (by first | assumption | decide | exact ⟨by decide, rfl, by decide⟩) (by first | rfl | assumption) rfl ?_
            refine st_c rX8_drawn_134 ?_
            refine st_ialdN rX8_drawn_135 (by first | assumption | decide | exact ⟨by decide, rfl, by decide⟩) (by omega) ?_
            refine st_top (show I4 105 0 = nI t by rw [g4 105 (by omega)]; exact e105) ?_
            first | with_reducible refine st_icmp_geN rX8_drawn_136 (by omega) (by omega) (fun h => absurd h (by first | decide | omega | (simp; done) | simp_all)) (fun _ => ?_) | refine st_icmp_ge rX8_drawn_136 (fun h => absurd h (by first | decide | omega | (simp; done) | simp_all)) (fun _ => ?_)
            refine st_aload rX8_drawn_139 rfl ?_
            refine st_c rX8_drawn_140 ?_
            refine st_iload rX8_drawn_141 rfl ?_
            first | with_reducible refine st_iaddN rX8_drawn_142 ?_ | refine st_iadd rX8_drawn_142 ?_
            refine st_aload rX8_drawn_143 rfl ?_
            refine st_getR rX8_drawn_144 (by first | assumption | decide | exact ⟨by decide, rfl, by decide⟩) (by first | rfl | assumption) rfl ?_
            refine st_iload rX8_drawn_147 rfl ?_
            refine st_ialdN rX8_drawn_148 (by first | assumption | decide | exact ⟨by decide, rfl, by decide⟩) (by omega) ?_
            refine st_top (show I4 122 s = N (2 + gD (rD t z) s) by rw [g4 122 (by omega)]; exact gb3 s (by omega)) ?_
            refine st_iastN rX8_drawn_149 (by first | assumption | decide | exact ⟨by decide, rfl, by decide⟩) (by omega) ?_
            first | with_reducible refine st_iincN3 rX8_drawn_150 rfl ?_ | refine st_iinc3 rX8_drawn_150 rfl ?_
            refine st_goto rX8_drawn_153 ?_
            refine ih2 (s + 1) _ (by omega) (fun b hb => by rw [up_n hb, g4 b hb]) ?_
            rw [up_s, ga4]
            funext k
            simp only [va_up, mvN]
            have hgs := (drPerm (m := t) (r := rD t z) hm6 (fun s hs => rD_lt hs)).elim (fun c hc => (hc s (by omega)).1)
            by_cases hk2 : k = 2 + s
            · subst hk2
              rw [if_pos rfl, if_pos (by omega), show 2 + s - 2 = s by omega, skN_o (by omega), jdN_o (by omega)]
            · rw [if_neg hk2]
              by_cases hk3 : 2 ≤ k ∧ k < 2 + s
              · rw [if_pos hk3, if_pos (by omega)]
              · rw [if_neg hk3, if_neg (by omega)]
        refine key2 t 0 I3 (by omega) (fun b _ => rfl) ?_
        rw [ga3]
        funext k
        simp only [mvN]
        rw [if_neg (by omega)]
      | succ r ih =>
        intro t I3 he g3 ga3 gb3
        have htm : t < m := by omega
        have hy := hpp t htm
        have hgt := hpm.elim (fun c hc => (hc t htm).1)
        have e1 : I3 a (2 + t) = nI (pb t) := by rw [ga3, skN_o (by omega), jdN_o (by omega)]; exact hy.1
        have e2 : I3 a (20 + 6 * pb t + t) = jdN A no N (20 + (6 * pb t + t)) := by rw [ga3, show 20 + 6 * pb t + t = 20 + (6 * pb t + t) by omega, skN_at (by omega) (by omega)]
        have e105 : I3 105 0 = nI m := by rw [g3 105 (by omega) (by omega), g2 105 (by omega), g1 105 (by omega)]; exact hmm
        refine st_iload rX8_drawn_76 rfl ?_
        refine st_aload rX8_drawn_77 rfl ?_
        refine st_getR rX8_drawn_78 (by first | assumption | decide | exact ⟨by decide, rfl, by decide⟩) (by first | rfl | assumption) rfl ?_
        refine st_c rX8_drawn_81 ?_
        refine st_ialdN rX8_drawn_82 (by first | assumption | decide | exact ⟨by decide, rfl, by decide⟩) (by omega) ?_
        refine st_top e105 ?_
        first | with_reducible refine st_icmp_geN rX8_drawn_83 (by omega) (by omega) (fun h => absurd h (by first | decide | omega | (simp; done) | simp_all)) (fun _ => ?_) | refine st_icmp_ge rX8_drawn_83 (fun h => absurd h (by first | decide | omega | (simp; done) | simp_all)) (fun _ => ?_)
        refine st_aload rX8_drawn_86 rfl ?_
        refine st_c rX8_drawn_87 ?_
        refine st_c rX8_drawn_89 ?_
        refine st_aload rX8_drawn_91 rfl ?_
        refine st_c rX8_drawn_92 ?_
        refine st_iload rX8_drawn_93 rfl ?_
        first | with_reducible refine st_iaddN rX8_drawn_94 ?_ | refine st_iadd rX8_drawn_94 ?_
        refine st_ialdN rX8_drawn_95 (by first | assumption | decide | exact ⟨by decide, rfl, by decide⟩) (by omega) ?_
        refine st_top e1 ?_
        first | with_reducible refine st_imulN rX8_drawn_96 ?_ | refine st_imul rX8_drawn_96 ?_
        first | with_reducible refine st_iaddN rX8_drawn_97 ?_ | refine st_iadd rX8_drawn_97 ?_
        refine st_iload rX8_drawn_98 rfl ?_
        first | with_reducible refine st_iaddN rX8_drawn_99 ?_ | refine st_iadd rX8_drawn_99 ?_
        refine st_dup2 rX8_drawn_100 rfl rfl ?_
        refine st_ialdN rX8_drawn_101 (by first | assumption | decide | exact ⟨by decide, rfl, by decide⟩) (by omega) ?_
        refine st_top e2 ?_
        refine st_c rX8_drawn_102 ?_
        first | with_reducible refine st_iaddN rX8_drawn_103 ?_ | refine st_iadd rX8_drawn_103 ?_
        refine st_iastN rX8_drawn_104 (by first | assumption | decide | exact ⟨by decide, rfl, by decide⟩) (by omega) ?_
        refine st_aload rX8_drawn_105 rfl ?_
        refine st_getR rX8_drawn_106 (by first | assumption | decide | exact ⟨by decide, rfl, by decide⟩) (by first | rfl | assumption) rfl ?_
        refine st_iload rX8_drawn_109 rfl ?_
        refine st_aload rX8_drawn_110 rfl ?_
        refine st_c rX8_drawn_111 ?_
        refine st_aload rX8_drawn_112 rfl ?_
        refine st_getR rX8_drawn_113 (by first | assumption | decide | exact ⟨by decide, rfl, by decide⟩) (by first | rfl | assumption) rfl ?_
        refine st_iload rX8_drawn_116 rfl ?_
        refine st_ialdN rX8_drawn_117 (by first | assumption | decide | exact ⟨by decide, rfl, by decide⟩) (by omega) ?_
        refine st_top (show _ = nI ((gD (rD m z)) t) by rw [up_n (by omega), g3 121 (by omega) (by omega)]; exact gd t htm) ?_
        first | with_reducible refine st_iaddN rX8_drawn_118 ?_ | refine st_iadd rX8_drawn_118 ?_
        refine st_ialdN rX8_drawn_119 (by first | assumption | decide | exact ⟨by decide, rfl, by decide⟩) (by omega) ?_
        refine st_top (show _ = N (2 + (gD (rD m z)) t) by rw [up_s, va_up_n (by omega), ga3, skN_o (by omega), jdN_o (by omega)]) ?_
        refine st_iastN rX8_drawn_120 (by first | assumption | decide | exact ⟨by decide, rfl, by decide⟩) (by omega) ?_
        first | with_reducible refine st_iincN3 rX8_drawn_121 rfl ?_ | refine st_iinc3 rX8_drawn_121 rfl ?_
        refine st_goto rX8_drawn_124 ?_
        refine ih (t + 1) _ (by omega) (fun b h1 h2 => by rw [up_n h2, up_n h1, g3 b h1 h2]) ?_ (fun j hj => ?_)
        · rw [up_n (by omega), up_s, ga3, show 20 + 6 * pb t + t = 20 + (6 * pb t + t) by omega]
          exact skN_s (y := pb t) (by omega) (by omega) (by rw [jdN_o (by omega)]; exact hy.1)
        · rw [up_s]
          by_cases hj2 : j = t
          · subst hj2; rw [va_up_s]
          · rw [va_up_n hj2, up_n (by omega)]; exact gb3 j (by omega)
    exact key m 0 I2 (by omega) (fun b _ _ => rfl) (by rw [skN_0, g2 a (by omega)]; exact ga1) (fun j hj => absurd hj (by omega))
  have key : ∀ (r i : Nat) (I1 : Nat → Nat → Int32), i + r = no → (∀ b, b ≠ a → I1 b = I b) → I1 a = jdN A i N → V (d + 1) 123 123 mX8_drawn 2 [.ref 103, .ref a, .int (nI z), .int (nI i)] [] (I1, J, vRR ρ) (Ki kk) := by
    intro r
    induction r with
    | zero =>
      intro i I1 he g1 ga1
      have he : i = no := by omega
      subst he
      refine st_iload rX8_drawn_2 rfl ?_
      refine st_aload rX8_drawn_3 rfl ?_
      refine st_getR rX8_drawn_4 (by first | assumption | decide | exact ⟨by decide, rfl, by decide⟩) (by first | rfl | assumption) rfl ?_
      refine st_c rX8_drawn_7 ?_
      refine st_ialdN rX8_drawn_8 (by first | assumption | decide | exact ⟨by decide, rfl, by decide⟩) (by omega) ?_
      refine st_top (show I1 105 1 = nI i by rw [g1 105 (by omega)]; exact hmo) ?_
      first | with_reducible refine st_icmp_geN rX8_drawn_9 (by omega) (by omega) (fun _ => ?_) (fun h => absurd h (by first | decide | omega | (simp; done) | simp_all)) | refine st_icmp_ge rX8_drawn_9 (fun _ => ?_) (fun h => absurd h (by first | decide | omega | (simp; done) | simp_all))
      exact tail I1 _ rfl g1 ga1
    | succ r ih =>
      intro i I1 he g1 ga1
      have hi : i < no := by omega
      obtain ⟨⟨ob, ob1, ob2⟩, ⟨ot, ot1, ot2⟩, -⟩ := hoa i hi
      have h9i := h9 i (by omega)
      have q12 : I1 112 i = A 112 i := by rw [g1 112 (by omega)]; exact h9i.2.2.2.2
      have q11 : I1 111 i = nI ot := by rw [g1 111 (by omega), ← ot2]; exact h9i.2.2.2.1
      have q10 : I1 110 i = A 110 i := by rw [g1 110 (by omega)]; exact h9i.2.2.1
      have q0 : I1 a 0 = N 0 := by rw [ga1, jdN_o (by omega)]
      have qi : I1 a (14 + i) = N (14 + i) := by rw [ga1, jdN_o (by omega)]
      have qb : I1 a (2 + ot) = N (2 + ot) := by rw [ga1, jdN_o (by omega)]
      refine st_iload rX8_drawn_2 rfl ?_
      refine st_aload rX8_drawn_3 rfl ?_
      refine st_getR rX8_drawn_4 (by first | assumption | decide | exact ⟨by decide, rfl, by decide⟩) (by first | rfl | assumption) rfl ?_
      refine st_c rX8_drawn_7 ?_
      refine st_ialdN rX8_drawn_8 (by first | assumption | decide | exact ⟨by decide, rfl, by decide⟩) (by omega) ?_
      refine st_top (show I1 105 1 = nI no by rw [g1 105 (by omega)]; exact hmo) ?_
      first | with_reducible refine st_icmp_geN rX8_drawn_9 (by omega) (by omega) (fun h => absurd h (by first | decide | omega | (simp; done) | simp_all)) (fun _ => ?_) | refine st_icmp_ge rX8_drawn_9 (fun h => absurd h (by first | decide | omega | (simp; done) | simp_all)) (fun _ => ?_)
      refine st_aload rX8_drawn_12 rfl ?_
      refine st_getR rX8_drawn_13 (by first | assumption | decide | exact ⟨by decide, rfl, by decide⟩) (by first | rfl | assumption) rfl ?_
      refine st_iload rX8_drawn_16 rfl ?_
      refine st_ialdN rX8_drawn_17 (by first | assumption | decide | exact ⟨by decide, rfl, by decide⟩) (by omega) ?_
      refine st_top q12 ?_
      refine st_aload rX8_drawn_18 rfl ?_
      refine st_c rX8_drawn_19 ?_
      refine st_ialdN rX8_drawn_20 (by first | assumption | decide | exact ⟨by decide, rfl, by decide⟩) (by omega) ?_
      refine st_top q0 ?_
      first | with_reducible refine st_icmp_neN rX8_drawn_21 (by omega) (by omega) (fun h21 => ?_) (fun h21 => ?_) | refine st_icmp_ne rX8_drawn_21 (fun h21 => ?_) (fun h21 => ?_)
      · first | with_reducible refine st_iincN3 rX8_drawn_63 rfl ?_ | refine st_iinc3 rX8_drawn_63 rfl ?_
        refine st_goto rX8_drawn_66 ?_
        first
        | (exact ih (i + 1) I1 (by omega) g1 (by rw [jdN_f h21]; exact ga1))
        | (refine ih (i + 1) _ (by omega) (fun b hb => by rw [up_n hb, g1 b hb]) ?_; rw [up_s, ga1, ← jdN_t h21, jdV, ot2, nI_clamp (by omega), if_pos h54])
        | (refine ih (i + 1) _ (by omega) (fun b hb => by rw [up_n hb, g1 b hb]) ?_; rw [up_s, ga1, ← jdN_t h21, jdV, ot2, nI_clamp (by omega), if_neg h54])
      · refine st_aload rX8_drawn_24 rfl ?_
        refine st_c rX8_drawn_25 ?_
        refine st_iload rX8_drawn_27 rfl ?_
        first | with_reducible refine st_iaddN rX8_drawn_28 ?_ | refine st_iadd rX8_drawn_28 ?_
        refine st_ialdN rX8_drawn_29 (by first | assumption | decide | exact ⟨by decide, rfl, by decide⟩) (by omega) ?_
        refine st_top (qi.trans (hdue i hi h21)) ?_
        first | with_reducible refine st_if_neN rX8_drawn_30 (by omega) (fun h => absurd h (by first | decide | omega | (simp; done) | simp_all)) (fun _ => ?_) | refine st_if_ne rX8_drawn_30 (fun h => absurd h (by first | decide | omega | (simp; done) | simp_all)) (fun _ => ?_)
        refine st_aload rX8_drawn_33 rfl ?_
        refine st_c rX8_drawn_34 ?_
        refine st_iload rX8_drawn_36 rfl ?_
        first | with_reducible refine st_iaddN rX8_drawn_37 ?_ | refine st_iadd rX8_drawn_37 ?_
        refine st_aload rX8_drawn_38 rfl ?_
        refine st_c rX8_drawn_39 ?_
        refine st_aload rX8_drawn_40 rfl ?_
        refine st_getR rX8_drawn_41 (by first | assumption | decide | exact ⟨by decide, rfl, by decide⟩) (by first | rfl | assumption) rfl ?_
        refine st_iload rX8_drawn_44 rfl ?_
        refine st_ialdN rX8_drawn_45 (by first | assumption | decide | exact ⟨by decide, rfl, by decide⟩) (by omega) ?_
        refine st_top q11 ?_
        first | with_reducible refine st_iaddN rX8_drawn_46 ?_ | refine st_iadd rX8_drawn_46 ?_
        refine st_ialdN rX8_drawn_47 (by first | assumption | decide | exact ⟨by decide, rfl, by decide⟩) (by omega) ?_
        refine st_top qb ?_
        refine st_aload rX8_drawn_48 rfl ?_
        refine st_getR rX8_drawn_49 (by first | assumption | decide | exact ⟨by decide, rfl, by decide⟩) (by first | rfl | assumption) rfl ?_
        refine st_iload rX8_drawn_52 rfl ?_
        refine st_ialdN rX8_drawn_53 (by first | assumption | decide | exact ⟨by decide, rfl, by decide⟩) (by omega) ?_
        refine st_top q10 ?_
        first | with_reducible refine st_icmp_neN rX8_drawn_54 (by omega) (by omega) (fun h54 => ?_) (fun h54 => ?_) | refine st_icmp_ne rX8_drawn_54 (fun h54 => ?_) (fun h54 => ?_)
        · refine st_c rX8_drawn_61 ?_
          refine st_iastN rX8_drawn_62 (by first | assumption | decide | exact ⟨by decide, rfl, by decide⟩) (by omega) ?_
          first | with_reducible refine st_iincN3 rX8_drawn_63 rfl ?_ | refine st_iinc3 rX8_drawn_63 rfl ?_
          refine st_goto rX8_drawn_66 ?_
          first
          | (exact ih (i + 1) I1 (by omega) g1 (by rw [jdN_f h21]; exact ga1))
          | (refine ih (i + 1) _ (by omega) (fun b hb => by rw [up_n hb, g1 b hb]) ?_; rw [up_s, ga1, ← jdN_t h21, jdV, ot2, nI_clamp (by omega), if_pos h54])
          | (refine ih (i + 1) _ (by omega) (fun b hb => by rw [up_n hb, g1 b hb]) ?_; rw [up_s, ga1, ← jdN_t h21, jdV, ot2, nI_clamp (by omega), if_neg h54])
        · refine st_c rX8_drawn_57 ?_
          refine st_goto rX8_drawn_58 ?_
          refine st_iastN rX8_drawn_62 (by first | assumption | decide | exact ⟨by decide, rfl, by decide⟩) (by omega) ?_
          first | with_reducible refine st_iincN3 rX8_drawn_63 rfl ?_ | refine st_iinc3 rX8_drawn_63 rfl ?_
          refine st_goto rX8_drawn_66 ?_
          first
          | (exact ih (i + 1) I1 (by omega) g1 (by rw [jdN_f h21]; exact ga1))
          | (refine ih (i + 1) _ (by omega) (fun b hb => by rw [up_n hb, g1 b hb]) ?_; rw [up_s, ga1, ← jdN_t h21, jdV, ot2, nI_clamp (by omega), if_pos h54])
          | (refine ih (i + 1) _ (by omega) (fun b hb => by rw [up_n hb, g1 b hb]) ?_; rw [up_s, ga1, ← jdN_t h21, jdV, ot2, nI_clamp (by omega), if_neg h54])
  exact key no 0 I (by omega) (fun a _ => rfl) (by rw [jdN_0]; exact hI)
end P31
