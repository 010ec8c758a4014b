/-! ===== the class measures the ways ===== -/
theorem farC_n {x : Nat} (h : x < 1000000) : farC (nI x) = nI x := by
  simp only [farC]
  rw [if_neg (fun e => by have := (nI_eq (a := x) (b := 1000000) (by omega) (by decide)).mp e; omega)]
theorem farC_f : farC (nI 1000000) = -9 := by simp only [farC, if_true]
section P53
variable {d : Nat} {I A : Nat → Nat → Int32} {J : Nat → Nat → Int64} {ρ m no : Nat} {T : Int64} {k : Int32 → vS → Prop} {kl : Int64 → vS → Prop} {kv : vS → Prop}
variable {σ : Nat} {D : Nat → Nat → Nat} {F : Nat → Nat} {n : Nat}
set_option maxHeartbeats 4000000 in
set_option maxRecDepth 100000 in
theorem s_short (hσ : vTo σ) (hm : I σ 0 = nI m) (hm6 : m ≤ 6) (hn : n < m) (hW : OkW F n) (hF : ∀ a b, a < m → b < m → I (σ + 5) (a * 6 + b) = farC (nI (F (a * 6 + b)))) (hk : ∀ I', (∀ a, a ≠ σ + 5 → I' a = I a) → (∀ a b, a < m → b < m → I' (σ + 5) (a * 6 + b) = farC (nI (fws F n (a * 6 + b)))) → kv (I', J, vRR ρ)) : V (d + 2) 123 123 mX6_shortenWays 0 [.ref σ, .int (nI n), vJ, vJ, vJ, vJ, vJ] [] (I, J, vRR ρ) (Kv kv) := by
  obtain ⟨hto, o1, o2, o3, o4, o5, o6, o7, o8⟩ := toldF hσ
  have key : ∀ (r a : Nat) (v3 v4 v5 v6 : Value) (I2 : Nat → Nat → Int32), a + r = m → (∀ c, c ≠ σ + 5 → I2 c = I c) → (∀ x y, x < m → y < m → I2 (σ + 5) (x * 6 + y) = farC (nI (if x < a ∨ x = a ∧ y < 0 then fws F n (x * 6 + y) else F (x * 6 + y)))) → V (d + 2) 123 123 mX6_shortenWays 2 [.ref σ, .int (nI n), .int (nI a), v3, v4, v5, v6] [] (I2, J, vRR ρ) (Kv kv) := by
    intro r
    induction r with
    | zero =>
      intro a v3 v4 v5 v6 I2 he g g2
      have he : a = m := by omega
      subst he
      have hm2 : I2 σ 0 = nI a := by rw [g σ (by omega)]; exact hm
      refine st_iload rX6_shortenWays_2 rfl ?_
      refine st_aload rX6_shortenWays_3 rfl ?_
      refine st_getI rX6_shortenWays_4 (by first | assumption | decide | exact ⟨by decide, rfl, by decide⟩) rfl ?_
      refine st_top hm2 ?_
      first | with_reducible refine st_icmp_geN rX6_shortenWays_7 (by omega) (by omega) (fun _ => ?_) (fun h => absurd h (by first | decide | omega | (simp; done) | simp_all)) | refine st_icmp_ge rX6_shortenWays_7 (fun _ => ?_) (fun h => absurd h (by first | decide | omega | (simp; done) | simp_all))
      refine st_vret rX6_shortenWays_104 rfl ?_
      exact hk I2 g (fun x y hx hy => by rw [g2 x y hx hy, if_pos (Or.inl hx)])
    | succ r ih =>
      intro a v3 v4 v5 v6 I2 he g g2
      have ha : a < m := by omega
      have hm2 : I2 σ 0 = nI m := by rw [g σ (by omega)]; exact hm
      have inn : ∀ (r t : Nat) (v4 v5 v6 : Value) (I2 : Nat → Nat → Int32), t + r = m → (∀ c, c ≠ σ + 5 → I2 c = I c) → (∀ x y, x < m → y < m → I2 (σ + 5) (x * 6 + y) = farC (nI (if x < a ∨ x = a ∧ y < t then fws F n (x * 6 + y) else F (x * 6 + y)))) → V (d + 2) 123 123 mX6_shortenWays 12 [.ref σ, .int (nI n), .int (nI a), .int (nI t), v4, v5, v6] [] (I2, J, vRR ρ) (Kv kv) := by
        intro r
        induction r with
        | zero =>
          intro t v4 v5 v6 I2 he g g2
          have he : t = m := by omega
          have hm2 : I2 σ 0 = nI m := by rw [g σ (by omega)]; exact hm
          refine st_iload rX6_shortenWays_12 rfl ?_
          refine st_aload rX6_shortenWays_13 rfl ?_
          refine st_getI rX6_shortenWays_14 (by first | assumption | decide | exact ⟨by decide, rfl, by decide⟩) rfl ?_
          refine st_top hm2 ?_
          first | with_reducible refine st_icmp_geN rX6_shortenWays_17 (by omega) (by omega) (fun _ => ?_) (fun h => absurd h (by first | decide | omega | (simp; done) | simp_all)) | refine st_icmp_ge rX6_shortenWays_17 (fun _ => ?_) (fun h => absurd h (by first | decide | omega | (simp; done) | simp_all))
          first | with_reducible refine st_iincN2 rX6_shortenWays_98 rfl ?_ | refine st_iinc2 rX6_shortenWays_98 rfl ?_
          refine st_goto rX6_shortenWays_101 ?_
          refine ih (a + 1) _ _ _ _ I2 (by omega) g (fun x y hx hy => ?_)
          rw [g2 x y hx hy]
          by_cases e : x < a ∨ x = a ∧ y < t
          · rw [if_pos e, if_pos (by omega)]
          · rw [if_neg e, if_neg (by omega)]
        | succ r ih2 =>
          intro t v4 v5 v6 I2 he g g2
          have ht : t < m := by omega
          have hm2 : I2 σ 0 = nI m := by rw [g σ (by omega)]; exact hm
          have rd1 : I2 (σ + 5) (a * 6 + n) = farC (nI (F (a * 6 + n))) := by
            rw [g2 a n ha hn]
            split
            · rw [fws_col hW (by omega) (by omega)]
            · rfl
          have rd2 : I2 (σ + 5) (n * 6 + t) = farC (nI (F (6 * n + t))) := by
            rw [g2 n t hn ht, show n * 6 + t = 6 * n + t by omega]
            split
            · rw [fws_row hW (by omega) (by omega)]
            · rfl
          have rd3 : I2 (σ + 5) (a * 6 + t) = farC (nI (F (a * 6 + t))) := by rw [g2 a t ha ht, if_neg (by omega)]
          have hfs : fws F n (a * 6 + t) = if F (a * 6 + n) + F (6 * n + t) < F (a * 6 + t) then F (a * 6 + n) + F (6 * n + t) else F (a * 6 + t) := by
            simp only [fws]
            rw [show (a * 6 + t) / 6 * 6 + n = a * 6 + n by omega, show 6 * n + (a * 6 + t) % 6 = 6 * n + t by omega]
          have w1 := (hW (a * 6 + n) (by omega)).1
          have w2 := (hW (6 * n + t) (by omega)).1
          have w3 := (hW (a * 6 + t) (by omega)).1
          have p6 := pw6 (show n ≤ 6 by omega)
          have nc : fws F n (a * 6 + t) = F (a * 6 + t) → ∀ v4 v5 v6 : Value, V (d + 2) 123 123 mX6_shortenWays 92 [.ref σ, .int (nI n), .int (nI a), .int (nI t), v4, v5, v6] [] (I2, J, vRR ρ) (Kv kv) := by
            intro hf v4 v5 v6
            first | with_reducible refine st_iincN3 rX6_shortenWays_92 rfl ?_ | refine st_iinc3 rX6_shortenWays_92 rfl ?_
            refine st_goto rX6_shortenWays_95 ?_
            refine ih2 (t + 1) _ _ _ I2 (by omega) g (fun x y hx hy => ?_)
            rw [g2 x y hx hy]
            by_cases e : x < a ∨ x = a ∧ y < t
            · rw [if_pos e, if_pos (by omega)]
            · rw [if_neg e]
              by_cases e2 : x = a ∧ y = t
              · rw [if_pos (by omega), e2.1, e2.2, hf]
              · rw [if_neg (by omega)]
          have ch : fws F n (a * 6 + t) = F (a * 6 + n) + F (6 * n + t) → F (a * 6 + n) + F (6 * n + t) < 1000000 → ∀ v6 : Value, V (d + 2) 123 123 mX6_shortenWays 75 [.ref σ, .int (nI n), .int (nI a), .int (nI t), .int (nI (F (a * 6 + n))), .int (nI (F (6 * n + t))), v6] [] (I2, J, vRR ρ) (Kv kv) := by
            intro hf hlt v6
            refine st_aload rX6_shortenWays_75 rfl ?_
            refine st_getR rX6_shortenWays_76 (by assumption) (tR7 (by assumption)) rfl ?_
            refine st_iload rX6_shortenWays_79 rfl ?_
            refine st_iload rX6_shortenWays_80 rfl ?_
            refine cS2i rX6_shortenWays_81 (s_pair ?_) rfl
            refine st_iload rX6_shortenWays_84 rfl ?_
            refine st_iload rX6_shortenWays_86 rfl ?_
            first | with_reducible refine st_iaddN rX6_shortenWays_88 ?_ | refine st_iadd rX6_shortenWays_88 ?_
            refine cS3v rX6_shortenWays_89 (s_put (by first | assumption | decide | exact ⟨by decide, rfl, by decide⟩) (by omega) ?_) rfl
            first | with_reducible refine st_iincN3 rX6_shortenWays_92 rfl ?_ | refine st_iinc3 rX6_shortenWays_92 rfl ?_
            refine st_goto rX6_shortenWays_95 ?_
            refine ih2 (t + 1) _ _ _ _ (by omega) (fun c hc => by rw [up_n hc]; exact g c hc) (fun x y hx hy => ?_)
            rw [up_s]
            by_cases e2 : x = a ∧ y = t
            · rw [e2.1, e2.2, va_up_s, if_pos (by omega), hf, farC_n hlt]
            · rw [va_up_n (by omega), g2 x y hx hy]
              by_cases e : x < a ∨ x = a ∧ y < t
              · rw [if_pos e, if_pos (by omega)]
              · rw [if_neg e, if_neg (by omega)]
          refine st_iload rX6_shortenWays_12 rfl ?_
          refine st_aload rX6_shortenWays_13 rfl ?_
          refine st_getI rX6_shortenWays_14 (by first | assumption | decide | exact ⟨by decide, rfl, by decide⟩) rfl ?_
          refine st_top hm2 ?_
          first | with_reducible refine st_icmp_geN rX6_shortenWays_17 (by omega) (by omega) (fun h => absurd h (by first | decide | omega | (simp; done) | simp_all)) (fun _ => ?_) | refine st_icmp_ge rX6_shortenWays_17 (fun h => absurd h (by first | decide | omega | (simp; done) | simp_all)) (fun _ => ?_)
          skip
          by_cases i1 : F (a * 6 + n) = 1000000
          · rw [i1, farC_f] at rd1
            have hf : fws F n (a * 6 + t) = F (a * 6 + t) := by rw [hfs, if_neg (by omega)]
            refine st_aload rX6_shortenWays_20 rfl ?_
            refine st_iload rX6_shortenWays_21 rfl ?_
            refine st_iload rX6_shortenWays_22 rfl ?_
            refine cV3i rX6_shortenWays_23 (by first | assumption | decide | exact ⟨by decide, rfl, by decide⟩) (s_wayBetween hσ (by omega) (by omega) ?_) rfl (by decide)
            refine st_top rd1 ?_
            refine st_istore4 rX6_shortenWays_26 rfl ?_
            refine st_aload rX6_shortenWays_28 rfl ?_
            refine st_iload rX6_shortenWays_29 rfl ?_
            refine st_iload rX6_shortenWays_30 rfl ?_
            refine cV3i rX6_shortenWays_31 (by first | assumption | decide | exact ⟨by decide, rfl, by decide⟩) (s_wayBetween hσ (by omega) (by omega) ?_) rfl (by decide)
            refine st_top rd2 ?_
            refine st_istore5 rX6_shortenWays_34 rfl ?_
            refine st_aload rX6_shortenWays_36 rfl ?_
            refine st_iload rX6_shortenWays_37 rfl ?_
            refine st_iload rX6_shortenWays_38 rfl ?_
            refine cV3i rX6_shortenWays_39 (by first | assumption | decide | exact ⟨by decide, rfl, by decide⟩) (s_wayBetween hσ (by omega) (by omega) ?_) rfl (by decide)
            refine st_top rd3 ?_
            refine st_istore6 rX6_shortenWays_42 rfl ?_
            refine st_iload rX6_shortenWays_44 rfl ?_
            refine st_c rX6_shortenWays_46 ?_
            first | with_reducible refine st_icmp_eqN rX6_shortenWays_48 (by omega) (by omega) (fun _ => ?_) (fun h => absurd h (by first | decide | omega | (simp; done) | simp_all)) | refine st_icmp_eq rX6_shortenWays_48 (fun _ => ?_) (fun h => absurd h (by first | decide | omega | (simp; done) | simp_all))
            exact nc hf _ _ _
          · rw [farC_n (by omega)] at rd1
            by_cases i2 : F (6 * n + t) = 1000000
            · rw [i2, farC_f] at rd2
              have hf : fws F n (a * 6 + t) = F (a * 6 + t) := by rw [hfs, if_neg (by omega)]
              refine st_aload rX6_shortenWays_20 rfl ?_
              refine st_iload rX6_shortenWays_21 rfl ?_
              refine st_iload rX6_shortenWays_22 rfl ?_
              refine cV3i rX6_shortenWays_23 (by first | assumption | decide | exact ⟨by decide, rfl, by decide⟩) (s_wayBetween hσ (by omega) (by omega) ?_) rfl (by decide)
              refine st_top rd1 ?_
              refine st_istore4 rX6_shortenWays_26 rfl ?_
              refine st_aload rX6_shortenWays_28 rfl ?_
              refine st_iload rX6_shortenWays_29 rfl ?_
              refine st_iload rX6_shortenWays_30 rfl ?_
              refine cV3i rX6_shortenWays_31 (by first | assumption | decide | exact ⟨by decide, rfl, by decide⟩) (s_wayBetween hσ (by omega) (by omega) ?_) rfl (by decide)
              refine st_top rd2 ?_
              refine st_istore5 rX6_shortenWays_34 rfl ?_
              refine st_aload rX6_shortenWays_36 rfl ?_
              refine st_iload rX6_shortenWays_37 rfl ?_
              refine st_iload rX6_shortenWays_38 rfl ?_
              refine cV3i rX6_shortenWays_39 (by first | assumption | decide | exact ⟨by decide, rfl, by decide⟩) (s_wayBetween hσ (by omega) (by omega) ?_) rfl (by decide)
              refine st_top rd3 ?_
              refine st_istore6 rX6_shortenWays_42 rfl ?_
              refine st_iload rX6_shortenWays_44 rfl ?_
              refine st_c rX6_shortenWays_46 ?_
              refine st_icmp_eq rX6_shortenWays_48 (fun h => absurd h (nI_m9 (by omega))) (fun _ => ?_)
              refine st_iload rX6_shortenWays_51 rfl ?_
              refine st_c rX6_shortenWays_53 ?_
              first | with_reducible refine st_icmp_eqN rX6_shortenWays_55 (by omega) (by omega) (fun _ => ?_) (fun h => absurd h (by first | decide | omega | (simp; done) | simp_all)) | refine st_icmp_eq rX6_shortenWays_55 (fun _ => ?_) (fun h => absurd h (by first | decide | omega | (simp; done) | simp_all))
              exact nc hf _ _ _
            · rw [farC_n (by omega)] at rd2
              by_cases i3 : F (a * 6 + t) = 1000000
              · rw [i3, farC_f] at rd3
                have hf : fws F n (a * 6 + t) = F (a * 6 + n) + F (6 * n + t) := by rw [hfs, if_pos (by omega)]
                refine st_aload rX6_shortenWays_20 rfl ?_
                refine st_iload rX6_shortenWays_21 rfl ?_
                refine st_iload rX6_shortenWays_22 rfl ?_
                refine cV3i rX6_shortenWays_23 (by first | assumption | decide | exact ⟨by decide, rfl, by decide⟩) (s_wayBetween hσ (by omega) (by omega) ?_) rfl (by decide)
                refine st_top rd1 ?_
                refine st_istore4 rX6_shortenWays_26 rfl ?_
                refine st_aload rX6_shortenWays_28 rfl ?_
                refine st_iload rX6_shortenWays_29 rfl ?_
                refine st_iload rX6_shortenWays_30 rfl ?_
                refine cV3i rX6_shortenWays_31 (by first | assumption | decide | exact ⟨by decide, rfl, by decide⟩) (s_wayBetween hσ (by omega) (by omega) ?_) rfl (by decide)
                refine st_top rd2 ?_
                refine st_istore5 rX6_shortenWays_34 rfl ?_
                refine st_aload rX6_shortenWays_36 rfl ?_
                refine st_iload rX6_shortenWays_37 rfl ?_
                refine st_iload rX6_shortenWays_38 rfl ?_
                refine cV3i rX6_shortenWays_39 (by first | assumption | decide | exact ⟨by decide, rfl, by decide⟩) (s_wayBetween hσ (by omega) (by omega) ?_) rfl (by decide)
                refine st_top rd3 ?_
                refine st_istore6 rX6_shortenWays_42 rfl ?_
                refine st_iload rX6_shortenWays_44 rfl ?_
                refine st_c rX6_shortenWays_46 ?_
                refine st_icmp_eq rX6_shortenWays_48 (fun h => absurd h (nI_m9 (by omega))) (fun _ => ?_)
                refine st_iload rX6_shortenWays_51 rfl ?_
                refine st_c rX6_shortenWays_53 ?_
                refine st_icmp_eq rX6_shortenWays_55 (fun h => absurd h (nI_m9 (by omega))) (fun _ => ?_)
                refine st_iload rX6_shortenWays_58 rfl ?_
                refine st_c rX6_shortenWays_60 ?_
                first | with_reducible refine st_icmp_eqN rX6_shortenWays_62 (by omega) (by omega) (fun _ => ?_) (fun h => absurd h (by first | decide | omega | (simp; done) | simp_all)) | refine st_icmp_eq rX6_shortenWays_62 (fun _ => ?_) (fun h => absurd h (by first | decide | omega | (simp; done) | simp_all))
                exact ch hf (by omega) _
              · rw [farC_n (by omega)] at rd3
                by_cases i4 : F (a * 6 + n) + F (6 * n + t) < F (a * 6 + t)
                · have hf : fws F n (a * 6 + t) = F (a * 6 + n) + F (6 * n + t) := by rw [hfs, if_pos i4]
                  refine st_aload rX6_shortenWays_20 rfl ?_
                  refine st_iload rX6_shortenWays_21 rfl ?_
                  refine st_iload rX6_shortenWays_22 rfl ?_
                  refine cV3i rX6_shortenWays_23 (by first | assumption | decide | exact ⟨by decide, rfl, by decide⟩) (s_wayBetween hσ (by omega) (by omega) ?_) rfl (by decide)
                  refine st_top rd1 ?_
                  refine st_istore4 rX6_shortenWays_26 rfl ?_
                  refine st_aload rX6_shortenWays_28 rfl ?_
                  refine st_iload rX6_shortenWays_29 rfl ?_
                  refine st_iload rX6_shortenWays_30 rfl ?_
                  refine cV3i rX6_shortenWays_31 (by first | assumption | decide | exact ⟨by decide, rfl, by decide⟩) (s_wayBetween hσ (by omega) (by omega) ?_) rfl (by decide)
                  refine st_top rd2 ?_
                  refine st_istore5 rX6_shortenWays_34 rfl ?_
                  refine st_aload rX6_shortenWays_36 rfl ?_
                  refine st_iload rX6_shortenWays_37 rfl ?_
                  refine st_iload rX6_shortenWays_38 rfl ?_
                  refine cV3i rX6_shortenWays_39 (by first | assumption | decide | exact ⟨by decide, rfl, by decide⟩) (s_wayBetween hσ (by omega) (by omega) ?_) rfl (by decide)
                  refine st_top rd3 ?_
                  refine st_istore6 rX6_shortenWays_42 rfl ?_
                  refine st_iload rX6_shortenWays_44 rfl ?_
                  refine st_c rX6_shortenWays_46 ?_
                  refine st_icmp_eq rX6_shortenWays_48 (fun h => absurd h (nI_m9 (by omega))) (fun _ => ?_)
                  refine st_iload rX6_shortenWays_51 rfl ?_
                  refine st_c rX6_shortenWays_53 ?_
                  refine st_icmp_eq rX6_shortenWays_55 (fun h => absurd h (nI_m9 (by omega))) (fun _ => ?_)
                  refine st_iload rX6_shortenWays_58 rfl ?_
                  refine st_c rX6_shortenWays_60 ?_
                  refine st_icmp_eq rX6_shortenWays_62 (fun h => absurd h (nI_m9 (by omega))) (fun _ => ?_)
                  refine st_iload rX6_shortenWays_65 rfl ?_
                  refine st_iload rX6_shortenWays_67 rfl ?_
                  first | with_reducible refine st_iaddN rX6_shortenWays_69 ?_ | refine st_iadd rX6_shortenWays_69 ?_
                  refine st_iload rX6_shortenWays_70 rfl ?_
                  first | with_reducible refine st_icmp_geN rX6_shortenWays_72 (by omega) (by omega) (fun h => absurd h (by first | decide | omega | (simp; done) | simp_all)) (fun _ => ?_) | refine st_icmp_ge rX6_shortenWays_72 (fun h => absurd h (by first | decide | omega | (simp; done) | simp_all)) (fun _ => ?_)
                  exact ch hf (by omega) _
                · have hf : fws F n (a * 6 + t) = F (a * 6 + t) := by rw [hfs, if_neg i4]
                  refine st_aload rX6_shortenWays_20 rfl ?_
                  refine st_iload rX6_shortenWays_21 rfl ?_
                  refine st_iload rX6_shortenWays_22 rfl ?_
                  refine cV3i rX6_shortenWays_23 (by first | assumption | decide | exact ⟨by decide, rfl, by decide⟩) (s_wayBetween hσ (by omega) (by omega) ?_) rfl (by decide)
                  refine st_top rd1 ?_
                  refine st_istore4 rX6_shortenWays_26 rfl ?_
                  refine st_aload rX6_shortenWays_28 rfl ?_
                  refine st_iload rX6_shortenWays_29 rfl ?_
                  refine st_iload rX6_shortenWays_30 rfl ?_
                  refine cV3i rX6_shortenWays_31 (by first | assumption | decide | exact ⟨by decide, rfl, by decide⟩) (s_wayBetween hσ (by omega) (by omega) ?_) rfl (by decide)
                  refine st_top rd2 ?_
                  refine st_istore5 rX6_shortenWays_34 rfl ?_
                  refine st_aload rX6_shortenWays_36 rfl ?_
                  refine st_iload rX6_shortenWays_37 rfl ?_
                  refine st_iload rX6_shortenWays_38 rfl ?_
                  refine cV3i rX6_shortenWays_39 (by first | assumption | decide | exact ⟨by decide, rfl, by decide⟩) (s_wayBetween hσ (by omega) (by omega) ?_) rfl (by decide)
                  refine st_top rd3 ?_
                  refine st_istore6 rX6_shortenWays_42 rfl ?_
                  refine st_iload rX6_shortenWays_44 rfl ?_
                  refine st_c rX6_shortenWays_46 ?_
                  refine st_icmp_eq rX6_shortenWays_48 (fun h => absurd h (nI_m9 (by omega))) (fun _ => ?_)
                  refine st_iload rX6_shortenWays_51 rfl ?_
                  refine st_c rX6_shortenWays_53 ?_
                  refine st_icmp_eq rX6_shortenWays_55 (fun h => absurd h (nI_m9 (by omega))) (fun _ => ?_)
                  refine st_iload rX6_shortenWays_58 rfl ?_
                  refine st_c rX6_shortenWays_60 ?_
                  refine st_icmp_eq rX6_shortenWays_62 (fun h => absurd h (nI_m9 (by omega))) (fun _ => ?_)
                  refine st_iload rX6_shortenWays_65 rfl ?_
                  refine st_iload rX6_shortenWays_67 rfl ?_
                  first | with_reducible refine st_iaddN rX6_shortenWays_69 ?_ | refine st_iadd rX6_shortenWays_69 ?_
                  refine st_iload rX6_shortenWays_70 rfl ?_
                  first | with_reducible refine st_icmp_geN rX6_shortenWays_72 (by omega) (by omega) (fun _ => ?_) (fun h => absurd h (by first | decide | omega | (simp; done) | simp_all)) | refine st_icmp_ge rX6_shortenWays_72 (fun _ => ?_) (fun h => absurd h (by first | decide | omega | (simp; done) | simp_all))
                  exact nc hf _ _ _
      refine st_iload rX6_shortenWays_2 rfl ?_
      refine st_aload rX6_shortenWays_3 rfl ?_
      refine st_getI rX6_shortenWays_4 (by first | assumption | decide | exact ⟨by decide, rfl, by decide⟩) rfl ?_
      refine st_top hm2 ?_
      first | with_reducible refine st_icmp_geN rX6_shortenWays_7 (by omega) (by omega) (fun h => absurd h (by first | decide | omega | (simp; done) | simp_all)) (fun _ => ?_) | refine st_icmp_ge rX6_shortenWays_7 (fun h => absurd h (by first | decide | omega | (simp; done) | simp_all)) (fun _ => ?_)
      refine st_c rX6_shortenWays_10 ?_
      refine st_istore3 rX6_shortenWays_11 rfl ?_
      refine inn m 0 _ _ _ I2 (by omega) g g2
  refine st_c rX6_shortenWays_0 ?_
  refine st_istore2 rX6_shortenWays_1 rfl ?_
  refine key m 0 _ _ _ _ I (by omega) (fun _ _ => rfl) (fun x y hx hy => ?_)
  rw [if_neg (by omega)]; exact hF x y hx hy
set_option maxHeartbeats 4000000 in
set_option maxRecDepth 100000 in
theorem s_measure (hσ : vTo σ) (hD : CD I σ D) (hO : OkD D) (hk : ∀ I', (∀ a, a ≠ σ + 5 → I' a = I a) → (∀ a b, a < D 0 0 → b < D 0 0 → I' (σ + 5) (a * 6 + b) = farC (nI (fwn D (D 0 0) (a * 6 + b)))) → kv (I', J, vRR ρ)) : V (d + 3) 123 123 mX6_measureWays 0 [.ref σ, vJ, vJ, vJ] [] (I, J, vRR ρ) (Kv kv) := by
  obtain ⟨hto, o1, o2, o3, o4, o5, o6, o7, o8⟩ := toldF hσ
  obtain ⟨c1, c2, c3, c4, c5, c6⟩ := hD
  have d1 := hO.1
  have d4 := hO.2.2.2.1
  have lp2 : ∀ (r t : Nat) (v2 v3 : Value) (I2 : Nat → Nat → Int32), t + r = D 0 0 → (∀ c, c ≠ σ + 5 → I2 c = I c) → (∀ x y, x < D 0 0 → y < D 0 0 → I2 (σ + 5) (x * 6 + y) = farC (nI (fwn D t (x * 6 + y)))) → V (d + 3) 123 123 mX6_measureWays 78 [.ref σ, .int (nI t), v2, v3] [] (I2, J, vRR ρ) (Kv kv) := by
    intro r
    induction r with
    | zero =>
      intro t v2 v3 I2 he g g2
      have he : t = D 0 0 := by omega
      subst he
      have hm2 : I2 σ 0 = nI (D 0 0) := by rw [g σ (by omega)]; exact c1
      refine st_iload rX6_measureWays_78 rfl ?_
      refine st_aload rX6_measureWays_79 rfl ?_
      refine st_getI rX6_measureWays_80 (by first | assumption | decide | exact ⟨by decide, rfl, by decide⟩) rfl ?_
      refine st_top hm2 ?_
      first | with_reducible refine st_icmp_geN rX6_measureWays_83 (by omega) (by omega) (fun _ => ?_) (fun h => absurd h (by first | decide | omega | (simp; done) | simp_all)) | refine st_icmp_ge rX6_measureWays_83 (fun _ => ?_) (fun h => absurd h (by first | decide | omega | (simp; done) | simp_all))
      refine st_vret rX6_measureWays_97 rfl ?_
      exact hk I2 g g2
    | succ r ih =>
      intro t v2 v3 I2 he g g2
      have hm2 : I2 σ 0 = nI (D 0 0) := by rw [g σ (by omega)]; exact c1
      refine st_iload rX6_measureWays_78 rfl ?_
      refine st_aload rX6_measureWays_79 rfl ?_
      refine st_getI rX6_measureWays_80 (by first | assumption | decide | exact ⟨by decide, rfl, by decide⟩) rfl ?_
      refine st_top hm2 ?_
      first | with_reducible refine st_icmp_geN rX6_measureWays_83 (by omega) (by omega) (fun h => absurd h (by first | decide | omega | (simp; done) | simp_all)) (fun _ => ?_) | refine st_icmp_ge rX6_measureWays_83 (fun h => absurd h (by first | decide | omega | (simp; done) | simp_all)) (fun _ => ?_)
      refine st_aload rX6_measureWays_86 rfl ?_
      refine st_iload rX6_measureWays_87 rfl ?_
      refine cV2v rX6_measureWays_88 (by first | assumption | decide | exact ⟨by decide, rfl, by decide⟩) (s_short hσ hm2 d1 (by omega) (okW_n hO t (by omega)) g2 (fun I3 e1 e2 => ?_)) rfl (by decide)
      first | with_reducible refine st_iincN1 rX6_measureWays_91 rfl ?_ | refine st_iinc1 rX6_measureWays_91 rfl ?_
      refine st_goto rX6_measureWays_94 ?_
      exact ih (t + 1) _ _ I3 (by omega) (fun c hc => by rw [e1 c hc, g c hc]) e2
  have lp1 : ∀ (r a : Nat) (v2 v3 : Value) (I2 : Nat → Nat → Int32), a + r = D 0 0 → (∀ c, c ≠ σ + 5 → I2 c = I c) → (∀ x y, x < D 0 0 → y < D 0 0 → x < a ∨ x = a ∧ y < 0 → I2 (σ + 5) (x * 6 + y) = farC (nI (fw0 D (x * 6 + y)))) → V (d + 3) 123 123 mX6_measureWays 2 [.ref σ, .int (nI a), v2, v3] [] (I2, J, vRR ρ) (Kv kv) := by
    intro r
    induction r with
    | zero =>
      intro a v2 v3 I2 he g g2
      have hm2 : I2 σ 0 = nI (D 0 0) := by rw [g σ (by omega)]; exact c1
      refine st_iload rX6_measureWays_2 rfl ?_
      refine st_aload rX6_measureWays_3 rfl ?_
      refine st_getI rX6_measureWays_4 (by first | assumption | decide | exact ⟨by decide, rfl, by decide⟩) rfl ?_
      refine st_top hm2 ?_
      first | with_reducible refine st_icmp_geN rX6_measureWays_7 (by omega) (by omega) (fun _ => ?_) (fun h => absurd h (by first | decide | omega | (simp; done) | simp_all)) | refine st_icmp_ge rX6_measureWays_7 (fun _ => ?_) (fun h => absurd h (by first | decide | omega | (simp; done) | simp_all))
      refine st_c rX6_measureWays_76 ?_
      refine st_istore1 rX6_measureWays_77 rfl ?_
      exact lp2 (D 0 0) 0 _ _ I2 (by omega) g (fun x y hx hy => g2 x y hx hy (Or.inl (by omega)))
    | succ r ih =>
      intro a v2 v3 I2 he g g2
      have ha : a < D 0 0 := by omega
      have hm2 : I2 σ 0 = nI (D 0 0) := by rw [g σ (by omega)]; exact c1
      have inn : ∀ (r t : Nat) (v3 : Value) (I2 : Nat → Nat → Int32), t + r = D 0 0 → (∀ c, c ≠ σ + 5 → I2 c = I c) → (∀ x y, x < D 0 0 → y < D 0 0 → x < a ∨ x = a ∧ y < t → I2 (σ + 5) (x * 6 + y) = farC (nI (fw0 D (x * 6 + y)))) → V (d + 3) 123 123 mX6_measureWays 12 [.ref σ, .int (nI a), .int (nI t), v3] [] (I2, J, vRR ρ) (Kv kv) := by
        intro r
        induction r with
        | zero =>
          intro t v3 I2 he g g2
          have hm2 : I2 σ 0 = nI (D 0 0) := by rw [g σ (by omega)]; exact c1
          refine st_iload rX6_measureWays_12 rfl ?_
          refine st_aload rX6_measureWays_13 rfl ?_
          refine st_getI rX6_measureWays_14 (by first | assumption | decide | exact ⟨by decide, rfl, by decide⟩) rfl ?_
          refine st_top hm2 ?_
          first | with_reducible refine st_icmp_geN rX6_measureWays_17 (by omega) (by omega) (fun _ => ?_) (fun h => absurd h (by first | decide | omega | (simp; done) | simp_all)) | refine st_icmp_ge rX6_measureWays_17 (fun _ => ?_) (fun h => absurd h (by first | decide | omega | (simp; done) | simp_all))
          first | with_reducible refine st_iincN1 rX6_measureWays_70 rfl ?_ | refine st_iinc1 rX6_measureWays_70 rfl ?_
          refine st_goto rX6_measureWays_73 ?_
          exact ih (a + 1) _ _ I2 (by omega) g (fun x y hx hy hxy => g2 x y hx hy (by omega))
        | succ r ih2 =>
          intro t v3 I2 he g g2
          have ht : t < D 0 0 := by omega
          have hm2 : I2 σ 0 = nI (D 0 0) := by rw [g σ (by omega)]; exact c1
          have rd : I2 (σ + 4) (a * 6 + t) = nI (D 4 (a * 6 + t)) := by rw [g (σ + 4) (by omega)]; exact c5 _ (by omega)
          have h9 := d4 (a * 6 + t) (by omega)
          have hf0 : fw0 D (a * 6 + t) = if a = t then 0 else if 0 < D 4 (a * 6 + t) then D 4 (a * 6 + t) else 1000000 := by
            simp only [fw0]
            rw [show (a * 6 + t) / 6 = a by omega, show (a * 6 + t) % 6 = t by omega]
          have tail : V (d + 3) 123 123 mX6_measureWays 61 [.ref σ, .int (nI a), .int (nI t), .int (nI (D 4 (a * 6 + t)))] [.int (farC (nI (fw0 D (a * 6 + t)))), .int (nI (a * 6 + t)), .ref (σ + 5)] (I2, J, vRR ρ) (Kv kv) := by
            refine cS3v rX6_measureWays_61 (s_put (by first | assumption | decide | exact ⟨by decide, rfl, by decide⟩) (by omega) ?_) rfl
            first | with_reducible refine st_iincN2 rX6_measureWays_64 rfl ?_ | refine st_iinc2 rX6_measureWays_64 rfl ?_
            refine st_goto rX6_measureWays_67 ?_
            refine ih2 (t + 1) _ _ (by omega) (fun c hc => by rw [up_n hc]; exact g c hc) (fun x y hx hy hxy => ?_)
            rw [up_s]
            by_cases e2 : x = a ∧ y = t
            · rw [e2.1, e2.2, va_up_s]
            · rw [va_up_n (by omega)]; exact g2 x y hx hy (by omega)
          refine st_iload rX6_measureWays_12 rfl ?_
          refine st_aload rX6_measureWays_13 rfl ?_
          refine st_getI rX6_measureWays_14 (by first | assumption | decide | exact ⟨by decide, rfl, by decide⟩) rfl ?_
          refine st_top hm2 ?_
          first | with_reducible refine st_icmp_geN rX6_measureWays_17 (by omega) (by omega) (fun h => absurd h (by first | decide | omega | (simp; done) | simp_all)) (fun _ => ?_) | refine st_icmp_ge rX6_measureWays_17 (fun h => absurd h (by first | decide | omega | (simp; done) | simp_all)) (fun _ => ?_)
          refine st_aload rX6_measureWays_20 rfl ?_
          refine st_getR rX6_measureWays_21 (by assumption) (tR6 (by assumption)) rfl ?_
          refine st_iload rX6_measureWays_24 rfl ?_
          refine st_iload rX6_measureWays_25 rfl ?_
          refine cS2i rX6_measureWays_26 (s_pair ?_) rfl
          refine cS2i rX6_measureWays_29 (s_at (by first | assumption | decide | exact ⟨by decide, rfl, by decide⟩) (by omega) ?_) rfl
          refine st_top rd ?_
          refine st_istore3 rX6_measureWays_32 rfl ?_
          refine st_aload rX6_measureWays_33 rfl ?_
          refine st_getR rX6_measureWays_34 (by assumption) (tR7 (by assumption)) rfl ?_
          refine st_iload rX6_measureWays_37 rfl ?_
          refine st_iload rX6_measureWays_38 rfl ?_
          refine cS2i rX6_measureWays_39 (s_pair ?_) rfl
          skip
          by_cases e1 : a = t
          · rw [hf0, if_pos e1, farC_n (by decide)] at tail
            refine st_iload rX6_measureWays_42 rfl ?_
            refine st_iload rX6_measureWays_43 rfl ?_
            first | with_reducible refine st_icmp_neN rX6_measureWays_44 (by omega) (by omega) (fun h => absurd h (by first | decide | omega | (simp; done) | simp_all)) (fun _ => ?_) | refine st_icmp_ne rX6_measureWays_44 (fun h => absurd h (by first | decide | omega | (simp; done) | simp_all)) (fun _ => ?_)
            refine st_c rX6_measureWays_47 ?_
            refine st_goto rX6_measureWays_48 ?_
            exact tail
          · by_cases e2 : 0 < D 4 (a * 6 + t)
            · rw [hf0, if_neg e1, if_pos e2, farC_n (by omega)] at tail
              refine st_iload rX6_measureWays_42 rfl ?_
              refine st_iload rX6_measureWays_43 rfl ?_
              first | with_reducible refine st_icmp_neN rX6_measureWays_44 (by omega) (by omega) (fun _ => ?_) (fun h => absurd h (by first | decide | omega | (simp; done) | simp_all)) | refine st_icmp_ne rX6_measureWays_44 (fun _ => ?_) (fun h => absurd h (by first | decide | omega | (simp; done) | simp_all))
              refine st_iload rX6_measureWays_51 rfl ?_
              first | with_reducible refine st_if_leN rX6_measureWays_52 (by omega) (fun h => absurd h (by first | decide | omega | (simp; done) | simp_all)) (fun _ => ?_) | refine st_if_le rX6_measureWays_52 (fun h => absurd h (by first | decide | omega | (simp; done) | simp_all)) (fun _ => ?_)
              refine st_iload rX6_measureWays_55 rfl ?_
              refine st_goto rX6_measureWays_56 ?_
              exact tail
            · rw [hf0, if_neg e1, if_neg e2, farC_f] at tail
              refine st_iload rX6_measureWays_42 rfl ?_
              refine st_iload rX6_measureWays_43 rfl ?_
              first | with_reducible refine st_icmp_neN rX6_measureWays_44 (by omega) (by omega) (fun _ => ?_) (fun h => absurd h (by first | decide | omega | (simp; done) | simp_all)) | refine st_icmp_ne rX6_measureWays_44 (fun _ => ?_) (fun h => absurd h (by first | decide | omega | (simp; done) | simp_all))
              refine st_iload rX6_measureWays_51 rfl ?_
              first | with_reducible refine st_if_leN rX6_measureWays_52 (by omega) (fun _ => ?_) (fun h => absurd h (by first | decide | omega | (simp; done) | simp_all)) | refine st_if_le rX6_measureWays_52 (fun _ => ?_) (fun h => absurd h (by first | decide | omega | (simp; done) | simp_all))
              refine st_c rX6_measureWays_59 ?_
              exact tail
      refine st_iload rX6_measureWays_2 rfl ?_
      refine st_aload rX6_measureWays_3 rfl ?_
      refine st_getI rX6_measureWays_4 (by first | assumption | decide | exact ⟨by decide, rfl, by decide⟩) rfl ?_
      refine st_top hm2 ?_
      first | with_reducible refine st_icmp_geN rX6_measureWays_7 (by omega) (by omega) (fun h => absurd h (by first | decide | omega | (simp; done) | simp_all)) (fun _ => ?_) | refine st_icmp_ge rX6_measureWays_7 (fun h => absurd h (by first | decide | omega | (simp; done) | simp_all)) (fun _ => ?_)
      refine st_c rX6_measureWays_10 ?_
      refine st_istore2 rX6_measureWays_11 rfl ?_
      exact inn (D 0 0) 0 _ I2 (by omega) g g2
  refine st_c rX6_measureWays_0 ?_
  refine st_istore1 rX6_measureWays_1 rfl ?_
  exact lp1 (D 0 0) 0 _ _ I (by omega) (fun _ _ => rfl) (fun x y hx hy hxy => absurd hxy (by omega))
end P53
