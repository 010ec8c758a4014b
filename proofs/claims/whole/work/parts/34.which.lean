/-! ===== which ===== -/
def hbF (A : Nat → Nat → Int32) (g : Nat → Nat) : Nat → Bool
  | 0 => true
  | e + 1 => hbF A g e && decide (A 114 (2 + g (A 120 e).toNatClampNeg) = A 119 e)
theorem hbF_n {A : Nat → Nat → Int32} {g : Nat → Nat} {e : Nat} (h : hbF A g e = false) : ∀ r, hbF A g (e + r) = false := by
  intro r
  induction r with
  | zero => exact h
  | succ r ih => rw [show e + (r + 1) = (e + r) + 1 by omega]; simp only [hbF, ih, Bool.false_and]
def whC (h : Nat → Bool) : Nat → Nat
  | 0 => 0
  | z + 1 => whC h z + (if h z = true then 1 else 0)
def whF (h : Nat → Bool) : Nat → Int32
  | 0 => -9
  | z + 1 => if h z = true ∧ whC h z = 0 then nI z else whF h z
theorem whC_le (h : Nat → Bool) : ∀ z, whC h z ≤ z := by
  intro z
  induction z with
  | zero => exact Nat.le_refl _
  | succ z ih => simp only [whC]; split <;> omega
theorem whF_s {h : Nat → Bool} {z : Nat} (h0 : 0 < whC h z) : ∀ r, whF h (z + r) = whF h z ∧ 0 < whC h (z + r) := by
  intro r
  induction r with
  | zero => exact ⟨rfl, h0⟩
  | succ r ih =>
    rw [show z + (r + 1) = (z + r) + 1 by omega]
    simp only [whC, whF]
    rw [if_neg (by omega)]
    exact ⟨ih.1, by omega⟩
section P34
variable {d : Nat} {I A : Nat → Nat → Int32} {J : Nat → Nat → Int64} {ρ m no : Nat} {T : Int64} {k : Int32 → vS → Prop} {kl : Int64 → vS → Prop} {kv : vS → Prop}
set_option maxHeartbeats 4000000 in
set_option maxRecDepth 100000 in
theorem c_whichBad {z : Int32} (hz : isT 2 z = false) (hk : k (-1) (I, J, vRR ρ)) : V (d + 1) 123 123 mX7_which 0 [.ref 0, .int z, vJ, vJ] [] (I, J, vRR ρ) (Ki k) := by
  refine st_iload rX7_which_0 rfl ?_
  refine st_c rX7_which_1 ?_
  refine st_c rX7_which_2 ?_
  refine cS3i rX7_which_3 (s_within ?_) rfl
  rw [inR_N (by decide), hz]
  first | with_reducible refine st_if_neN rX7_which_6 (by omega) (fun h => absurd h (by first | decide | omega | (simp; done) | simp_all)) (fun _ => ?_) | refine st_if_ne rX7_which_6 (fun h => absurd h (by first | decide | omega | (simp; done) | simp_all)) (fun _ => ?_)
  refine st_c rX7_which_9 ?_
  refine st_iret rX7_which_10 rfl ?_
  exact hk
set_option maxHeartbeats 4000000 in
set_option maxRecDepth 100000 in
theorem m_whichBad {z : Int32} (hM : InvM I J A T) (hz : isT 2 z = false) (hk : ∀ I', (∀ a, a < 103 ∨ 123 ≤ a → I' a = I a) → InvM I' J A T → k (-1) (I', J, vRR ρ)) : V (d + 1) 123 123 mX8_which 0 [.ref 103, .int z, vJ, vJ, vJ, vJ, vJ] [] (I, J, vRR ρ) (Ki k) := by
  refine s_thr rX8_which_0 rX8_which_1 rX8_which_2 hM (fun I1 e1 e2 hM1 => ?_)
  refine st_iload rX8_which_5 rfl ?_
  refine st_c rX8_which_6 ?_
  refine st_c rX8_which_7 ?_
  refine cS3i rX8_which_8 (s_in ?_) rfl
  rw [inR_N (by decide), hz]
  first | with_reducible refine st_if_neN rX8_which_11 (by omega) (fun h => absurd h (by first | decide | omega | (simp; done) | simp_all)) (fun _ => ?_) | refine st_if_ne rX8_which_11 (fun h => absurd h (by first | decide | omega | (simp; done) | simp_all)) (fun _ => ?_)
  refine st_c rX8_which_14 ?_
  refine st_iret rX8_which_15 rfl ?_
  exact hk I1 (fun a ha => e1 a (by omega)) hM1
set_option maxHeartbeats 4000000 in
set_option maxRecDepth 100000 in
theorem s_holdBehind {g : Nat → Nat} {f : Nat} {kk : Int32 → vS → Prop} (hm6 : m ≤ 6) (hf : f ≤ 5) (hz : I 97 2 = nI f) (h1 : ∀ t, t < m → I 101 t = nI (g t)) (hg : ∀ t, t < m → g t < m) (hb : ∀ t, t < m → I 23 t = A 114 (2 + t)) (he : ∀ e, e < f → I 98 e = A 119 e ∧ I 99 e = A 120 e ∧ ∃ x, x < m ∧ A 120 e = nI x) (h : kk (vb (hbF A g f)) (I, J, vRR ρ)) : V (d + 1) 123 123 mX0_holdBehind 0 [.ref 97, .ref 100, .ref 22, vJ, vJ] [] (I, J, vRR ρ) (Ki kk) := by
  have hh : vHg 22 := ⟨by decide, rfl⟩
  refine st_c rX0_holdBehind_0 ?_
  refine st_istore3 rX0_holdBehind_1 rfl ?_
  skip
  have key : ∀ (r e : Nat) (x : Value), e + r = f → hbF A g e = true → V (d + 1) 123 123 mX0_holdBehind 2 [.ref 97, .ref 100, .ref 22, .int (nI e), x] [] (I, J, vRR ρ) (Ki kk) := by
    intro r
    induction r with
    | zero =>
      intro e x hef hs
      have hef : e = f := by omega
      subst hef
      rw [hs] at h
      refine st_iload rX0_holdBehind_2 rfl ?_
      refine st_aload rX0_holdBehind_3 rfl ?_
      refine st_getI rX0_holdBehind_4 (by first | assumption | decide | exact ⟨by decide, rfl, by decide⟩) rfl ?_
      refine st_top hz ?_
      first | with_reducible refine st_icmp_geN rX0_holdBehind_7 (by omega) (by omega) (fun _ => ?_) (fun h => absurd h (by first | decide | omega | (simp; done) | simp_all)) | refine st_icmp_ge rX0_holdBehind_7 (fun _ => ?_) (fun h => absurd h (by first | decide | omega | (simp; done) | simp_all))
      refine st_c rX0_holdBehind_55 ?_
      refine st_zret rX0_holdBehind_56 rfl (by first | rfl | exact vb_nar _) ?_
      exact h
    | succ r ih =>
      intro e x hef hs
      have hlt : e < f := by omega
      obtain ⟨a1, a2, y, hy, a3⟩ := he e hlt
      have q1 := h1 y hy
      have q2 := hb (g y) (hg y hy)
      have hgy := hg y hy
      have a4 : I 99 e = nI y := a2.trans a3
      have hs1 : hbF A g (e + 1) = decide (A 114 (2 + g y) = A 119 e) := by simp only [hbF, hs, Bool.true_and, a3, nI_clamp (show y < 2147483648 by omega)]
      refine st_iload rX0_holdBehind_2 rfl ?_
      refine st_aload rX0_holdBehind_3 rfl ?_
      refine st_getI rX0_holdBehind_4 (by first | assumption | decide | exact ⟨by decide, rfl, by decide⟩) rfl ?_
      refine st_top hz ?_
      first | with_reducible refine st_icmp_geN rX0_holdBehind_7 (by omega) (by omega) (fun h => absurd h (by first | decide | omega | (simp; done) | simp_all)) (fun _ => ?_) | refine st_icmp_ge rX0_holdBehind_7 (fun h => absurd h (by first | decide | omega | (simp; done) | simp_all)) (fun _ => ?_)
      refine st_aload rX0_holdBehind_10 rfl ?_
      refine st_getR rX0_holdBehind_11 (by first | assumption | decide | exact ⟨by decide, rfl, by decide⟩) (by first | rfl | assumption) rfl ?_
      refine st_aload rX0_holdBehind_14 rfl ?_
      refine st_getR rX0_holdBehind_15 (by first | assumption | decide | exact ⟨by decide, rfl, by decide⟩) (by first | rfl | assumption) rfl ?_
      refine st_iload rX0_holdBehind_18 rfl ?_
      refine cS2i rX0_holdBehind_19 (s_at (by first | assumption | decide | exact ⟨by decide, rfl, by decide⟩) (by omega) ?_) rfl
      refine st_top a4 ?_
      refine cS2i rX0_holdBehind_22 (s_at (by first | assumption | decide | exact ⟨by decide, rfl, by decide⟩) (by omega) ?_) rfl
      refine st_top q1 ?_
      refine st_istore4 rX0_holdBehind_25 rfl ?_
      refine st_aload rX0_holdBehind_27 rfl ?_
      refine st_getR rX0_holdBehind_28 (by first | assumption | decide) (by first | rfl | exact hR2 (by assumption)) rfl ?_
      refine st_iload rX0_holdBehind_31 rfl ?_
      refine cS2i rX0_holdBehind_33 (s_at (by first | assumption | decide | exact ⟨by decide, rfl, by decide⟩) (by omega) ?_) rfl
      refine st_top q2 ?_
      refine st_aload rX0_holdBehind_36 rfl ?_
      refine st_getR rX0_holdBehind_37 (by first | assumption | decide | exact ⟨by decide, rfl, by decide⟩) (by first | rfl | assumption) rfl ?_
      refine st_iload rX0_holdBehind_40 rfl ?_
      refine cS2i rX0_holdBehind_41 (s_at (by first | assumption | decide | exact ⟨by decide, rfl, by decide⟩) (by omega) ?_) rfl
      skip
      refine st_top a1 ?_
      refine st_icmp_eq rX0_holdBehind_44 (fun h44 => ?_) (fun h44 => ?_)
      · first | with_reducible refine st_iincN3 rX0_holdBehind_49 rfl ?_ | refine st_iinc3 rX0_holdBehind_49 rfl ?_
        refine st_goto rX0_holdBehind_52 ?_
        exact ih (e + 1) _ (by omega) (by rw [hs1]; exact decide_eq_true h44)
      · rw [show f = (e + 1) + r by omega, hbF_n (by rw [hs1]; exact decide_eq_false h44) r] at h
        refine st_c rX0_holdBehind_47 ?_
        refine st_zret rX0_holdBehind_48 rfl (by first | rfl | exact vb_nar _) ?_
        exact h
  exact key f 0 _ (by omega) rfl
set_option maxHeartbeats 4000000 in
set_option maxRecDepth 100000 in
theorem c_which {x : Int32} {f : Nat} (hC : InvC I J ρ A T m no) (hO : OkA A m no) (hx : x = nI 0 ∨ x = nI 1) (hf5 : f ≤ 5) (hf : A 103 26 = nI f) (hk : ∀ I', (∀ a, 103 ≤ a → I' a = I a) → InvC I' J ρ A T m no → k (if x = nI 1 then whF (fun z => hbF A (gD (rD m z)) f) 1000 else nI (whC (fun z => hbF A (gD (rD m z)) f) 1000)) (I', J, vRR ρ)) : V (d + 3) 123 123 mX7_which 0 [.ref 0, .int x, vJ, vJ] [] (I, J, vRR ρ) (Ki k) := by
  obtain ⟨ht0, ht1, ht2, ht3, ht4, ht5, ht6, ht7, ht8, ht9, ht10⟩ := id hC.1
  obtain ⟨hto, o1, o2, o3, o4, o5, o6, o7, o8⟩ := toldF ht0
  have hm6 : m ≤ 6 := hO.1.2.2.1
  have hno6 : no ≤ 6 := hO.1.2.2.2.1
  have hv := hC.2.2.1
  have hρ : ρ ≤ 13 := by rcases ht0 with h | h <;> omega
  have hgm : ∀ z t, t < m → gD (rD m z) t < m := fun z t ht => ((drOk hm6 (fun t ht => rD_lt ht) t (by omega)).2.2 ht).2.1
  obtain ⟨f', f1, f2, f3⟩ := hO.2.2.2.2.2.2
  have : f = f' := (nI_eq (by omega) (by omega)).mp (hf.symm.trans f2)
  subst this
  have hF := hC.2.2.2.2.2.1
  have hin : isT 2 x = true := by rcases hx with rfl | rfl <;> decide
  refine st_iload rX7_which_0 rfl ?_
  refine st_c rX7_which_1 ?_
  refine st_c rX7_which_2 ?_
  refine cS3i rX7_which_3 (s_within ?_) rfl
  rw [inR_N (by decide), hin]
  first | with_reducible refine st_if_neN rX7_which_6 (by omega) (fun _ => ?_) (fun h => absurd h (by first | decide | omega | (simp; done) | simp_all)) | refine st_if_ne rX7_which_6 (fun _ => ?_) (fun h => absurd h (by first | decide | omega | (simp; done) | simp_all))
  refine st_c rX7_which_11 ?_
  refine st_istore2 rX7_which_12 rfl ?_
  refine st_c rX7_which_13 ?_
  refine st_istore3 rX7_which_14 rfl ?_
  skip
  have key : ∀ (r z : Nat) (I1 : Nat → Nat → Int32), z + r = 1000 → (∀ a, a ≠ 100 → a ≠ 101 → I1 a = I a) → (x = nI 1 → whC (fun z => hbF A (gD (rD m z)) f) z = 0) → V (d + 3) 123 123 mX7_which 15 [.ref 0, .int x, .int (nI (whC (fun z => hbF A (gD (rD m z)) f) z)), .int (nI z)] [] (I1, J, vRR ρ) (Ki k) := by
    intro r
    induction r with
    | zero =>
      intro z I1 he g h0
      have he : z = 1000 := by omega
      have hfin := hk I1 (fun a ha => g a (by omega) (by omega)) (InvC_same hC (fun a _ h => g a (by omega) (by omega)))
      rw [← he] at hfin
      rcases hx with rfl | rfl
      · rw [if_neg (by decide)] at hfin
        refine st_iload rX7_which_15 rfl ?_
        refine st_c rX7_which_16 ?_
        first | with_reducible refine st_icmp_gtN rX7_which_19 (by omega) (by omega) (fun _ => ?_) (fun h => absurd h (by first | decide | omega | (simp; done) | simp_all)) | refine st_icmp_gt rX7_which_19 (fun _ => ?_) (fun h => absurd h (by first | decide | omega | (simp; done) | simp_all))
        refine st_iload rX7_which_71 rfl ?_
        refine st_c rX7_which_72 ?_
        first | with_reducible refine st_icmp_neN rX7_which_73 (by omega) (by omega) (fun _ => ?_) (fun h => absurd h (by first | decide | omega | (simp; done) | simp_all)) | refine st_icmp_ne rX7_which_73 (fun _ => ?_) (fun h => absurd h (by first | decide | omega | (simp; done) | simp_all))
        refine st_iload rX7_which_81 rfl ?_
        refine st_iret rX7_which_82 rfl ?_
        exact hfin
      · have e : ∀ z, whC (fun z => hbF A (gD (rD m z)) f) z = 0 → whF (fun z => hbF A (gD (rD m z)) f) z = -9 := by
          intro z
          induction z with
          | zero => intro _; rfl
          | succ z ih =>
            intro h
            simp only [whC] at h
            simp only [whF]
            rw [if_neg (fun q => by rw [if_pos q.1] at h; omega)]
            exact ih (by omega)
        rw [if_pos rfl, e z (h0 rfl)] at hfin
        refine st_iload rX7_which_15 rfl ?_
        refine st_c rX7_which_16 ?_
        first | with_reducible refine st_icmp_gtN rX7_which_19 (by omega) (by omega) (fun _ => ?_) (fun h => absurd h (by first | decide | omega | (simp; done) | simp_all)) | refine st_icmp_gt rX7_which_19 (fun _ => ?_) (fun h => absurd h (by first | decide | omega | (simp; done) | simp_all))
        refine st_iload rX7_which_71 rfl ?_
        refine st_c rX7_which_72 ?_
        first | with_reducible refine st_icmp_neN rX7_which_73 (by omega) (by omega) (fun h => absurd h (by first | decide | omega | (simp; done) | simp_all)) (fun _ => ?_) | refine st_icmp_ne rX7_which_73 (fun h => absurd h (by first | decide | omega | (simp; done) | simp_all)) (fun _ => ?_)
        refine st_c rX7_which_76 ?_
        refine st_goto rX7_which_78 ?_
        refine st_iret rX7_which_82 rfl ?_
        exact hfin
    | succ r ih =>
      intro z I1 he g h0
      have hz : z < 1000 := by omega
      refine st_iload rX7_which_15 rfl ?_
      refine st_c rX7_which_16 ?_
      first | with_reducible refine st_icmp_gtN rX7_which_19 (by omega) (by omega) (fun h => absurd h (by first | decide | omega | (simp; done) | simp_all)) (fun _ => ?_) | refine st_icmp_gt rX7_which_19 (fun h => absurd h (by first | decide | omega | (simp; done) | simp_all)) (fun _ => ?_)
      refine st_aload rX7_which_22 rfl ?_
      refine st_getR rX7_which_23 (by first | assumption | decide | exact ⟨by decide, rfl, by decide⟩) (by first | rfl | assumption) rfl ?_
      refine st_aload rX7_which_26 rfl ?_
      refine st_getR rX7_which_27 (by first | assumption | decide | exact ⟨by decide, rfl, by decide⟩) (by first | rfl | assumption) rfl ?_
      refine st_getI rX7_which_30 (by first | assumption | decide | exact ⟨by decide, rfl, by decide⟩) rfl ?_
      refine st_top (show I1 ρ 0 = nI m by rw [g ρ (by omega) (by omega)]; exact ht1) ?_
      refine st_iload rX7_which_33 rfl ?_
      refine cV3v rX7_which_34 (by first | assumption | decide | exact ⟨by decide, rfl, by decide⟩) (s_drawBy hm6 (by omega) (fun I2 g2 p1 p2 => ?_)) rfl (by decide)
      have gg : ∀ a, a ≠ 100 → a ≠ 101 → I2 a = I a := fun a h1 h2 => by rw [g2 a h1 h2, g a h1 h2]
      refine st_aload rX7_which_37 rfl ?_
      refine st_getR rX7_which_38 (by first | assumption | decide | exact ⟨by decide, rfl, by decide⟩) (by first | rfl | assumption) rfl ?_
      refine st_aload rX7_which_41 rfl ?_
      refine st_getR rX7_which_42 (by first | assumption | decide | exact ⟨by decide, rfl, by decide⟩) (by first | rfl | assumption) rfl ?_
      refine st_aload rX7_which_45 rfl ?_
      refine st_getR rX7_which_46 (by first | assumption | decide | exact ⟨by decide, rfl, by decide⟩) (by first | rfl | assumption) rfl ?_
      refine cV3i rX7_which_49 (by first | assumption | decide | exact ⟨by decide, rfl, by decide⟩) (s_holdBehind (A := A) (m := m) (f := f) (g := gD (rD m z)) hm6 f1 (by rw [gg 97 (by omega) (by omega)]; exact hF.1.trans f2) p1 (fun t ht => hgm z t ht) (fun t ht => by rw [gg 23 (by omega) (by omega)]; exact hv.2.2.1 t (by omega)) (fun e he => ⟨by rw [gg 98 (by omega) (by omega)]; exact (hF.2 f f1 f2 e he).1, by rw [gg 99 (by omega) (by omega)]; exact (hF.2 f f1 f2 e he).2, (f3 e he).2⟩) ?_) rfl (by decide)
      skip
      cases hb : hbF A (gD (rD m z)) f with
      | false =>
        first | with_reducible refine st_if_eqN rX7_which_52 (by omega) (fun _ => ?_) (fun h => absurd h (by first | decide | omega | (simp; done) | simp_all)) | refine st_if_eq rX7_which_52 (fun _ => ?_) (fun h => absurd h (by first | decide | omega | (simp; done) | simp_all))
        first | with_reducible refine st_iincN3 rX7_which_65 rfl ?_ | refine st_iinc3 rX7_which_65 rfl ?_
        refine st_goto rX7_which_68 ?_
        have e : whC (fun z => hbF A (gD (rD m z)) f) (z + 1) = whC (fun z => hbF A (gD (rD m z)) f) z := by simp only [whC, hb]; rfl
        have q := ih (z + 1) I2 (by omega) gg (fun h => by rw [e]; exact h0 h)
        rw [e] at q
        exact q
      | true =>
        have e : whC (fun z => hbF A (gD (rD m z)) f) (z + 1) = whC (fun z => hbF A (gD (rD m z)) f) z + 1 := by simp only [whC, hb]; rfl
        rcases id hx with hx1 | hx1
        · subst hx1
          first | with_reducible refine st_if_eqN rX7_which_52 (by omega) (fun h => absurd h (by first | decide | omega | (simp; done) | simp_all)) (fun _ => ?_) | refine st_if_eq rX7_which_52 (fun h => absurd h (by first | decide | omega | (simp; done) | simp_all)) (fun _ => ?_)
          refine st_iload rX7_which_55 rfl ?_
          refine st_c rX7_which_56 ?_
          first | with_reducible refine st_icmp_neN rX7_which_57 (by omega) (by omega) (fun _ => ?_) (fun h => absurd h (by first | decide | omega | (simp; done) | simp_all)) | refine st_icmp_ne rX7_which_57 (fun _ => ?_) (fun h => absurd h (by first | decide | omega | (simp; done) | simp_all))
          first | with_reducible refine st_iincN2 rX7_which_62 rfl ?_ | refine st_iinc2 rX7_which_62 rfl ?_
          first | with_reducible refine st_iincN3 rX7_which_65 rfl ?_ | refine st_iinc3 rX7_which_65 rfl ?_
          refine st_goto rX7_which_68 ?_
          have q := ih (z + 1) I2 (by omega) gg (fun h => absurd h (by decide))
          rw [e] at q
          exact q
        · subst hx1
          have h00 := h0 rfl
          have hfin := hk I2 (fun a ha => gg a (by omega) (by omega)) (InvC_same hC (fun a _ h => gg a (by omega) (by omega)))
          rw [if_pos rfl, show 1000 = (z + 1) + r by omega, (whF_s (h := (fun z => hbF A (gD (rD m z)) f)) (z := z + 1) (by omega) r).1] at hfin
          simp only [whF] at hfin
          rw [if_pos ⟨hb, h00⟩] at hfin
          first | with_reducible refine st_if_eqN rX7_which_52 (by omega) (fun h => absurd h (by first | decide | omega | (simp; done) | simp_all)) (fun _ => ?_) | refine st_if_eq rX7_which_52 (fun h => absurd h (by first | decide | omega | (simp; done) | simp_all)) (fun _ => ?_)
          refine st_iload rX7_which_55 rfl ?_
          refine st_c rX7_which_56 ?_
          first | with_reducible refine st_icmp_neN rX7_which_57 (by omega) (by omega) (fun h => absurd h (by first | decide | omega | (simp; done) | simp_all)) (fun _ => ?_) | refine st_icmp_ne rX7_which_57 (fun h => absurd h (by first | decide | omega | (simp; done) | simp_all)) (fun _ => ?_)
          refine st_iload rX7_which_60 rfl ?_
          refine st_iret rX7_which_61 rfl ?_
          exact hfin
  exact key 1000 0 I (by omega) (fun a _ _ => rfl) (fun _ => rfl)
set_option maxHeartbeats 4000000 in
set_option maxRecDepth 100000 in
theorem m_which {x : Int32} {f : Nat} (hM : InvM I J A T) (hO : OkA A m no) (hx : x = nI 0 ∨ x = nI 1) (hf5 : f ≤ 5) (hf : A 103 26 = nI f) (hk : ∀ I', (∀ a, a < 103 ∨ 123 ≤ a → I' a = I a) → InvM I' J A T → k (if x = nI 1 then whF (fun z => hbF A (gD (rD m z)) f) 1000 else nI (whC (fun z => hbF A (gD (rD m z)) f) 1000)) (I', J, vRR ρ)) : V (d + 2) 123 123 mX8_which 0 [.ref 103, .int x, vJ, vJ, vJ, vJ, vJ] [] (I, J, vRR ρ) (Ki k) := by
  refine s_thr rX8_which_0 rX8_which_1 rX8_which_2 hM (fun I1 e1 e2 hM1 => ?_)
  have hm6 : m ≤ 6 := hO.1.2.2.1
  have hno6 : no ≤ 6 := hO.1.2.2.2.1
  obtain ⟨m1, m2, m3, m4, m5, m6, m7, m8, m9, m10, m11, m12, m13, m14, m15, m16⟩ := id hM1
  have hmm : I1 105 0 = nI m := m11.trans hO.1.1
  have hmo : I1 105 1 = nI no := m12.trans hO.1.2.1
  have hgm : ∀ z t, t < m → gD (rD m z) t < m := fun z t ht => ((drOk hm6 (fun t ht => rD_lt ht) t (by omega)).2.2 ht).2.1
  obtain ⟨f', f1, f2, f3⟩ := hO.2.2.2.2.2.2
  have : f = f' := (nI_eq (by omega) (by omega)).mp (hf.symm.trans f2)
  subst this
  have hin : isT 2 x = true := by rcases hx with rfl | rfl <;> decide
  refine st_iload rX8_which_5 rfl ?_
  refine st_c rX8_which_6 ?_
  refine st_c rX8_which_7 ?_
  refine cS3i rX8_which_8 (s_in ?_) rfl
  rw [inR_N (by decide), hin]
  first | with_reducible refine st_if_neN rX8_which_11 (by omega) (fun _ => ?_) (fun h => absurd h (by first | decide | omega | (simp; done) | simp_all)) | refine st_if_ne rX8_which_11 (fun _ => ?_) (fun h => absurd h (by first | decide | omega | (simp; done) | simp_all))
  refine st_c rX8_which_16 ?_
  refine st_istore2 rX8_which_17 rfl ?_
  refine st_c rX8_which_18 ?_
  refine st_istore3 rX8_which_20 rfl ?_
  refine st_c rX8_which_21 ?_
  refine st_istore4 rX8_which_22 rfl ?_
  skip
  have key : ∀ (r z : Nat) (I2 : Nat → Nat → Int32) (x5 x6 : Value), z + r = 1000 → (∀ a, a ≠ 121 → I2 a = I1 a) → V (d + 2) 123 123 mX8_which 24 [.ref 103, .int x, .int (nI (whC (fun z => hbF A (gD (rD m z)) f) z)), .int (whF (fun z => hbF A (gD (rD m z)) f) z), .int (nI z), x5, x6] [] (I2, J, vRR ρ) (Ki k) := by
    intro r
    induction r with
    | zero =>
      intro z I2 x5 x6 he g
      have he : z = 1000 := by omega
      have hfin := hk I2 (fun a ha => by rw [g a (by omega)]; exact e1 a (by omega)) (InvM_same hM1 (fun a _ _ _ h _ => g a h) (fun q _ => by rw [g 103 (by decide)]))
      rw [← he] at hfin
      rcases hx with rfl | rfl
      · rw [if_neg (by decide)] at hfin
        refine st_iload rX8_which_24 rfl ?_
        refine st_c rX8_which_26 ?_
        first | with_reducible refine st_icmp_geN rX8_which_29 (by omega) (by omega) (fun _ => ?_) (fun h => absurd h (by first | decide | omega | (simp; done) | simp_all)) | refine st_icmp_ge rX8_which_29 (fun _ => ?_) (fun h => absurd h (by first | decide | omega | (simp; done) | simp_all))
        refine st_iload rX8_which_135 rfl ?_
        first | with_reducible refine st_if_neN rX8_which_136 (by omega) (fun h => absurd h (by first | decide | omega | (simp; done) | simp_all)) (fun _ => ?_) | refine st_if_ne rX8_which_136 (fun h => absurd h (by first | decide | omega | (simp; done) | simp_all)) (fun _ => ?_)
        refine st_iload rX8_which_139 rfl ?_
        refine st_goto rX8_which_140 ?_
        refine st_iret rX8_which_144 rfl ?_
        exact hfin
      · rw [if_pos rfl] at hfin
        refine st_iload rX8_which_24 rfl ?_
        refine st_c rX8_which_26 ?_
        first | with_reducible refine st_icmp_geN rX8_which_29 (by omega) (by omega) (fun _ => ?_) (fun h => absurd h (by first | decide | omega | (simp; done) | simp_all)) | refine st_icmp_ge rX8_which_29 (fun _ => ?_) (fun h => absurd h (by first | decide | omega | (simp; done) | simp_all))
        refine st_iload rX8_which_135 rfl ?_
        first | with_reducible refine st_if_neN rX8_which_136 (by omega) (fun _ => ?_) (fun h => absurd h (by first | decide | omega | (simp; done) | simp_all)) | refine st_if_ne rX8_which_136 (fun _ => ?_) (fun h => absurd h (by first | decide | omega | (simp; done) | simp_all))
        refine st_iload rX8_which_143 rfl ?_
        refine st_iret rX8_which_144 rfl ?_
        exact hfin
    | succ r ih =>
      intro z I2 x5 x6 he g
      have hz : z < 1000 := by omega
      have hc := whC_le (fun z => hbF A (gD (rD m z)) f) z
      refine st_iload rX8_which_24 rfl ?_
      refine st_c rX8_which_26 ?_
      first | with_reducible refine st_icmp_geN rX8_which_29 (by omega) (by omega) (fun h => absurd h (by first | decide | omega | (simp; done) | simp_all)) (fun _ => ?_) | refine st_icmp_ge rX8_which_29 (fun h => absurd h (by first | decide | omega | (simp; done) | simp_all)) (fun _ => ?_)
      refine st_aload rX8_which_32 rfl ?_
      refine st_iload rX8_which_33 rfl ?_
      refine cV2v rX8_which_35 (by first | assumption | decide | exact ⟨by decide, rfl, by decide⟩) (s_draws (show I2 105 0 = nI m by rw [g 105 (by decide)]; exact hmm) hm6 (by omega) (fun I3 g3 p1 => ?_)) rfl (by decide)
      refine st_c rX8_which_38 ?_
      refine st_istore5 rX8_which_39 rfl ?_
      refine st_c rX8_which_41 ?_
      refine st_istore6 rX8_which_42 rfl ?_
      skip
      have gg : ∀ a, a ≠ 121 → I3 a = I1 a := fun a h => by rw [g3 a h, g a h]
      have q3 : I3 103 26 = nI f := by rw [gg 103 (by decide)]; exact m15.trans f2
      have loop : ∀ (r e : Nat), e + r = f → V (d + 2) 123 123 mX8_which 44 [.ref 103, .int x, .int (nI (whC (fun z => hbF A (gD (rD m z)) f) z)), .int (whF (fun z => hbF A (gD (rD m z)) f) z), .int (nI z), .int (vb (hbF A (gD (rD m z)) e)), .int (nI e)] [] (I3, J, vRR ρ) (Ki k) := by
        intro r
        induction r with
        | zero =>
          intro e hef
          have hef : e = f := by omega
          subst hef
          have hn := ih (z + 1) I3 (.int (vb (hbF A (gD (rD m z)) e))) (.int (nI e)) (by omega) gg
          simp only [whC, whF] at hn
          cases hb : hbF A (gD (rD m z)) e with
          | false =>
            simp only [hb, Bool.false_eq_true, if_false, false_and, Nat.add_zero] at hn
            refine st_iload rX8_which_44 rfl ?_
            refine st_aload rX8_which_46 rfl ?_
            refine st_getI rX8_which_47 (by first | assumption | decide | exact ⟨by decide, rfl, by decide⟩) rfl ?_
            refine st_top q3 ?_
            first | with_reducible refine st_icmp_geN rX8_which_50 (by omega) (by omega) (fun _ => ?_) (fun h => absurd h (by first | decide | omega | (simp; done) | simp_all)) | refine st_icmp_ge rX8_which_50 (fun _ => ?_) (fun h => absurd h (by first | decide | omega | (simp; done) | simp_all))
            refine st_iload rX8_which_100 rfl ?_
            first | with_reducible refine st_if_eqN rX8_which_102 (by omega) (fun _ => ?_) (fun h => absurd h (by first | decide | omega | (simp; done) | simp_all)) | refine st_if_eq rX8_which_102 (fun _ => ?_) (fun h => absurd h (by first | decide | omega | (simp; done) | simp_all))
            refine st_iload rX8_which_114 rfl ?_
            refine st_istore3 rX8_which_115 rfl ?_
            refine st_iload rX8_which_116 rfl ?_
            refine st_iload rX8_which_117 rfl ?_
            first | with_reducible refine st_if_eqN rX8_which_119 (by omega) (fun _ => ?_) (fun h => absurd h (by first | decide | omega | (simp; done) | simp_all)) | refine st_if_eq rX8_which_119 (fun _ => ?_) (fun h => absurd h (by first | decide | omega | (simp; done) | simp_all))
            refine st_c rX8_which_126 ?_
            first | with_reducible refine st_iaddN rX8_which_127 ?_ | refine st_iadd rX8_which_127 ?_
            refine st_istore2 rX8_which_128 rfl ?_
            first | with_reducible refine st_iincN4 rX8_which_129 rfl ?_ | refine st_iinc4 rX8_which_129 rfl ?_
            refine st_goto rX8_which_132 ?_
            exact hn
          | true =>
            simp only [hb, if_true, true_and] at hn
            by_cases hw : whC (fun z => hbF A (gD (rD m z)) e) z = 0
            · rw [if_pos hw] at hn
              refine st_iload rX8_which_44 rfl ?_
              refine st_aload rX8_which_46 rfl ?_
              refine st_getI rX8_which_47 (by first | assumption | decide | exact ⟨by decide, rfl, by decide⟩) rfl ?_
              refine st_top q3 ?_
              first | with_reducible refine st_icmp_geN rX8_which_50 (by omega) (by omega) (fun _ => ?_) (fun h => absurd h (by first | decide | omega | (simp; done) | simp_all)) | refine st_icmp_ge rX8_which_50 (fun _ => ?_) (fun h => absurd h (by first | decide | omega | (simp; done) | simp_all))
              refine st_iload rX8_which_100 rfl ?_
              first | with_reducible refine st_if_eqN rX8_which_102 (by omega) (fun h => absurd h (by first | decide | omega | (simp; done) | simp_all)) (fun _ => ?_) | refine st_if_eq rX8_which_102 (fun h => absurd h (by first | decide | omega | (simp; done) | simp_all)) (fun _ => ?_)
              refine st_iload rX8_which_105 rfl ?_
              first | with_reducible refine st_if_neN rX8_which_106 (by omega) (fun h => absurd h (by first | decide | omega | (simp; done) | simp_all)) (fun _ => ?_) | refine st_if_ne rX8_which_106 (fun h => absurd h (by first | decide | omega | (simp; done) | simp_all)) (fun _ => ?_)
              refine st_iload rX8_which_109 rfl ?_
              refine st_goto rX8_which_111 ?_
              refine st_istore3 rX8_which_115 rfl ?_
              refine st_iload rX8_which_116 rfl ?_
              refine st_iload rX8_which_117 rfl ?_
              first | with_reducible refine st_if_eqN rX8_which_119 (by omega) (fun h => absurd h (by first | decide | omega | (simp; done) | simp_all)) (fun _ => ?_) | refine st_if_eq rX8_which_119 (fun h => absurd h (by first | decide | omega | (simp; done) | simp_all)) (fun _ => ?_)
              refine st_c rX8_which_122 ?_
              refine st_goto rX8_which_123 ?_
              first | with_reducible refine st_iaddN rX8_which_127 ?_ | refine st_iadd rX8_which_127 ?_
              refine st_istore2 rX8_which_128 rfl ?_
              first | with_reducible refine st_iincN4 rX8_which_129 rfl ?_ | refine st_iinc4 rX8_which_129 rfl ?_
              refine st_goto rX8_which_132 ?_
              exact hn
            · rw [if_neg hw] at hn
              refine st_iload rX8_which_44 rfl ?_
              refine st_aload rX8_which_46 rfl ?_
              refine st_getI rX8_which_47 (by first | assumption | decide | exact ⟨by decide, rfl, by decide⟩) rfl ?_
              refine st_top q3 ?_
              first | with_reducible refine st_icmp_geN rX8_which_50 (by omega) (by omega) (fun _ => ?_) (fun h => absurd h (by first | decide | omega | (simp; done) | simp_all)) | refine st_icmp_ge rX8_which_50 (fun _ => ?_) (fun h => absurd h (by first | decide | omega | (simp; done) | simp_all))
              refine st_iload rX8_which_100 rfl ?_
              first | with_reducible refine st_if_eqN rX8_which_102 (by omega) (fun h => absurd h (by first | decide | omega | (simp; done) | simp_all)) (fun _ => ?_) | refine st_if_eq rX8_which_102 (fun h => absurd h (by first | decide | omega | (simp; done) | simp_all)) (fun _ => ?_)
              refine st_iload rX8_which_105 rfl ?_
              first | with_reducible refine st_if_neN rX8_which_106 (by omega) (fun _ => ?_) (fun h => absurd h (by first | decide | omega | (simp; done) | simp_all)) | refine st_if_ne rX8_which_106 (fun _ => ?_) (fun h => absurd h (by first | decide | omega | (simp; done) | simp_all))
              refine st_iload rX8_which_114 rfl ?_
              refine st_istore3 rX8_which_115 rfl ?_
              refine st_iload rX8_which_116 rfl ?_
              refine st_iload rX8_which_117 rfl ?_
              first | with_reducible refine st_if_eqN rX8_which_119 (by omega) (fun h => absurd h (by first | decide | omega | (simp; done) | simp_all)) (fun _ => ?_) | refine st_if_eq rX8_which_119 (fun h => absurd h (by first | decide | omega | (simp; done) | simp_all)) (fun _ => ?_)
              refine st_c rX8_which_122 ?_
              refine st_goto rX8_which_123 ?_
              first | with_reducible refine st_iaddN rX8_which_127 ?_ | refine st_iadd rX8_which_127 ?_
              refine st_istore2 rX8_which_128 rfl ?_
              first | with_reducible refine st_iincN4 rX8_which_129 rfl ?_ | refine st_iinc4 rX8_which_129 rfl ?_
              refine st_goto rX8_which_132 ?_
              exact hn
        | succ r ih2 =>
          intro e hef
          have hlt : e < f := by omega
          have hn := ih2 (e + 1) (by omega)
          obtain ⟨-, y, hy, a3⟩ := f3 e hlt
          have hgy := hgm z y hy
          have a4 : I3 120 e = nI y := by rw [gg 120 (by decide), m8]; exact a3
          have a5 := p1 y hy
          have a6 : I3 114 (2 + gD (rD m z) y) = A 114 (2 + gD (rD m z) y) := by rw [gg 114 (by decide), m3]
          have a7 : I3 119 e = A 119 e := by rw [gg 119 (by decide), m7]
          cases hb : hbF A (gD (rD m z)) e with
          | false =>
            rw [show hbF A (gD (rD m z)) (e + 1) = false from hbF_n hb 1] at hn
            refine st_iload rX8_which_44 rfl ?_
            refine st_aload rX8_which_46 rfl ?_
            refine st_getI rX8_which_47 (by first | assumption | decide | exact ⟨by decide, rfl, by decide⟩) rfl ?_
            refine st_top q3 ?_
            first | with_reducible refine st_icmp_geN rX8_which_50 (by omega) (by omega) (fun h => absurd h (by first | decide | omega | (simp; done) | simp_all)) (fun _ => ?_) | refine st_icmp_ge rX8_which_50 (fun h => absurd h (by first | decide | omega | (simp; done) | simp_all)) (fun _ => ?_)
            refine st_iload rX8_which_53 rfl ?_
            first | with_reducible refine st_if_eqN rX8_which_55 (by omega) (fun _ => ?_) (fun h => absurd h (by first | decide | omega | (simp; done) | simp_all)) | refine st_if_eq rX8_which_55 (fun _ => ?_) (fun h => absurd h (by first | decide | omega | (simp; done) | simp_all))
            refine st_c rX8_which_91 ?_
            refine st_istore5 rX8_which_92 rfl ?_
            first | with_reducible refine st_iincN6 rX8_which_94 rfl ?_ | refine st_iinc6 rX8_which_94 rfl ?_
            refine st_goto rX8_which_97 ?_
            exact hn
          | true =>
            have hs1 : hbF A (gD (rD m z)) (e + 1) = decide (A 114 (2 + gD (rD m z) y) = A 119 e) := by simp only [hbF, hb, Bool.true_and, a3, nI_clamp (show y < 2147483648 by omega)]
            rw [hs1] at hn
            refine st_iload rX8_which_44 rfl ?_
            refine st_aload rX8_which_46 rfl ?_
            refine st_getI rX8_which_47 (by first | assumption | decide | exact ⟨by decide, rfl, by decide⟩) rfl ?_
            refine st_top q3 ?_
            first | with_reducible refine st_icmp_geN rX8_which_50 (by omega) (by omega) (fun h => absurd h (by first | decide | omega | (simp; done) | simp_all)) (fun _ => ?_) | refine st_icmp_ge rX8_which_50 (fun h => absurd h (by first | decide | omega | (simp; done) | simp_all)) (fun _ => ?_)
            refine st_iload rX8_which_53 rfl ?_
            first | with_reducible refine st_if_eqN rX8_which_55 (by omega) (fun h => absurd h (by first | decide | omega | (simp; done) | simp_all)) (fun _ => ?_) | refine st_if_eq rX8_which_55 (fun h => absurd h (by first | decide | omega | (simp; done) | simp_all)) (fun _ => ?_)
            refine st_aload rX8_which_58 rfl ?_
            refine st_getR rX8_which_59 (by first | assumption | decide | exact ⟨by decide, rfl, by decide⟩) (by first | rfl | assumption) rfl ?_
            refine st_c rX8_which_62 ?_
            refine st_aload rX8_which_63 rfl ?_
            refine st_getR rX8_which_64 (by first | assumption | decide | exact ⟨by decide, rfl, by decide⟩) (by first | rfl | assumption) rfl ?_
            refine st_aload rX8_which_67 rfl ?_
            refine st_getR rX8_which_68 (by first | assumption | decide | exact ⟨by decide, rfl, by decide⟩) (by first | rfl | assumption) rfl ?_
            refine st_iload rX8_which_71 rfl ?_
            refine st_ialdN rX8_which_73 (by first | assumption | decide | exact ⟨by decide, rfl, by decide⟩) (by omega) ?_
            refine st_top a4 ?_
            refine st_ialdN rX8_which_74 (by first | assumption | decide | exact ⟨by decide, rfl, by decide⟩) (by omega) ?_
            refine st_top a5 ?_
            first | with_reducible refine st_iaddN rX8_which_75 ?_ | refine st_iadd rX8_which_75 ?_
            refine st_ialdN rX8_which_76 (by first | assumption | decide | exact ⟨by decide, rfl, by decide⟩) (by omega) ?_
            refine st_top a6 ?_
            refine st_aload rX8_which_77 rfl ?_
            refine st_getR rX8_which_78 (by first | assumption | decide | exact ⟨by decide, rfl, by decide⟩) (by first | rfl | assumption) rfl ?_
            refine st_iload rX8_which_81 rfl ?_
            refine st_ialdN rX8_which_83 (by first | assumption | decide | exact ⟨by decide, rfl, by decide⟩) (by omega) ?_
            skip
            refine st_top a7 ?_
            refine st_icmp_ne rX8_which_84 (fun h84 => ?_) (fun h84 => ?_)
            · rw [decide_eq_false h84] at hn
              refine st_c rX8_which_91 ?_
              refine st_istore5 rX8_which_92 rfl ?_
              first | with_reducible refine st_iincN6 rX8_which_94 rfl ?_ | refine st_iinc6 rX8_which_94 rfl ?_
              refine st_goto rX8_which_97 ?_
              exact hn
            · rw [decide_eq_true h84] at hn
              refine st_c rX8_which_87 ?_
              refine st_goto rX8_which_88 ?_
              refine st_istore5 rX8_which_92 rfl ?_
              first | with_reducible refine st_iincN6 rX8_which_94 rfl ?_ | refine st_iinc6 rX8_which_94 rfl ?_
              refine st_goto rX8_which_97 ?_
              exact hn
      exact loop f 0 (by omega)
  exact key 1000 0 I1 _ _ (by omega) (fun a _ => rfl)
end P34
