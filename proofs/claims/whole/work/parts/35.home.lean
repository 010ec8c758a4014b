/-! ===== home ===== -/
def bN (A : Nat → Nat → Int32) (t : Nat) : Nat := (A 114 (2 + t)).toNatClampNeg
theorem bN_ok {A : Nat → Nat → Int32} {m no : Nat} (hO : OkA A m no) {t : Nat} (ht : t < m) : A 114 (2 + t) = nI (bN A t) ∧ bN A t < m := by
  obtain ⟨b, c, hp⟩ := hO.2.2.1.1
  have hm6 := hO.1.2.2.1
  have h := hp t ht
  have e : bN A t = b t := by rw [bN, h.1, nI_clamp (by omega)]
  rw [e]
  exact ⟨h.1, h.2.1⟩
def wlk (b : Nat → Nat) : Nat → Nat → Nat → Nat
  | 0, mask, _ => mask
  | f + 1, mask, u => if bt2 mask u = 0 then wlk b f (mask + 2 ^ u) (b u) else mask
theorem wlk_lt {b : Nat → Nat} {m : Nat} (hm : m ≤ 6) (hb : ∀ t, t < m → b t < m) : ∀ f mask u, mask < 2 ^ m → u < m → wlk b f mask u < 2 ^ m := by
  intro f
  induction f with
  | zero => intro mask u h _; exact h
  | succ f ih =>
    intro mask u h hu
    simp only [wlk]
    by_cases h0 : bt2 mask u = 0
    · rw [if_pos h0]; exact ih _ _ (dr2 hm h hu h0).1 (hb u hu)
    · rw [if_neg h0]; exact h
def wkM (b : Nat → Nat) (m : Nat) : Nat → Nat
  | 0 => 0
  | t + 1 => wlk b m (wkM b m t) t
theorem wkM_lt {b : Nat → Nat} {m : Nat} (hm : m ≤ 6) (hb : ∀ t, t < m → b t < m) : ∀ t, t ≤ m → wkM b m t < 2 ^ m := by
  intro t
  induction t with
  | zero => intro _; exact Nat.two_pow_pos m
  | succ t ih => intro h; exact wlk_lt hm hb _ _ _ (ih (by omega)) (by omega)
/-- how many towns were met in an earlier ring -/
def snF (b : Nat → Nat) (m : Nat) : Nat → Nat
  | 0 => 0
  | t + 1 => snF b m t + bt2 (wkM b m t) t
theorem bt2_lt (x j : Nat) : bt2 x j < 2 := Nat.mod_lt _ (by decide)
theorem snF_le (b : Nat → Nat) (m : Nat) : ∀ t, snF b m t ≤ t := by
  intro t
  induction t with
  | zero => exact Nat.le_refl _
  | succ t ih => simp only [snF]; have := bt2_lt (wkM b m t) t; omega
noncomputable def posA (A : Nat → Nat → Int32) (m x : Nat) : Nat := @dite _ (∃ p, p < m ∧ A 114 (2 + p) = nI x ∧ ∀ q, q < p → ∃ c, c < 6 ∧ A 114 (2 + q) = nI c ∧ c ≠ x) (Classical.propDecidable _) (fun h => Classical.choose h) (fun _ => 0)
theorem posA_ok {A : Nat → Nat → Int32} {m no x : Nat} (hO : OkA A m no) (hx : x < m) : posA A m x < m ∧ A 114 (2 + posA A m x) = nI x ∧ ∀ q, q < posA A m x → ∃ c, c < 6 ∧ A 114 (2 + q) = nI c ∧ c ≠ x := by
  have h := posP hO.2.2.1.1 hO.1.2.2.1 hx
  rw [posA, dif_pos h]
  exact Classical.choose_spec h
noncomputable def ftF (A : Nat → Nat → Int32) (m : Nat) : Nat → Int32
  | 0 => -9
  | t + 1 => if ftF A m t = -9 ∧ bN A t ≠ t then nI (10 * t + posA A m t) else ftF A m t
theorem ftF_s {A : Nat → Nat → Int32} {m t : Nat} (h : ftF A m t ≠ -9) : ∀ r, ftF A m (t + r) = ftF A m t := by
  intro r
  induction r with
  | zero => rfl
  | succ r ih =>
    rw [show t + (r + 1) = (t + r) + 1 by omega]
    simp only [ftF]
    rw [if_neg (by rw [ih]; exact fun q => h q.1), ih]
theorem lk2 {x : Int32} {a b c : Int} (h : isT 2 x = false) : Op.lookupswitch.offset [(0, a), (1, b)] c x.toInt = c := by
  have := isT_f h
  rw [Op.lookupswitch.offset_cons, if_neg (by omega), Op.lookupswitch.offset_cons, if_neg (by omega), Op.lookupswitch.offset_nil]
section P35
variable {d : Nat} {I A : Nat → Nat → Int32} {J : Nat → Nat → Int64} {ρ m no : Nat} {T : Int64} {k : Int32 → vS → Prop} {kl : Int64 → vS → Prop} {kv : vS → Prop}
set_option maxHeartbeats 4000000 in
set_option maxRecDepth 100000 in
theorem c_homeBad {x : Int32} (hx : isT 2 x = false) (hk : k (-1) (I, J, vRR ρ)) : V d 123 123 mX7_home 0 [.ref 0, .int x] [] (I, J, vRR ρ) (Ki k) := by
  refine st_iload rX7_home_0 rfl ?_
  refine st_lkp (off := 45) (tgt := 46) rX7_home_1 (lk2 hx) (by decide) ?_
  refine st_c rX7_home_46 ?_
  refine st_iret rX7_home_47 rfl ?_
  exact hk
set_option maxHeartbeats 4000000 in
set_option maxRecDepth 100000 in
theorem m_homeBad {x : Int32} (hM : InvM I J A T) (hx : isT 2 x = false) (hk : ∀ I', (∀ a, a < 103 ∨ 123 ≤ a → I' a = I a) → InvM I' J A T → k (-1) (I', J, vRR ρ)) : V (d + 1) 123 123 mX8_home 0 [.ref 103, .int x, vJ, vJ, vJ, vJ, vJ] [] (I, J, vRR ρ) (Ki k) := by
  refine s_thr rX8_home_0 rX8_home_1 rX8_home_2 hM (fun I1 e1 e2 hM1 => ?_)
  refine st_iload rX8_home_5 rfl ?_
  refine st_c rX8_home_6 ?_
  refine st_c rX8_home_7 ?_
  refine cS3i rX8_home_8 (s_in ?_) rfl
  rw [inR_N (by decide), hx]
  first | with_reducible refine st_if_neN rX8_home_11 (by omega) (fun h => absurd h (by first | decide | omega | (simp; done) | simp_all)) (fun _ => ?_) | refine st_if_ne rX8_home_11 (fun h => absurd h (by first | decide | omega | (simp; done) | simp_all)) (fun _ => ?_)
  refine st_c rX8_home_14 ?_
  refine st_iret rX8_home_15 rfl ?_
  exact hk I1 (fun a ha => e1 a (by omega)) hM1
set_option maxHeartbeats 4000000 in
set_option maxRecDepth 100000 in
theorem s_rings (hC : InvC I J ρ A T m no) (hO : OkA A m no) (h : k (nI (m - snF (bN A) m m)) (I, J, vRR ρ)) : V (d + 1) 123 123 mX7_rings 0 [.ref 0, vJ, vJ, vJ, vJ, vJ] [] (I, J, vRR ρ) (Ki k) := by
  obtain ⟨ht0, ht1, ht2, ht3, ht4, ht5, ht6, ht7, ht8, ht9, ht10⟩ := id hC.1
  obtain ⟨hto, o1, o2, o3, o4, o5, o6, o7, o8⟩ := toldF ht0
  have hm6 : m ≤ 6 := hO.1.2.2.1
  have hno6 : no ≤ 6 := hO.1.2.2.2.1
  have hv := hC.2.2.1
  have hh : vHg 22 := ⟨by decide, rfl⟩
  have hb : ∀ t, t < m → I 23 t = nI (bN A t) ∧ bN A t < m := fun t ht => by
    have q := bN_ok hO ht
    exact ⟨(hv.2.2.1 t (by omega)).trans q.1, q.2⟩
  have hb2 : ∀ t, t < m → bN A t < m := fun t ht => (hb t ht).2
  have h64 : 2 ^ m ≤ 64 := Nat.pow_le_pow_right (by decide) hm6
  refine st_c rX7_rings_0 ?_
  refine st_istore1 rX7_rings_1 rfl ?_
  refine st_c rX7_rings_2 ?_
  refine st_istore2 rX7_rings_3 rfl ?_
  refine st_c rX7_rings_4 ?_
  refine st_istore3 rX7_rings_5 rfl ?_
  skip
  have key : ∀ (r t : Nat) (x4 x5 : Value), t + r = m → V (d + 1) 123 123 mX7_rings 6 [.ref 0, .int (nI (wkM (bN A) m t)), .int (nI (t - snF (bN A) m t)), .int (nI t), x4, x5] [] (I, J, vRR ρ) (Ki k) := by
    intro r
    induction r with
    | zero =>
      intro t x4 x5 he
      have he : t = m := by omega
      subst he
      refine st_iload rX7_rings_6 rfl ?_
      refine st_aload rX7_rings_7 rfl ?_
      refine st_getR rX7_rings_8 (by first | assumption | decide | exact ⟨by decide, rfl, by decide⟩) (by first | rfl | assumption) rfl ?_
      refine st_getI rX7_rings_11 (by first | assumption | decide | exact ⟨by decide, rfl, by decide⟩) rfl ?_
      refine st_top ht1 ?_
      first | with_reducible refine st_icmp_geN rX7_rings_14 (by omega) (by omega) (fun _ => ?_) (fun h => absurd h (by first | decide | omega | (simp; done) | simp_all)) | refine st_icmp_ge rX7_rings_14 (fun _ => ?_) (fun h => absurd h (by first | decide | omega | (simp; done) | simp_all))
      refine st_iload rX7_rings_88 rfl ?_
      refine st_iret rX7_rings_89 rfl ?_
      exact h
    | succ r ih =>
      intro t x4 x5 he
      have htm : t < m := by omega
      have hk64 := wkM_lt hm6 hb2 t (by omega)
      have hs := snF_le (bN A) m t
      have hbit : (nI (wkM (bN A) m t) >>> (nI t &&& 31)) &&& nI 1 = nI (bt2 (wkM (bN A) m t) t) := bitB (by omega) (by omega)
      have inner : ∀ (f s mask u : Nat), s + f = m → mask < 2 ^ m → u < m → wlk (bN A) f mask u = wkM (bN A) m (t + 1) → V (d + 1) 123 123 mX7_rings 34 [.ref 0, .int (nI mask), .int (nI (t + 1 - snF (bN A) m (t + 1))), .int (nI t), .int (nI u), .int (nI s)] [] (I, J, vRR ρ) (Ki k) := by
        intro f
        induction f with
        | zero =>
          intro s mask u hs hmk hu hw
          have hs : s = m := by omega
          subst hs
          simp only [wlk] at hw
          subst hw
          refine st_iload rX7_rings_34 rfl ?_
          refine st_aload rX7_rings_36 rfl ?_
          refine st_getR rX7_rings_37 (by first | assumption | decide | exact ⟨by decide, rfl, by decide⟩) (by first | rfl | assumption) rfl ?_
          refine st_getI rX7_rings_40 (by first | assumption | decide | exact ⟨by decide, rfl, by decide⟩) rfl ?_
          refine st_top ht1 ?_
          first | with_reducible refine st_icmp_geN rX7_rings_43 (by omega) (by omega) (fun _ => ?_) (fun h => absurd h (by first | decide | omega | (simp; done) | simp_all)) | refine st_icmp_ge rX7_rings_43 (fun _ => ?_) (fun h => absurd h (by first | decide | omega | (simp; done) | simp_all))
          first | with_reducible refine st_iincN3 rX7_rings_82 rfl ?_ | refine st_iinc3 rX7_rings_82 rfl ?_
          refine st_goto rX7_rings_85 ?_
          exact ih (t + 1) _ _ (by omega)
        | succ f ih2 =>
          intro s mask u hs hmk hu hw
          simp only [wlk] at hw
          have hbt : (nI mask >>> (nI u &&& 31)) &&& nI 1 = nI (bt2 mask u) := bitB (by omega) (by omega)
          by_cases h0 : bt2 mask u = 0
          · rw [if_pos h0] at hw
            have hor := orB (t := u) (x := mask) (by omega) (by omega) h0
            refine st_iload rX7_rings_34 rfl ?_
            refine st_aload rX7_rings_36 rfl ?_
            refine st_getR rX7_rings_37 (by first | assumption | decide | exact ⟨by decide, rfl, by decide⟩) (by first | rfl | assumption) rfl ?_
            refine st_getI rX7_rings_40 (by first | assumption | decide | exact ⟨by decide, rfl, by decide⟩) rfl ?_
            refine st_top ht1 ?_
            first | with_reducible refine st_icmp_geN rX7_rings_43 (by omega) (by omega) (fun h => absurd h (by first | decide | omega | (simp; done) | simp_all)) (fun _ => ?_) | refine st_icmp_ge rX7_rings_43 (fun h => absurd h (by first | decide | omega | (simp; done) | simp_all)) (fun _ => ?_)
            refine st_iload rX7_rings_46 rfl ?_
            refine st_iload rX7_rings_47 rfl ?_
            refine st_ishr rX7_rings_49 ?_
            refine st_c rX7_rings_50 ?_
            refine st_iand rX7_rings_51 ?_
            refine st_top (hbt.trans (congrArg nI h0)) ?_
            first | with_reducible refine st_if_neN rX7_rings_52 (by omega) (fun h => absurd h (by first | decide | omega | (simp; done) | simp_all)) (fun _ => ?_) | refine st_if_ne rX7_rings_52 (fun h => absurd h (by first | decide | omega | (simp; done) | simp_all)) (fun _ => ?_)
            refine st_iload rX7_rings_55 rfl ?_
            refine st_c rX7_rings_56 ?_
            refine st_iload rX7_rings_57 rfl ?_
            refine st_ishl rX7_rings_59 ?_
            refine st_ior rX7_rings_60 ?_
            refine st_top hor ?_
            refine st_istore1 rX7_rings_61 rfl ?_
            refine st_aload rX7_rings_62 rfl ?_
            refine st_getR rX7_rings_63 (by first | assumption | decide | exact ⟨by decide, rfl, by decide⟩) (by first | rfl | assumption) rfl ?_
            refine st_getR rX7_rings_66 (by first | assumption | decide) (by first | rfl | exact hR2 (by assumption)) rfl ?_
            refine st_iload rX7_rings_69 rfl ?_
            refine cS2i rX7_rings_71 (s_at (by first | assumption | decide | exact ⟨by decide, rfl, by decide⟩) (by omega) ?_) rfl
            refine st_top (hb u hu).1 ?_
            refine st_istore4 rX7_rings_74 rfl ?_
            first | with_reducible refine st_iincN5 rX7_rings_76 rfl ?_ | refine st_iinc5 rX7_rings_76 rfl ?_
            refine st_goto rX7_rings_79 ?_
            exact ih2 (s + 1) _ _ (by omega) (dr2 hm6 hmk hu h0).1 (hb2 u hu) hw
          · rw [if_neg h0] at hw
            have h1 : bt2 mask u = 1 := by have := bt2_lt mask u; omega
            subst hw
            refine st_iload rX7_rings_34 rfl ?_
            refine st_aload rX7_rings_36 rfl ?_
            refine st_getR rX7_rings_37 (by first | assumption | decide | exact ⟨by decide, rfl, by decide⟩) (by first | rfl | assumption) rfl ?_
            refine st_getI rX7_rings_40 (by first | assumption | decide | exact ⟨by decide, rfl, by decide⟩) rfl ?_
            refine st_top ht1 ?_
            first | with_reducible refine st_icmp_geN rX7_rings_43 (by omega) (by omega) (fun h => absurd h (by first | decide | omega | (simp; done) | simp_all)) (fun _ => ?_) | refine st_icmp_ge rX7_rings_43 (fun h => absurd h (by first | decide | omega | (simp; done) | simp_all)) (fun _ => ?_)
            refine st_iload rX7_rings_46 rfl ?_
            refine st_iload rX7_rings_47 rfl ?_
            refine st_ishr rX7_rings_49 ?_
            refine st_c rX7_rings_50 ?_
            refine st_iand rX7_rings_51 ?_
            refine st_top (hbt.trans (congrArg nI h1)) ?_
            first | with_reducible refine st_if_neN rX7_rings_52 (by omega) (fun _ => ?_) (fun h => absurd h (by first | decide | omega | (simp; done) | simp_all)) | refine st_if_ne rX7_rings_52 (fun _ => ?_) (fun h => absurd h (by first | decide | omega | (simp; done) | simp_all))
            first | with_reducible refine st_iincN3 rX7_rings_82 rfl ?_ | refine st_iinc3 rX7_rings_82 rfl ?_
            refine st_goto rX7_rings_85 ?_
            exact ih (t + 1) _ _ (by omega)
      have hgo := inner m 0 (wkM (bN A) m t) t (by omega) hk64 htm rfl
      simp only [snF] at hgo
      by_cases h0 : bt2 (wkM (bN A) m t) t = 0
      · rw [h0, show t + 1 - (snF (bN A) m t + 0) = t - snF (bN A) m t + 1 by omega] at hgo
        refine st_iload rX7_rings_6 rfl ?_
        refine st_aload rX7_rings_7 rfl ?_
        refine st_getR rX7_rings_8 (by first | assumption | decide | exact ⟨by decide, rfl, by decide⟩) (by first | rfl | assumption) rfl ?_
        refine st_getI rX7_rings_11 (by first | assumption | decide | exact ⟨by decide, rfl, by decide⟩) rfl ?_
        refine st_top ht1 ?_
        first | with_reducible refine st_icmp_geN rX7_rings_14 (by omega) (by omega) (fun h => absurd h (by first | decide | omega | (simp; done) | simp_all)) (fun _ => ?_) | refine st_icmp_ge rX7_rings_14 (fun h => absurd h (by first | decide | omega | (simp; done) | simp_all)) (fun _ => ?_)
        refine st_iload rX7_rings_17 rfl ?_
        refine st_iload rX7_rings_18 rfl ?_
        refine st_ishr rX7_rings_19 ?_
        refine st_c rX7_rings_20 ?_
        refine st_iand rX7_rings_21 ?_
        refine st_top (hbit.trans (congrArg nI h0)) ?_
        first | with_reducible refine st_if_neN rX7_rings_22 (by omega) (fun h => absurd h (by first | decide | omega | (simp; done) | simp_all)) (fun _ => ?_) | refine st_if_ne rX7_rings_22 (fun h => absurd h (by first | decide | omega | (simp; done) | simp_all)) (fun _ => ?_)
        first | with_reducible refine st_iincN2 rX7_rings_25 rfl ?_ | refine st_iinc2 rX7_rings_25 rfl ?_
        refine st_iload rX7_rings_28 rfl ?_
        refine st_istore4 rX7_rings_29 rfl ?_
        refine st_c rX7_rings_31 ?_
        refine st_istore5 rX7_rings_32 rfl ?_
        exact hgo
      · have h1 : bt2 (wkM (bN A) m t) t = 1 := by have := bt2_lt (wkM (bN A) m t) t; omega
        rw [h1, show t + 1 - (snF (bN A) m t + 1) = t - snF (bN A) m t by omega] at hgo
        refine st_iload rX7_rings_6 rfl ?_
        refine st_aload rX7_rings_7 rfl ?_
        refine st_getR rX7_rings_8 (by first | assumption | decide | exact ⟨by decide, rfl, by decide⟩) (by first | rfl | assumption) rfl ?_
        refine st_getI rX7_rings_11 (by first | assumption | decide | exact ⟨by decide, rfl, by decide⟩) rfl ?_
        refine st_top ht1 ?_
        first | with_reducible refine st_icmp_geN rX7_rings_14 (by omega) (by omega) (fun h => absurd h (by first | decide | omega | (simp; done) | simp_all)) (fun _ => ?_) | refine st_icmp_ge rX7_rings_14 (fun h => absurd h (by first | decide | omega | (simp; done) | simp_all)) (fun _ => ?_)
        refine st_iload rX7_rings_17 rfl ?_
        refine st_iload rX7_rings_18 rfl ?_
        refine st_ishr rX7_rings_19 ?_
        refine st_c rX7_rings_20 ?_
        refine st_iand rX7_rings_21 ?_
        refine st_top (hbit.trans (congrArg nI h1)) ?_
        first | with_reducible refine st_if_neN rX7_rings_22 (by omega) (fun _ => ?_) (fun h => absurd h (by first | decide | omega | (simp; done) | simp_all)) | refine st_if_ne rX7_rings_22 (fun _ => ?_) (fun h => absurd h (by first | decide | omega | (simp; done) | simp_all))
        refine st_iload rX7_rings_28 rfl ?_
        refine st_istore4 rX7_rings_29 rfl ?_
        refine st_c rX7_rings_31 ?_
        refine st_istore5 rX7_rings_32 rfl ?_
        exact hgo
  exact key m 0 _ _ (by omega)
set_option maxHeartbeats 4000000 in
set_option maxRecDepth 100000 in
theorem s_firstTrade (hC : InvC I J ρ A T m no) (hO : OkA A m no) (h : k (ftF A m m) (I, J, vRR ρ)) : V (d + 1) 123 123 mX7_firstTradeHome 0 [.ref 0, vJ] [] (I, J, vRR ρ) (Ki k) := by
  obtain ⟨ht0, ht1, ht2, ht3, ht4, ht5, ht6, ht7, ht8, ht9, ht10⟩ := id hC.1
  obtain ⟨hto, o1, o2, o3, o4, o5, o6, o7, o8⟩ := toldF ht0
  have hm6 : m ≤ 6 := hO.1.2.2.1
  have hno6 : no ≤ 6 := hO.1.2.2.2.1
  have hv := hC.2.2.1
  have hh : vHg 22 := ⟨by decide, rfl⟩
  refine st_c rX7_firstTradeHome_0 ?_
  refine st_istore1 rX7_firstTradeHome_1 rfl ?_
  skip
  have key : ∀ (r t : Nat), t + r = m → ftF A m t = -9 → V (d + 1) 123 123 mX7_firstTradeHome 2 [.ref 0, .int (nI t)] [] (I, J, vRR ρ) (Ki k) := by
    intro r
    induction r with
    | zero =>
      intro t he hf
      have he : t = m := by omega
      subst he
      rw [hf] at h
      refine st_iload rX7_firstTradeHome_2 rfl ?_
      refine st_aload rX7_firstTradeHome_3 rfl ?_
      refine st_getR rX7_firstTradeHome_4 (by first | assumption | decide | exact ⟨by decide, rfl, by decide⟩) (by first | rfl | assumption) rfl ?_
      refine st_getI rX7_firstTradeHome_7 (by first | assumption | decide | exact ⟨by decide, rfl, by decide⟩) rfl ?_
      refine st_top ht1 ?_
      first | with_reducible refine st_icmp_geN rX7_firstTradeHome_10 (by omega) (by omega) (fun _ => ?_) (fun h => absurd h (by first | decide | omega | (simp; done) | simp_all)) | refine st_icmp_ge rX7_firstTradeHome_10 (fun _ => ?_) (fun h => absurd h (by first | decide | omega | (simp; done) | simp_all))
      refine st_c rX7_firstTradeHome_48 ?_
      refine st_iret rX7_firstTradeHome_50 rfl ?_
      exact h
    | succ r ih =>
      intro t he hf
      have htm : t < m := by omega
      have hb := bN_ok hO htm
      obtain ⟨p1, p2, p3⟩ := posA_ok hO htm
      by_cases hbt : bN A t = t
      · have hn := ih (t + 1) (by omega) (by simp only [ftF]; rw [if_neg (fun q => q.2 hbt)]; exact hf)
        refine st_iload rX7_firstTradeHome_2 rfl ?_
        refine st_aload rX7_firstTradeHome_3 rfl ?_
        refine st_getR rX7_firstTradeHome_4 (by first | assumption | decide | exact ⟨by decide, rfl, by decide⟩) (by first | rfl | assumption) rfl ?_
        refine st_getI rX7_firstTradeHome_7 (by first | assumption | decide | exact ⟨by decide, rfl, by decide⟩) rfl ?_
        refine st_top ht1 ?_
        first | with_reducible refine st_icmp_geN rX7_firstTradeHome_10 (by omega) (by omega) (fun h => absurd h (by first | decide | omega | (simp; done) | simp_all)) (fun _ => ?_) | refine st_icmp_ge rX7_firstTradeHome_10 (fun h => absurd h (by first | decide | omega | (simp; done) | simp_all)) (fun _ => ?_)
        refine st_aload rX7_firstTradeHome_13 rfl ?_
        refine st_getR rX7_firstTradeHome_14 (by first | assumption | decide | exact ⟨by decide, rfl, by decide⟩) (by first | rfl | assumption) rfl ?_
        refine st_getR rX7_firstTradeHome_17 (by first | assumption | decide) (by first | rfl | exact hR2 (by assumption)) rfl ?_
        refine st_iload rX7_firstTradeHome_20 rfl ?_
        refine cS2i rX7_firstTradeHome_21 (s_at (by first | assumption | decide | exact ⟨by decide, rfl, by decide⟩) (by omega) ?_) rfl
        refine st_top ((hv.2.2.1 t (by omega)).trans hb.1) ?_
        refine st_iload rX7_firstTradeHome_24 rfl ?_
        first | with_reducible refine st_icmp_eqN rX7_firstTradeHome_25 (by omega) (by omega) (fun _ => ?_) (fun h => absurd h (by first | decide | omega | (simp; done) | simp_all)) | refine st_icmp_eq rX7_firstTradeHome_25 (fun _ => ?_) (fun h => absurd h (by first | decide | omega | (simp; done) | simp_all))
        first | with_reducible refine st_iincN1 rX7_firstTradeHome_42 rfl ?_ | refine st_iinc1 rX7_firstTradeHome_42 rfl ?_
        refine st_goto rX7_firstTradeHome_45 ?_
        exact hn
      · have e1 : ftF A m (t + 1) = nI (10 * t + posA A m t) := by simp only [ftF]; rw [if_pos ⟨hf, hbt⟩]
        rw [show m = (t + 1) + r by omega] at h
        have e2 : ftF A ((t + 1) + r) (t + 1) = nI (10 * t + posA A m t) := by rw [show (t + 1) + r = m by omega]; exact e1
        rw [ftF_s (by rw [e2]; exact nI_m9 (by omega)) r, e2] at h
        refine st_iload rX7_firstTradeHome_2 rfl ?_
        refine st_aload rX7_firstTradeHome_3 rfl ?_
        refine st_getR rX7_firstTradeHome_4 (by first | assumption | decide | exact ⟨by decide, rfl, by decide⟩) (by first | rfl | assumption) rfl ?_
        refine st_getI rX7_firstTradeHome_7 (by first | assumption | decide | exact ⟨by decide, rfl, by decide⟩) rfl ?_
        refine st_top ht1 ?_
        first | with_reducible refine st_icmp_geN rX7_firstTradeHome_10 (by omega) (by omega) (fun h => absurd h (by first | decide | omega | (simp; done) | simp_all)) (fun _ => ?_) | refine st_icmp_ge rX7_firstTradeHome_10 (fun h => absurd h (by first | decide | omega | (simp; done) | simp_all)) (fun _ => ?_)
        refine st_aload rX7_firstTradeHome_13 rfl ?_
        refine st_getR rX7_firstTradeHome_14 (by first | assumption | decide | exact ⟨by decide, rfl, by decide⟩) (by first | rfl | assumption) rfl ?_
        refine st_getR rX7_firstTradeHome_17 (by first | assumption | decide) (by first | rfl | exact hR2 (by assumption)) rfl ?_
        refine st_iload rX7_firstTradeHome_20 rfl ?_
        refine cS2i rX7_firstTradeHome_21 (s_at (by first | assumption | decide | exact ⟨by decide, rfl, by decide⟩) (by omega) ?_) rfl
        refine st_top ((hv.2.2.1 t (by omega)).trans hb.1) ?_
        refine st_iload rX7_firstTradeHome_24 rfl ?_
        first | with_reducible refine st_icmp_eqN rX7_firstTradeHome_25 (by omega) (by omega) (fun h => absurd h (by first | decide | omega | (simp; done) | simp_all)) (fun _ => ?_) | refine st_icmp_eq rX7_firstTradeHome_25 (fun h => absurd h (by first | decide | omega | (simp; done) | simp_all)) (fun _ => ?_)
        refine st_c rX7_firstTradeHome_28 ?_
        refine st_iload rX7_firstTradeHome_30 rfl ?_
        first | with_reducible refine st_imulN rX7_firstTradeHome_31 ?_ | refine st_imul rX7_firstTradeHome_31 ?_
        refine st_aload rX7_firstTradeHome_32 rfl ?_
        refine st_getR rX7_firstTradeHome_33 (by first | assumption | decide | exact ⟨by decide, rfl, by decide⟩) (by first | rfl | assumption) rfl ?_
        refine st_iload rX7_firstTradeHome_36 rfl ?_
        refine cV2i rX7_firstTradeHome_37 (by first | assumption | decide | exact ⟨by decide, rfl, by decide⟩) (s_townOf hh (show posA A m t < 6 by omega) ((hv.2.2.1 _ (by omega)).trans p2) (by omega) (fun q hq => by obtain ⟨c, c1, c2, c3⟩ := p3 q hq; exact ⟨c, c1, (hv.2.2.1 q (by omega)).trans c2, c3⟩) ?_) rfl (by decide)
        first | with_reducible refine st_iaddN rX7_firstTradeHome_40 ?_ | refine st_iadd rX7_firstTradeHome_40 ?_
        refine st_iret rX7_firstTradeHome_41 rfl ?_
        exact h
  exact key m 0 (by omega) rfl
set_option maxHeartbeats 4000000 in
set_option maxRecDepth 100000 in
theorem c_home0 (hC : InvC I J ρ A T m no) (hO : OkA A m no) (hk : ∀ I', (∀ a, 103 ≤ a → I' a = I a) → InvC I' J ρ A T m no → k (nI (snF (bN A) m m)) (I', J, vRR ρ)) : V (d + 2) 123 123 mX7_home 0 [.ref 0, .int (nI 0)] [] (I, J, vRR ρ) (Ki k) := by
  obtain ⟨ht0, ht1, ht2, ht3, ht4, ht5, ht6, ht7, ht8, ht9, ht10⟩ := id hC.1
  obtain ⟨hto, o1, o2, o3, o4, o5, o6, o7, o8⟩ := toldF ht0
  have hm6 : m ≤ 6 := hO.1.2.2.1
  have hno6 : no ≤ 6 := hO.1.2.2.2.1
  have hs := snF_le (bN A) m m
  have hfin := hk I (fun _ _ => rfl) hC
  rw [show snF (bN A) m m = m - (m - snF (bN A) m m) by omega] at hfin
  refine st_iload rX7_home_0 rfl ?_
  refine st_lkp (off := 27) (tgt := 28) rX7_home_1 (by decide) (by decide) ?_
  refine st_aload rX7_home_28 rfl ?_
  refine st_getR rX7_home_29 (by first | assumption | decide | exact ⟨by decide, rfl, by decide⟩) (by first | rfl | assumption) rfl ?_
  refine st_getI rX7_home_32 (by first | assumption | decide | exact ⟨by decide, rfl, by decide⟩) rfl ?_
  refine st_top ht1 ?_
  refine st_aload rX7_home_35 rfl ?_
  refine cV1i rX7_home_36 (by first | assumption | decide | exact ⟨by decide, rfl, by decide⟩) (s_rings hC hO ?_) rfl (by decide)
  first | with_reducible refine st_isubN rX7_home_39 (by omega) ?_ | refine st_isub rX7_home_39 ?_
  refine st_iret rX7_home_40 rfl ?_
  exact hfin
set_option maxHeartbeats 4000000 in
set_option maxRecDepth 100000 in
theorem c_home1 (hC : InvC I J ρ A T m no) (hO : OkA A m no) (hk : ∀ I', (∀ a, 103 ≤ a → I' a = I a) → InvC I' J ρ A T m no → k (ftF A m m) (I', J, vRR ρ)) : V (d + 2) 123 123 mX7_home 0 [.ref 0, .int (nI 1)] [] (I, J, vRR ρ) (Ki k) := by
  refine st_iload rX7_home_0 rfl ?_
  refine st_lkp (off := 40) (tgt := 41) rX7_home_1 (by decide) (by decide) ?_
  refine st_aload rX7_home_41 rfl ?_
  refine cV1i rX7_home_42 (by first | assumption | decide | exact ⟨by decide, rfl, by decide⟩) (s_firstTrade hC hO ?_) rfl (by decide)
  refine st_iret rX7_home_45 rfl ?_
  exact hk I (fun _ _ => rfl) hC
set_option maxHeartbeats 4000000 in
set_option maxRecDepth 100000 in
theorem m_home {x : Int32} (hM : InvM I J A T) (hO : OkA A m no) (hx : x = nI 0 ∨ x = nI 1) (hk : ∀ I', (∀ a, a < 103 ∨ 123 ≤ a → I' a = I a) → InvM I' J A T → k (if x = nI 0 then nI (snF (bN A) m m) else ftF A m m) (I', J, vRR ρ)) : V (d + 2) 123 123 mX8_home 0 [.ref 103, .int x, vJ, vJ, vJ, vJ, vJ] [] (I, J, vRR ρ) (Ki k) := by
  refine s_thr rX8_home_0 rX8_home_1 rX8_home_2 hM (fun I1 e1 e2 hM1 => ?_)
  have hm6 : m ≤ 6 := hO.1.2.2.1
  have hno6 : no ≤ 6 := hO.1.2.2.2.1
  obtain ⟨m1, m2, m3, m4, m5, m6, m7, m8, m9, m10, m11, m12, m13, m14, m15, m16⟩ := id hM1
  have hmm : I1 105 0 = nI m := m11.trans hO.1.1
  have hmo : I1 105 1 = nI no := m12.trans hO.1.2.1
  have hin : isT 2 x = true := by rcases hx with rfl | rfl <;> decide
  have hb : ∀ t, t < m → I1 114 (2 + t) = nI (bN A t) ∧ bN A t < m := fun t ht => by
    have q := bN_ok hO ht
    rw [m3]; exact q
  have hb2 : ∀ t, t < m → bN A t < m := fun t ht => (hb t ht).2
  have h64 : 2 ^ m ≤ 64 := Nat.pow_le_pow_right (by decide) hm6
  refine st_iload rX8_home_5 rfl ?_
  refine st_c rX8_home_6 ?_
  refine st_c rX8_home_7 ?_
  refine cS3i rX8_home_8 (s_in ?_) rfl
  rw [inR_N (by decide), hin]
  first | with_reducible refine st_if_neN rX8_home_11 (by omega) (fun _ => ?_) (fun h => absurd h (by first | decide | omega | (simp; done) | simp_all)) | refine st_if_ne rX8_home_11 (fun _ => ?_) (fun h => absurd h (by first | decide | omega | (simp; done) | simp_all))
  refine st_c rX8_home_16 ?_
  refine st_istore2 rX8_home_17 rfl ?_
  refine st_c rX8_home_18 ?_
  refine st_istore3 rX8_home_19 rfl ?_
  refine st_c rX8_home_20 ?_
  refine st_istore4 rX8_home_22 rfl ?_
  refine st_c rX8_home_24 ?_
  refine st_istore5 rX8_home_25 rfl ?_
  skip
  have key : ∀ (r t : Nat) (x6 : Value), t + r = m → V (d + 2) 123 123 mX8_home 27 [.ref 103, .int x, .int (nI (wkM (bN A) m t)), .int (nI (snF (bN A) m t)), .int (ftF A m t), .int (nI t), x6] [] (I1, J, vRR ρ) (Ki k) := by
    intro r
    induction r with
    | zero =>
      intro t x6 he
      have he : t = m := by omega
      subst he
      have hfin := hk I1 (fun a ha => e1 a (by omega)) hM1
      rcases hx with rfl | rfl
      · rw [if_pos rfl] at hfin
        refine st_iload rX8_home_27 rfl ?_
        refine st_aload rX8_home_29 rfl ?_
        refine st_getR rX8_home_30 (by first | assumption | decide | exact ⟨by decide, rfl, by decide⟩) (by first | rfl | assumption) rfl ?_
        refine st_c rX8_home_33 ?_
        refine st_ialdN rX8_home_34 (by first | assumption | decide | exact ⟨by decide, rfl, by decide⟩) (by omega) ?_
        refine st_top hmm ?_
        first | with_reducible refine st_icmp_geN rX8_home_35 (by omega) (by omega) (fun _ => ?_) (fun h => absurd h (by first | decide | omega | (simp; done) | simp_all)) | refine st_icmp_ge rX8_home_35 (fun _ => ?_) (fun h => absurd h (by first | decide | omega | (simp; done) | simp_all))
        refine st_iload rX8_home_138 rfl ?_
        first | with_reducible refine st_if_neN rX8_home_139 (by omega) (fun h => absurd h (by first | decide | omega | (simp; done) | simp_all)) (fun _ => ?_) | refine st_if_ne rX8_home_139 (fun h => absurd h (by first | decide | omega | (simp; done) | simp_all)) (fun _ => ?_)
        refine st_iload rX8_home_142 rfl ?_
        refine st_goto rX8_home_143 ?_
        refine st_iret rX8_home_148 rfl ?_
        exact hfin
      · rw [if_neg (by decide)] at hfin
        refine st_iload rX8_home_27 rfl ?_
        refine st_aload rX8_home_29 rfl ?_
        refine st_getR rX8_home_30 (by first | assumption | decide | exact ⟨by decide, rfl, by decide⟩) (by first | rfl | assumption) rfl ?_
        refine st_c rX8_home_33 ?_
        refine st_ialdN rX8_home_34 (by first | assumption | decide | exact ⟨by decide, rfl, by decide⟩) (by omega) ?_
        refine st_top hmm ?_
        first | with_reducible refine st_icmp_geN rX8_home_35 (by omega) (by omega) (fun _ => ?_) (fun h => absurd h (by first | decide | omega | (simp; done) | simp_all)) | refine st_icmp_ge rX8_home_35 (fun _ => ?_) (fun h => absurd h (by first | decide | omega | (simp; done) | simp_all))
        refine st_iload rX8_home_138 rfl ?_
        first | with_reducible refine st_if_neN rX8_home_139 (by omega) (fun _ => ?_) (fun h => absurd h (by first | decide | omega | (simp; done) | simp_all)) | refine st_if_ne rX8_home_139 (fun _ => ?_) (fun h => absurd h (by first | decide | omega | (simp; done) | simp_all))
        refine st_iload rX8_home_146 rfl ?_
        refine st_iret rX8_home_148 rfl ?_
        exact hfin
    | succ r ih =>
      intro t x6 he
      have htm : t < m := by omega
      have hk64 := wkM_lt hm6 hb2 t (by omega)
      have hs := snF_le (bN A) m t
      have hbt := hb t htm
      have hbit : (nI (wkM (bN A) m t) >>> (nI t &&& 31)) &&& nI 1 = nI (bt2 (wkM (bN A) m t) t) := bitB (by omega) (by omega)
      obtain ⟨p1, p2, p3⟩ := posA_ok hO htm
      have inner : ∀ (f mask u : Nat), m - popM mask m ≤ f → mask < 2 ^ m → u < m → wlk (bN A) f mask u = wkM (bN A) m (t + 1) → V (d + 2) 123 123 mX8_home 102 [.ref 103, .int x, .int (nI mask), .int (nI (snF (bN A) m (t + 1))), .int (ftF A m (t + 1)), .int (nI t), .int (nI u)] [] (I1, J, vRR ρ) (Ki k) := by
        intro f
        induction f with
        | zero =>
          intro mask u hf hmk hu hw
          have hp6 : popM mask m = m := by
            have h1 : ∀ n, popM mask n ≤ n := fun n => by
              induction n with
              | zero => exact Nat.le_refl _
              | succ n ih => simp only [popM]; have := bt2_lt mask n; omega
            have := h1 m
            omega
          have h1 := dr3 hm6 hmk hp6 hu
          have hbq : (nI mask >>> (nI u &&& 31)) &&& nI 1 = nI (bt2 mask u) := bitB (by omega) (by omega)
          simp only [wlk] at hw
          subst hw
          refine st_iload rX8_home_102 rfl ?_
          refine st_iload rX8_home_103 rfl ?_
          refine st_ishr rX8_home_105 ?_
          refine st_c rX8_home_106 ?_
          refine st_iand rX8_home_107 ?_
          refine st_top (hbq.trans (congrArg nI h1)) ?_
          first | with_reducible refine st_if_neN rX8_home_108 (by omega) (fun _ => ?_) (fun h => absurd h (by first | decide | omega | (simp; done) | simp_all)) | refine st_if_ne rX8_home_108 (fun _ => ?_) (fun h => absurd h (by first | decide | omega | (simp; done) | simp_all))
          first | with_reducible refine st_iincN5 rX8_home_132 rfl ?_ | refine st_iinc5 rX8_home_132 rfl ?_
          refine st_goto rX8_home_135 ?_
          exact ih (t + 1) _ (by omega)
        | succ f ih2 =>
          intro mask u hf hmk hu hw
          simp only [wlk] at hw
          have hbq : (nI mask >>> (nI u &&& 31)) &&& nI 1 = nI (bt2 mask u) := bitB (by omega) (by omega)
          by_cases h0 : bt2 mask u = 0
          · rw [if_pos h0] at hw
            have hor := orB (t := u) (x := mask) (by omega) (by omega) h0
            obtain ⟨d1, d2, -, -⟩ := dr2 hm6 hmk hu h0
            refine st_iload rX8_home_102 rfl ?_
            refine st_iload rX8_home_103 rfl ?_
            refine st_ishr rX8_home_105 ?_
            refine st_c rX8_home_106 ?_
            refine st_iand rX8_home_107 ?_
            refine st_top (hbq.trans (congrArg nI h0)) ?_
            first | with_reducible refine st_if_neN rX8_home_108 (by omega) (fun h => absurd h (by first | decide | omega | (simp; done) | simp_all)) (fun _ => ?_) | refine st_if_ne rX8_home_108 (fun h => absurd h (by first | decide | omega | (simp; done) | simp_all)) (fun _ => ?_)
            refine st_iload rX8_home_111 rfl ?_
            refine st_c rX8_home_112 ?_
            refine st_iload rX8_home_113 rfl ?_
            refine st_ishl rX8_home_115 ?_
            refine st_ior rX8_home_116 ?_
            refine st_top hor ?_
            refine st_istore2 rX8_home_117 rfl ?_
            refine st_aload rX8_home_118 rfl ?_
            refine st_getR rX8_home_119 (by first | assumption | decide | exact ⟨by decide, rfl, by decide⟩) (by first | rfl | assumption) rfl ?_
            refine st_c rX8_home_122 ?_
            refine st_iload rX8_home_123 rfl ?_
            first | with_reducible refine st_iaddN rX8_home_125 ?_ | refine st_iadd rX8_home_125 ?_
            refine st_ialdN rX8_home_126 (by first | assumption | decide | exact ⟨by decide, rfl, by decide⟩) (by omega) ?_
            refine st_top (hb u hu).1 ?_
            refine st_istore6 rX8_home_127 rfl ?_
            refine st_goto rX8_home_129 ?_
            exact ih2 _ _ (by omega) d1 (hb2 u hu) hw
          · rw [if_neg h0] at hw
            have h1 : bt2 mask u = 1 := by have := bt2_lt mask u; omega
            subst hw
            refine st_iload rX8_home_102 rfl ?_
            refine st_iload rX8_home_103 rfl ?_
            refine st_ishr rX8_home_105 ?_
            refine st_c rX8_home_106 ?_
            refine st_iand rX8_home_107 ?_
            refine st_top (hbq.trans (congrArg nI h1)) ?_
            first | with_reducible refine st_if_neN rX8_home_108 (by omega) (fun _ => ?_) (fun h => absurd h (by first | decide | omega | (simp; done) | simp_all)) | refine st_if_ne rX8_home_108 (fun _ => ?_) (fun h => absurd h (by first | decide | omega | (simp; done) | simp_all))
            first | with_reducible refine st_iincN5 rX8_home_132 rfl ?_ | refine st_iinc5 rX8_home_132 rfl ?_
            refine st_goto rX8_home_135 ?_
            exact ih (t + 1) _ (by omega)
      have hgo := inner m (wkM (bN A) m t) t (by omega) hk64 htm rfl
      have tail : V (d + 2) 123 123 mX8_home 81 [.ref 103, .int x, .int (nI (wkM (bN A) m t)), .int (nI (snF (bN A) m t)), .int (ftF A m (t + 1)), .int (nI t), x6] [] (I1, J, vRR ρ) (Ki k) := by
        simp only [snF] at hgo
        by_cases h0 : bt2 (wkM (bN A) m t) t = 0
        · rw [h0] at hgo
          refine st_iload rX8_home_81 rfl ?_
          refine st_iload rX8_home_82 rfl ?_
          refine st_iload rX8_home_83 rfl ?_
          refine st_ishr rX8_home_85 ?_
          refine st_c rX8_home_86 ?_
          refine st_iand rX8_home_87 ?_
          refine st_top (hbit.trans (congrArg nI h0)) ?_
          first | with_reducible refine st_if_neN rX8_home_88 (by omega) (fun h => absurd h (by first | decide | omega | (simp; done) | simp_all)) (fun _ => ?_) | refine st_if_ne rX8_home_88 (fun h => absurd h (by first | decide | omega | (simp; done) | simp_all)) (fun _ => ?_)
          refine st_c rX8_home_91 ?_
          refine st_goto rX8_home_92 ?_
          first | with_reducible refine st_iaddN rX8_home_96 ?_ | refine st_iadd rX8_home_96 ?_
          refine st_istore3 rX8_home_97 rfl ?_
          refine st_iload rX8_home_98 rfl ?_
          refine st_istore6 rX8_home_100 rfl ?_
          exact hgo
        · have h1 : bt2 (wkM (bN A) m t) t = 1 := by have := bt2_lt (wkM (bN A) m t) t; omega
          rw [h1] at hgo
          refine st_iload rX8_home_81 rfl ?_
          refine st_iload rX8_home_82 rfl ?_
          refine st_iload rX8_home_83 rfl ?_
          refine st_ishr rX8_home_85 ?_
          refine st_c rX8_home_86 ?_
          refine st_iand rX8_home_87 ?_
          refine st_top (hbit.trans (congrArg nI h1)) ?_
          first | with_reducible refine st_if_neN rX8_home_88 (by omega) (fun _ => ?_) (fun h => absurd h (by first | decide | omega | (simp; done) | simp_all)) | refine st_if_ne rX8_home_88 (fun _ => ?_) (fun h => absurd h (by first | decide | omega | (simp; done) | simp_all))
          refine st_c rX8_home_95 ?_
          first | with_reducible refine st_iaddN rX8_home_96 ?_ | refine st_iadd rX8_home_96 ?_
          refine st_istore3 rX8_home_97 rfl ?_
          refine st_iload rX8_home_98 rfl ?_
          refine st_istore6 rX8_home_100 rfl ?_
          exact hgo
      simp only [ftF] at tail
      by_cases hf9 : ftF A m t = -9
      · by_cases hbb : bN A t = t
        · rw [if_neg (fun q => q.2 hbb)] at tail
          refine st_iload rX8_home_27 rfl ?_
          refine st_aload rX8_home_29 rfl ?_
          refine st_getR rX8_home_30 (by first | assumption | decide | exact ⟨by decide, rfl, by decide⟩) (by first | rfl | assumption) rfl ?_
          refine st_c rX8_home_33 ?_
          refine st_ialdN rX8_home_34 (by first | assumption | decide | exact ⟨by decide, rfl, by decide⟩) (by omega) ?_
          refine st_top hmm ?_
          first | with_reducible refine st_icmp_geN rX8_home_35 (by omega) (by omega) (fun h => absurd h (by first | decide | omega | (simp; done) | simp_all)) (fun _ => ?_) | refine st_icmp_ge rX8_home_35 (fun h => absurd h (by first | decide | omega | (simp; done) | simp_all)) (fun _ => ?_)
          refine st_iload rX8_home_38 rfl ?_
          refine st_c rX8_home_40 ?_
          refine st_icmp_ne rX8_home_42 (fun h => absurd hf9 h) (fun _ => ?_)
          refine st_aload rX8_home_45 rfl ?_
          refine st_getR rX8_home_46 (by first | assumption | decide | exact ⟨by decide, rfl, by decide⟩) (by first | rfl | assumption) rfl ?_
          refine st_c rX8_home_49 ?_
          refine st_iload rX8_home_50 rfl ?_
          first | with_reducible refine st_iaddN rX8_home_52 ?_ | refine st_iadd rX8_home_52 ?_
          refine st_ialdN rX8_home_53 (by first | assumption | decide | exact ⟨by decide, rfl, by decide⟩) (by omega) ?_
          refine st_top hbt.1 ?_
          refine st_iload rX8_home_54 rfl ?_
          first | with_reducible refine st_icmp_eqN rX8_home_56 (by omega) (by omega) (fun _ => ?_) (fun h => absurd h (by first | decide | omega | (simp; done) | simp_all)) | refine st_icmp_eq rX8_home_56 (fun _ => ?_) (fun h => absurd h (by first | decide | omega | (simp; done) | simp_all))
          refine st_iload rX8_home_77 rfl ?_
          refine st_istore4 rX8_home_79 rfl ?_
          exact tail
        · rw [if_pos ⟨hf9, hbb⟩] at tail
          refine st_iload rX8_home_27 rfl ?_
          refine st_aload rX8_home_29 rfl ?_
          refine st_getR rX8_home_30 (by first | assumption | decide | exact ⟨by decide, rfl, by decide⟩) (by first | rfl | assumption) rfl ?_
          refine st_c rX8_home_33 ?_
          refine st_ialdN rX8_home_34 (by first | assumption | decide | exact ⟨by decide, rfl, by decide⟩) (by omega) ?_
          refine st_top hmm ?_
          first | with_reducible refine st_icmp_geN rX8_home_35 (by omega) (by omega) (fun h => absurd h (by first | decide | omega | (simp; done) | simp_all)) (fun _ => ?_) | refine st_icmp_ge rX8_home_35 (fun h => absurd h (by first | decide | omega | (simp; done) | simp_all)) (fun _ => ?_)
          refine st_iload rX8_home_38 rfl ?_
          refine st_c rX8_home_40 ?_
          refine st_icmp_ne rX8_home_42 (fun h => absurd hf9 h) (fun _ => ?_)
          refine st_aload rX8_home_45 rfl ?_
          refine st_getR rX8_home_46 (by first | assumption | decide | exact ⟨by decide, rfl, by decide⟩) (by first | rfl | assumption) rfl ?_
          refine st_c rX8_home_49 ?_
          refine st_iload rX8_home_50 rfl ?_
          first | with_reducible refine st_iaddN rX8_home_52 ?_ | refine st_iadd rX8_home_52 ?_
          refine st_ialdN rX8_home_53 (by first | assumption | decide | exact ⟨by decide, rfl, by decide⟩) (by omega) ?_
          refine st_top hbt.1 ?_
          refine st_iload rX8_home_54 rfl ?_
          first | with_reducible refine st_icmp_eqN rX8_home_56 (by omega) (by omega) (fun h => absurd h (by first | decide | omega | (simp; done) | simp_all)) (fun _ => ?_) | refine st_icmp_eq rX8_home_56 (fun h => absurd h (by first | decide | omega | (simp; done) | simp_all)) (fun _ => ?_)
          refine st_c rX8_home_59 ?_
          refine st_iload rX8_home_61 rfl ?_
          first | with_reducible refine st_imulN rX8_home_63 ?_ | refine st_imul rX8_home_63 ?_
          refine st_aload rX8_home_64 rfl ?_
          refine st_getR rX8_home_65 (by first | assumption | decide | exact ⟨by decide, rfl, by decide⟩) (by first | rfl | assumption) rfl ?_
          refine st_iload rX8_home_68 rfl ?_
          refine cS2i rX8_home_70 (s_hangs (p := posA A m t) (len := 56) ⟨by decide, rfl, by decide⟩ (by decide) (by omega) (by rw [m3]; exact p2) (by omega) (fun q hq => by rw [m3]; exact p3 q hq) ?_) rfl
          first | with_reducible refine st_iaddN rX8_home_73 ?_ | refine st_iadd rX8_home_73 ?_
          refine st_goto rX8_home_74 ?_
          refine st_istore4 rX8_home_79 rfl ?_
          exact tail
      · rw [if_neg (fun q => hf9 q.1)] at tail
        refine st_iload rX8_home_27 rfl ?_
        refine st_aload rX8_home_29 rfl ?_
        refine st_getR rX8_home_30 (by first | assumption | decide | exact ⟨by decide, rfl, by decide⟩) (by first | rfl | assumption) rfl ?_
        refine st_c rX8_home_33 ?_
        refine st_ialdN rX8_home_34 (by first | assumption | decide | exact ⟨by decide, rfl, by decide⟩) (by omega) ?_
        refine st_top hmm ?_
        first | with_reducible refine st_icmp_geN rX8_home_35 (by omega) (by omega) (fun h => absurd h (by first | decide | omega | (simp; done) | simp_all)) (fun _ => ?_) | refine st_icmp_ge rX8_home_35 (fun h => absurd h (by first | decide | omega | (simp; done) | simp_all)) (fun _ => ?_)
        refine st_iload rX8_home_38 rfl ?_
        refine st_c rX8_home_40 ?_
        refine st_icmp_ne rX8_home_42 (fun _ => ?_) (fun h => absurd h hf9)
        refine st_iload rX8_home_77 rfl ?_
        refine st_istore4 rX8_home_79 rfl ?_
        exact tail
  exact key m 0 _ (by omega)
end P35
