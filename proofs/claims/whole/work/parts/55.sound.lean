/-! ===== what was read is sound; references that nobody reads ===== -/
theorem le_nI {a b : Nat} (ha : a < 2147483648) (hb : b < 2147483648) (h : a ≤ b) : nI a ≤ nI b := by
  rw [Int32.le_iff_toInt_le, nI_toInt ha, nI_toInt hb]
  omega
theorem ok_plain {A : Nat → Nat → Int32} {D : Nat → Nat → Nat} (hP : PlA A D) (hO : OkD D) : OkA A (D 0 0) (D 0 1) := by
  obtain ⟨p1, p2, p3, p4, p5, p6, ⟨h1, h2, h3, h4, h5⟩, h6, h7, h8, h9⟩ := hP
  have hW := okW_n hO (D 0 0) hO.1
  obtain ⟨d1, d2, d3, d4, d5, d6⟩ := hO
  have p64 := pw6 d1
  have hN : OkN A (D 0 0) (D 0 1) (A 114) := by
    refine ⟨⟨fun t => t, fun t => t, fun t ht => ⟨h3 t (by omega), ht, rfl, ht, rfl⟩⟩, fun t x ht hx hx6 => ?_, 0, by omega, h1, fun i hi hne => ?_⟩
    · rw [h3 t (by omega)] at hx
      have e : t = x := (nI_eq (by omega) (by omega)).mp hx
      subst e
      have q := d3 t ht
      rw [(p3 t ht).1, h4 t ht]
      exact le_nI (by omega) (by omega) (Nat.le_max_right _ _)
    · exact absurd (h5 (14 + i) (by omega) (by omega)) hne
  refine ⟨⟨p1, p2, d1, d2, fun t ht => ⟨D 2 t, (d3 t ht).2.1.1, (d3 t ht).2.1.2, (p3 t ht).1⟩, fun t ht => ⟨D 3 t, (d3 t ht).2.2, (p3 t ht).2⟩, fun k hk => ⟨D 4 k, d4 k hk, p4 k hk⟩, fun a b ha hb => ?_, fun i hi => ⟨⟨D 5 i, (d6 i hi).1, (p6 i hi).1⟩, ⟨D 6 i, (d6 i hi).2.1, (p6 i hi).2.1⟩, ⟨D 7 i, (d6 i hi).2.2, (p6 i hi).2.2⟩⟩⟩, ⟨0, by omega, h6, fun j hj => absurd hj (by omega)⟩, hN, ⟨0, by omega, h1⟩, ⟨0, by omega, h7, fun j hj => absurd hj (by omega)⟩, fun i hi => ⟨Or.inl (h9 i hi), fun e => ?_⟩, ⟨0, by omega, h8, fun j hj => absurd hj (by omega)⟩⟩
  · have q := hW (6 * a + b) (by omega)
    rw [show (6 * a + b) / 6 = a by omega, show (6 * a + b) % 6 = b by omega] at q
    rw [p5 _ (by omega)]
    by_cases e : fwn D (D 0 0) (6 * a + b) = 1000000
    · left
      exact ⟨by rw [e], fun e2 => by have := q.2.mpr e2; omega⟩
    · right
      exact ⟨_, by omega, rfl, q.2⟩
  · rw [h9 i hi] at e
    exact absurd e (by decide)
/-- a place that holds a reference -/
def refk (a k : Nat) : Bool := decide (k < (vSH a).2) && (decide ((vSH a).1 = 102) || vIsR (vTF (vSH a).1 k))
section P55
variable {d nf n : Nat} {M : vM} {pc : Nat} {ls st : List Value} {I : Nat → Nat → Int32} {J : Nat → Nat → Int64} {Z Z' : Nat → Nat → Option Nat} {K : Option Value → vS → Prop}
theorem arrV_x {cI : ClassId} {N : Nat} {f g : Nat → Value} (h : ∀ j, j < N → f j = g j) : arrV cI N f = arrV cI N g := by
  have e : (Array.ofFn (n := N) fun j => f j.val) = (Array.ofFn (n := N) fun j => g j.val) := by
    congr 1
    funext j
    exact h j.val j.isLt
  simp only [arrV, e]
theorem V_Z (hz : ∀ a k, a < n → refk a k = true → Z a k = Z' a k) (h : V d nf n M pc ls st (I, J, Z') K) : V d nf n M pc ls st (I, J, Z) K := by
  intro E p l e R s m args below meth c H locs cells slots Q lm C h1 h2 h3 h4 h5 h6 hw hl hr
  refine h E p l e R s m args below meth c H locs cells slots Q lm C h1 h2 h3 h4 h5 h6 ?_ hl hr
  obtain ⟨⟨k1, k2, k3, k4, k5, k6, k7⟩, k8, k9⟩ := hw
  refine ⟨⟨k1, ?_, k3, k4, k5, k6, k7⟩, k8, k9⟩
  intro k q hq
  have hk : k < n := by
    have := (List.getElem?_eq_some_iff.mp hq).1
    simpa [vws] using this
  rw [vws_get hk] at hq
  cases hq
  have hT := k2 k _ (vws_get hk)
  by_cases h100 : (vSH k).1 = 100
  · have e : vcell E (I, J, Z') k = vcell E (I, J, Z) k := by simp only [vcell, if_pos h100]
    rw [e]; exact hT
  · by_cases h101 : (vSH k).1 = 101
    · have e : vcell E (I, J, Z') k = vcell E (I, J, Z) k := by simp only [vcell, if_neg h100, if_pos h101]
      rw [e]; exact hT
    · by_cases h102 : (vSH k).1 = 102
      · have sh : vSH k = (102, (vSH k).2) := by rw [← h102]
        rw [vcell_qa sh] at hT ⊢
        have hT : H[E.1 + k]? = some (vp_cell _ _) := hT
        show H[E.1 + k]? = some (vp_cell _ _)
        rw [hT, vp_cell_q, vp_cell_q]
        congr 1
        refine arrV_x (fun j hj => ?_)
        show va_rf ((Z k j).map _) = va_rf ((Z' k j).map _)
        rw [hz k j hk (by simp only [refk, decide_eq_true hj, decide_eq_true h102]; rfl)]
      · have e : vcell E (I, J, Z') k = vcell E (I, J, Z) k := by
          simp only [vcell, if_neg h100, if_neg h101, if_neg h102, vflds]
          congr 2
          refine List.map_congr_left (fun j hj => ?_)
          have hj := List.mem_range.mp hj
          have hr := hz k j hk
          simp only [refk, decide_eq_true hj, Bool.true_and] at hr
          cases ht : vTF (vSH k).1 j with
          | array t =>
            rw [ht] at hr
            show va_rf ((Z' k j).map _) = va_rf ((Z k j).map _)
            rw [hr (by simp [vIsR])]
          | object t =>
            rw [ht] at hr
            show va_rf ((Z' k j).map _) = va_rf ((Z k j).map _)
            rw [hr (by simp [vIsR])]
          | _ => rfl
        rw [e]; exact hT
end P55
