/-! ===== the parts of the invariant, moved ===== -/
section P13
variable {I I' A A' : Nat → Nat → Int32} {J : Nat → Nat → Int64} {ρ m no : Nat} {T : Int64} {N N' : Nat → Int32}
theorem CT_c (h : CT I ρ A m no) (e : ∀ a, ρ ≤ a → a ≤ ρ + 8 → I' a = I a) (f : ∀ a, 107 ≤ a → a ≤ 113 → A' a = A a) : CT I' ρ A' m no := by
  obtain ⟨t0, t1, t2, t3, t4, t5, t6, t7, t8, t9, t10⟩ := h
  simp only [CT, e ρ (by omega) (by omega), e (ρ + 2) (by omega) (by omega), e (ρ + 3) (by omega) (by omega), e (ρ + 4) (by omega) (by omega), e (ρ + 5) (by omega) (by omega), e (ρ + 6) (by omega) (by omega), e (ρ + 7) (by omega) (by omega), e (ρ + 8) (by omega) (by omega), f 107 (by omega) (by omega), f 108 (by omega) (by omega), f 109 (by omega) (by omega), f 110 (by omega) (by omega), f 111 (by omega) (by omega), f 112 (by omega) (by omega), f 113 (by omega) (by omega)]
  exact ⟨t0, t1, t2, t3, t4, t5, t6, t7, t8, t9, t10⟩
theorem CL_c (h : CL I A) (e1 : I' 1 1 = I 1 1) (e2 : I' 2 = I 2) (f1 : A' 103 3 = A 103 3) (f2 : A' 104 = A 104) : CL I' A' := by
  simp only [CL, e1, e2, f1, f2]; exact h
theorem CU_c (h : CU I A m) (e : ∀ a, a = 32 ∨ (34 ≤ a ∧ a ≤ 83) → I' a = I a) (f1 : A' 103 23 = A 103 23) (f2 : A' 118 = A 118) : CU I' A' m := by
  obtain ⟨q, u0, u1, u2, u3⟩ := h
  refine ⟨q, u0, by rw [e 32 (by omega)]; exact u1, by rw [e 32 (by omega), f1]; exact u2, fun u v1 v2 j hj => ?_⟩
  rw [f1] at v2
  have := HV_cong (I' := I') (u3 u v1 v2 j hj) (fun a _ _ => e a (by omega))
  rw [show rw56 A' 118 j = rw56 A 118 j by unfold rw56; rw [f2]]
  exact this
theorem CI_c (h : CI I A m) (e : ∀ a, a = 86 ∨ (87 ≤ a ∧ a ≤ 96) → I' a = I a) (f1 : A' 117 = A 117) (f2 : A' 116 = A 116) : CI I' A' m := by
  intro i hi
  obtain ⟨h1, h2⟩ := h i hi
  refine ⟨by rw [e 86 (by omega), f1]; exact h1, fun g => ?_⟩
  rw [f1] at g
  have := HV_cong (I' := I') (h2 g) (fun a _ _ => e a (by omega))
  rw [show rw56 A' 116 i = rw56 A 116 i by unfold rw56; rw [f2]]
  exact this
theorem CF_c (h : CF I A) (e : ∀ a, 97 ≤ a → a ≤ 99 → I' a = I a) (f1 : A' 103 26 = A 103 26) (f2 : A' 119 = A 119) (f3 : A' 120 = A 120) : CF I' A' := by
  simp only [CF, e 97 (by omega) (by omega), e 98 (by omega) (by omega), e 99 (by omega) (by omega), f1, f2, f3]; exact h
theorem OkT_c (h : OkT A m no) (f0 : A' 105 0 = A 105 0) (f1 : A' 105 1 = A 105 1) (f : ∀ a, 107 ≤ a → a ≤ 113 → A' a = A a) : OkT A' m no := by
  simp only [OkT, f0, f1, f 107 (by omega) (by omega), f 108 (by omega) (by omega), f 109 (by omega) (by omega), f 110 (by omega) (by omega), f 111 (by omega) (by omega), f 112 (by omega) (by omega), f 113 (by omega) (by omega)]; exact h
theorem OkL_c (h : OkL A) (f0 : A' 103 3 = A 103 3) (f1 : A' 104 = A 104) : OkL A' := by
  simp only [OkL, f0, f1]; exact h
theorem OkN_c (h : OkN A m no N) (f0 : A' 107 = A 107) (f1 : A' 112 = A 112) : OkN A' m no N := by
  simp only [OkN, f0, f1]; exact h
theorem OkU_c (h : OkU A m no) (f0 : A' 107 = A 107) (f1 : A' 112 = A 112) (f2 : A' 103 23 = A 103 23) (f3 : A' 118 = A 118) : OkU A' m no := by
  obtain ⟨u, h1, h2, h3⟩ := h
  refine ⟨u, h1, by rw [f2]; exact h2, fun j hj => ?_⟩
  rw [show rw56 A' 118 j = rw56 A 118 j by unfold rw56; rw [f3]]
  exact ⟨OkN_c (h3 j hj).1 f0 f1, (h3 j hj).2⟩
theorem OkI_c (h : OkI A m no) (f0 : A' 107 = A 107) (f1 : A' 112 = A 112) (f2 : A' 117 = A 117) (f3 : A' 116 = A 116) : OkI A' m no := by
  intro i hi
  obtain ⟨h1, h2⟩ := h i hi
  rw [show rw56 A' 116 i = rw56 A 116 i by unfold rw56; rw [f3], f2]
  exact ⟨h1, fun g => ⟨OkN_c (h2 g).1 f0 f1, (h2 g).2⟩⟩
theorem OkF_c (h : OkF A m) (f1 : A' 103 26 = A 103 26) (f2 : A' 119 = A 119) (f3 : A' 120 = A 120) : OkF A' m := by
  simp only [OkF, f1, f2, f3]; exact h
theorem InvC_m (h : InvC I J ρ A T m no) (e : ∀ a, a < 103 → I' a = I a) : InvC I' J ρ A T m no := InvC_same h (fun a _ h2 => e a (by omega))
theorem InvM_c (h : InvM I J A T) (e : ∀ a, 103 ≤ a → I' a = I a) : InvM I' J A T := InvM_same h (fun a h1 _ _ _ _ => e a (by omega)) (fun q _ => by rw [e 103 (by omega)])
theorem HV_row {h : Nat} (hv : HV I h m N) (hm : m ≤ 6) (e : N' = N) : HV I h m N' := by rw [e]; exact hv
end P13
