section VHp
variable {d nf n : Nat} {M : vM} {pc pc' tgt : Nat} {ls st : List Value} {I : Nat → Nat → Int32} {J : Nat → Nat → Int64} {Z : Nat → Nat → Option Nat} {K : Option Value → vS → Prop}
def vIsR : FieldType → Bool
  | .array _ => true
  | .object _ => true
  | _ => false
theorem vfld_R {E : vE} {σ : vS} {a k b : Nat} {ty : FieldType} (ht : vIsR ty = true) (hb : σ.2.2 a k = some b) : vfld E σ a k ty = .ref (E.1 + b) := by
  cases ty <;> first | (cases ht; done) | (simp only [vfld, hb]; rfl)
theorem st_getI {a ci k : Nat} (r : vGf M pc ci k pc') (ha : vOb n a ci) (ht : vTF ci k = .int) (h : V d nf n M pc' ls (.int (I a k) :: st) (I, J, Z) K) : V d nf n M pc ls (.ref a :: st) (I, J, Z) K := by
  intro E p l e R s m args below meth c H locs cells slots Q lm C h1 h2 h3 h4 h5 h6 hw hl hr
  obtain ⟨idx, r, r1, rfl, r3, r4, r5⟩ := r
  obtain ⟨hin, -, -, hN⟩ := vCok ci r r3
  obtain ⟨g1, g2, g3⟩ := ha
  have he := vws_get (E := E) (σ := (I, J, Z)) g1
  rw [vcell_ob g2 g3] at he
  have hk' : k < vNF ci := by rw [← hN]; exact r4
  exact va_get (C := r.1) (T := r.2.1) (N := r.2.2) C.1 C.2.1 C.2.2.2.2.1 hin C.2.2.2.1 hw.1.1 hw.1.2.1 a he r3 k r4 (C.2.2.2.2.1 _ r5) (fun _ q => q) (by rw [vflds_get hk', ht]; rfl) r1 (h E p l e R s m args below meth c H locs cells slots Q lm C h1 h2 h3 h4 h5 h6 hw hl hr)
theorem st_getL {a ci k : Nat} (r : vGf M pc ci k pc') (ha : vOb n a ci) (ht : vTF ci k = .long) (h : V d nf n M pc' ls (.long (J a k) :: st) (I, J, Z) K) : V d nf n M pc ls (.ref a :: st) (I, J, Z) K := by
  intro E p l e R s m args below meth c H locs cells slots Q lm C h1 h2 h3 h4 h5 h6 hw hl hr
  obtain ⟨idx, r, r1, rfl, r3, r4, r5⟩ := r
  obtain ⟨hin, -, -, hN⟩ := vCok ci r r3
  obtain ⟨g1, g2, g3⟩ := ha
  have he := vws_get (E := E) (σ := (I, J, Z)) g1
  rw [vcell_ob g2 g3] at he
  have hk' : k < vNF ci := by rw [← hN]; exact r4
  exact va_get (C := r.1) (T := r.2.1) (N := r.2.2) C.1 C.2.1 C.2.2.2.2.1 hin C.2.2.2.1 hw.1.1 hw.1.2.1 a he r3 k r4 (C.2.2.2.2.1 _ r5) (fun _ q => q) (by rw [vflds_get hk', ht]; rfl) r1 (h E p l e R s m args below meth c H locs cells slots Q lm C h1 h2 h3 h4 h5 h6 hw hl hr)
theorem st_getR {a ci k : Nat} (r : vGf M pc ci k pc') (ha : vOb n a ci) {b : Nat} (hb : Z a k = some b) (ht : vIsR (vTF ci k) = true) (h : V d nf n M pc' ls (.ref b :: st) (I, J, Z) K) : V d nf n M pc ls (.ref a :: st) (I, J, Z) K := by
  intro E p l e R s m args below meth c H locs cells slots Q lm C h1 h2 h3 h4 h5 h6 hw hl hr
  obtain ⟨idx, r, r1, rfl, r3, r4, r5⟩ := r
  obtain ⟨hin, -, -, hN⟩ := vCok ci r r3
  obtain ⟨g1, g2, g3⟩ := ha
  have he := vws_get (E := E) (σ := (I, J, Z)) g1
  rw [vcell_ob g2 g3] at he
  have hk' : k < vNF ci := by rw [← hN]; exact r4
  exact va_get (C := r.1) (T := r.2.1) (N := r.2.2) C.1 C.2.1 C.2.2.2.2.1 hin C.2.2.2.1 hw.1.1 hw.1.2.1 a he r3 k r4 (C.2.2.2.2.1 _ r5) (fun _ q => q) (by rw [vflds_get hk', vfld_R ht hb]; rfl) r1 (h E p l e R s m args below meth c H locs cells slots Q lm C h1 h2 h3 h4 h5 h6 hw hl hr)
theorem st_putI {a ci k : Nat} {x : Int32} (ht : vTF ci k = .int) (r : vPf M pc ci k pc') (ha : vOb n a ci) (h : V d nf n M pc' ls st (up I a (va_up (I a) k x), J, Z) K) : V d nf n M pc ls (.int x :: .ref a :: st) (I, J, Z) K := by
  intro E p l e R s m args below meth c H locs cells slots Q lm C h1 h2 h3 h4 h5 h6 hw hl hr
  obtain ⟨idx, r, r1, rfl, r3, r4, r5, r6⟩ := r
  obtain ⟨hin, hty, hnm, hN⟩ := vCok ci r r3
  obtain ⟨g1, g2, g3⟩ := ha
  have he := vws_get (E := E) (σ := (I, J, Z)) g1
  rw [vcell_ob g2 g3] at he
  have hk' : k < vNF ci := by rw [← hN]; exact r4
  have hkk : ∀ (H1 : Heap) (locs1 : List Loc), va_P E.2.2.1 vwCl ((vws E n (I, J, Z)).set a (E.1 + a, .inr (ci, (vflds E (I, J, Z) a ci (vNF ci)).set k (.int x)))) H1 → va_D (fun q => E.1 ≤ q) ((vws E n (I, J, Z)).set a (E.1 + a, .inr (ci, (vflds E (I, J, Z) a ci (vNF ci)).set k (.int x)))) → va_S (fun q => E.1 ≤ q) s.heap H1 locs1 → W p l e R s m args below meth c H1 locs1 cells slots Q (F0 m (pc + 3) lm (st.map (vmV E))) := by
    intro H1 locs1 hP _ hS
    refine h E p l e R s m args below meth c H1 locs1 cells slots Q lm C h1 h2 h3 h4 h5 h6 (vWld_put (τ := (up I a (va_up (I a) k x), J, Z)) hw g1 ?_ ?_ ?_ ?_ hP hS) hl hr
    · rw [vcell_ob g2 g3, vflds_set (τ := (up I a (va_up (I a) k x), J, Z)) hk' ?_ ?_]
      · rw [ht]; simp [vfld, up, va_up]
      · intro j hj hjk
        simp [vfld, up, va_up, hjk]
    · intro b hb; simp [up, hb]
    · intro b hb; simp [up, hb]
    · intro b hb; simp [up, hb]
  rcases r6 with r6 | ⟨r6, r7, r8⟩
  · exact va_put (C := r.1) (T := r.2.1) (N := r.2.2) (v := .int x) C.1 C.2.1 C.2.2.2.2.1 hin (vTF ci) hty hnm C.2.2.2.1 hw.1.1 hw.1.2.1 (vws_D E n (I, J, Z)) hw.2.1 a he r3 k r4 (C.2.2.2.2.1 _ r5) (fun _ q => q) r6 (hty k r4) (by rw [ht]; rfl) (by rw [ht]; rfl) (by rw [vflds_len]; exact hk') r1 hkk
  · exact va_putF (C := r.1) (T := r.2.1) (N := r.2.2) (v := .int x) C.1 C.2.1 C.2.2.2.2.1 hin (vTF ci) hty hnm C.2.2.2.1 hw.1.1 hw.1.2.1 (vws_D E n (I, J, Z)) hw.2.1 a he r3 k r4 (C.2.2.2.2.1 _ r5) (fun _ q => q) r6 (C.2.2.2.2.2.2.2 r7) r8 (hty k r4) (by rw [ht]; rfl) (by rw [ht]; rfl) (by rw [vflds_len]; exact hk') r1 hkk
theorem st_putL {a ci k : Nat} {x : Int64} (ht : vTF ci k = .long) (r : vPf M pc ci k pc') (ha : vOb n a ci) (h : V d nf n M pc' ls st (I, up J a (va_up (J a) k x), Z) K) : V d nf n M pc ls (.long x :: .ref a :: st) (I, J, Z) K := by
  intro E p l e R s m args below meth c H locs cells slots Q lm C h1 h2 h3 h4 h5 h6 hw hl hr
  obtain ⟨idx, r, r1, rfl, r3, r4, r5, r6⟩ := r
  obtain ⟨hin, hty, hnm, hN⟩ := vCok ci r r3
  obtain ⟨g1, g2, g3⟩ := ha
  have he := vws_get (E := E) (σ := (I, J, Z)) g1
  rw [vcell_ob g2 g3] at he
  have hk' : k < vNF ci := by rw [← hN]; exact r4
  have hkk : ∀ (H1 : Heap) (locs1 : List Loc), va_P E.2.2.1 vwCl ((vws E n (I, J, Z)).set a (E.1 + a, .inr (ci, (vflds E (I, J, Z) a ci (vNF ci)).set k (.long x)))) H1 → va_D (fun q => E.1 ≤ q) ((vws E n (I, J, Z)).set a (E.1 + a, .inr (ci, (vflds E (I, J, Z) a ci (vNF ci)).set k (.long x)))) → va_S (fun q => E.1 ≤ q) s.heap H1 locs1 → W p l e R s m args below meth c H1 locs1 cells slots Q (F0 m (pc + 3) lm (st.map (vmV E))) := by
    intro H1 locs1 hP _ hS
    refine h E p l e R s m args below meth c H1 locs1 cells slots Q lm C h1 h2 h3 h4 h5 h6 (vWld_put (τ := (I, up J a (va_up (J a) k x), Z)) hw g1 ?_ ?_ ?_ ?_ hP hS) hl hr
    · rw [vcell_ob g2 g3, vflds_set (τ := (I, up J a (va_up (J a) k x), Z)) hk' ?_ ?_]
      · rw [ht]; simp [vfld, up, va_up]
      · intro j hj hjk
        simp [vfld, up, va_up, hjk]
    · intro b hb; simp [up, hb]
    · intro b hb; simp [up, hb]
    · intro b hb; simp [up, hb]
  rcases r6 with r6 | ⟨r6, r7, r8⟩
  · exact va_put (C := r.1) (T := r.2.1) (N := r.2.2) (v := .long x) C.1 C.2.1 C.2.2.2.2.1 hin (vTF ci) hty hnm C.2.2.2.1 hw.1.1 hw.1.2.1 (vws_D E n (I, J, Z)) hw.2.1 a he r3 k r4 (C.2.2.2.2.1 _ r5) (fun _ q => q) r6 (hty k r4) (by rw [ht]; rfl) (by rw [ht]; rfl) (by rw [vflds_len]; exact hk') r1 hkk
  · exact va_putF (C := r.1) (T := r.2.1) (N := r.2.2) (v := .long x) C.1 C.2.1 C.2.2.2.2.1 hin (vTF ci) hty hnm C.2.2.2.1 hw.1.1 hw.1.2.1 (vws_D E n (I, J, Z)) hw.2.1 a he r3 k r4 (C.2.2.2.2.1 _ r5) (fun _ q => q) r6 (C.2.2.2.2.2.2.2 r7) r8 (hty k r4) (by rw [ht]; rfl) (by rw [ht]; rfl) (by rw [vflds_len]; exact hk') r1 hkk
theorem vR_nar {ty : FieldType} (h : vIsR ty = true) (b : Nat) : narrow ty (.ref b) = .ref b ∧ fits ty (.ref b) = true := by
  cases ty <;> first | (cases h; done) | exact ⟨rfl, rfl⟩
theorem st_putR {a ci k : Nat} {b : Nat} (ht : vIsR (vTF ci k) = true) (r : vPf M pc ci k pc') (ha : vOb n a ci) (h : V d nf n M pc' ls st (I, J, up Z a (va_up (Z a) k (some b))) K) : V d nf n M pc ls (.ref b :: .ref a :: st) (I, J, Z) K := by
  intro E p l e R s m args below meth c H locs cells slots Q lm C h1 h2 h3 h4 h5 h6 hw hl hr
  obtain ⟨idx, r, r1, rfl, r3, r4, r5, r6⟩ := r
  obtain ⟨hin, hty, hnm, hN⟩ := vCok ci r r3
  obtain ⟨g1, g2, g3⟩ := ha
  have he := vws_get (E := E) (σ := (I, J, Z)) g1
  rw [vcell_ob g2 g3] at he
  have hk' : k < vNF ci := by rw [← hN]; exact r4
  have hkk : ∀ (H1 : Heap) (locs1 : List Loc), va_P E.2.2.1 vwCl ((vws E n (I, J, Z)).set a (E.1 + a, .inr (ci, (vflds E (I, J, Z) a ci (vNF ci)).set k (.ref (E.1 + b))))) H1 → va_D (fun q => E.1 ≤ q) ((vws E n (I, J, Z)).set a (E.1 + a, .inr (ci, (vflds E (I, J, Z) a ci (vNF ci)).set k (.ref (E.1 + b))))) → va_S (fun q => E.1 ≤ q) s.heap H1 locs1 → W p l e R s m args below meth c H1 locs1 cells slots Q (F0 m (pc + 3) lm (st.map (vmV E))) := by
    intro H1 locs1 hP _ hS
    refine h E p l e R s m args below meth c H1 locs1 cells slots Q lm C h1 h2 h3 h4 h5 h6 (vWld_put (τ := (I, J, up Z a (va_up (Z a) k (some b)))) hw g1 ?_ ?_ ?_ ?_ hP hS) hl hr
    · rw [vcell_ob g2 g3, vflds_set (τ := (I, J, up Z a (va_up (Z a) k (some b)))) hk' ?_ ?_]
      · rw [vfld_R (b := b) ht (by simp [up, va_up])]
      · intro j hj hjk
        simp [vfld, up, va_up, hjk]
    · intro b hb; simp [up, hb]
    · intro b hb; simp [up, hb]
    · intro b hb; simp [up, hb]
  rcases r6 with r6 | ⟨r6, r7, r8⟩
  · exact va_put (C := r.1) (T := r.2.1) (N := r.2.2) (v := .ref (E.1 + b)) C.1 C.2.1 C.2.2.2.2.1 hin (vTF ci) hty hnm C.2.2.2.1 hw.1.1 hw.1.2.1 (vws_D E n (I, J, Z)) hw.2.1 a he r3 k r4 (C.2.2.2.2.1 _ r5) (fun _ q => q) r6 (hty k r4) ((vR_nar ht _).1) ((vR_nar ht _).2) (by rw [vflds_len]; exact hk') r1 hkk
  · exact va_putF (C := r.1) (T := r.2.1) (N := r.2.2) (v := .ref (E.1 + b)) C.1 C.2.1 C.2.2.2.2.1 hin (vTF ci) hty hnm C.2.2.2.1 hw.1.1 hw.1.2.1 (vws_D E n (I, J, Z)) hw.2.1 a he r3 k r4 (C.2.2.2.2.1 _ r5) (fun _ q => q) r6 (C.2.2.2.2.2.2.2 r7) r8 (hty k r4) ((vR_nar ht _).1) ((vR_nar ht _).2) (by rw [vflds_len]; exact hk') r1 hkk
theorem st_iald {a len : Nat} {i : Int32} (r : vI M pc .iaload 1 pc') (ha : vAr n a 100 len) (hi : vp_in i len) (h : V d nf n M pc' ls (.int (I a i.toNatClampNeg) :: st) (I, J, Z) K) : V d nf n M pc ls (.int i :: .ref a :: st) (I, J, Z) K := by
  intro E p l e R s m args below meth c H locs cells slots Q lm C h1 h2 h3 h4 h5 h6 hw hl hr
  obtain ⟨r1, rfl⟩ := r
  obtain ⟨g1, g2, g3⟩ := ha
  have he := vws_get (E := E) (σ := (I, J, Z)) g1
  rw [vcell_ia g2] at he
  exact va_iald C.1 C.2.1 hw.1.1 hw.1.2.1 a 0 he rfl hi r1 (h E p l e R s m args below meth c H locs cells slots Q lm C h1 h2 h3 h4 h5 h6 hw hl hr)
theorem st_bald {a len : Nat} {i : Int32} (r : vI M pc .baload 1 pc') (ha : vAr n a 101 len) (hi : vp_in i len) (h : V d nf n M pc' ls (.int (I a i.toNatClampNeg) :: st) (I, J, Z) K) : V d nf n M pc ls (.int i :: .ref a :: st) (I, J, Z) K := by
  intro E p l e R s m args below meth c H locs cells slots Q lm C h1 h2 h3 h4 h5 h6 hw hl hr
  obtain ⟨r1, rfl⟩ := r
  obtain ⟨g1, g2, g3⟩ := ha
  have he := vws_get (E := E) (σ := (I, J, Z)) g1
  rw [vcell_za g2] at he
  exact va_zald C.1 C.2.1 hw.1.1 hw.1.2.1 a 1 he rfl hi r1 (h E p l e R s m args below meth c H locs cells slots Q lm C h1 h2 h3 h4 h5 h6 hw hl hr)
theorem st_aald {a len b : Nat} {i : Int32} (r : vI M pc .aaload 1 pc') (ha : vAr n a 102 len) (hi : vp_in i len) (hb : Z a i.toNatClampNeg = some b) (h : V d nf n M pc' ls (.ref b :: st) (I, J, Z) K) : V d nf n M pc ls (.int i :: .ref a :: st) (I, J, Z) K := by
  intro E p l e R s m args below meth c H locs cells slots Q lm C h1 h2 h3 h4 h5 h6 hw hl hr
  obtain ⟨r1, rfl⟩ := r
  obtain ⟨g1, g2, g3⟩ := ha
  have he := vws_get (E := E) (σ := (I, J, Z)) g1
  rw [vcell_qa g2] at he
  refine va_aldq C.1 C.2.1 hw.1.1 hw.1.2.1 a 2 he rfl hi r1 ?_
  simp only [hb, Option.map_some]
  exact (h E p l e R s m args below meth c H locs cells slots Q lm C h1 h2 h3 h4 h5 h6 hw hl hr)
theorem upd_va (f : Nat → Int32) (k : Nat) (x : Int32) : upd f k x = va_up f k x := by
  funext j
  simp [upd, va_up]
theorem st_iast {a len : Nat} {i x : Int32} (r : vI M pc .iastore 1 pc') (ha : vAr n a 100 len) (hi : vp_in i len) (h : V d nf n M pc' ls st (up I a (va_up (I a) i.toNatClampNeg x), J, Z) K) : V d nf n M pc ls (.int x :: .int i :: .ref a :: st) (I, J, Z) K := by
  intro E p l e R s m args below meth c H locs cells slots Q lm C h1 h2 h3 h4 h5 h6 hw hl hr
  obtain ⟨r1, rfl⟩ := r
  obtain ⟨g1, g2, g3⟩ := ha
  have he := vws_get (E := E) (σ := (I, J, Z)) g1
  rw [vcell_ia g2] at he
  refine va_iast C.1 C.2.1 hw.1.1 hw.1.2.1 (vws_D E n (I, J, Z)) hw.2.1 a 0 he rfl hi r1 ?_
  intro H1 locs1 hP _ hS
  refine h E p l e R s m args below meth c H1 locs1 cells slots Q lm C h1 h2 h3 h4 h5 h6 (vWld_put (τ := (up I a (va_up (I a) i.toNatClampNeg x), J, Z)) hw g1 ?_ ?_ ?_ ?_ hP hS) hl hr
  · rw [vcell_ia g2, upd_va]; simp only [up_s]
  · intro b hb; simp [up, hb]
  · intro b hb; simp [up, hb]
  · intro b hb; simp [up, hb]
theorem st_bast {a len : Nat} {i x : Int32} (r : vI M pc .bastore 1 pc') (ha : vAr n a 101 len) (hi : vp_in i len) (hx : vp_nar .boolean x = x) (h : V d nf n M pc' ls st (up I a (va_up (I a) i.toNatClampNeg x), J, Z) K) : V d nf n M pc ls (.int x :: .int i :: .ref a :: st) (I, J, Z) K := by
  intro E p l e R s m args below meth c H locs cells slots Q lm C h1 h2 h3 h4 h5 h6 hw hl hr
  obtain ⟨r1, rfl⟩ := r
  obtain ⟨g1, g2, g3⟩ := ha
  have he := vws_get (E := E) (σ := (I, J, Z)) g1
  rw [vcell_za g2] at he
  refine va_zast C.1 C.2.1 hw.1.1 hw.1.2.1 (vws_D E n (I, J, Z)) hw.2.1 a 1 he rfl hi r1 ?_
  intro H1 locs1 hP _ hS
  rw [hx] at hP
  refine h E p l e R s m args below meth c H1 locs1 cells slots Q lm C h1 h2 h3 h4 h5 h6 (vWld_put (τ := (up I a (va_up (I a) i.toNatClampNeg x), J, Z)) hw g1 ?_ ?_ ?_ ?_ hP hS) hl hr
  · rw [vcell_za g2, upd_va]; simp only [up_s]
  · intro b hb; simp [up, hb]
  · intro b hb; simp [up, hb]
  · intro b hb; simp [up, hb]
theorem st_aast {a len b : Nat} {i : Int32} (r : vI M pc .aastore 1 pc') (ha : vAr n a 102 len) (hi : vp_in i len) (hb : vOb n b 1) (h : V d nf n M pc' ls st (I, J, up Z a (va_up (Z a) i.toNatClampNeg (some b))) K) : V d nf n M pc ls (.ref b :: .int i :: .ref a :: st) (I, J, Z) K := by
  intro E p l e R s m args below meth c H locs cells slots Q lm C h1 h2 h3 h4 h5 h6 hw hl hr
  obtain ⟨r1, rfl⟩ := r
  obtain ⟨g1, g2, g3⟩ := ha
  have he := vws_get (E := E) (σ := (I, J, Z)) g1
  rw [vcell_qa g2] at he
  have hf := vws_get (E := E) (σ := (I, J, Z)) hb.1
  rw [vcell_ob hb.2.1 hb.2.2] at hf
  refine va_astq (r := (RX1, TX1, 6)) C.1 C.2.1 hw.1.1 hw.1.2.1 (vws_D E n (I, J, Z)) hw.2.1 a 2 b 1 he rfl hf rfl hi r1 ?_
  intro H1 locs1 hP _ hS
  refine h E p l e R s m args below meth c H1 locs1 cells slots Q lm C h1 h2 h3 h4 h5 h6 (vWld_put (τ := (I, J, up Z a (va_up (Z a) i.toNatClampNeg (some b)))) hw g1 ?_ ?_ ?_ ?_ hP hS) hl hr
  · rw [vcell_qa g2]
    simp only [up_s]
    congr 8
    funext j
    by_cases hj : j = i.toNatClampNeg <;> simp [va_up, hj]
  · intro b hb; simp [up, hb]
  · intro b hb; simp [up, hb]
  · intro b hb; simp [up, hb]
theorem st_alen {a len : Nat} (r : vI M pc .arraylength 1 pc') (ha : vAr n a 100 len) (h : V d nf n M pc' ls (.int (nI len) :: st) (I, J, Z) K) : V d nf n M pc ls (.ref a :: st) (I, J, Z) K := by
  intro E p l e R s m args below meth c H locs cells slots Q lm C h1 h2 h3 h4 h5 h6 hw hl hr
  obtain ⟨r1, rfl⟩ := r
  obtain ⟨g1, g2, g3⟩ := ha
  have he := vws_get (E := E) (σ := (I, J, Z)) g1
  rw [vcell_ia g2] at he
  exact va_alen C.1 C.2.1 hw.1.1 hw.1.2.1 a 0 he rfl rfl r1 (h E p l e R s m args below meth c H locs cells slots Q lm C h1 h2 h3 h4 h5 h6 hw hl hr)
theorem st_sld {i : Int32} (r : vI M pc .iaload 1 pc') (hi : vp_in i (vLen (I, J, Z))) (h : V d nf n M pc' ls (.int (I 1000 i.toNatClampNeg) :: st) (I, J, Z) K) : V d nf n M pc ls (.int i :: vX :: st) (I, J, Z) K := by
  intro E p l e R s m args below meth c H locs cells slots Q lm C h1 h2 h3 h4 h5 h6 hw hl hr
  obtain ⟨r1, rfl⟩ := r
  exact va_sld (A := fun q => E.1 ≤ q) (H0 := H) C.1 C.2.1 hw.1.2.2.2.2.1 (Nat.lt_of_lt_of_le hw.1.2.2.2.2.2.1 (Nat.le_trans hw.2.2 hw.2.1.1)) (Nat.not_le.mpr hw.1.2.2.2.2.2.1) ⟨Nat.le_refl _, fun _ _ _ => rfl, hw.2.1.2.2⟩ hi r1 (h E p l e R s m args below meth c H locs cells slots Q lm C h1 h2 h3 h4 h5 h6 hw hl hr)
theorem st_slen (r : vI M pc .arraylength 1 pc') (h : V d nf n M pc' ls (.int (nI (vLen (I, J, Z))) :: st) (I, J, Z) K) : V d nf n M pc ls (vX :: st) (I, J, Z) K := by
  intro E p l e R s m args below meth c H locs cells slots Q lm C h1 h2 h3 h4 h5 h6 hw hl hr
  obtain ⟨r1, rfl⟩ := r
  exact va_slen (A := fun q => E.1 ≤ q) (H0 := H) C.1 C.2.1 hw.1.2.2.2.2.1 (Nat.lt_of_lt_of_le hw.1.2.2.2.2.2.1 (Nat.le_trans hw.2.2 hw.2.1.1)) (Nat.not_le.mpr hw.1.2.2.2.2.2.1) ⟨Nat.le_refl _, fun _ _ _ => rfl, hw.2.1.2.2⟩ r1 (h E p l e R s m args below meth c H locs cells slots Q lm C h1 h2 h3 h4 h5 h6 hw hl hr)
theorem Ki_i {k : Int32 → vS → Prop} {x : Int32} {σ : vS} (h : k x σ) : Ki k (some (.int x)) σ := h
theorem st_iret {x : Int32} {k : Int32 → vS → Prop} (r : vI M pc .ireturn 1 pc') (ht : M.2.2.2.2 = some .int) (h : k x (I, J, Z)) : V d n n M pc ls [.int x] (I, J, Z) (Ki k) := by
  intro E p l e R s m args below meth c H locs cells slots Q lm C h1 h2 h3 h4 h5 h6 hw hl hr
  obtain ⟨r1, -⟩ := r
  have := hr (some (.int x)) (I, J, Z) H locs pc lm h hw ⟨r1, .int, ht, rfl⟩
  simpa using this
theorem st_zret {x : Int32} {k : Int32 → vS → Prop} (r : vI M pc .ireturn 1 pc') (ht : M.2.2.2.2 = some .boolean) (hx : narrow .boolean (.int x) = .int x) (h : k x (I, J, Z)) : V d n n M pc ls [.int x] (I, J, Z) (Ki k) := by
  intro E p l e R s m args below meth c H locs cells slots Q lm C h1 h2 h3 h4 h5 h6 hw hl hr
  obtain ⟨r1, -⟩ := r
  have := hr (some (.int x)) (I, J, Z) H locs pc lm h hw ⟨r1, .boolean, ht, hx⟩
  simpa using this
theorem st_lret {x : Int64} {k : Int64 → vS → Prop} (r : vI M pc .lreturn 1 pc') (ht : M.2.2.2.2 = some .long) (h : k x (I, J, Z)) : V d n n M pc ls [.long x] (I, J, Z) (Kl k) := by
  intro E p l e R s m args below meth c H locs cells slots Q lm C h1 h2 h3 h4 h5 h6 hw hl hr
  obtain ⟨r1, -⟩ := r
  have := hr (some (.long x)) (I, J, Z) H locs pc lm h hw ⟨r1, ht⟩
  simpa using this
theorem st_vret {k : vS → Prop} (r : vI M pc .return_ 1 pc') (ht : M.2.2.2.2 = none) (h : k (I, J, Z)) : V d n n M pc ls [] (I, J, Z) (Kv k) := by
  intro E p l e R s m args below meth c H locs cells slots Q lm C h1 h2 h3 h4 h5 h6 hw hl hr
  obtain ⟨r1, -⟩ := r
  have := hr none (I, J, Z) H locs pc lm h hw ⟨r1, ht⟩
  simpa using this
end VHp
theorem V_mono {d nf n : Nat} {M : vM} {pc : Nat} {ls st : List Value} {σ : vS} {K K' : Option Value → vS → Prop} (hk : ∀ v τ, K v τ → K' v τ) (h : V d nf n M pc ls st σ K) : V d nf n M pc ls st σ K' := by
  intro E p l e R s m args below meth c H locs cells slots Q lm C h1 h2 h3 h4 h5 h6 hw hl hr
  exact h E p l e R s m args below meth c H locs cells slots Q lm C h1 h2 h3 h4 h5 h6 hw hl (fun v τ H' locs' pc' lm' q => hr v τ H' locs' pc' lm' (hk v τ q))
