/-! ===== calls by their number of arguments; Nat forms; stores by place ===== -/
def vjs : List Value → Bool
  | [] => true
  | .retAddr 0 :: t => vjs t
  | _ => false
theorem vjs_ok : ∀ {js : List Value}, vjs js = true → ∀ a ∈ js, a = vJ := by
  intro js
  induction js with
  | nil => intro _ a h; cases h
  | cons b t ih =>
    intro h a ha
    cases b with
    | retAddr k =>
      cases k with
      | zero =>
        rcases List.mem_cons.mp ha with rfl | ha
        · rfl
        · exact ih h a ha
      | succ k => exact absurd h (by simp [vjs])
    | _ => exact absurd h (by simp [vjs])
def vcs : List Value → Bool
  | [] => true
  | .int _ :: t => vcs t
  | .ref _ :: t => vcs t
  | _ => false
theorem vcs_ok : ∀ {as : List Value}, vcs as = true → ∀ a ∈ as, a.category = 1 := by
  intro as
  induction as with
  | nil => intro _ a h; cases h
  | cons b t ih =>
    intro h a ha
    cases b with
    | int x =>
      rcases List.mem_cons.mp ha with rfl | ha
      · rfl
      · exact ih h a ha
    | ref x =>
      rcases List.mem_cons.mp ha with rfl | ha
      · rfl
      · exact ih h a ha
    | _ => exact absurd h (by simp [vcs])
def vok (as js st : List Value) (mL : Nat) : Bool := vcs as && vjs js && Nat.beq (as.length + js.length) mL && Nat.ble (st.map Value.category).sum 8
theorem vok_s {as js st : List Value} {mL : Nat} (h : vok as js st mL = true) : (∀ a ∈ as, a.category = 1) ∧ (∀ a ∈ js, a = vJ) ∧ as.length + js.length = mL ∧ (st.map Value.category).sum ≤ 8 := by
  simp only [vok, Bool.and_eq_true] at h
  exact ⟨vcs_ok h.1.1.1, vjs_ok h.1.1.2, Nat.eq_of_beq_eq_true h.1.2, Nat.le_of_ble_eq_true h.2⟩
section VAri
variable {d nf nf' n : Nat} {M N : vM} {pc pc' tgt : Nat} {ls st js : List Value} {σ : vS} {K : Option Value → vS → Prop}
theorem Ki_K {x : Option Value} {τ : vS} (h : Ki (fun x τ => V (d + 1) nf nf' M pc' ls (.int x :: st) τ K) x τ) : V (d + 1) nf nf' M pc' ls (x.toList ++ st) τ K := by
  cases x with
  | none => exact h.elim
  | some v => cases v <;> first | exact h | exact h.elim
theorem Kl_K {x : Option Value} {τ : vS} (h : Kl (fun x τ => V (d + 1) nf nf' M pc' ls (.long x :: st) τ K) x τ) : V (d + 1) nf nf' M pc' ls (x.toList ++ st) τ K := by
  cases x with
  | none => exact h.elim
  | some v => cases v <;> first | exact h | exact h.elim
theorem Kv_K {x : Option Value} {τ : vS} (h : Kv (fun τ => V (d + 1) nf nf' M pc' ls st τ K) x τ) : V (d + 1) nf nf' M pc' ls (x.toList ++ st) τ K := by
  cases x with
  | none => exact h
  | some v => exact h.elim
theorem cS0i (r : vKs M pc N 0 pc') (h : V d n n N 0 (js) [] σ (Ki fun x τ => V (d + 1) nf n M pc' ls (.int x :: st) τ K)) (hs : vok [] js st N.2.2.2.1 = true) (hf : n ≤ nf := by first | exact Nat.le_refl _ | decide) : V (d + 1) nf n M pc ls (st) σ K := by
  obtain ⟨q1, q2, q3, q4⟩ := vok_s hs
  exact st_callS (as := []) r rfl q1 q2 q3 q4 (Nat.le_refl _) hf (V_mono (fun _ _ q => Ki_K q) h)
theorem cS0v (r : vKs M pc N 0 pc') (h : V d n n N 0 (js) [] σ (Kv fun τ => V (d + 1) nf n M pc' ls st τ K)) (hs : vok [] js st N.2.2.2.1 = true) (hf : n ≤ nf := by first | exact Nat.le_refl _ | decide) : V (d + 1) nf n M pc ls (st) σ K := by
  obtain ⟨q1, q2, q3, q4⟩ := vok_s hs
  exact st_callS (as := []) r rfl q1 q2 q3 q4 (Nat.le_refl _) hf (V_mono (fun _ _ q => Kv_K q) h)
theorem cS1i {a0 : Value} (r : vKs M pc N 1 pc') (h : V d n n N 0 (a0 :: js) [] σ (Ki fun x τ => V (d + 1) nf n M pc' ls (.int x :: st) τ K)) (hs : vok [a0] js st N.2.2.2.1 = true) (hf : n ≤ nf := by first | exact Nat.le_refl _ | decide) : V (d + 1) nf n M pc ls (a0 :: st) σ K := by
  obtain ⟨q1, q2, q3, q4⟩ := vok_s hs
  exact st_callS (as := [a0]) r rfl q1 q2 q3 q4 (Nat.le_refl _) hf (V_mono (fun _ _ q => Ki_K q) h)
theorem cV1i {b ci : Nat} (r : vKv M pc N 0 ci pc') (hb : vOb n b ci) (h : V d n n N 0 (.ref b :: js) [] σ (Ki fun x τ => V (d + 1) nf n M pc' ls (.int x :: st) τ K)) (hs : vok [] js st (N.2.2.2.1 - 1) = true) (hp : 1 ≤ N.2.2.2.1) (hf : n ≤ nf := by first | exact Nat.le_refl _ | decide) : V (d + 1) nf n M pc ls (.ref b :: st) σ K := by
  obtain ⟨q1, q2, q3, q4⟩ := vok_s hs
  exact st_callV (as := []) r hb rfl q1 q2 (by omega) q4 (Nat.le_refl _) hf (V_mono (fun _ _ q => Ki_K q) h)
theorem cS1v {a0 : Value} (r : vKs M pc N 1 pc') (h : V d n n N 0 (a0 :: js) [] σ (Kv fun τ => V (d + 1) nf n M pc' ls st τ K)) (hs : vok [a0] js st N.2.2.2.1 = true) (hf : n ≤ nf := by first | exact Nat.le_refl _ | decide) : V (d + 1) nf n M pc ls (a0 :: st) σ K := by
  obtain ⟨q1, q2, q3, q4⟩ := vok_s hs
  exact st_callS (as := [a0]) r rfl q1 q2 q3 q4 (Nat.le_refl _) hf (V_mono (fun _ _ q => Kv_K q) h)
theorem cV1v {b ci : Nat} (r : vKv M pc N 0 ci pc') (hb : vOb n b ci) (h : V d n n N 0 (.ref b :: js) [] σ (Kv fun τ => V (d + 1) nf n M pc' ls st τ K)) (hs : vok [] js st (N.2.2.2.1 - 1) = true) (hp : 1 ≤ N.2.2.2.1) (hf : n ≤ nf := by first | exact Nat.le_refl _ | decide) : V (d + 1) nf n M pc ls (.ref b :: st) σ K := by
  obtain ⟨q1, q2, q3, q4⟩ := vok_s hs
  exact st_callV (as := []) r hb rfl q1 q2 (by omega) q4 (Nat.le_refl _) hf (V_mono (fun _ _ q => Kv_K q) h)
theorem cV1l {b ci : Nat} (r : vKv M pc N 0 ci pc') (hb : vOb n b ci) (h : V d n n N 0 (.ref b :: js) [] σ (Kl fun x τ => V (d + 1) nf n M pc' ls (.long x :: st) τ K)) (hs : vok [] js st (N.2.2.2.1 - 1) = true) (hp : 1 ≤ N.2.2.2.1) (hf : n ≤ nf := by first | exact Nat.le_refl _ | decide) : V (d + 1) nf n M pc ls (.ref b :: st) σ K := by
  obtain ⟨q1, q2, q3, q4⟩ := vok_s hs
  exact st_callV (as := []) r hb rfl q1 q2 (by omega) q4 (Nat.le_refl _) hf (V_mono (fun _ _ q => Kl_K q) h)
theorem cS2i {a0 a1 : Value} (r : vKs M pc N 2 pc') (h : V d n n N 0 (a0 :: a1 :: js) [] σ (Ki fun x τ => V (d + 1) nf n M pc' ls (.int x :: st) τ K)) (hs : vok [a0, a1] js st N.2.2.2.1 = true) (hf : n ≤ nf := by first | exact Nat.le_refl _ | decide) : V (d + 1) nf n M pc ls (a1 :: a0 :: st) σ K := by
  obtain ⟨q1, q2, q3, q4⟩ := vok_s hs
  exact st_callS (as := [a0, a1]) r rfl q1 q2 q3 q4 (Nat.le_refl _) hf (V_mono (fun _ _ q => Ki_K q) h)
theorem cV2i {b ci : Nat} {a1 : Value} (r : vKv M pc N 1 ci pc') (hb : vOb n b ci) (h : V d n n N 0 (.ref b :: a1 :: js) [] σ (Ki fun x τ => V (d + 1) nf n M pc' ls (.int x :: st) τ K)) (hs : vok [a1] js st (N.2.2.2.1 - 1) = true) (hp : 1 ≤ N.2.2.2.1) (hf : n ≤ nf := by first | exact Nat.le_refl _ | decide) : V (d + 1) nf n M pc ls (a1 :: .ref b :: st) σ K := by
  obtain ⟨q1, q2, q3, q4⟩ := vok_s hs
  exact st_callV (as := [a1]) r hb rfl q1 q2 (by omega) q4 (Nat.le_refl _) hf (V_mono (fun _ _ q => Ki_K q) h)
theorem cS2v {a0 a1 : Value} (r : vKs M pc N 2 pc') (h : V d n n N 0 (a0 :: a1 :: js) [] σ (Kv fun τ => V (d + 1) nf n M pc' ls st τ K)) (hs : vok [a0, a1] js st N.2.2.2.1 = true) (hf : n ≤ nf := by first | exact Nat.le_refl _ | decide) : V (d + 1) nf n M pc ls (a1 :: a0 :: st) σ K := by
  obtain ⟨q1, q2, q3, q4⟩ := vok_s hs
  exact st_callS (as := [a0, a1]) r rfl q1 q2 q3 q4 (Nat.le_refl _) hf (V_mono (fun _ _ q => Kv_K q) h)
theorem cV2v {b ci : Nat} {a1 : Value} (r : vKv M pc N 1 ci pc') (hb : vOb n b ci) (h : V d n n N 0 (.ref b :: a1 :: js) [] σ (Kv fun τ => V (d + 1) nf n M pc' ls st τ K)) (hs : vok [a1] js st (N.2.2.2.1 - 1) = true) (hp : 1 ≤ N.2.2.2.1) (hf : n ≤ nf := by first | exact Nat.le_refl _ | decide) : V (d + 1) nf n M pc ls (a1 :: .ref b :: st) σ K := by
  obtain ⟨q1, q2, q3, q4⟩ := vok_s hs
  exact st_callV (as := [a1]) r hb rfl q1 q2 (by omega) q4 (Nat.le_refl _) hf (V_mono (fun _ _ q => Kv_K q) h)
theorem cV2l {b ci : Nat} {a1 : Value} (r : vKv M pc N 1 ci pc') (hb : vOb n b ci) (h : V d n n N 0 (.ref b :: a1 :: js) [] σ (Kl fun x τ => V (d + 1) nf n M pc' ls (.long x :: st) τ K)) (hs : vok [a1] js st (N.2.2.2.1 - 1) = true) (hp : 1 ≤ N.2.2.2.1) (hf : n ≤ nf := by first | exact Nat.le_refl _ | decide) : V (d + 1) nf n M pc ls (a1 :: .ref b :: st) σ K := by
  obtain ⟨q1, q2, q3, q4⟩ := vok_s hs
  exact st_callV (as := [a1]) r hb rfl q1 q2 (by omega) q4 (Nat.le_refl _) hf (V_mono (fun _ _ q => Kl_K q) h)
theorem cS3i {a0 a1 a2 : Value} (r : vKs M pc N 3 pc') (h : V d n n N 0 (a0 :: a1 :: a2 :: js) [] σ (Ki fun x τ => V (d + 1) nf n M pc' ls (.int x :: st) τ K)) (hs : vok [a0, a1, a2] js st N.2.2.2.1 = true) (hf : n ≤ nf := by first | exact Nat.le_refl _ | decide) : V (d + 1) nf n M pc ls (a2 :: a1 :: a0 :: st) σ K := by
  obtain ⟨q1, q2, q3, q4⟩ := vok_s hs
  exact st_callS (as := [a0, a1, a2]) r rfl q1 q2 q3 q4 (Nat.le_refl _) hf (V_mono (fun _ _ q => Ki_K q) h)
theorem cV3i {b ci : Nat} {a1 a2 : Value} (r : vKv M pc N 2 ci pc') (hb : vOb n b ci) (h : V d n n N 0 (.ref b :: a1 :: a2 :: js) [] σ (Ki fun x τ => V (d + 1) nf n M pc' ls (.int x :: st) τ K)) (hs : vok [a1, a2] js st (N.2.2.2.1 - 1) = true) (hp : 1 ≤ N.2.2.2.1) (hf : n ≤ nf := by first | exact Nat.le_refl _ | decide) : V (d + 1) nf n M pc ls (a2 :: a1 :: .ref b :: st) σ K := by
  obtain ⟨q1, q2, q3, q4⟩ := vok_s hs
  exact st_callV (as := [a1, a2]) r hb rfl q1 q2 (by omega) q4 (Nat.le_refl _) hf (V_mono (fun _ _ q => Ki_K q) h)
theorem cS3v {a0 a1 a2 : Value} (r : vKs M pc N 3 pc') (h : V d n n N 0 (a0 :: a1 :: a2 :: js) [] σ (Kv fun τ => V (d + 1) nf n M pc' ls st τ K)) (hs : vok [a0, a1, a2] js st N.2.2.2.1 = true) (hf : n ≤ nf := by first | exact Nat.le_refl _ | decide) : V (d + 1) nf n M pc ls (a2 :: a1 :: a0 :: st) σ K := by
  obtain ⟨q1, q2, q3, q4⟩ := vok_s hs
  exact st_callS (as := [a0, a1, a2]) r rfl q1 q2 q3 q4 (Nat.le_refl _) hf (V_mono (fun _ _ q => Kv_K q) h)
theorem cV3v {b ci : Nat} {a1 a2 : Value} (r : vKv M pc N 2 ci pc') (hb : vOb n b ci) (h : V d n n N 0 (.ref b :: a1 :: a2 :: js) [] σ (Kv fun τ => V (d + 1) nf n M pc' ls st τ K)) (hs : vok [a1, a2] js st (N.2.2.2.1 - 1) = true) (hp : 1 ≤ N.2.2.2.1) (hf : n ≤ nf := by first | exact Nat.le_refl _ | decide) : V (d + 1) nf n M pc ls (a2 :: a1 :: .ref b :: st) σ K := by
  obtain ⟨q1, q2, q3, q4⟩ := vok_s hs
  exact st_callV (as := [a1, a2]) r hb rfl q1 q2 (by omega) q4 (Nat.le_refl _) hf (V_mono (fun _ _ q => Kv_K q) h)
theorem cV3l {b ci : Nat} {a1 a2 : Value} (r : vKv M pc N 2 ci pc') (hb : vOb n b ci) (h : V d n n N 0 (.ref b :: a1 :: a2 :: js) [] σ (Kl fun x τ => V (d + 1) nf n M pc' ls (.long x :: st) τ K)) (hs : vok [a1, a2] js st (N.2.2.2.1 - 1) = true) (hp : 1 ≤ N.2.2.2.1) (hf : n ≤ nf := by first | exact Nat.le_refl _ | decide) : V (d + 1) nf n M pc ls (a2 :: a1 :: .ref b :: st) σ K := by
  obtain ⟨q1, q2, q3, q4⟩ := vok_s hs
  exact st_callV (as := [a1, a2]) r hb rfl q1 q2 (by omega) q4 (Nat.le_refl _) hf (V_mono (fun _ _ q => Kl_K q) h)
theorem cS4i {a0 a1 a2 a3 : Value} (r : vKs M pc N 4 pc') (h : V d n n N 0 (a0 :: a1 :: a2 :: a3 :: js) [] σ (Ki fun x τ => V (d + 1) nf n M pc' ls (.int x :: st) τ K)) (hs : vok [a0, a1, a2, a3] js st N.2.2.2.1 = true) (hf : n ≤ nf := by first | exact Nat.le_refl _ | decide) : V (d + 1) nf n M pc ls (a3 :: a2 :: a1 :: a0 :: st) σ K := by
  obtain ⟨q1, q2, q3, q4⟩ := vok_s hs
  exact st_callS (as := [a0, a1, a2, a3]) r rfl q1 q2 q3 q4 (Nat.le_refl _) hf (V_mono (fun _ _ q => Ki_K q) h)
theorem cV4i {b ci : Nat} {a1 a2 a3 : Value} (r : vKv M pc N 3 ci pc') (hb : vOb n b ci) (h : V d n n N 0 (.ref b :: a1 :: a2 :: a3 :: js) [] σ (Ki fun x τ => V (d + 1) nf n M pc' ls (.int x :: st) τ K)) (hs : vok [a1, a2, a3] js st (N.2.2.2.1 - 1) = true) (hp : 1 ≤ N.2.2.2.1) (hf : n ≤ nf := by first | exact Nat.le_refl _ | decide) : V (d + 1) nf n M pc ls (a3 :: a2 :: a1 :: .ref b :: st) σ K := by
  obtain ⟨q1, q2, q3, q4⟩ := vok_s hs
  exact st_callV (as := [a1, a2, a3]) r hb rfl q1 q2 (by omega) q4 (Nat.le_refl _) hf (V_mono (fun _ _ q => Ki_K q) h)
theorem cS4v {a0 a1 a2 a3 : Value} (r : vKs M pc N 4 pc') (h : V d n n N 0 (a0 :: a1 :: a2 :: a3 :: js) [] σ (Kv fun τ => V (d + 1) nf n M pc' ls st τ K)) (hs : vok [a0, a1, a2, a3] js st N.2.2.2.1 = true) (hf : n ≤ nf := by first | exact Nat.le_refl _ | decide) : V (d + 1) nf n M pc ls (a3 :: a2 :: a1 :: a0 :: st) σ K := by
  obtain ⟨q1, q2, q3, q4⟩ := vok_s hs
  exact st_callS (as := [a0, a1, a2, a3]) r rfl q1 q2 q3 q4 (Nat.le_refl _) hf (V_mono (fun _ _ q => Kv_K q) h)
theorem cV4v {b ci : Nat} {a1 a2 a3 : Value} (r : vKv M pc N 3 ci pc') (hb : vOb n b ci) (h : V d n n N 0 (.ref b :: a1 :: a2 :: a3 :: js) [] σ (Kv fun τ => V (d + 1) nf n M pc' ls st τ K)) (hs : vok [a1, a2, a3] js st (N.2.2.2.1 - 1) = true) (hp : 1 ≤ N.2.2.2.1) (hf : n ≤ nf := by first | exact Nat.le_refl _ | decide) : V (d + 1) nf n M pc ls (a3 :: a2 :: a1 :: .ref b :: st) σ K := by
  obtain ⟨q1, q2, q3, q4⟩ := vok_s hs
  exact st_callV (as := [a1, a2, a3]) r hb rfl q1 q2 (by omega) q4 (Nat.le_refl _) hf (V_mono (fun _ _ q => Kv_K q) h)
theorem cV4l {b ci : Nat} {a1 a2 a3 : Value} (r : vKv M pc N 3 ci pc') (hb : vOb n b ci) (h : V d n n N 0 (.ref b :: a1 :: a2 :: a3 :: js) [] σ (Kl fun x τ => V (d + 1) nf n M pc' ls (.long x :: st) τ K)) (hs : vok [a1, a2, a3] js st (N.2.2.2.1 - 1) = true) (hp : 1 ≤ N.2.2.2.1) (hf : n ≤ nf := by first | exact Nat.le_refl _ | decide) : V (d + 1) nf n M pc ls (a3 :: a2 :: a1 :: .ref b :: st) σ K := by
  obtain ⟨q1, q2, q3, q4⟩ := vok_s hs
  exact st_callV (as := [a1, a2, a3]) r hb rfl q1 q2 (by omega) q4 (Nat.le_refl _) hf (V_mono (fun _ _ q => Kl_K q) h)
theorem cV5i {b ci : Nat} {a1 a2 a3 a4 : Value} (r : vKv M pc N 4 ci pc') (hb : vOb n b ci) (h : V d n n N 0 (.ref b :: a1 :: a2 :: a3 :: a4 :: js) [] σ (Ki fun x τ => V (d + 1) nf n M pc' ls (.int x :: st) τ K)) (hs : vok [a1, a2, a3, a4] js st (N.2.2.2.1 - 1) = true) (hp : 1 ≤ N.2.2.2.1) (hf : n ≤ nf := by first | exact Nat.le_refl _ | decide) : V (d + 1) nf n M pc ls (a4 :: a3 :: a2 :: a1 :: .ref b :: st) σ K := by
  obtain ⟨q1, q2, q3, q4⟩ := vok_s hs
  exact st_callV (as := [a1, a2, a3, a4]) r hb rfl q1 q2 (by omega) q4 (Nat.le_refl _) hf (V_mono (fun _ _ q => Ki_K q) h)
theorem cV5v {b ci : Nat} {a1 a2 a3 a4 : Value} (r : vKv M pc N 4 ci pc') (hb : vOb n b ci) (h : V d n n N 0 (.ref b :: a1 :: a2 :: a3 :: a4 :: js) [] σ (Kv fun τ => V (d + 1) nf n M pc' ls st τ K)) (hs : vok [a1, a2, a3, a4] js st (N.2.2.2.1 - 1) = true) (hp : 1 ≤ N.2.2.2.1) (hf : n ≤ nf := by first | exact Nat.le_refl _ | decide) : V (d + 1) nf n M pc ls (a4 :: a3 :: a2 :: a1 :: .ref b :: st) σ K := by
  obtain ⟨q1, q2, q3, q4⟩ := vok_s hs
  exact st_callV (as := [a1, a2, a3, a4]) r hb rfl q1 q2 (by omega) q4 (Nat.le_refl _) hf (V_mono (fun _ _ q => Kv_K q) h)
theorem cV5l {b ci : Nat} {a1 a2 a3 a4 : Value} (r : vKv M pc N 4 ci pc') (hb : vOb n b ci) (h : V d n n N 0 (.ref b :: a1 :: a2 :: a3 :: a4 :: js) [] σ (Kl fun x τ => V (d + 1) nf n M pc' ls (.long x :: st) τ K)) (hs : vok [a1, a2, a3, a4] js st (N.2.2.2.1 - 1) = true) (hp : 1 ≤ N.2.2.2.1) (hf : n ≤ nf := by first | exact Nat.le_refl _ | decide) : V (d + 1) nf n M pc ls (a4 :: a3 :: a2 :: a1 :: .ref b :: st) σ K := by
  obtain ⟨q1, q2, q3, q4⟩ := vok_s hs
  exact st_callV (as := [a1, a2, a3, a4]) r hb rfl q1 q2 (by omega) q4 (Nat.le_refl _) hf (V_mono (fun _ _ q => Kl_K q) h)
theorem cI0 {b : Nat} (r : vKi M pc N 0 pc') (h : V d nf' n N 0 (.ref b :: js) [] σ (Kv fun τ => V (d + 1) nf nf' M pc' ls st τ K)) (hs : vok [] js st (N.2.2.2.1 - 1) = true) (hp : 1 ≤ N.2.2.2.1) (hn : n ≤ nf') (hf : nf' ≤ nf) : V (d + 1) nf n M pc ls (.ref b :: st) σ K := by
  obtain ⟨q1, q2, q3, q4⟩ := vok_s hs
  exact st_callI (as := []) r rfl q1 q2 (by simp only [List.length_nil] at q3 ⊢; omega) q4 hn hf (V_mono (fun _ _ q => Kv_K q) h)
theorem st_iaddN {a b : Nat} (r : vI M pc .iadd 1 pc') (h : V d nf n M pc' ls (.int (nI (a + b)) :: st) σ K) : V d nf n M pc ls (.int (nI b) :: .int (nI a) :: st) σ K := st_iadd r (st_top (nI_add a b) h)
theorem st_imulN {a b : Nat} (r : vI M pc .imul 1 pc') (h : V d nf n M pc' ls (.int (nI (a * b)) :: st) σ K) : V d nf n M pc ls (.int (nI b) :: .int (nI a) :: st) σ K := st_imul r (st_top (pk_mul a b) h)
theorem st_isubN {a b : Nat} (r : vI M pc .isub 1 pc') (hab : b ≤ a) (h : V d nf n M pc' ls (.int (nI (a - b)) :: st) σ K) : V d nf n M pc ls (.int (nI b) :: .int (nI a) :: st) σ K := st_isub r (st_top (pk_sub hab) h)
theorem st_idivN {a b : Nat} (r : vI M pc .idiv 1 pc') (ha : a < 2147483648) (hb : 0 < b ∧ b < 2147483648) (h : V d nf n M pc' ls (.int (nI (a / b)) :: st) σ K) : V d nf n M pc ls (.int (nI b) :: .int (nI a) :: st) σ K := st_idiv r (nI_ne0 hb.1 hb.2) (st_top (pk_div ha hb.1 hb.2) h)
theorem st_iremN {a b : Nat} (r : vI M pc .irem 1 pc') (ha : a < 2147483648) (hb : 0 < b ∧ b < 2147483648) (h : V d nf n M pc' ls (.int (nI (a % b)) :: st) σ K) : V d nf n M pc ls (.int (nI b) :: .int (nI a) :: st) σ K := st_irem r (nI_ne0 hb.1 hb.2) (st_top (pk_rem ha hb.1 hb.2) h)
theorem st_icmp_eqN {a b : Nat} (r : vIc M pc .eq tgt pc') (ha : a < 2147483648) (hb : b < 2147483648) (ht : a = b → V d nf n M tgt ls st σ K) (hf : a ≠ b → V d nf n M pc' ls st σ K) : V d nf n M pc ls (.int (nI b) :: .int (nI a) :: st) σ K := st_icmp_eq r (fun q => ht ((nI_eq ha hb).mp q)) (fun q => hf (fun z => q ((nI_eq ha hb).mpr z)))
theorem st_if_eqN {a : Nat} (r : vIf M pc .eq tgt pc') (ha : a < 2147483648) (ht : a = 0 → V d nf n M tgt ls st σ K) (hf : a ≠ 0 → V d nf n M pc' ls st σ K) : V d nf n M pc ls (.int (nI a) :: st) σ K := by
  have hb0 : 0 < 2147483648 := by decide
  exact st_if_eq r (fun q => ht ((nI_eq ha hb0).mp q)) (fun q => hf (fun z => q ((nI_eq ha hb0).mpr z)))
theorem st_icmp_neN {a b : Nat} (r : vIc M pc .ne tgt pc') (ha : a < 2147483648) (hb : b < 2147483648) (ht : a ≠ b → V d nf n M tgt ls st σ K) (hf : a = b → V d nf n M pc' ls st σ K) : V d nf n M pc ls (.int (nI b) :: .int (nI a) :: st) σ K := st_icmp_ne r (fun q => ht (fun z => q ((nI_eq ha hb).mpr z))) (fun q => hf ((nI_eq ha hb).mp q))
theorem st_if_neN {a : Nat} (r : vIf M pc .ne tgt pc') (ha : a < 2147483648) (ht : a ≠ 0 → V d nf n M tgt ls st σ K) (hf : a = 0 → V d nf n M pc' ls st σ K) : V d nf n M pc ls (.int (nI a) :: st) σ K := by
  have hb0 : 0 < 2147483648 := by decide
  exact st_if_ne r (fun q => ht (fun z => q ((nI_eq ha hb0).mpr z))) (fun q => hf ((nI_eq ha hb0).mp q))
theorem st_icmp_ltN {a b : Nat} (r : vIc M pc .lt tgt pc') (ha : a < 2147483648) (hb : b < 2147483648) (ht : a < b → V d nf n M tgt ls st σ K) (hf : b ≤ a → V d nf n M pc' ls st σ K) : V d nf n M pc ls (.int (nI b) :: .int (nI a) :: st) σ K := st_icmp_lt r (fun q => ht ((nI_ltI ha hb).mp q)) (fun q => hf (by have := mt (nI_ltI ha hb).mpr q; omega))
theorem st_if_ltN {a : Nat} (r : vIf M pc .lt tgt pc') (ha : a < 2147483648) (ht : a < 0 → V d nf n M tgt ls st σ K) (hf : 0 ≤ a → V d nf n M pc' ls st σ K) : V d nf n M pc ls (.int (nI a) :: st) σ K := by
  have hb0 : 0 < 2147483648 := by decide
  exact st_if_lt r (fun q => ht ((nI_ltI ha hb0).mp q)) (fun q => hf (by have := mt (nI_ltI ha hb0).mpr q; omega))
theorem st_icmp_geN {a b : Nat} (r : vIc M pc .ge tgt pc') (ha : a < 2147483648) (hb : b < 2147483648) (ht : b ≤ a → V d nf n M tgt ls st σ K) (hf : a < b → V d nf n M pc' ls st σ K) : V d nf n M pc ls (.int (nI b) :: .int (nI a) :: st) σ K := st_icmp_ge r (fun q => ht ((nI_leI hb ha).mp q)) (fun q => hf (by have := mt (nI_leI hb ha).mpr q; omega))
theorem st_if_geN {a : Nat} (r : vIf M pc .ge tgt pc') (ha : a < 2147483648) (ht : 0 ≤ a → V d nf n M tgt ls st σ K) (hf : a < 0 → V d nf n M pc' ls st σ K) : V d nf n M pc ls (.int (nI a) :: st) σ K := by
  have hb0 : 0 < 2147483648 := by decide
  exact st_if_ge r (fun q => ht ((nI_leI hb0 ha).mp q)) (fun q => hf (by have := mt (nI_leI hb0 ha).mpr q; omega))
theorem st_icmp_gtN {a b : Nat} (r : vIc M pc .gt tgt pc') (ha : a < 2147483648) (hb : b < 2147483648) (ht : b < a → V d nf n M tgt ls st σ K) (hf : a ≤ b → V d nf n M pc' ls st σ K) : V d nf n M pc ls (.int (nI b) :: .int (nI a) :: st) σ K := st_icmp_gt r (fun q => ht ((nI_ltI hb ha).mp q)) (fun q => hf (by have := mt (nI_ltI hb ha).mpr q; omega))
theorem st_if_gtN {a : Nat} (r : vIf M pc .gt tgt pc') (ha : a < 2147483648) (ht : 0 < a → V d nf n M tgt ls st σ K) (hf : a ≤ 0 → V d nf n M pc' ls st σ K) : V d nf n M pc ls (.int (nI a) :: st) σ K := by
  have hb0 : 0 < 2147483648 := by decide
  exact st_if_gt r (fun q => ht ((nI_ltI hb0 ha).mp q)) (fun q => hf (by have := mt (nI_ltI hb0 ha).mpr q; omega))
theorem st_icmp_leN {a b : Nat} (r : vIc M pc .le tgt pc') (ha : a < 2147483648) (hb : b < 2147483648) (ht : a ≤ b → V d nf n M tgt ls st σ K) (hf : b < a → V d nf n M pc' ls st σ K) : V d nf n M pc ls (.int (nI b) :: .int (nI a) :: st) σ K := st_icmp_le r (fun q => ht ((nI_leI ha hb).mp q)) (fun q => hf (by have := mt (nI_leI ha hb).mpr q; omega))
theorem st_if_leN {a : Nat} (r : vIf M pc .le tgt pc') (ha : a < 2147483648) (ht : a ≤ 0 → V d nf n M tgt ls st σ K) (hf : 0 < a → V d nf n M pc' ls st σ K) : V d nf n M pc ls (.int (nI a) :: st) σ K := by
  have hb0 : 0 < 2147483648 := by decide
  exact st_if_le r (fun q => ht ((nI_leI ha hb0).mp q)) (fun q => hf (by have := mt (nI_leI ha hb0).mpr q; omega))
theorem vSt_set (ls : List Value) (k : Nat) (v : Value) (hc : ∀ w, ls[k - 1]? = some w → 1 ≤ k → w.category = 1) : vSt ls (ls.set k v) k v := by
  refine ⟨fun i w hi hj => ?_, hc⟩
  rw [List.getElem?_set] at hi
  by_cases h : k = i
  · rw [if_pos h] at hi
    by_cases h2 : k < ls.length
    · rw [if_pos (by omega)] at hi
      cases hi
      exact Or.inl ⟨h.symm, rfl⟩
    · rw [if_neg (by omega)] at hi
      cases hi
  · rw [if_neg h] at hi
    exact Or.inr ⟨Ne.symm h, hi⟩
theorem st_istore0 {x : Int32} {ak : Value} {t : List Value} (r : vSi M pc 0 pc') (h : V d nf n M pc' (.int x :: t) st σ K) : V d nf n M pc (ak :: t) (.int x :: st) σ K := st_istoreG r (vSt_set (ak :: t) 0 (.int x) (by intro w _ h; exact absurd h (by decide))) h
theorem st_astore0 {x : Nat} {ak : Value} {t : List Value} (r : vSa M pc 0 pc') (h : V d nf n M pc' (.ref x :: t) st σ K) : V d nf n M pc (ak :: t) (.ref x :: st) σ K := st_astoreG r (vSt_set (ak :: t) 0 (.ref x) (by intro w _ h; exact absurd h (by decide))) h
theorem st_iinc0 {x v : Int32} {t : List Value} (r : vIn M pc 0 v pc') (h : V d nf n M pc' (.int (x + v) :: t) st σ K) : V d nf n M pc (.int x :: t) st σ K := st_iincG r rfl (vSt_set (.int x :: t) 0 (.int (x + v)) (by intro w _ h; exact absurd h (by decide))) h
theorem st_iincN0 {x v : Nat} {t : List Value} (r : vIn M pc 0 (nI v) pc') (h : V d nf n M pc' (.int (nI (x + v)) :: t) st σ K) : V d nf n M pc (.int (nI x) :: t) st σ K := st_iinc0 r (by rw [nI_add]; exact h)
theorem st_istore1 {x : Int32} {a0 ak : Value} {t : List Value} (r : vSi M pc 1 pc') (hc : a0.category = 1) (h : V d nf n M pc' (a0 :: .int x :: t) st σ K) : V d nf n M pc (a0 :: ak :: t) (.int x :: st) σ K := st_istoreG r (vSt_set (a0 :: ak :: t) 1 (.int x) (by intro w hw _; simp at hw; subst hw; exact hc)) h
theorem st_astore1 {x : Nat} {a0 ak : Value} {t : List Value} (r : vSa M pc 1 pc') (hc : a0.category = 1) (h : V d nf n M pc' (a0 :: .ref x :: t) st σ K) : V d nf n M pc (a0 :: ak :: t) (.ref x :: st) σ K := st_astoreG r (vSt_set (a0 :: ak :: t) 1 (.ref x) (by intro w hw _; simp at hw; subst hw; exact hc)) h
theorem st_iinc1 {x v : Int32} {a0 : Value} {t : List Value} (r : vIn M pc 1 v pc') (hc : a0.category = 1) (h : V d nf n M pc' (a0 :: .int (x + v) :: t) st σ K) : V d nf n M pc (a0 :: .int x :: t) st σ K := st_iincG r rfl (vSt_set (a0 :: .int x :: t) 1 (.int (x + v)) (by intro w hw _; simp at hw; subst hw; exact hc)) h
theorem st_iincN1 {x v : Nat} {a0 : Value} {t : List Value} (r : vIn M pc 1 (nI v) pc') (hc : a0.category = 1) (h : V d nf n M pc' (a0 :: .int (nI (x + v)) :: t) st σ K) : V d nf n M pc (a0 :: .int (nI x) :: t) st σ K := st_iinc1 r hc (by rw [nI_add]; exact h)
theorem st_istore2 {x : Int32} {a0 a1 ak : Value} {t : List Value} (r : vSi M pc 2 pc') (hc : a1.category = 1) (h : V d nf n M pc' (a0 :: a1 :: .int x :: t) st σ K) : V d nf n M pc (a0 :: a1 :: ak :: t) (.int x :: st) σ K := st_istoreG r (vSt_set (a0 :: a1 :: ak :: t) 2 (.int x) (by intro w hw _; simp at hw; subst hw; exact hc)) h
theorem st_astore2 {x : Nat} {a0 a1 ak : Value} {t : List Value} (r : vSa M pc 2 pc') (hc : a1.category = 1) (h : V d nf n M pc' (a0 :: a1 :: .ref x :: t) st σ K) : V d nf n M pc (a0 :: a1 :: ak :: t) (.ref x :: st) σ K := st_astoreG r (vSt_set (a0 :: a1 :: ak :: t) 2 (.ref x) (by intro w hw _; simp at hw; subst hw; exact hc)) h
theorem st_iinc2 {x v : Int32} {a0 a1 : Value} {t : List Value} (r : vIn M pc 2 v pc') (hc : a1.category = 1) (h : V d nf n M pc' (a0 :: a1 :: .int (x + v) :: t) st σ K) : V d nf n M pc (a0 :: a1 :: .int x :: t) st σ K := st_iincG r rfl (vSt_set (a0 :: a1 :: .int x :: t) 2 (.int (x + v)) (by intro w hw _; simp at hw; subst hw; exact hc)) h
theorem st_iincN2 {x v : Nat} {a0 a1 : Value} {t : List Value} (r : vIn M pc 2 (nI v) pc') (hc : a1.category = 1) (h : V d nf n M pc' (a0 :: a1 :: .int (nI (x + v)) :: t) st σ K) : V d nf n M pc (a0 :: a1 :: .int (nI x) :: t) st σ K := st_iinc2 r hc (by rw [nI_add]; exact h)
theorem st_istore3 {x : Int32} {a0 a1 a2 ak : Value} {t : List Value} (r : vSi M pc 3 pc') (hc : a2.category = 1) (h : V d nf n M pc' (a0 :: a1 :: a2 :: .int x :: t) st σ K) : V d nf n M pc (a0 :: a1 :: a2 :: ak :: t) (.int x :: st) σ K := st_istoreG r (vSt_set (a0 :: a1 :: a2 :: ak :: t) 3 (.int x) (by intro w hw _; simp at hw; subst hw; exact hc)) h
theorem st_astore3 {x : Nat} {a0 a1 a2 ak : Value} {t : List Value} (r : vSa M pc 3 pc') (hc : a2.category = 1) (h : V d nf n M pc' (a0 :: a1 :: a2 :: .ref x :: t) st σ K) : V d nf n M pc (a0 :: a1 :: a2 :: ak :: t) (.ref x :: st) σ K := st_astoreG r (vSt_set (a0 :: a1 :: a2 :: ak :: t) 3 (.ref x) (by intro w hw _; simp at hw; subst hw; exact hc)) h
theorem st_iinc3 {x v : Int32} {a0 a1 a2 : Value} {t : List Value} (r : vIn M pc 3 v pc') (hc : a2.category = 1) (h : V d nf n M pc' (a0 :: a1 :: a2 :: .int (x + v) :: t) st σ K) : V d nf n M pc (a0 :: a1 :: a2 :: .int x :: t) st σ K := st_iincG r rfl (vSt_set (a0 :: a1 :: a2 :: .int x :: t) 3 (.int (x + v)) (by intro w hw _; simp at hw; subst hw; exact hc)) h
theorem st_iincN3 {x v : Nat} {a0 a1 a2 : Value} {t : List Value} (r : vIn M pc 3 (nI v) pc') (hc : a2.category = 1) (h : V d nf n M pc' (a0 :: a1 :: a2 :: .int (nI (x + v)) :: t) st σ K) : V d nf n M pc (a0 :: a1 :: a2 :: .int (nI x) :: t) st σ K := st_iinc3 r hc (by rw [nI_add]; exact h)
theorem st_istore4 {x : Int32} {a0 a1 a2 a3 ak : Value} {t : List Value} (r : vSi M pc 4 pc') (hc : a3.category = 1) (h : V d nf n M pc' (a0 :: a1 :: a2 :: a3 :: .int x :: t) st σ K) : V d nf n M pc (a0 :: a1 :: a2 :: a3 :: ak :: t) (.int x :: st) σ K := st_istoreG r (vSt_set (a0 :: a1 :: a2 :: a3 :: ak :: t) 4 (.int x) (by intro w hw _; simp at hw; subst hw; exact hc)) h
theorem st_astore4 {x : Nat} {a0 a1 a2 a3 ak : Value} {t : List Value} (r : vSa M pc 4 pc') (hc : a3.category = 1) (h : V d nf n M pc' (a0 :: a1 :: a2 :: a3 :: .ref x :: t) st σ K) : V d nf n M pc (a0 :: a1 :: a2 :: a3 :: ak :: t) (.ref x :: st) σ K := st_astoreG r (vSt_set (a0 :: a1 :: a2 :: a3 :: ak :: t) 4 (.ref x) (by intro w hw _; simp at hw; subst hw; exact hc)) h
theorem st_iinc4 {x v : Int32} {a0 a1 a2 a3 : Value} {t : List Value} (r : vIn M pc 4 v pc') (hc : a3.category = 1) (h : V d nf n M pc' (a0 :: a1 :: a2 :: a3 :: .int (x + v) :: t) st σ K) : V d nf n M pc (a0 :: a1 :: a2 :: a3 :: .int x :: t) st σ K := st_iincG r rfl (vSt_set (a0 :: a1 :: a2 :: a3 :: .int x :: t) 4 (.int (x + v)) (by intro w hw _; simp at hw; subst hw; exact hc)) h
theorem st_iincN4 {x v : Nat} {a0 a1 a2 a3 : Value} {t : List Value} (r : vIn M pc 4 (nI v) pc') (hc : a3.category = 1) (h : V d nf n M pc' (a0 :: a1 :: a2 :: a3 :: .int (nI (x + v)) :: t) st σ K) : V d nf n M pc (a0 :: a1 :: a2 :: a3 :: .int (nI x) :: t) st σ K := st_iinc4 r hc (by rw [nI_add]; exact h)
theorem st_istore5 {x : Int32} {a0 a1 a2 a3 a4 ak : Value} {t : List Value} (r : vSi M pc 5 pc') (hc : a4.category = 1) (h : V d nf n M pc' (a0 :: a1 :: a2 :: a3 :: a4 :: .int x :: t) st σ K) : V d nf n M pc (a0 :: a1 :: a2 :: a3 :: a4 :: ak :: t) (.int x :: st) σ K := st_istoreG r (vSt_set (a0 :: a1 :: a2 :: a3 :: a4 :: ak :: t) 5 (.int x) (by intro w hw _; simp at hw; subst hw; exact hc)) h
theorem st_astore5 {x : Nat} {a0 a1 a2 a3 a4 ak : Value} {t : List Value} (r : vSa M pc 5 pc') (hc : a4.category = 1) (h : V d nf n M pc' (a0 :: a1 :: a2 :: a3 :: a4 :: .ref x :: t) st σ K) : V d nf n M pc (a0 :: a1 :: a2 :: a3 :: a4 :: ak :: t) (.ref x :: st) σ K := st_astoreG r (vSt_set (a0 :: a1 :: a2 :: a3 :: a4 :: ak :: t) 5 (.ref x) (by intro w hw _; simp at hw; subst hw; exact hc)) h
theorem st_iinc5 {x v : Int32} {a0 a1 a2 a3 a4 : Value} {t : List Value} (r : vIn M pc 5 v pc') (hc : a4.category = 1) (h : V d nf n M pc' (a0 :: a1 :: a2 :: a3 :: a4 :: .int (x + v) :: t) st σ K) : V d nf n M pc (a0 :: a1 :: a2 :: a3 :: a4 :: .int x :: t) st σ K := st_iincG r rfl (vSt_set (a0 :: a1 :: a2 :: a3 :: a4 :: .int x :: t) 5 (.int (x + v)) (by intro w hw _; simp at hw; subst hw; exact hc)) h
theorem st_iincN5 {x v : Nat} {a0 a1 a2 a3 a4 : Value} {t : List Value} (r : vIn M pc 5 (nI v) pc') (hc : a4.category = 1) (h : V d nf n M pc' (a0 :: a1 :: a2 :: a3 :: a4 :: .int (nI (x + v)) :: t) st σ K) : V d nf n M pc (a0 :: a1 :: a2 :: a3 :: a4 :: .int (nI x) :: t) st σ K := st_iinc5 r hc (by rw [nI_add]; exact h)
theorem st_istore6 {x : Int32} {a0 a1 a2 a3 a4 a5 ak : Value} {t : List Value} (r : vSi M pc 6 pc') (hc : a5.category = 1) (h : V d nf n M pc' (a0 :: a1 :: a2 :: a3 :: a4 :: a5 :: .int x :: t) st σ K) : V d nf n M pc (a0 :: a1 :: a2 :: a3 :: a4 :: a5 :: ak :: t) (.int x :: st) σ K := st_istoreG r (vSt_set (a0 :: a1 :: a2 :: a3 :: a4 :: a5 :: ak :: t) 6 (.int x) (by intro w hw _; simp at hw; subst hw; exact hc)) h
theorem st_astore6 {x : Nat} {a0 a1 a2 a3 a4 a5 ak : Value} {t : List Value} (r : vSa M pc 6 pc') (hc : a5.category = 1) (h : V d nf n M pc' (a0 :: a1 :: a2 :: a3 :: a4 :: a5 :: .ref x :: t) st σ K) : V d nf n M pc (a0 :: a1 :: a2 :: a3 :: a4 :: a5 :: ak :: t) (.ref x :: st) σ K := st_astoreG r (vSt_set (a0 :: a1 :: a2 :: a3 :: a4 :: a5 :: ak :: t) 6 (.ref x) (by intro w hw _; simp at hw; subst hw; exact hc)) h
theorem st_iinc6 {x v : Int32} {a0 a1 a2 a3 a4 a5 : Value} {t : List Value} (r : vIn M pc 6 v pc') (hc : a5.category = 1) (h : V d nf n M pc' (a0 :: a1 :: a2 :: a3 :: a4 :: a5 :: .int (x + v) :: t) st σ K) : V d nf n M pc (a0 :: a1 :: a2 :: a3 :: a4 :: a5 :: .int x :: t) st σ K := st_iincG r rfl (vSt_set (a0 :: a1 :: a2 :: a3 :: a4 :: a5 :: .int x :: t) 6 (.int (x + v)) (by intro w hw _; simp at hw; subst hw; exact hc)) h
theorem st_iincN6 {x v : Nat} {a0 a1 a2 a3 a4 a5 : Value} {t : List Value} (r : vIn M pc 6 (nI v) pc') (hc : a5.category = 1) (h : V d nf n M pc' (a0 :: a1 :: a2 :: a3 :: a4 :: a5 :: .int (nI (x + v)) :: t) st σ K) : V d nf n M pc (a0 :: a1 :: a2 :: a3 :: a4 :: a5 :: .int (nI x) :: t) st σ K := st_iinc6 r hc (by rw [nI_add]; exact h)
theorem st_istore7 {x : Int32} {a0 a1 a2 a3 a4 a5 a6 ak : Value} {t : List Value} (r : vSi M pc 7 pc') (hc : a6.category = 1) (h : V d nf n M pc' (a0 :: a1 :: a2 :: a3 :: a4 :: a5 :: a6 :: .int x :: t) st σ K) : V d nf n M pc (a0 :: a1 :: a2 :: a3 :: a4 :: a5 :: a6 :: ak :: t) (.int x :: st) σ K := st_istoreG r (vSt_set (a0 :: a1 :: a2 :: a3 :: a4 :: a5 :: a6 :: ak :: t) 7 (.int x) (by intro w hw _; simp at hw; subst hw; exact hc)) h
theorem st_astore7 {x : Nat} {a0 a1 a2 a3 a4 a5 a6 ak : Value} {t : List Value} (r : vSa M pc 7 pc') (hc : a6.category = 1) (h : V d nf n M pc' (a0 :: a1 :: a2 :: a3 :: a4 :: a5 :: a6 :: .ref x :: t) st σ K) : V d nf n M pc (a0 :: a1 :: a2 :: a3 :: a4 :: a5 :: a6 :: ak :: t) (.ref x :: st) σ K := st_astoreG r (vSt_set (a0 :: a1 :: a2 :: a3 :: a4 :: a5 :: a6 :: ak :: t) 7 (.ref x) (by intro w hw _; simp at hw; subst hw; exact hc)) h
theorem st_iinc7 {x v : Int32} {a0 a1 a2 a3 a4 a5 a6 : Value} {t : List Value} (r : vIn M pc 7 v pc') (hc : a6.category = 1) (h : V d nf n M pc' (a0 :: a1 :: a2 :: a3 :: a4 :: a5 :: a6 :: .int (x + v) :: t) st σ K) : V d nf n M pc (a0 :: a1 :: a2 :: a3 :: a4 :: a5 :: a6 :: .int x :: t) st σ K := st_iincG r rfl (vSt_set (a0 :: a1 :: a2 :: a3 :: a4 :: a5 :: a6 :: .int x :: t) 7 (.int (x + v)) (by intro w hw _; simp at hw; subst hw; exact hc)) h
theorem st_iincN7 {x v : Nat} {a0 a1 a2 a3 a4 a5 a6 : Value} {t : List Value} (r : vIn M pc 7 (nI v) pc') (hc : a6.category = 1) (h : V d nf n M pc' (a0 :: a1 :: a2 :: a3 :: a4 :: a5 :: a6 :: .int (nI (x + v)) :: t) st σ K) : V d nf n M pc (a0 :: a1 :: a2 :: a3 :: a4 :: a5 :: a6 :: .int (nI x) :: t) st σ K := st_iinc7 r hc (by rw [nI_add]; exact h)
theorem st_lstore2 {x : Int64} {a0 a1 ak al : Value} {t : List Value} (r : vSl M pc 2 pc') (hc : a1.category = 1) (h : V d nf n M pc' (a0 :: a1 :: .long x :: vJ :: t) st σ K) : V d nf n M pc (a0 :: a1 :: ak :: al :: t) (.long x :: st) σ K := by
  refine st_lstoreG r (ls' := a0 :: a1 :: .long x :: vJ :: t) ⟨fun i w hi hj => ?_, by intro w hw _; simp at hw; subst hw; exact hc⟩ h
  match i with
  | 0 => simp at hi; subst hi; exact Or.inr ⟨by decide, by decide, rfl⟩
  | 1 => simp at hi; subst hi; exact Or.inr ⟨by decide, by decide, rfl⟩
  | 2 => simp at hi; subst hi; exact Or.inl ⟨rfl, rfl⟩
  | 3 => simp at hi; exact absurd hi.symm hj
  | i + 4 => exact Or.inr ⟨by omega, by omega, hi⟩
theorem st_lstore3 {x : Int64} {a0 a1 a2 ak al : Value} {t : List Value} (r : vSl M pc 3 pc') (hc : a2.category = 1) (h : V d nf n M pc' (a0 :: a1 :: a2 :: .long x :: vJ :: t) st σ K) : V d nf n M pc (a0 :: a1 :: a2 :: ak :: al :: t) (.long x :: st) σ K := by
  refine st_lstoreG r (ls' := a0 :: a1 :: a2 :: .long x :: vJ :: t) ⟨fun i w hi hj => ?_, by intro w hw _; simp at hw; subst hw; exact hc⟩ h
  match i with
  | 0 => simp at hi; subst hi; exact Or.inr ⟨by decide, by decide, rfl⟩
  | 1 => simp at hi; subst hi; exact Or.inr ⟨by decide, by decide, rfl⟩
  | 2 => simp at hi; subst hi; exact Or.inr ⟨by decide, by decide, rfl⟩
  | 3 => simp at hi; subst hi; exact Or.inl ⟨rfl, rfl⟩
  | 4 => simp at hi; exact absurd hi.symm hj
  | i + 5 => exact Or.inr ⟨by omega, by omega, hi⟩
theorem st_lstore4 {x : Int64} {a0 a1 a2 a3 ak al : Value} {t : List Value} (r : vSl M pc 4 pc') (hc : a3.category = 1) (h : V d nf n M pc' (a0 :: a1 :: a2 :: a3 :: .long x :: vJ :: t) st σ K) : V d nf n M pc (a0 :: a1 :: a2 :: a3 :: ak :: al :: t) (.long x :: st) σ K := by
  refine st_lstoreG r (ls' := a0 :: a1 :: a2 :: a3 :: .long x :: vJ :: t) ⟨fun i w hi hj => ?_, by intro w hw _; simp at hw; subst hw; exact hc⟩ h
  match i with
  | 0 => simp at hi; subst hi; exact Or.inr ⟨by decide, by decide, rfl⟩
  | 1 => simp at hi; subst hi; exact Or.inr ⟨by decide, by decide, rfl⟩
  | 2 => simp at hi; subst hi; exact Or.inr ⟨by decide, by decide, rfl⟩
  | 3 => simp at hi; subst hi; exact Or.inr ⟨by decide, by decide, rfl⟩
  | 4 => simp at hi; subst hi; exact Or.inl ⟨rfl, rfl⟩
  | 5 => simp at hi; exact absurd hi.symm hj
  | i + 6 => exact Or.inr ⟨by omega, by omega, hi⟩
end VAri
section VArN
variable {d nf n : Nat} {M : vM} {pc pc' tgt : Nat} {ls st : List Value} {I : Nat → Nat → Int32} {J : Nat → Nat → Int64} {Z : Nat → Nat → Option Nat} {K : Option Value → vS → Prop}
theorem st_ialdN {a len j : Nat} (r : vI M pc .iaload 1 pc') (ha : vAr n a 100 len) (hj : j < len) (h : V d nf n M pc' ls (.int (I a j) :: st) (I, J, Z) K) : V d nf n M pc ls (.int (nI j) :: .ref a :: st) (I, J, Z) K := st_iald r ha (vp_in_nI hj ha.2.2) (by rw [nI_clamp (Nat.lt_trans hj ha.2.2)]; exact h)
theorem st_baldN {a len j : Nat} (r : vI M pc .baload 1 pc') (ha : vAr n a 101 len) (hj : j < len) (h : V d nf n M pc' ls (.int (I a j) :: st) (I, J, Z) K) : V d nf n M pc ls (.int (nI j) :: .ref a :: st) (I, J, Z) K := st_bald r ha (vp_in_nI hj ha.2.2) (by rw [nI_clamp (Nat.lt_trans hj ha.2.2)]; exact h)
theorem st_aaldN {a len j b : Nat} (r : vI M pc .aaload 1 pc') (ha : vAr n a 102 len) (hj : j < len) (hb : Z a j = some b) (h : V d nf n M pc' ls (.ref b :: st) (I, J, Z) K) : V d nf n M pc ls (.int (nI j) :: .ref a :: st) (I, J, Z) K := st_aald r ha (vp_in_nI hj ha.2.2) (by rw [nI_clamp (Nat.lt_trans hj ha.2.2)]; exact hb) h
theorem st_iastN {a len j : Nat} {x : Int32} (r : vI M pc .iastore 1 pc') (ha : vAr n a 100 len) (hj : j < len) (h : V d nf n M pc' ls st (up I a (va_up (I a) j x), J, Z) K) : V d nf n M pc ls (.int x :: .int (nI j) :: .ref a :: st) (I, J, Z) K := st_iast r ha (vp_in_nI hj ha.2.2) (by rw [nI_clamp (Nat.lt_trans hj ha.2.2)]; exact h)
theorem st_bastN {a len j : Nat} {x : Int32} (r : vI M pc .bastore 1 pc') (ha : vAr n a 101 len) (hj : j < len) (hx : vp_nar .boolean x = x) (h : V d nf n M pc' ls st (up I a (va_up (I a) j x), J, Z) K) : V d nf n M pc ls (.int x :: .int (nI j) :: .ref a :: st) (I, J, Z) K := st_bast r ha (vp_in_nI hj ha.2.2) hx (by rw [nI_clamp (Nat.lt_trans hj ha.2.2)]; exact h)
theorem st_aastN {a len j b : Nat} (r : vI M pc .aastore 1 pc') (ha : vAr n a 102 len) (hj : j < len) (hb : vOb n b 1) (h : V d nf n M pc' ls st (I, J, up Z a (va_up (Z a) j (some b))) K) : V d nf n M pc ls (.ref b :: .int (nI j) :: .ref a :: st) (I, J, Z) K := st_aast r ha (vp_in_nI hj ha.2.2) hb (by rw [nI_clamp (Nat.lt_trans hj ha.2.2)]; exact h)
theorem st_sldN {j : Nat} (r : vI M pc .iaload 1 pc') (hj : j < vLen (I, J, Z)) (hl : vLen (I, J, Z) < 2147483648) (h : V d nf n M pc' ls (.int (I 1000 j) :: st) (I, J, Z) K) : V d nf n M pc ls (.int (nI j) :: vX :: st) (I, J, Z) K := st_sld r (vp_in_nI hj hl) (by rw [nI_clamp (Nat.lt_trans hj hl)]; exact h)
end VArN
