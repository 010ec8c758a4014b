/-! ===== calls ===== -/
def vRm (d nf n : Nat) : Room := { frames := d, cells := nf - n, slots := vSZ nf - vSZ n, locals := 34 * d }
def vQ (E : vE) (nf : Nat) (K : Option Value → vS → Prop) : Array Value → State → Outcome → State → Prop := fun _ st oc t => (∃ (v : Option Value) (τ : vS), oc = .returned (v.map (vmV E)) ∧ K v τ ∧ vW0 E nf τ t t.heap) ∧ va_F (fun q => E.1 ≤ q) st t
/-- a method that can be called -/
def vCal (N : vM) (k : Nat) : Prop := Cond.code N.2.1 N.2.2.1 N.2.2.2.1 N.2.2.2.2 ∈ vT ∧ Cond.initialized N.2.1.cls ∈ vT ∧ (N.2.1.cls ≠ "java/lang/invoke/MethodHandle" ∧ N.2.1.cls ≠ "java/lang/invoke/VarHandle" ∧ (parseMethodDescriptor N.2.1.desc).map (fun d => d.parameters.length) = some k) ∧ plainName N.2.1.cls = true ∧ N.2.2.2.1 ≤ 15 ∧ N.1 = N.2.1.cls
theorem vW0_warm {E : vE} {n : Nat} {σ : vS} {s t : State} {H : Heap} (h : vW0 E n σ s H) (hW : s.WarmedH t.vm) : vW0 E n σ t H := by
  obtain ⟨k1, k2, k4, k5, k6, k7, k8⟩ := h
  exact ⟨va_K.moved hW.alike k1, k2, vNs_warm hW k4, va_AO.moved hW.alike k5, va_X.moved hW.alike k6, k7, k8⟩
theorem vW0_same {E : vE} {n : Nat} {σ : vS} {s t : State} {H : Heap} (h : vW0 E n σ s H) (hW : s.vm = t.vm) : vW0 E n σ t H := by
  obtain ⟨k1, k2, k4, k5, k6, k7, k8⟩ := h
  have ha : s.vm.Alike t.vm := by rw [hW]; exact Vm.Alike.refl t.vm
  exact ⟨va_K.moved ha k1, k2, vNs_same hW k4, va_AO.moved ha k5, va_X.moved ha k6, k7, k8⟩
def vPc (E : vE) (n : Nat) (σ : vS) : State → Prop := fun U => vW0 E n σ U U.heap ∧ U.heap.size = E.1 + n
theorem vPc_blind (E : vE) (n : Nat) (σ : vS) (av : List Value) : FrameBlind (va_Pc av (vPc E n σ)) := by
  intro a U g mk q
  exact ⟨q.1, vW0_same q.2.1 rfl, q.2.2⟩
theorem vSZ_mono {a b : Nat} (h : a ≤ b) : vSZ a ≤ vSZ b := by
  unfold vSZ
  obtain ⟨k, rfl⟩ := Nat.exists_eq_add_of_le h
  rw [List.take_add, List.map_append, List.sum_append]
  exact Nat.le_add_right _ _
theorem vargs_mem : ∀ (vs : List Value) (k i : Nat) (v : Value), (∀ a ∈ vs, a.category = 1) → vs[i]? = some v → (k + i, v) ∈ lv_args k vs := by
  intro vs
  induction vs with
  | nil => intro k i v _ h; simp at h
  | cons a t ih =>
    intro k i v hc h
    have ha : ¬ a.category = 2 := by have := hc a List.mem_cons_self; omega
    simp only [lv_args, if_neg ha]
    cases i with
    | zero => simp at h; subst h; exact List.mem_cons_self
    | succ i =>
      have := ih (k + 1) i v (fun b hb => hc b (List.mem_cons_of_mem _ hb)) (by simpa using h)
      rw [show k + 1 + i = k + (i + 1) by omega] at this
      exact List.mem_cons_of_mem _ this
theorem vsl_len : ∀ (vs : List Value), (∀ a ∈ vs, a.category = 1) → (lg_sl vs).length = vs.length := by
  intro vs
  induction vs with
  | nil => intro _; rfl
  | cons a t ih =>
    intro hc
    have ha : ¬ a.category = 2 := by have := hc a List.mem_cons_self; omega
    have := ih (fun b hb => hc b (List.mem_cons_of_mem _ hb))
    simp only [lg_sl, List.flatMap_cons, if_neg ha, List.length_append, List.length_cons, List.length_nil] at this ⊢
    omega
theorem vMet {N : vM} {k d nf n : Nat} {σ : vS} {as js : List Value} {K : Option Value → vS → Prop} (hN : vCal N k) (hc : ∀ a ∈ as, a.category = 1) (hj : ∀ a ∈ js, a = vJ) (hlen : as.length + js.length = N.2.2.2.1) (hn : n ≤ nf) (hV : V d nf n N 0 (as ++ js) [] σ K) (E : vE) (l : Launch) :
    Met l N.2.1 (Cond.code N.2.1 N.2.2.1 N.2.2.2.1 N.2.2.2.2 :: vT) (vRm d nf n) (va_Pc (as.map (vmV E)) (vPc E n σ)) (vQ E nf K) (nf - n) (vSZ nf - vSZ n) (fun q => E.1 ≤ q) := by
  refine Met.ofW (cc := N.2.2.1) (maxL := N.2.2.2.1) (ret := N.2.2.2.2) hN.2.2.2.1 rfl ?_
  intro p e s m args below meth c s₁ B hml hv
  obtain ⟨rfl, hw, hsz⟩ := hv
  have hts := atoms_spec (ws := Cond.code N.2.1 N.2.2.1 N.2.2.2.1 N.2.2.2.2 :: vT) B.pre
  have hown : s.vm.findClass N.2.1.cls = some m.cls := findClass_of_methodNamed B.named
  have hnm : meth.name = N.2.1.name := (name_of_methodNamed B.named B.method).1
  have hcm : ∀ a ∈ as.map (vmV E), a.category = 1 := by
    intro a ha
    obtain ⟨b, hb, rfl⟩ := List.mem_map.mp ha
    rw [vmV_cat]
    exact hc b hb
  have hll : (lg_sl (as.map (vmV E))).length ≤ N.2.2.2.1 := by rw [vsl_len _ hcm, List.length_map]; omega
  have hl := lv_entry (as.map (vmV E)) (n := N.2.2.2.1) hll
  rw [lg_entry_eq]
  generalize (lg_sl (as.map (vmV E)) ++ List.replicate (N.2.2.2.1 - (lg_sl (as.map (vmV E))).length) Slot.unset).toArray = lm at hl ⊢
  have C : vCtx N p s m ((as.map (vmV E)).toArray) meth c := ⟨B.exec, B.bytes, hml, by rw [hN.2.2.2.2.2]; exact hown, fun w hw => hts w (List.mem_cons_of_mem _ hw), B.returns, B.notSynchronized, fun q => by rw [hnm, q]⟩
  have hL : vLs E N.2.2.2.1 lm (as ++ js) := by
    refine ⟨hl.1, hl.2.1, fun i v hi hv => ?_⟩
    by_cases hia : i < as.length
    · rw [List.getElem?_append_left hia] at hi
      have h2 := vargs_mem (as.map (vmV E)) 0 i (vmV E v) hcm (by rw [List.getElem?_map, hi]; rfl)
      rw [Nat.zero_add] at h2
      exact hl.2.2 _ h2
    · rw [List.getElem?_append_right (by omega)] at hi
      exact absurd (hj v (List.mem_of_getElem? hi)) hv
  have hS : va_S (fun q => E.1 ≤ q) s.heap s.heap [] := va_S.rf
  refine hV E p l e (headSpec (Cond.code N.2.1 N.2.2.1 N.2.2.2.1 N.2.2.2.2 :: vT) (vRm d nf n)).room s m _ below meth c s.heap [] 0 0 _ lm C rfl (Nat.le_refl _) (by rw [Nat.zero_add]; exact Nat.le_refl _) (by rw [Nat.zero_add]; exact Nat.le_refl _) hn hsz ⟨hw, hS, by omega⟩ hL ?_
  intro v τ H' locs' pc' lm' hK hw' hr'
  rw [Nat.zero_add, Nat.zero_add]
  have hq : ∀ t : State, t.heap = H' → s.WarmedH t.vm → vQ E nf K ((as.map (vmV E)).toArray) s (.returned (v.map (vmV E))) t := by
    intro t ht hW
    refine ⟨⟨v, τ, rfl, hK, ?_⟩, hw'.2.1.F ht⟩
    rw [ht]
    exact vW0_warm hw'.1 hW
  have hf : ∀ q ∈ locs', E.1 ≤ q.base := hw'.2.1.2.2
  have hlocks : meth.locks = false := B.notSynchronized
  cases v with
  | none => exact W.vret C.1 C.2.1 (C.2.2.2.2.2.1.trans hr'.2) hq hf hr'.1
  | some v =>
    cases v with
    | int x =>
      obtain ⟨r1, ty, r2, r3⟩ := hr'
      exact W.zret C.1 C.2.1 (C.2.2.2.2.2.1.trans r2) r3 hq hf r1
    | long x => exact W.lret C.1 C.2.1 (C.2.2.2.2.2.1.trans hr'.2) hq hf hr'.1
    | float x => exact hr'.elim
    | double x => exact hr'.elim
    | null => exact hr'.elim
    | ref x => exact hr'.elim
    | retAddr x => exact hr'.elim
section VCall
variable {p : Program} {l : Launch} {e : Env} {R : Room} {s : State} {m : MethodId} {args : Array Value} {below : List Frame} {meth : Method} {c : Code} {H : Heap} {locs : List Loc} {cells slots : Nat} {Q : State → Prop}
theorem vcall {E : vE} {n nf mc ms pc : Nat} {σ : vS} {lm : Array Slot} {stk rest : List Value} {a : Array Value} {K' : Option Value → vS → Prop} (hr : va_Run p l e R s m args below meth c H locs cells slots mc ms (F0 m pc lm stk) rest (vQ E nf K' a) (fun q => E.1 ≤ q)) (hw : vWld E n σ s H locs)
    (kk : ∀ (v : Option Value) (τ : vS) (H1 : Heap) (locs1 : List Loc), K' v τ → vWld E nf τ s H1 locs1 → W p l e R s m args below meth c H1 locs1 (cells + mc) (slots + ms) Q (F0 m (pc + 3) lm ((v.map (vmV E)).toList ++ rest))) : W p l e R s m args below meth c H locs cells slots Q (F0 m pc lm stk) := by
  intro T hT X
  obtain ⟨v, st₀, t, T', L, h0, X', hL, e1, e2, ⟨⟨v', τ, hv, hK, hW0⟩, hz, hk⟩, st⟩ := hr T hT X
  have hv : v = v'.map (vmV E) := Outcome.returned.inj hv
  subst hv
  rw [h0] at hz hk
  obtain ⟨⟨k1, k2, k4, k5, k6, k7, k8⟩, hS, hb⟩ := hw
  have hal : t.vm.Alike s.vm := by rw [← e2]; exact X'.warmed.alike.symm
  obtain ⟨t2, a1, b1⟩ := kk v' τ T'.heap (locs ++ L) hK ⟨⟨k1, by rw [e1]; exact hW0.2.1, k4, k5, by rw [e1]; exact va_X.moved hal hW0.2.2.2.2.1, k7, hW0.2.2.2.2.2.2⟩, ⟨Nat.le_trans hS.1 (by rw [e1]; exact hz), fun q q1 q2 => by rw [e1, hk q (Nat.lt_of_lt_of_le q1 hS.1) q2]; exact hS.2.1 q q1 q2, fun q hq => by
      rcases List.mem_append.mp hq with h | h
      · exact hS.2.2 q h
      · exact hL q h⟩, hb⟩ T' rfl X'
  exact ⟨t2, st t2 a1, b1⟩
end VCall
theorem vGood {N : vM} (h : Cond.code N.2.1 N.2.2.1 N.2.2.2.1 N.2.2.2.2 ∈ vT) : GoodIn vT (Cond.code N.2.1 N.2.2.1 N.2.2.2.1 N.2.2.2.2 :: vT) := by
  intro w hw
  rcases List.mem_cons.mp hw with rfl | hw
  · exact ⟨h, vT_good h⟩
  · exact ⟨hw, vT_good hw⟩
/-- rows of calls -/
def vKs (M : vM) (pc : Nat) (N : vM) (k pc' : Nat) : Prop := ∃ idx : Nat, decode M.2.2.1 pc = .ok (.invokestatic idx, 3) ∧ pc + 3 = pc' ∧ vCal N k ∧ Cond.static N.2.1 ∈ vT ∧ (Cond.methodLink M.1 idx N.2.1 ∈ vT ∨ ∃ host, Cond.methodLinkNest M.1 idx N.2.1 host ∈ vNs)
def vKv (M : vM) (pc : Nat) (N : vM) (k ci pc' : Nat) : Prop := ∃ (idx : Nat) (r : vw_C), decode M.2.2.1 pc = .ok (.invokevirtual idx, 3) ∧ pc + 3 = pc' ∧ vCal N k ∧ Cond.instanceMethod N.2.1 ∈ vT ∧ Cond.methodLink M.1 idx N.2.1 ∈ vT ∧ Cond.selects N.2.1.cls N.2.1 N.2.1 ∈ vT ∧ vwCl[ci]? = some r ∧ r.1 = N.2.1.cls
def vKi (M : vM) (pc : Nat) (N : vM) (k pc' : Nat) : Prop := ∃ idx : Nat, decode M.2.2.1 pc = .ok (.invokespecial idx, 3) ∧ pc + 3 = pc' ∧ vCal N k ∧ Cond.instanceMethod N.2.1 ∈ vT ∧ N.2.1.name = "<init>" ∧ N.2.2.2.2 = none ∧ (Cond.methodLink M.1 idx N.2.1 ∈ vT ∨ ∃ host, Cond.methodLinkNest M.1 idx N.2.1 host ∈ vNs)
section VC2
variable {d nf nf' n k : Nat} {M N : vM} {pc pc' : Nat} {ls st as js : List Value} {σ : vS} {K : Option Value → vS → Prop}
theorem vafter {E : vE} {p : Program} {l : Launch} {e : Env} {R : Room} {s : State} {m : MethodId} {args : Array Value} {below : List Frame} {meth : Method} {c : Code} {H1 : Heap} {locs1 : List Loc} {cells slots : Nat} {Q : State → Prop} {lm : Array Slot} {v : Option Value} {τ : vS} (h : V (d + 1) nf nf' M (pc + 3) ls (v.toList ++ st) τ K) (C : vCtx M p s m args meth c) (h1 : R.frames = d + 1) (h2 : 34 * (d + 1) ≤ R.locals) (h3 : cells + (nf - n) ≤ R.cells) (h4 : slots + (vSZ nf - vSZ n) ≤ R.slots) (hnn : n ≤ nf') (hff : nf' ≤ nf) (h6 : s.heap.size + cells = E.1 + n) (hw : vWld E nf' τ s H1 locs1) (hl : vLs E M.2.2.2.1 lm ls)
    (hr : ∀ (v : Option Value) (τ : vS) (H' : Heap) (locs' : List Loc) (pc' : Nat) (lm' : Array Slot), K v τ → vWld E nf τ s H' locs' → vRet M pc' v → W p l e R s m args below meth c H' locs' (cells + (nf - n)) (slots + (vSZ nf - vSZ n)) Q (F0 m pc' lm' (v.map (vmV E)).toList)) :
    W p l e R s m args below meth c H1 locs1 (cells + (nf' - n)) (slots + (vSZ nf' - vSZ n)) Q (F0 m (pc + 3) lm ((v.map (vmV E)).toList ++ st.map (vmV E))) := by
  have z1 := vSZ_mono hnn
  have z2 := vSZ_mono hff
  have e0 : (v.map (vmV E)).toList ++ st.map (vmV E) = (v.toList ++ st).map (vmV E) := by cases v <;> rfl
  rw [e0]
  refine h E p l e R s m args below meth c H1 locs1 (cells + (nf' - n)) (slots + (vSZ nf' - vSZ n)) Q lm C h1 h2 (by omega) (by omega) hff (by omega) hw hl ?_
  have e1 : cells + (nf' - n) + (nf - nf') = cells + (nf - n) := by omega
  have e2 : slots + (vSZ nf' - vSZ n) + (vSZ nf - vSZ nf') = slots + (vSZ nf - vSZ n) := by omega
  rw [e1, e2]
  exact hr
theorem st_callS (r : vKs M pc N k pc') (hk : as.length = k) (hc : ∀ a ∈ as, a.category = 1) (hj : ∀ a ∈ js, a = vJ) (hlen : as.length + js.length = N.2.2.2.1) (hst : (st.map Value.category).sum ≤ 8) (hnn : n ≤ nf') (hff : nf' ≤ nf) (h : V d nf' n N 0 (as ++ js) [] σ (fun v τ => V (d + 1) nf nf' M pc' ls (v.toList ++ st) τ K)) : V (d + 1) nf n M pc ls (as.reverse ++ st) σ K := by
  intro E p l e R s m args below meth c H locs cells slots Q lm C h1 h2 h3 h4 h5 h6 hw hl hr
  obtain ⟨idx, r1, rfl, r3, r4, r5⟩ := r
  refine W_sized hw h6 (fun hsz => ?_)
  have hM := vMet r3 hc hj hlen hnn h E l
  have z1 := vSZ_mono hnn
  have z2 := vSZ_mono hff
  have hrm : (vRm d nf' n).frames + 1 ≤ R.frames ∧ 8 + (N.2.2.2.1 + 11) + (vRm d nf' n).locals ≤ R.locals := by
    have := r3.2.2.2.2.1
    refine ⟨by rw [h1]; exact Nat.le_refl _, ?_⟩
    simp only [vRm]
    omega
  have hpre : PreS s H (va_Pc (as.map (vmV E)) (vPc E n σ)) (as.map (vmV E)) := ⟨vPc_blind E n σ _, fun U hU hW => ⟨rfl, by rw [hU]; exact vW0_warm hw.1 hW, by rw [hU]; exact hsz⟩⟩
  have hstk : (F0 m pc lm ((as.reverse ++ st).map (vmV E))).stack = (as.map (vmV E)).reverse ++ st.map (vmV E) := by simp
  have hcat : ((st.map (vmV E)).map fun v => v.category).sum ≤ 8 := by rw [List.map_map]; rw [show (fun v => Value.category v) ∘ vmV E = Value.category from funext (fun v => vmV_cat E v)]; exact hst
  have hfix : CallFix p m c M.2.2.1 M.2.2.2.1 s args vT M.1 := ⟨C.1, C.2.1, C.2.2.1, C.2.2.2.1, C.2.2.2.2.1⟩
  have hkk : ∀ (v : Option Value) (τ : vS) (H1 : Heap) (locs1 : List Loc), V (d + 1) nf nf' M (pc + 3) ls (v.toList ++ st) τ K → vWld E nf' τ s H1 locs1 → W p l e R s m args below meth c H1 locs1 (cells + (nf' - n)) (slots + (vSZ nf' - vSZ n)) Q (F0 m (pc + 3) lm ((v.map (vmV E)).toList ++ st.map (vmV E))) := fun v τ H1 locs1 hK hw1 => vafter hK C h1 h2 h3 h4 hnn hff h6 hw1 hl hr
  rcases r5 with r5 | ⟨host, r5⟩
  · exact vcall (va_runS (As := as.map (vmV E)) (rest := st.map (vmV E)) hfix hM ⟨callB_of k C.2.2.2.2.1 (vGood r3.1) rfl rfl rfl (C.2.2.2.2.1 _ r3.2.1) (C.2.2.2.2.1 _ r5) r3.2.2.1 hrm, C.2.2.2.2.1 _ r4⟩ hpre rfl (by rw [List.length_map]; exact hk) hl.1 hstk (by show 2 * 0 + _ ≤ 8; omega) r1 ⟨by omega, by omega⟩) hw hkk
  · exact vcall (va_runSN (As := as.map (vmV E)) (rest := st.map (vmV E)) hfix hM ⟨va_cnB k C.2.2.2.2.1 (vGood r3.1) rfl rfl rfl (hw.1.2.2.1 _ r5) (C.2.2.2.2.1 _ r3.2.1) r3.2.2.1 hrm, C.2.2.2.2.1 _ r4, trivial⟩ hpre rfl (by rw [List.length_map]; exact hk) hl.1 hstk (by show 2 * 0 + _ ≤ 8; omega) r1 ⟨by omega, by omega⟩) hw hkk
theorem st_callI {b : Nat} (r : vKi M pc N k pc') (hk : as.length = k) (hc : ∀ a ∈ as, a.category = 1) (hj : ∀ a ∈ js, a = vJ) (hlen : as.length + 1 + js.length = N.2.2.2.1) (hst : (st.map Value.category).sum ≤ 8) (hnn : n ≤ nf') (hff : nf' ≤ nf) (h : V d nf' n N 0 (.ref b :: as ++ js) [] σ (fun v τ => V (d + 1) nf nf' M pc' ls (v.toList ++ st) τ K)) : V (d + 1) nf n M pc ls (as.reverse ++ .ref b :: st) σ K := by
  intro E p l e R s m args below meth c H locs cells slots Q lm C h1 h2 h3 h4 h5 h6 hw hl hr
  obtain ⟨idx, r1, rfl, r3, r4, r6, r7, r5⟩ := r
  refine W_sized hw h6 (fun hsz => ?_)
  have hc' : ∀ a ∈ (.ref b :: as : List Value), a.category = 1 := by
    intro a ha
    rcases List.mem_cons.mp ha with rfl | ha
    · rfl
    · exact hc a ha
  have hM := vMet r3 hc' hj (by simp only [List.length_cons]; exact hlen) hnn h E l
  have z1 := vSZ_mono hnn
  have z2 := vSZ_mono hff
  have hrm : (vRm d nf' n).frames + 1 ≤ R.frames ∧ 8 + (N.2.2.2.1 + 11) + (vRm d nf' n).locals ≤ R.locals := by
    have := r3.2.2.2.2.1
    refine ⟨by rw [h1]; exact Nat.le_refl _, ?_⟩
    simp only [vRm]
    omega
  rw [r7] at hM
  have hg := vGood r3.1
  have hcd := r3.1
  rw [r7] at hg hcd
  have hpre : PreS s H (va_Pc ((.ref b :: as : List Value).map (vmV E)) (vPc E n σ)) (.ref (E.1 + b) :: as.map (vmV E)) := ⟨vPc_blind E n σ _, fun U hU hW => ⟨rfl, by rw [hU]; exact vW0_warm hw.1 hW, by rw [hU]; exact hsz⟩⟩
  have hstk : (F0 m pc lm ((as.reverse ++ .ref b :: st).map (vmV E))).stack = (as.map (vmV E)).reverse ++ .ref (E.1 + b) :: st.map (vmV E) := by simp [vmV]
  have hcat : ((st.map (vmV E)).map fun v => v.category).sum ≤ 8 := by rw [List.map_map]; rw [show (fun v => Value.category v) ∘ vmV E = Value.category from funext (fun v => vmV_cat E v)]; exact hst
  have hfix : CallFix p m c M.2.2.1 M.2.2.2.1 s args vT M.1 := ⟨C.1, C.2.1, C.2.2.1, C.2.2.2.1, C.2.2.2.2.1⟩
  have hkk : ∀ (v : Option Value) (τ : vS) (H1 : Heap) (locs1 : List Loc), V (d + 1) nf nf' M (pc + 3) ls (v.toList ++ st) τ K → vWld E nf' τ s H1 locs1 → W p l e R s m args below meth c H1 locs1 (cells + (nf' - n)) (slots + (vSZ nf' - vSZ n)) Q (F0 m (pc + 3) lm ((v.map (vmV E)).toList ++ st.map (vmV E))) := fun v τ H1 locs1 hK hw1 => vafter hK C h1 h2 h3 h4 hnn hff h6 hw1 hl hr
  rcases r5 with r5 | ⟨host, r5⟩
  · exact vcall (va_runI (b := E.1 + b) (As := as.map (vmV E)) (rest := st.map (vmV E)) hfix hM ⟨callB_of k C.2.2.2.2.1 hg rfl rfl rfl (C.2.2.2.2.1 _ r3.2.1) (C.2.2.2.2.1 _ r5) r3.2.2.1 hrm, r6, C.2.2.2.2.1 _ r4⟩ hpre rfl (by rw [List.length_map]; exact hk) hl.1 hstk (by show 2 * 0 + _ ≤ 8; omega) r1 ⟨by omega, by omega⟩) hw hkk
  · exact vcall (va_runIN (b := E.1 + b) (As := as.map (vmV E)) (rest := st.map (vmV E)) hfix hM ⟨va_cnB k C.2.2.2.2.1 hg rfl rfl rfl (hw.1.2.2.1 _ r5) (C.2.2.2.2.1 _ r3.2.1) r3.2.2.1 hrm, r6, C.2.2.2.2.1 _ r4⟩ hpre rfl (by rw [List.length_map]; exact hk) hl.1 hstk (by show 2 * 0 + _ ≤ 8; omega) r1 ⟨by omega, by omega⟩) hw hkk
theorem st_callV {b ci : Nat} (r : vKv M pc N k ci pc') (hb : vOb n b ci) (hk : as.length = k) (hc : ∀ a ∈ as, a.category = 1) (hj : ∀ a ∈ js, a = vJ) (hlen : as.length + 1 + js.length = N.2.2.2.1) (hst : (st.map Value.category).sum ≤ 8) (hnn : n ≤ nf') (hff : nf' ≤ nf) (h : V d nf' n N 0 (.ref b :: as ++ js) [] σ (fun v τ => V (d + 1) nf nf' M pc' ls (v.toList ++ st) τ K)) : V (d + 1) nf n M pc ls (as.reverse ++ .ref b :: st) σ K := by
  intro E p l e R s m args below meth c H locs cells slots Q lm C h1 h2 h3 h4 h5 h6 hw hl hr
  obtain ⟨idx, rr, r1, rfl, r3, r4, r5, r6, r7, r8⟩ := r
  refine W_sized hw h6 (fun hsz => ?_)
  have hc' : ∀ a ∈ (.ref b :: as : List Value), a.category = 1 := by
    intro a ha
    rcases List.mem_cons.mp ha with rfl | ha
    · rfl
    · exact hc a ha
  have hM := vMet r3 hc' hj (by simp only [List.length_cons]; exact hlen) hnn h E l
  have z1 := vSZ_mono hnn
  have z2 := vSZ_mono hff
  have hrm : (vRm d nf' n).frames + 1 ≤ R.frames ∧ 8 + (N.2.2.2.1 + 11) + (vRm d nf' n).locals ≤ R.locals := by
    have := r3.2.2.2.2.1
    refine ⟨by rw [h1]; exact Nat.le_refl _, ?_⟩
    simp only [vRm]
    omega
  have he := vws_get (E := E) (σ := σ) hb.1
  rw [vcell_ob hb.2.1 hb.2.2] at he
  have hrec := va_recv hw.1.1 hw.1.2.1 r7 he
  rw [r8] at hrec
  have hpre : PreV s H N.2.1.cls (E.1 + b) (va_Pc ((.ref b :: as : List Value).map (vmV E)) (vPc E n σ)) (as.map (vmV E)) := ⟨vPc_blind E n σ _, hrec, fun U hU hW => ⟨rfl, by rw [hU]; exact vW0_warm hw.1 hW, by rw [hU]; exact hsz⟩⟩
  have hstk : (F0 m pc lm ((as.reverse ++ .ref b :: st).map (vmV E))).stack = (as.map (vmV E)).reverse ++ .ref (E.1 + b) :: st.map (vmV E) := by simp [vmV]
  have hcat : ((st.map (vmV E)).map fun v => v.category).sum ≤ 8 := by rw [List.map_map]; rw [show (fun v => Value.category v) ∘ vmV E = Value.category from funext (fun v => vmV_cat E v)]; exact hst
  have hfix : CallFix p m c M.2.2.1 M.2.2.2.1 s args vT M.1 := ⟨C.1, C.2.1, C.2.2.1, C.2.2.2.1, C.2.2.2.2.1⟩
  have hkk : ∀ (v : Option Value) (τ : vS) (H1 : Heap) (locs1 : List Loc), V (d + 1) nf nf' M (pc + 3) ls (v.toList ++ st) τ K → vWld E nf' τ s H1 locs1 → W p l e R s m args below meth c H1 locs1 (cells + (nf' - n)) (slots + (vSZ nf' - vSZ n)) Q (F0 m (pc + 3) lm ((v.map (vmV E)).toList ++ st.map (vmV E))) := fun v τ H1 locs1 hK hw1 => vafter hK C h1 h2 h3 h4 hnn hff h6 hw1 hl hr
  exact vcall (va_runV (b := E.1 + b) (As := as.map (vmV E)) (rest := st.map (vmV E)) hfix hM ⟨callB_of k C.2.2.2.2.1 (vGood r3.1) rfl rfl rfl (C.2.2.2.2.1 _ r3.2.1) (C.2.2.2.2.1 _ r5) r3.2.2.1 hrm, C.2.2.2.2.1 _ r4, C.2.2.2.2.1 _ r6⟩ hpre rfl (by rw [List.length_map]; exact hk) hl.1 hstk (by show 2 * 0 + _ ≤ 8; omega) r1 ⟨by omega, by omega⟩) hw hkk
end VC2
