/-! ===== new cells, Object's constructor, arraycopy, switches ===== -/
def vOkT : FieldType → Bool
  | .int => true
  | .long => true
  | .array _ => true
  | .object _ => true
  | _ => false
theorem vfld_0 {E : vE} {σ : vS} {a k : Nat} {ty : FieldType} (ht : vOkT ty = true) (h1 : σ.1 a k = 0) (h2 : σ.2.1 a k = 0) (h3 : σ.2.2 a k = none) : defaultValue ty = vfld E σ a k ty := by
  cases ty <;> first | (cases ht; done) | (simp [vfld, h1, h2, h3, va_rf, defaultValue]; done) | (simp only [vfld, h1, h2, h3]; rfl)
theorem vSZ_succ {n : Nat} (h : n < 123) : vSZ (n + 1) = vSZ n + (vSH n).2 := by
  unfold vSZ vSH
  have hl : n < vSHL.length := by rw [show vSHL.length = 123 from rfl]; exact h
  rw [List.take_succ, List.map_append, List.sum_append, List.getElem?_eq_getElem hl, List.getD_eq_getElem?_getD, List.getElem?_eq_getElem hl]
  simp
theorem vws_succ (E : vE) (n : Nat) (σ : vS) : vws E (n + 1) σ = vws E n σ ++ [(E.1 + n, vcell E σ n)] := by
  simp [vws, List.range_succ]
theorem vWld_new {E : vE} {n : Nat} {σ : vS} {s : State} {H H1 : Heap} {locs : List Loc} (hw : vWld E n σ s H locs) (hsz : H.size = E.1 + n) (hn : n + 1 ≤ 123) (o1 : ∀ q : Nat, q < E.1 + n → H1[q]? = H[q]?) (z1 : H1.size = E.1 + n + 1) (hc : va_at E.2.2.1 vwCl (E.1 + n, vcell E σ n) H1) : vWld E (n + 1) σ s H1 locs := by
  obtain ⟨⟨k1, k2, k4, k5, k6, k7, k8⟩, k9, k10⟩ := hw
  have hk : ∀ (k : Nat) (x : Nat × va_E), (vws E n σ)[k]? = some x → H1[x.1]? = H[x.1]? := fun k x hx => o1 x.1 (by rw [← hsz]; exact (k2 k x hx).lt)
  have hP : va_P E.2.2.1 vwCl (vws E (n + 1) σ) H1 := by
    rw [vws_succ]
    refine (k2.kept hk).app (fun k x hx => ?_)
    have hz : k < 1 := (List.getElem?_eq_some_iff.mp hx).1
    rw [show k = 0 by omega] at hx
    cases hx
    exact hc
  exact ⟨⟨k1, hP, k4, k5, k6.kept (o1 _ (by omega)), k7, hn⟩, ⟨Nat.le_trans k9.1 (by omega), fun x h1 h2 => (o1 x (by have := k9.1; omega)).trans (k9.2.1 x h1 h2), k9.2.2⟩, k10⟩
def vNw (M : vM) (pc ci pc' : Nat) : Prop := ∃ (idx : Nat) (r : vw_C), decode M.2.2.1 pc = .ok (.new idx, 3) ∧ pc + 3 = pc' ∧ vwCl[ci]? = some r ∧ Cond.classLink M.1 idx r.1 ∈ vT ∧ Cond.instantiable r.1 r.2.2 ∈ vT ∧ Cond.initialized r.1 ∈ vT ∧ ∀ j, j < r.2.2 → vOkT (vTF ci j) = true
def vNi (M : vM) (pc : Nat) (ty : ArrayType) (pc' : Nat) : Prop := decode M.2.2.1 pc = .ok (.newarray ty, 2) ∧ pc + 2 = pc' ∧ Cond.arrayClass (newarray.typeOf ty) ∈ vT
def vNq (M : vM) (pc pc' : Nat) : Prop := ∃ idx : Nat, decode M.2.2.1 pc = .ok (.anewarray idx, 3) ∧ pc + 3 = pc' ∧ Cond.classLink M.1 idx RX1 ∈ vT
def vOi (M : vM) (pc pc' : Nat) : Prop := ∃ idx : Nat, decode M.2.2.1 pc = .ok (.invokespecial idx, 3) ∧ pc + 3 = pc' ∧ Cond.methodLink M.1 idx Lib.objectInit ∈ vT ∧ Cond.instanceMethod Lib.objectInit ∈ vT ∧ Cond.code Lib.objectInit ⟨#[0xb1]⟩ 1 none ∈ vT
def vCp (M : vM) (pc pc' : Nat) : Prop := ∃ idx : Nat, decode M.2.2.1 pc = .ok (.invokestatic idx, 3) ∧ pc + 3 = pc' ∧ Cond.methodLink M.1 idx arraycopyName ∈ vT ∧ Cond.native arraycopyName ∈ vT ∧ Cond.static arraycopyName ∈ vT ∧ Cond.initialized "java/lang/System" ∈ vT
section VMk
variable {d nf n : Nat} {M : vM} {pc pc' tgt : Nat} {ls st : List Value} {I : Nat → Nat → Int32} {J : Nat → Nat → Int64} {Z : Nat → Nat → Option Nat} {K : Option Value → vS → Prop}
theorem st_new {ci : Nat} (r : vNw M pc ci pc') (hs : vSH n = (ci, vNF ci)) (hc : ci < 9) (hn : n < 123) (hf : n < nf) (hI : ∀ k, I n k = 0) (hJ : ∀ k, J n k = 0) (hZ : ∀ k, Z n k = none) (h : V d nf (n + 1) M pc' ls (.ref n :: st) (I, J, Z) K) : V d nf n M pc ls st (I, J, Z) K := by
  intro E p l e R s m args below meth c H locs cells slots Q lm C h1 h2 h3 h4 h5 h6 hw hl hr
  obtain ⟨idx, r, r1, rfl, r3, r4, r5, r6, r7⟩ := r
  obtain ⟨hin, hty, hnm, hN⟩ := vCok ci r r3
  have hKn := hw.1.1.1 ci r r3
  have hz := vSZ_succ hn
  rw [hs] at hz
  have hm : vSZ (n + 1) ≤ vSZ nf := vSZ_mono hf
  refine W_sized hw h6 (fun hsz => ?_)
  refine W.newcK C.1 C.2.1 C.2.2.2.1 (C.2.2.2.2.1 _ r4) (C.2.2.2.2.1 _ r5) (C.2.2.2.2.1 _ r6) rfl r1 (by omega) (by simp only at hz; omega) hKn.2.1 hsz fun H1 kC hkC e1 z1 o1 => ?_
  have hcell : va_at E.2.2.1 vwCl (E.1 + n, vcell E (I, J, Z) n) H1 := by
    rw [vcell_ob hs hc]
    refine ⟨r, r3, (u_born (vTF ci) C.2.2.2.2.1 hin hKn hkC e1 hty).to (fun j hj => ?_)⟩
    rw [vp_V, List.getD_eq_getElem?_getD, vflds_get (by rw [← hN]; exact hj)]
    exact vfld_0 (r7 j hj) (hI j) (hJ j) (hZ j)
  have hw1 := vWld_new hw hsz hn o1 z1 hcell
  have a1 : cells + 1 + (nf - (n + 1)) = cells + (nf - n) := by omega
  have a2 : slots + r.2.2 + (vSZ nf - vSZ (n + 1)) = slots + (vSZ nf - vSZ n) := by simp only at hz; omega
  refine h E p l e R s m args below meth c H1 locs (cells + 1) (slots + r.2.2) Q lm C h1 h2 (by omega) (by omega) hf (by omega) hw1 hl ?_
  rw [a1, a2]
  exact hr
theorem st_newi {len : Nat} (r : vNi M pc .int pc') (hs : vSH n = (100, len)) (hlen : len < 2147483648 ∧ len * 4 ≤ 536870912) (hn : n < 123) (hf : n < nf) (hI : ∀ k, I n k = 0) (h : V d nf (n + 1) M pc' ls (.ref n :: st) (I, J, Z) K) : V d nf n M pc ls (.int (nI len) :: st) (I, J, Z) K := by
  intro E p l e R s m args below meth c H locs cells slots Q lm C h1 h2 h3 h4 h5 h6 hw hl hr
  obtain ⟨r1, rfl, r2⟩ := r
  have hz := vSZ_succ hn
  rw [hs] at hz
  have hm : vSZ (n + 1) ≤ vSZ nf := vSZ_mono hf
  refine W_sized hw h6 (fun hsz => ?_)
  refine va_newaK (n := nI len) (N := len) C.1 C.2.1 (C.2.2.2.2.1 _ r2) rfl r1 rfl (nI_pos hlen.1) (nI_clamp hlen.1) hlen.2 (by omega) (by simp only at hz; omega) hsz fun H1 cA e1 z1 o1 hA hF => ?_
  have hcA : cA = E.2.2.2.1 := Option.some.inj (hF.symm.trans (hw.1.1.2 0 _ rfl).2)
  have hcell : va_at E.2.2.1 vwCl (E.1 + n, vcell E (I, J, Z) n) H1 := by
    rw [vcell_ia hs]
    show H1[E.1 + n]? = some (vp_cell _ _)
    rw [vp_cell_i, e1, hcA]
    simp only [hI]
    rfl
  have hw1 := vWld_new hw hsz hn o1 z1 hcell
  have a1 : cells + 1 + (nf - (n + 1)) = cells + (nf - n) := by omega
  have a2 : slots + len + (vSZ nf - vSZ (n + 1)) = slots + (vSZ nf - vSZ n) := by simp only at hz; omega
  refine h E p l e R s m args below meth c H1 locs (cells + 1) (slots + len) Q lm C h1 h2 (by omega) (by omega) hf (by omega) hw1 hl ?_
  rw [a1, a2]
  exact hr
theorem st_newz {len : Nat} (r : vNi M pc .boolean pc') (hs : vSH n = (101, len)) (hlen : len < 2147483648 ∧ len * 1 ≤ 536870912) (hn : n < 123) (hf : n < nf) (hI : ∀ k, I n k = 0) (h : V d nf (n + 1) M pc' ls (.ref n :: st) (I, J, Z) K) : V d nf n M pc ls (.int (nI len) :: st) (I, J, Z) K := by
  intro E p l e R s m args below meth c H locs cells slots Q lm C h1 h2 h3 h4 h5 h6 hw hl hr
  obtain ⟨r1, rfl, r2⟩ := r
  have hz := vSZ_succ hn
  rw [hs] at hz
  have hm : vSZ (n + 1) ≤ vSZ nf := vSZ_mono hf
  refine W_sized hw h6 (fun hsz => ?_)
  refine va_newaK (n := nI len) (N := len) C.1 C.2.1 (C.2.2.2.2.1 _ r2) rfl r1 rfl (nI_pos hlen.1) (nI_clamp hlen.1) hlen.2 (by omega) (by simp only at hz; omega) hsz fun H1 cA e1 z1 o1 hA hF => ?_
  have hcA : cA = E.2.2.2.2.1 := Option.some.inj (hF.symm.trans (hw.1.1.2 1 _ rfl).2)
  have hcell : va_at E.2.2.1 vwCl (E.1 + n, vcell E (I, J, Z) n) H1 := by
    rw [vcell_za hs]
    show H1[E.1 + n]? = some (vp_cell _ _)
    rw [vp_cell_i, e1, hcA]
    simp only [hI]
    rfl
  have hw1 := vWld_new hw hsz hn o1 z1 hcell
  have a1 : cells + 1 + (nf - (n + 1)) = cells + (nf - n) := by omega
  have a2 : slots + len + (vSZ nf - vSZ (n + 1)) = slots + (vSZ nf - vSZ n) := by simp only at hz; omega
  refine h E p l e R s m args below meth c H1 locs (cells + 1) (slots + len) Q lm C h1 h2 (by omega) (by omega) hf (by omega) hw1 hl ?_
  rw [a1, a2]
  exact hr
theorem st_newq {len : Nat} (r : vNq M pc pc') (hs : vSH n = (102, len)) (hlen : len < 2147483648 ∧ len * 4 ≤ 536870912) (hn : n < 123) (hf : n < nf) (hZ : ∀ k, Z n k = none) (h : V d nf (n + 1) M pc' ls (.ref n :: st) (I, J, Z) K) : V d nf n M pc ls (.int (nI len) :: st) (I, J, Z) K := by
  intro E p l e R s m args below meth c H locs cells slots Q lm C h1 h2 h3 h4 h5 h6 hw hl hr
  obtain ⟨idx, r1, rfl, r2⟩ := r
  have hz := vSZ_succ hn
  rw [hs] at hz
  have hm : vSZ (n + 1) ≤ vSZ nf := vSZ_mono hf
  refine W_sized hw h6 (fun hsz => ?_)
  refine W.anew C.1 C.2.1 C.2.2.2.1 (C.2.2.2.2.1 _ r2) (va_AO.use hw.1.2.2.2.1) rfl r1 rfl (nI_pos hlen.1) (by rw [nI_clamp hlen.1]; exact hlen.2) (by omega) (by rw [nI_clamp hlen.1]; simp only at hz; omega) fun cA kA comp f1 f2 f3 f4 => ?_
  rw [nI_clamp hlen.1]
  generalize hH1 : H.push ({ cls := cA, slots := Array.replicate len .null, vm := .none } : Cell) = H1
  have z1 : H1.size = E.1 + n + 1 := by rw [← hH1, Array.size_push, hsz]
  have e1 : H1[E.1 + n]? = some (arrV cA len (fun _ => .null)) := by rw [← hH1, ← hsz, Array.getElem?_push_size, ← arrV_new]
  have o1 : ∀ q : Nat, q < E.1 + n → H1[q]? = H[q]? := fun q hq => by rw [← hH1, Array.getElem?_push, if_neg (by omega)]
  obtain ⟨kB, comp2, b1, b2, b3, b4⟩ := (hw.1.1.2 2 _ rfl).2
  have hcA : cA = E.2.2.2.2.2 := Option.some.inj (f1.symm.trans b4)
  have hcell : va_at E.2.2.1 vwCl (E.1 + n, vcell E (I, J, Z) n) H1 := by
    rw [vcell_qa hs]
    show H1[E.1 + n]? = some (vp_cell _ _)
    rw [vp_cell_q, e1, hcA]
    simp only [hZ]
    rfl
  have hw1 := vWld_new hw hsz hn o1 z1 hcell
  have a1 : cells + 1 + (nf - (n + 1)) = cells + (nf - n) := by omega
  have a2 : slots + len + (vSZ nf - vSZ (n + 1)) = slots + (vSZ nf - vSZ n) := by simp only at hz; omega
  have hh := h E p l e R s m args below meth c H1 locs (cells + 1) (slots + len) Q lm C h1 h2 (by omega) (by omega) hf (by omega) hw1 hl (by rw [a1, a2]; exact hr)
  rw [hsz]
  exact hh
theorem st_objI {b : Nat} (r : vOi M pc pc') (hst : (st.map Value.category).sum ≤ 8) (h : V (d + 1) nf n M pc' ls st (I, J, Z) K) : V (d + 1) nf n M pc ls (.ref b :: st) (I, J, Z) K := by
  intro E p l e R s m args below meth c H locs cells slots Q lm C h1 h2 h3 h4 h5 h6 hw hl hr
  obtain ⟨idx, r1, rfl, r2, r3, r4⟩ := r
  have hcat : ((st.map (vmV E)).map fun v => v.category).sum ≤ 8 := by rw [List.map_map]; rw [show (fun v => Value.category v) ∘ vmV E = Value.category from funext (fun v => vmV_cat E v)]; exact hst
  exact W.objInit C.1 C.2.1 C.2.2.2.1 (C.2.2.2.2.1 _ r2) (C.2.2.2.2.1 _ r3) (C.2.2.2.2.1 _ r4) rfl (by rw [C.2.2.1]; exact hl.1) rfl r1 (by omega) (by show 2 * 0 + _ + 12 ≤ _; omega) (h E p l e R s m args below meth c H locs cells slots Q lm C h1 h2 h3 h4 h5 h6 hw hl hr)
theorem st_copy {a b la lb len : Nat} (r : vCp M pc pc') (ha : vAr n a 100 la) (hb : vAr n b 100 lb) (h1' : len ≤ la) (h2' : len ≤ lb) (hst : (st.map Value.category).sum ≤ 8) (h : V (d + 1) nf n M pc' ls st (up I b (fun j => if j < len then I a j else I b j), J, Z) K) : V (d + 1) nf n M pc ls (.int (nI len) :: .int (nI 0) :: .ref b :: .int (nI 0) :: .ref a :: st) (I, J, Z) K := by
  intro E p l e R s m args below meth c H locs cells slots Q lm C h1 h2 h3 h4 h5 h6 hw hl hr
  obtain ⟨idx, r1, rfl, r2, r3, r4, r5⟩ := r
  have hcat : ((st.map (vmV E)).map fun v => v.category).sum ≤ 8 := by rw [List.map_map]; rw [show (fun v => Value.category v) ∘ vmV E = Value.category from funext (fun v => vmV_cat E v)]; exact hst
  have hea := vws_get (E := E) (σ := (I, J, Z)) ha.1
  rw [vcell_ia ha.2.1] at hea
  have heb := vws_get (E := E) (σ := (I, J, Z)) hb.1
  rw [vcell_ia hb.2.1] at heb
  have hl2 : len < 2147483648 := Nat.lt_of_le_of_lt h1' ha.2.2
  have c0 : (nI 0).toNatClampNeg = 0 := rfl
  have cl : (nI len).toNatClampNeg = len := nI_clamp hl2
  have hnf : nativeFrameWords "java/lang/System" "arraycopy" 5 + 11 ≤ 26 := by decide
  have hz0 : ¬ (nI 0) < 0 := by decide
  refine va_copyi (sp := nI 0) (dp := nI 0) (n := nI len) (R := R) (rest := st.map (vmV E)) C.1 C.2.1 (by rw [C.2.2.1]; exact hl.1.symm) C.2.2.2.1 (C.2.2.2.2.1 _ r2) (C.2.2.2.2.1 _ r3) (C.2.2.2.2.1 _ r4) (C.2.2.2.2.1 _ r5) hw.1.1 hw.1.2.1 (vws_D E n (I, J, Z)) hw.2.1 a b 0 0 hea heb rfl rfl rfl hz0 hz0 (nI_pos hl2) (by rw [c0, cl]; omega) (by rw [c0, cl]; omega) (fun i _ => rfl) (by omega) (by omega) r1 ?_
  intro H1 locs1 hP _ hS
  rw [c0, cl] at hP
  refine h E p l e R s m args below meth c H1 locs1 cells slots Q lm C h1 h2 h3 h4 h5 h6 (vWld_put (τ := (up I b (fun j => if j < len then I a j else I b j), J, Z)) hw hb.1 ?_ ?_ ?_ ?_ hP hS) hl hr
  · rw [vcell_ia hb.2.1]
    simp only [up_s]
    congr 4
    funext j
    simp only [va_cpy]
    by_cases hj : j < len
    · rw [if_pos (by omega), if_pos hj]
      congr 1
      omega
    · rw [if_neg (by omega), if_neg hj]
  · intro b hb; simp [up, hb]
  · intro b hb; simp [up, hb]
  · intro b hb; simp [up, hb]
/-- switches: the targets by their places -/
def vTb (M : vM) (pc : Nat) (lo : Int) (tgts : List Nat) (dt : Nat) : Prop := ∃ (df hi : Int) (offs : Array Int) (len : Nat), decode M.2.2.1 pc = .ok (.tableswitch df lo hi offs, len) ∧ (pc : Int) + df = dt ∧ hi = lo + tgts.length - 1 ∧ offs.toList.map (fun o => (pc : Int) + o) = tgts.map Int.ofNat
theorem st_tabI {x : Int32} {lo : Int} {tgts : List Nat} {dt : Nat} (r : vTb M pc lo tgts dt) (j : Nat) (hx : x.toInt = lo + j) (ht : tgts[j]? = some tgt) (h : V d nf n M tgt ls st (I, J, Z) K) : V d nf n M pc ls (.int x :: st) (I, J, Z) K := by
  intro E p l e R s m args below meth c H locs cells slots Q lm C h1 h2 h3 h4 h5 h6 hw hl hr
  obtain ⟨df, hi, offs, len, r1, r2, r3, r4⟩ := r
  have hj : j < tgts.length := (List.getElem?_eq_some_iff.mp ht).1
  have q := congrArg (fun l => l[j]?) r4
  simp only [List.getElem?_map, ht, Option.map_some, Option.map_eq_some_iff] at q
  obtain ⟨off, q1, q2⟩ := q
  have e0 : (x.toInt - lo).toNat = j := by omega
  exact lv_tableIn C.1 C.2.1 r1 (by omega) (by omega) (by rw [e0, ← Array.getElem?_toList]; exact q1) q2 (h E p l e R s m args below meth c H locs cells slots Q lm C h1 h2 h3 h4 h5 h6 hw hl hr)
theorem st_tabO {x : Int32} {lo : Int} {tgts : List Nat} {dt : Nat} (r : vTb M pc lo tgts dt) (hx : x.toInt < lo ∨ lo + tgts.length ≤ x.toInt) (h : V d nf n M dt ls st (I, J, Z) K) : V d nf n M pc ls (.int x :: st) (I, J, Z) K := by
  intro E p l e R s m args below meth c H locs cells slots Q lm C h1 h2 h3 h4 h5 h6 hw hl hr
  obtain ⟨df, hi, offs, len, r1, r2, r3, r4⟩ := r
  exact lv_tableOut C.1 C.2.1 r1 (by omega) r2 (h E p l e R s m args below meth c H locs cells slots Q lm C h1 h2 h3 h4 h5 h6 hw hl hr)
def vLk (M : vM) (pc : Nat) (ps : List (Int × Int)) (df : Int) : Prop := ∃ len : Nat, decode M.2.2.1 pc = .ok (.lookupswitch df ps.toArray, len) ∧ (ps.zip (ps.drop 1)).all (fun (a, next) => a.1 < next.1) = true
theorem st_lkp {x : Int32} {ps : List (Int × Int)} {df : Int} (r : vLk M pc ps df) {off : Int} (ho : Op.lookupswitch.offset ps df x.toInt = off) (ht : (pc : Int) + off = (tgt : Int)) (h : V d nf n M tgt ls st (I, J, Z) K) : V d nf n M pc ls (.int x :: st) (I, J, Z) K := by
  intro E p l e R s m args below meth c H locs cells slots Q lm C h1 h2 h3 h4 h5 h6 hw hl hr
  obtain ⟨len, r1, r2⟩ := r
  exact lv_lookup C.1 C.2.1 r1 r2 ho ht (h E p l e R s m args below meth c H locs cells slots Q lm C h1 h2 h3 h4 h5 h6 hw hl hr)
end VMk
/-! ===== Math.max, Math.min ===== -/
def vMmax (M : vM) (pc pc' : Nat) : Prop := ∃ idx : Nat, decode M.2.2.1 pc = .ok (.invokestatic idx, 3) ∧ pc + 3 = pc' ∧ Cond.methodLink M.1 idx Lib.Math.max.name ∈ vT ∧ Cond.static Lib.Math.max.name ∈ vT ∧ Cond.initialized "java/lang/Math" ∈ vT ∧ Cond.code Lib.Math.max.name Lib.Math.max.code 2 (some .int) ∈ vT
def vMmin (M : vM) (pc pc' : Nat) : Prop := ∃ idx : Nat, decode M.2.2.1 pc = .ok (.invokestatic idx, 3) ∧ pc + 3 = pc' ∧ Cond.methodLink M.1 idx Lib.Math.min.name ∈ vT ∧ Cond.static Lib.Math.min.name ∈ vT ∧ Cond.initialized "java/lang/Math" ∈ vT ∧ Cond.code Lib.Math.min.name Lib.Math.min.code 2 (some .int) ∈ vT
section VMm
variable {d nf n : Nat} {M : vM} {pc pc' : Nat} {ls st : List Value} {σ : vS} {K : Option Value → vS → Prop}
theorem st_max {x y : Int32} (r : vMmax M pc pc') (hst : (st.map Value.category).sum ≤ 8) (h : V (d + 1) nf n M pc' ls (.int (if x < y then y else x) :: st) σ K) : V (d + 1) nf n M pc ls (.int y :: .int x :: st) σ K := by
  intro E p l e R s m args below meth c H locs cells slots Q lm C h1 h2 h3 h4 h5 h6 hw hl hr
  obtain ⟨idx, r1, rfl, r2, r3, r4, r5⟩ := r
  have hcat : ((st.map (vmV E)).map fun v => v.category).sum ≤ 8 := by rw [List.map_map]; rw [show (fun v => Value.category v) ∘ vmV E = Value.category from funext (fun v => vmV_cat E v)]; exact hst
  exact va_mmax C.1 C.2.1 (by rw [C.2.2.1]; exact hl.1.symm) C.2.2.2.1 (C.2.2.2.2.1 _ r2) (C.2.2.2.2.1 _ r3) (C.2.2.2.2.1 _ r4) (C.2.2.2.2.1 _ r5) (by omega) (by omega) (by omega) (by omega) r1 (h E p l e R s m args below meth c H locs cells slots Q lm C h1 h2 h3 h4 h5 h6 hw hl hr)
theorem st_min {x y : Int32} (r : vMmin M pc pc') (hst : (st.map Value.category).sum ≤ 8) (h : V (d + 1) nf n M pc' ls (.int (if y < x then y else x) :: st) σ K) : V (d + 1) nf n M pc ls (.int y :: .int x :: st) σ K := by
  intro E p l e R s m args below meth c H locs cells slots Q lm C h1 h2 h3 h4 h5 h6 hw hl hr
  obtain ⟨idx, r1, rfl, r2, r3, r4, r5⟩ := r
  have hcat : ((st.map (vmV E)).map fun v => v.category).sum ≤ 8 := by rw [List.map_map]; rw [show (fun v => Value.category v) ∘ vmV E = Value.category from funext (fun v => vmV_cat E v)]; exact hst
  exact va_mmin C.1 C.2.1 (by rw [C.2.2.1]; exact hl.1.symm) C.2.2.2.1 (C.2.2.2.2.1 _ r2) (C.2.2.2.2.1 _ r3) (C.2.2.2.2.1 _ r4) (C.2.2.2.2.1 _ r5) (by omega) (by omega) (by omega) (by omega) r1 (h E p l e R s m args below meth c H locs cells slots Q lm C h1 h2 h3 h4 h5 h6 hw hl hr)
end VMm
