/-! ===== the pure picture: cells by number, ints, longs, references apart ===== -/
abbrev vM : Type := String × MethodName × ByteArray × Nat × Option FieldType
abbrev vS : Type := (Nat → Nat → Int32) × (Nat → Nat → Int64) × (Nat → Nat → Option Nat)
/-- base of the cells, the script's cell, the classes and their slots, the classes of int, boolean and Hanging rows -/
abbrev vE : Type := Nat × Nat × va_G × ClassId × ClassId × ClassId
abbrev vJ : Value := .retAddr 0
abbrev vX : Value := .retAddr 1
def vT : List Cond := lw_tbl.filter goodWord
def vIsN : Cond → Bool
  | .methodLinkNest _ _ _ _ => true
  | _ => false
def vNs : List Cond := tables_1.filter vIsN
theorem vt {w : Cond} (i : Nat) (h : tables_1[i]? = some w) (g : goodWord w = true) : w ∈ vT := List.mem_filter.mpr ⟨List.mem_append_right _ (List.mem_of_getElem? h), g⟩
theorem vsl {w : Cond} (i : Nat) (h : (k2_sels lw_privs)[i]? = some w) (g : goodWord w = true) : w ∈ vT := List.mem_filter.mpr ⟨List.mem_append_left _ (List.mem_of_getElem? h), g⟩
theorem vn {w : Cond} (i : Nat) (h : tables_1[i]? = some w) (g : vIsN w = true) : w ∈ vNs := List.mem_filter.mpr ⟨List.mem_of_getElem? h, g⟩
theorem vT_good {w : Cond} (h : w ∈ vT) : (w.onTables && w.keeps) = true ∨ ∃ ty, w = .arrayClass ty := good_of_word (List.mem_filter.mp h).2
theorem vNs_is {w : Cond} (h : w ∈ vNs) : ∃ a i x q, w = .methodLinkNest a i x q := by
  have h2 := (List.mem_filter.mp h).2
  cases w <;> first | exact ⟨_, _, _, _, rfl⟩ | cases h2
theorem vNs_warm {s U : State} (hW : s.WarmedH U.vm) (h : ∀ w ∈ vNs, va_Nw w s) : ∀ w ∈ vNs, va_Nw w U := by
  intro w hw
  obtain ⟨a, i, x, q, rfl⟩ := vNs_is hw
  exact va_Nw.warmM hW (h _ hw)
theorem vNs_same {s U : State} (hW : s.vm = U.vm) (h : ∀ w ∈ vNs, va_Nw w s) : ∀ w ∈ vNs, va_Nw w U := by
  intro w hw
  obtain ⟨a, i, x, q, rfl⟩ := vNs_is hw
  exact va_Nw.same rfl hW (h _ hw)
def vSHL : List (Nat × Nat) := [(7, 10), (5, 7), (100, 200), (100, 3), (6, 11), (100, 6), (100, 6), (100, 6), (100, 36), (100, 36), (100, 6), (100, 6), (100, 6), (6, 11), (100, 6), (100, 6), (100, 6), (100, 36), (100, 36), (100, 6), (100, 6), (100, 6), (1, 6), (100, 6), (100, 6), (100, 6), (100, 36), (1, 6), (100, 6), (100, 6), (100, 6), (100, 36), (4, 3), (102, 10), (1, 6), (100, 6), (100, 6), (100, 6), (100, 36), (1, 6), (100, 6), (100, 6), (100, 6), (100, 36), (1, 6), (100, 6), (100, 6), (100, 6), (100, 36), (1, 6), (100, 6), (100, 6), (100, 6), (100, 36), (1, 6), (100, 6), (100, 6), (100, 6), (100, 36), (1, 6), (100, 6), (100, 6), (100, 6), (100, 36), (1, 6), (100, 6), (100, 6), (100, 6), (100, 36), (1, 6), (100, 6), (100, 6), (100, 6), (100, 36), (1, 6), (100, 6), (100, 6), (100, 6), (100, 36), (1, 6), (100, 6), (100, 6), (100, 6), (100, 36), (2, 2), (102, 2), (101, 2), (1, 6), (100, 6), (100, 6), (100, 6), (100, 36), (1, 6), (100, 6), (100, 6), (100, 6), (100, 36), (0, 3), (100, 5), (100, 5), (3, 3), (100, 6), (100, 6), (8, 29), (100, 200), (100, 4), (100, 12), (100, 12), (100, 12), (100, 72), (100, 12), (100, 12), (100, 12), (100, 36), (100, 56), (100, 56), (100, 112), (101, 2), (100, 560), (100, 5), (100, 5), (100, 6), (100, 6)]
def vSH (a : Nat) : Nat × Nat := vSHL.getD a (999, 0)
def vTyL : List (Nat → FieldType) := [tyX0, tyX1, tyX2, tyX3, tyX4, tyX5, tyX6, tyX7, tyX8]
def vTF (ci k : Nat) : FieldType := (vTyL.getD ci (fun _ => .int)) k
def vSZ (n : Nat) : Nat := ((vSHL.take n).map (fun q => q.2)).sum
def vmV (E : vE) (v : Value) : Value := match v with
  | .ref a => .ref (E.1 + a)
  | .retAddr k => if k = 1 then .ref E.2.1 else .retAddr k
  | v => v
def vrf (o : Option Nat) : Value := match o with
  | none => .null
  | some a => .ref a
theorem vrf_m (E : vE) (o : Option Nat) : va_rf (o.map (fun a => E.1 + a)) = vmV E (vrf o) := by cases o <;> rfl
def vfld (E : vE) (σ : vS) (id k : Nat) (ty : FieldType) : Value := match ty with
  | .long => .long (σ.2.1 id k)
  | .array _ => va_rf ((σ.2.2 id k).map (fun a => E.1 + a))
  | .object _ => va_rf ((σ.2.2 id k).map (fun a => E.1 + a))
  | _ => .int (σ.1 id k)
def vflds (E : vE) (σ : vS) (id ci N : Nat) : List Value := (List.range N).map (fun k => vfld E σ id k (vTF ci k))
def vcell (E : vE) (σ : vS) (id : Nat) : va_E :=
  if (vSH id).1 = 100 then .inl (E.2.2.2.1, (vSH id).2, .inl (σ.1 id))
  else if (vSH id).1 = 101 then .inl (E.2.2.2.2.1, (vSH id).2, .inl (σ.1 id))
  else if (vSH id).1 = 102 then .inl (E.2.2.2.2.2, (vSH id).2, .inr (.inr (.inr (.inr (fun k => (σ.2.2 id k).map (fun a => E.1 + a))))))
  else .inr ((vSH id).1, vflds E σ id (vSH id).1 (vSH id).2)
def vws (E : vE) (n : Nat) (σ : vS) : va_W := (List.range n).map (fun id => (E.1 + id, vcell E σ id))
def vtys (E : vE) : List (ClassId × FieldType) := [(E.2.2.2.1, .int), (E.2.2.2.2.1, .boolean), (E.2.2.2.2.2, .object RX1)]
/-- the script: its length and its ints stand in the picture too, as cells that no code reaches -/
def vLen (σ : vS) : Nat := (σ.1 1001 0).toNatClampNeg
def vW0 (E : vE) (n : Nat) (σ : vS) (s : State) (H : Heap) : Prop :=
  va_K E.2.2.1 vwCl (vtys E) s ∧ va_P E.2.2.1 vwCl (vws E n σ) H ∧ (∀ w ∈ vNs, va_Nw w s) ∧ va_AO RX1 s ∧ va_X E.2.1 (vLen σ) (σ.1 1000) s H ∧ E.2.1 < E.1 ∧ n ≤ 123
def vWld (E : vE) (n : Nat) (σ : vS) (s : State) (H : Heap) (locs : List Loc) : Prop :=
  vW0 E n σ s H ∧ va_S (fun q => E.1 ≤ q) s.heap H locs ∧ E.1 ≤ s.heap.size
def vLs (E : vE) (nL : Nat) (lm : Array Slot) (ls : List Value) : Prop := lm.size = nL ∧ lv_wf lm ∧ ∀ (i : Nat) (v : Value), ls[i]? = some v → v ≠ vJ → lm[i]? = some (.val (vmV E v))
def vCtx (M : vM) (p : Program) (s : State) (m : MethodId) (args : Array Value) (meth : Method) (c : Code) : Prop :=
  p.tables.exec = Jvm.exec ∧ c.code = M.2.2.1 ∧ c.maxLocals = M.2.2.2.1 ∧ s.vm.findClass M.1 = some m.cls ∧ (∀ w ∈ vT, w.before args s = true) ∧ meth.sig.returnType = M.2.2.2.2 ∧ meth.locks = false ∧ (M.2.1.name = "<init>" → meth.name = "<init>")
def vRet (M : vM) (pc : Nat) (v : Option Value) : Prop := match v with
  | none => decode M.2.2.1 pc = .ok (.return_, 1) ∧ M.2.2.2.2 = none
  | some (.int x) => decode M.2.2.1 pc = .ok (.ireturn, 1) ∧ ∃ ty, M.2.2.2.2 = some ty ∧ narrow ty (.int x) = .int x
  | some (.long _) => decode M.2.2.1 pc = .ok (.lreturn, 1) ∧ M.2.2.2.2 = some .long
  | _ => False
/-- the method M at pc, with d frames of room, n cells made and nf at its end: it comes to its end with K -/
def V (d nf n : Nat) (M : vM) (pc : Nat) (ls st : List Value) (σ : vS) (K : Option Value → vS → Prop) : Prop :=
  ∀ (E : vE) (p : Program) (l : Launch) (e : Env) (R : Room) (s : State) (m : MethodId) (args : Array Value) (below : List Frame) (meth : Method) (c : Code) (H : Heap) (locs : List Loc) (cells slots : Nat) (Q : State → Prop) (lm : Array Slot),
    vCtx M p s m args meth c → R.frames = d → 34 * d ≤ R.locals → cells + (nf - n) ≤ R.cells → slots + (vSZ nf - vSZ n) ≤ R.slots → n ≤ nf → s.heap.size + cells = E.1 + n → vWld E n σ s H locs → vLs E M.2.2.2.1 lm ls →
    (∀ (v : Option Value) (τ : vS) (H' : Heap) (locs' : List Loc) (pc' : Nat) (lm' : Array Slot), K v τ → vWld E nf τ s H' locs' → vRet M pc' v → W p l e R s m args below meth c H' locs' (cells + (nf - n)) (slots + (vSZ nf - vSZ n)) Q (F0 m pc' lm' (v.map (vmV E)).toList)) →
    W p l e R s m args below meth c H locs cells slots Q (F0 m pc lm (st.map (vmV E)))
def Ki (k : Int32 → vS → Prop) : Option Value → vS → Prop := fun v σ => match v with
  | some (.int x) => k x σ
  | _ => False
def Kl (k : Int64 → vS → Prop) : Option Value → vS → Prop := fun v σ => match v with
  | some (.long x) => k x σ
  | _ => False
def Kv (k : vS → Prop) : Option Value → vS → Prop := fun v σ => match v with
  | none => k σ
  | _ => False
/-! ===== rows of a program: one instruction ===== -/
def vI (M : vM) (pc : Nat) (i : Instr) (len pc' : Nat) : Prop := decode M.2.2.1 pc = .ok (i, len) ∧ pc + len = pc'
def vIc (M : vM) (pc : Nat) (q : Jvm.ClassFile.Cond) (tgt pc' : Nat) : Prop := ∃ off : Int, decode M.2.2.1 pc = .ok (.if_icmp q off, 3) ∧ (pc : Int) + off = (tgt : Int) ∧ pc + 3 = pc'
def vIf (M : vM) (pc : Nat) (q : Jvm.ClassFile.Cond) (tgt pc' : Nat) : Prop := ∃ off : Int, decode M.2.2.1 pc = .ok (.ifCond q off, 3) ∧ (pc : Int) + off = (tgt : Int) ∧ pc + 3 = pc'
def vGo (M : vM) (pc : Nat) (tgt : Nat) : Prop := ∃ off : Int, decode M.2.2.1 pc = .ok (.goto off, 3) ∧ (pc : Int) + off = (tgt : Int)
def vNl (M : vM) (pc : Nat) (tgt pc' : Nat) : Prop := ∃ off : Int, decode M.2.2.1 pc = .ok (.ifnull off, 3) ∧ (pc : Int) + off = (tgt : Int) ∧ pc + 3 = pc'
def vNn (M : vM) (pc : Nat) (tgt pc' : Nat) : Prop := ∃ off : Int, decode M.2.2.1 pc = .ok (.ifnonnull off, 3) ∧ (pc : Int) + off = (tgt : Int) ∧ pc + 3 = pc'
/-- an int is pushed -/
def vCn (M : vM) (pc : Nat) (v : Int32) (pc' : Nat) : Prop :=
  (∃ x : Int, decode M.2.2.1 pc = .ok (.iconst x, 1) ∧ Int32.ofInt x = v ∧ pc + 1 = pc') ∨ (∃ x : Int, decode M.2.2.1 pc = .ok (.bipush x, 2) ∧ (Int8.ofInt x).toInt32 = v ∧ pc + 2 = pc') ∨
  (∃ x : Int, decode M.2.2.1 pc = .ok (.sipush x, 3) ∧ (Int16.ofInt x).toInt32 = v ∧ pc + 3 = pc') ∨ (∃ x : Nat, decode M.2.2.1 pc = .ok (.ldc x, 2) ∧ Cond.constant M.1 x v ∈ vT ∧ pc + 2 = pc') ∨ (∃ x : Nat, decode M.2.2.1 pc = .ok (.ldc_w x, 3) ∧ Cond.constant M.1 x v ∈ vT ∧ pc + 3 = pc')
def vCl (M : vM) (pc : Nat) (v : Int64) (pc' : Nat) : Prop :=
  (∃ x : Fin 2, decode M.2.2.1 pc = .ok (.lconst x, 1) ∧ Int64.ofNat (x : Nat) = v ∧ pc + 1 = pc') ∨ (∃ x : Nat, decode M.2.2.1 pc = .ok (.ldc2_w x, 3) ∧ Cond.constantLong M.1 x v ∈ vT ∧ pc + 3 = pc')
def vLi (M : vM) (pc k pc' : Nat) : Prop := (∃ q : Fin 4, decode M.2.2.1 pc = .ok (.iload_n q, 1) ∧ (q : Nat) = k ∧ pc + 1 = pc') ∨ (decode M.2.2.1 pc = .ok (.iload k, 2) ∧ pc + 2 = pc')
def vLl (M : vM) (pc k pc' : Nat) : Prop := (∃ q : Fin 4, decode M.2.2.1 pc = .ok (.lload_n q, 1) ∧ (q : Nat) = k ∧ pc + 1 = pc') ∨ (decode M.2.2.1 pc = .ok (.lload k, 2) ∧ pc + 2 = pc')
def vLa (M : vM) (pc k pc' : Nat) : Prop := ∃ q : Fin 4, decode M.2.2.1 pc = .ok (.aload_n q, 1) ∧ (q : Nat) = k ∧ pc + 1 = pc'
def vSi (M : vM) (pc k pc' : Nat) : Prop := ((∃ q : Fin 4, decode M.2.2.1 pc = .ok (.istore_n q, 1) ∧ (q : Nat) = k ∧ pc + 1 = pc') ∨ (decode M.2.2.1 pc = .ok (.istore k, 2) ∧ pc + 2 = pc')) ∧ k < M.2.2.2.1
def vSl (M : vM) (pc k pc' : Nat) : Prop := ((∃ q : Fin 4, decode M.2.2.1 pc = .ok (.lstore_n q, 1) ∧ (q : Nat) = k ∧ pc + 1 = pc') ∨ (decode M.2.2.1 pc = .ok (.lstore k, 2) ∧ pc + 2 = pc')) ∧ k + 1 < M.2.2.2.1
def vSa (M : vM) (pc k pc' : Nat) : Prop := (∃ q : Fin 4, decode M.2.2.1 pc = .ok (.astore_n q, 1) ∧ (q : Nat) = k ∧ pc + 1 = pc') ∧ k < M.2.2.2.1
def vIn (M : vM) (pc k : Nat) (v : Int32) (pc' : Nat) : Prop := ∃ x : Int, decode M.2.2.1 pc = .ok (.iinc k x, 3) ∧ Int32.ofInt x = v ∧ k < M.2.2.2.1 ∧ pc + 3 = pc'
def vNF (ci : Nat) : Nat := ([3, 6, 2, 3, 3, 7, 11, 10, 29] : List Nat).getD ci 0
abbrev vOb (n a ci : Nat) : Prop := a < n ∧ vSH a = (ci, vNF ci) ∧ ci < 9
abbrev vAr (n a kd len : Nat) : Prop := a < n ∧ vSH a = (kd, len) ∧ len < 2147483648
/-- getfield, putfield: field k of class ci -/
def vGf (M : vM) (pc ci k pc' : Nat) : Prop := ∃ (idx : Nat) (r : vw_C), decode M.2.2.1 pc = .ok (.getfield idx, 3) ∧ pc + 3 = pc' ∧ vwCl[ci]? = some r ∧ k < r.2.2 ∧ Cond.fieldLink M.1 idx (r.2.1 k).1 (r.2.1 k).2.1 (r.2.1 k).2.2.1 ∈ vT
def vPf (M : vM) (pc ci k pc' : Nat) : Prop := ∃ (idx : Nat) (r : vw_C), decode M.2.2.1 pc = .ok (.putfield idx, 3) ∧ pc + 3 = pc' ∧ vwCl[ci]? = some r ∧ k < r.2.2 ∧ Cond.fieldLink M.1 idx (r.2.1 k).1 (r.2.1 k).2.1 (r.2.1 k).2.2.1 ∈ vT ∧ ((r.2.1 k).2.2.2 = false ∨ ((r.2.1 k).2.2.2 = true ∧ M.2.1.name = "<init>" ∧ (r.2.1 k).1 = M.1))
def up {α : Type} (I : Nat → Nat → α) (a : Nat) (f : Nat → α) : Nat → Nat → α := fun b => if b = a then f else I b
theorem up_s {α : Type} {I : Nat → Nat → α} {a : Nat} {f : Nat → α} : up I a f a = f := by simp [up]
theorem up_n {α : Type} {I : Nat → Nat → α} {a b : Nat} {f : Nat → α} (h : b ≠ a) : up I a f b = I b := by simp [up, h]
theorem va_up_s {α : Type} {f : Nat → α} {k : Nat} {v : α} : va_up f k v k = v := by simp [va_up]
theorem va_up_n {α : Type} {f : Nat → α} {k j : Nat} {v : α} (h : j ≠ k) : va_up f k v j = f j := by simp [va_up, h]

theorem vCok : ∀ (ci : Nat) (r : vw_C), vwCl[ci]? = some r → (∀ x ∈ u_ws r.1 r.2.1 r.2.2, x ∈ vT) ∧ (∀ k, k < r.2.2 → parseFieldDescriptor (r.2.1 k).2.2.1 = some (vTF ci k)) ∧ (∀ a, a < r.2.2 → ∀ b, b < r.2.2 → a ≠ b → (r.2.1 a).2.1 ≠ (r.2.1 b).2.1) ∧ r.2.2 = vNF ci := by
  intro ci r h
  match ci, h with
  | 0, h => cases h; exact ⟨by decide +kernel, tyX0_ok, nmX0, rfl⟩
  | 1, h => cases h; exact ⟨by decide +kernel, tyX1_ok, nmX1, rfl⟩
  | 2, h => cases h; exact ⟨by decide +kernel, tyX2_ok, nmX2, rfl⟩
  | 3, h => cases h; exact ⟨by decide +kernel, tyX3_ok, nmX3, rfl⟩
  | 4, h => cases h; exact ⟨by decide +kernel, tyX4_ok, nmX4, rfl⟩
  | 5, h => cases h; exact ⟨by decide +kernel, tyX5_ok, nmX5, rfl⟩
  | 6, h => cases h; exact ⟨by decide +kernel, tyX6_ok, nmX6, rfl⟩
  | 7, h => cases h; exact ⟨by decide +kernel, tyX7_ok, nmX7, rfl⟩
  | 8, h => cases h; exact ⟨by decide +kernel, tyX8_ok, nmX8, rfl⟩
  | ci + 9, h => simp [vwCl] at h
/-! ===== the list of cells ===== -/
theorem vws_get {E : vE} {n : Nat} {σ : vS} {a : Nat} (h : a < n) : (vws E n σ)[a]? = some (E.1 + a, vcell E σ a) := by
  simp [vws, h]
theorem vws_D (E : vE) (n : Nat) (σ : vS) : va_D (fun q => E.1 ≤ q) (vws E n σ) := by
  refine ⟨fun i j x y hx hy hxy => ?_, fun k q hq => ?_⟩
  · have hi : i < n := by have := (List.getElem?_eq_some_iff.mp hx).1; simpa [vws] using this
    have hj : j < n := by have := (List.getElem?_eq_some_iff.mp hy).1; simpa [vws] using this
    rw [vws_get hi] at hx; rw [vws_get hj] at hy
    cases hx; cases hy
    simp only at hxy
    omega
  · have hi : k < n := by have := (List.getElem?_eq_some_iff.mp hq).1; simpa [vws] using this
    rw [vws_get hi] at hq
    cases hq
    exact Nat.le_add_right _ _
theorem vws_set {E : vE} {n : Nat} {σ τ : vS} {a : Nat} {x : va_E} (h : a < n) (hx : x = vcell E τ a) (ho : ∀ b, b < n → b ≠ a → vcell E τ b = vcell E σ b) : (vws E n σ).set a (E.1 + a, x) = vws E n τ := by
  apply List.ext_getElem?
  intro i
  rw [List.getElem?_set]
  by_cases hi : i < n
  · by_cases hia : a = i
    · subst hia
      rw [if_pos rfl, if_pos (by simpa [vws] using h), vws_get h, hx]
    · rw [if_neg hia, vws_get hi, vws_get hi, ho i hi (Ne.symm hia)]
  · have e1 : (vws E n τ)[i]? = none := by rw [List.getElem?_eq_none_iff]; simp [vws]; omega
    have e2 : (vws E n σ)[i]? = none := by rw [List.getElem?_eq_none_iff]; simp [vws]; omega
    rw [e1, e2]
    by_cases hia : a = i
    · subst hia
      exact absurd h hi
    · rw [if_neg hia]
theorem vcell_ob {E : vE} {σ : vS} {a ci : Nat} (h : vSH a = (ci, vNF ci)) (hc : ci < 9) : vcell E σ a = .inr (ci, vflds E σ a ci (vNF ci)) := by
  simp only [vcell, h]
  rw [if_neg (by omega), if_neg (by omega), if_neg (by omega)]
theorem vcell_ia {E : vE} {σ : vS} {a len : Nat} (h : vSH a = (100, len)) : vcell E σ a = .inl (E.2.2.2.1, len, .inl (σ.1 a)) := by
  simp [vcell, h]
theorem vcell_za {E : vE} {σ : vS} {a len : Nat} (h : vSH a = (101, len)) : vcell E σ a = .inl (E.2.2.2.2.1, len, .inl (σ.1 a)) := by
  simp [vcell, h]
theorem vcell_qa {E : vE} {σ : vS} {a len : Nat} (h : vSH a = (102, len)) : vcell E σ a = .inl (E.2.2.2.2.2, len, .inr (.inr (.inr (.inr (fun k => (σ.2.2 a k).map (fun b => E.1 + b)))))) := by
  simp [vcell, h]
theorem vflds_get {E : vE} {σ : vS} {a ci N k : Nat} (h : k < N) : (vflds E σ a ci N)[k]? = some (vfld E σ a k (vTF ci k)) := by simp [vflds, h]
theorem vflds_len {E : vE} {σ : vS} {a ci N : Nat} : (vflds E σ a ci N).length = N := by simp [vflds]
/-- a picture that differs in the cell a alone -/
theorem vcell_eq {E : vE} {σ τ : vS} {b : Nat} (h1 : τ.1 b = σ.1 b) (h2 : τ.2.1 b = σ.2.1 b) (h3 : τ.2.2 b = σ.2.2 b) : vcell E τ b = vcell E σ b := by
  simp only [vcell, vflds, vfld, h1, h2, h3]
theorem vflds_set {E : vE} {σ τ : vS} {a ci N k : Nat} {v : Value} (hk : k < N) (hv : v = vfld E τ a k (vTF ci k)) (ho : ∀ j, j < N → j ≠ k → vfld E τ a j (vTF ci j) = vfld E σ a j (vTF ci j)) : (vflds E σ a ci N).set k v = vflds E τ a ci N := by
  apply List.ext_getElem?
  intro i
  rw [List.getElem?_set]
  by_cases hi : i < N
  · by_cases hia : k = i
    · subst hia
      rw [if_pos rfl, if_pos (by rw [vflds_len]; exact hk), vflds_get hk, hv]
    · rw [if_neg hia, vflds_get hi, vflds_get hi, ho i hi (Ne.symm hia)]
  · have e1 : (vflds E τ a ci N)[i]? = none := by rw [List.getElem?_eq_none_iff, vflds_len]; omega
    have e2 : (vflds E σ a ci N)[i]? = none := by rw [List.getElem?_eq_none_iff, vflds_len]; omega
    rw [e1, e2]
    by_cases hia : k = i
    · subst hia
      exact absurd hk hi
    · rw [if_neg hia]
/-- the world behind a step that changed one cell -/
theorem vWld_put {E : vE} {n : Nat} {σ τ : vS} {s : State} {H H1 : Heap} {locs locs1 : List Loc} {a : Nat} {x : va_E} (hw : vWld E n σ s H locs) (ha : a < n) (hx : x = vcell E τ a) (h1 : ∀ b, b ≠ a → τ.1 b = σ.1 b) (h2 : ∀ b, b ≠ a → τ.2.1 b = σ.2.1 b) (h3 : ∀ b, b ≠ a → τ.2.2 b = σ.2.2 b)
    (hP : va_P E.2.2.1 vwCl ((vws E n σ).set a (E.1 + a, x)) H1) (hS : va_S (fun q => E.1 ≤ q) s.heap H1 locs1) : vWld E n τ s H1 locs1 := by
  obtain ⟨⟨k1, k2, k4, k5, k6, k7, k8⟩, k9, k10⟩ := hw
  have e0 : a ≠ 1000 := by omega
  have e1 : a ≠ 1001 := by omega
  have l0 : τ.1 1000 = σ.1 1000 := h1 1000 (Ne.symm e0)
  have l1 : vLen τ = vLen σ := by simp only [vLen, h1 1001 (Ne.symm e1)]
  have hb : E.2.1 < s.heap.size := Nat.lt_of_lt_of_le k7 k10
  have hq : H1[E.2.1]? = H[E.2.1]? := by rw [hS.2.1 _ hb (Nat.not_le.mpr k7), k9.2.1 _ hb (Nat.not_le.mpr k7)]
  rw [vws_set ha hx (fun b _ hb => vcell_eq (h1 b hb) (h2 b hb) (h3 b hb))] at hP
  exact ⟨⟨k1, hP, k4, k5, by rw [l0, l1]; exact k6.kept hq, k7, k8⟩, hS, k10⟩
theorem vWld_low {E : vE} {n : Nat} {σ : vS} {s : State} {H : Heap} {locs : List Loc} (hw : vWld E n σ s H locs) : E.1 + n ≤ H.size := by
  rcases Nat.eq_zero_or_pos n with h | h
  · subst h
    exact Nat.le_trans hw.2.2 hw.2.1.1
  · have := (hw.1.2.1 (n - 1) _ (vws_get (by omega))).lt
    simp only at this
    omega
/-- the heap ends where the cells end -/
theorem W_sized {p : Program} {l : Launch} {e : Env} {R : Room} {s : State} {m : MethodId} {args : Array Value} {below : List Frame} {meth : Method} {c : Code} {H : Heap} {locs : List Loc} {cells slots n : Nat} {Q : State → Prop} {g : JFrame} {E : vE} {σ : vS} (hw : vWld E n σ s H locs) (h6 : s.heap.size + cells = E.1 + n) (h : H.size = E.1 + n → W p l e R s m args below meth c H locs cells slots Q g) : W p l e R s m args below meth c H locs cells slots Q g := by
  intro T hT X
  have h1 := X.heapSize
  have h2 := vWld_low hw
  rw [hT] at h1
  exact h (by omega) T hT X

/-! ===== locals ===== -/
def vprs (E : vE) (ls : List Value) : List (Nat × Value) := (List.range ls.length).filterMap (fun i => match ls[i]? with
  | some v => if v = vJ then none else some (i, vmV E v)
  | none => none)
theorem vprs_mem {E : vE} {ls : List Value} {i : Nat} {v : Value} (h : ls[i]? = some v) (hj : v ≠ vJ) : (i, vmV E v) ∈ vprs E ls := by
  have hi : i < ls.length := (List.getElem?_eq_some_iff.mp h).1
  refine List.mem_filterMap.mpr ⟨i, List.mem_range.mpr hi, ?_⟩
  simp only [h]
  rw [if_neg hj]
theorem vprs_of {E : vE} {ls : List Value} {q : Nat × Value} (h : q ∈ vprs E ls) : ∃ v, ls[q.1]? = some v ∧ v ≠ vJ ∧ q.2 = vmV E v := by
  obtain ⟨i, hi, he⟩ := List.mem_filterMap.mp h
  have hl : i < ls.length := List.mem_range.mp hi
  have e : ls[i]? = some ls[i] := List.getElem?_eq_getElem hl
  simp only [e] at he
  by_cases hj : ls[i] = vJ
  · rw [if_pos hj] at he; cases he
  · rw [if_neg hj] at he
    cases he
    exact ⟨_, e, hj, rfl⟩
theorem vLs_has {E : vE} {nL : Nat} {lm : Array Slot} {ls : List Value} (h : vLs E nL lm ls) : lv_has lm nL (vprs E ls) := by
  refine ⟨h.1, h.2.1, fun q hq => ?_⟩
  obtain ⟨v, h1, h2, h3⟩ := vprs_of hq
  rw [h3]
  exact h.2.2 _ _ h1 h2
theorem vmV_cat (E : vE) (v : Value) : (vmV E v).category = v.category := by
  cases v <;> simp [vmV, Value.category]
  rename_i k
  by_cases h : k = 1 <;> simp [h]
/-- what a store in slot k leaves of the list -/
def vSt (ls ls' : List Value) (k : Nat) (v : Value) : Prop := (∀ (i : Nat) (w : Value), ls'[i]? = some w → w ≠ vJ → (i = k ∧ w = v) ∨ (i ≠ k ∧ ls[i]? = some w)) ∧ ∀ w, ls[k - 1]? = some w → 1 ≤ k → w.category = 1
theorem vSt_ls {E : vE} {nL k : Nat} {lm' : Array Slot} {ls ls' : List Value} {v : Value} (hs : vSt ls ls' k v) (h' : lv_has lm' nL ((k, vmV E v) :: (vprs E ls).filter (fun q => !(q.1 == k) && !(q.1 + 1 == k && q.2.category == 2)))) : vLs E nL lm' ls' := by
  refine ⟨h'.1, h'.2.1, fun i w hw hj => ?_⟩
  rcases hs.1 i w hw hj with ⟨rfl, rfl⟩ | ⟨h1, h2⟩
  · exact h'.2.2 _ List.mem_cons_self
  · refine h'.2.2 (i, vmV E w) (List.mem_cons_of_mem _ (List.mem_filter.mpr ⟨vprs_mem h2 hj, ?_⟩))
    have hc : ¬ (i + 1 = k ∧ (vmV E w).category = 2) := by
      rintro ⟨q1, q2⟩
      have := hs.2 w (by rw [← q1]; exact h2) (by omega)
      rw [vmV_cat] at q2
      omega
    simp only [Bool.and_eq_true, Bool.not_eq_true', beq_eq_false_iff_ne, ne_eq, Bool.and_eq_false_iff]
    refine ⟨h1, ?_⟩
    by_cases q : i + 1 = k
    · exact Or.inr (fun z => hc ⟨q, z⟩)
    · exact Or.inl q
/-- a store of two slots -/
def vSt2 (ls ls' : List Value) (k : Nat) (v : Value) : Prop := (∀ (i : Nat) (w : Value), ls'[i]? = some w → w ≠ vJ → (i = k ∧ w = v) ∨ (i ≠ k ∧ i ≠ k + 1 ∧ ls[i]? = some w)) ∧ ∀ w, ls[k - 1]? = some w → 1 ≤ k → w.category = 1

section VSt
variable {d nf n : Nat} {M : vM} {pc pc' tgt : Nat} {ls st : List Value} {σ : vS} {K : Option Value → vS → Prop}
theorem st_c {v : Int32} (r : vCn M pc v pc') (h : V d nf n M pc' ls (.int v :: st) σ K) : V d nf n M pc ls st σ K := by
  intro E p l e R s m args below meth c H locs cells slots Q lm C h1 h2 h3 h4 h5 h6 hw hl hr
  rcases r with ⟨x, r1, r2, rfl⟩ | ⟨x, r1, r2, rfl⟩ | ⟨x, r1, r2, rfl⟩ | ⟨x, r1, r2, rfl⟩ | ⟨x, r1, r2, rfl⟩
  · exact lv_iconst C.1 C.2.1 r1 r2 (h E p l e R s m args below meth c H locs cells slots Q lm C h1 h2 h3 h4 h5 h6 hw hl hr)
  · exact lv_bipush C.1 C.2.1 r1 r2 (h E p l e R s m args below meth c H locs cells slots Q lm C h1 h2 h3 h4 h5 h6 hw hl hr)
  · exact lv_sipush C.1 C.2.1 r1 r2 (h E p l e R s m args below meth c H locs cells slots Q lm C h1 h2 h3 h4 h5 h6 hw hl hr)
  · exact lv_ldc C.1 C.2.1 C.2.2.2.1 (C.2.2.2.2.1 _ r2) r1 (h E p l e R s m args below meth c H locs cells slots Q lm C h1 h2 h3 h4 h5 h6 hw hl hr)
  · exact lv_ldcw C.1 C.2.1 C.2.2.2.1 (C.2.2.2.2.1 _ r2) r1 (h E p l e R s m args below meth c H locs cells slots Q lm C h1 h2 h3 h4 h5 h6 hw hl hr)
theorem st_cl {v : Int64} (r : vCl M pc v pc') (h : V d nf n M pc' ls (.long v :: st) σ K) : V d nf n M pc ls st σ K := by
  intro E p l e R s m args below meth c H locs cells slots Q lm C h1 h2 h3 h4 h5 h6 hw hl hr
  rcases r with ⟨x, r1, r2, rfl⟩ | ⟨x, r1, r2, rfl⟩
  · exact lv_lconst C.1 C.2.1 r1 r2 (h E p l e R s m args below meth c H locs cells slots Q lm C h1 h2 h3 h4 h5 h6 hw hl hr)
  · exact lv_ldc2 C.1 C.2.1 C.2.2.2.1 (C.2.2.2.2.1 _ r2) r1 (h E p l e R s m args below meth c H locs cells slots Q lm C h1 h2 h3 h4 h5 h6 hw hl hr)
theorem vLs_at {E : vE} {nL : Nat} {lm : Array Slot} {v : Value} (hl : vLs E nL lm ls) (i : Nat) (h : ls[i]? = some v) (hj : v ≠ vJ) : lm[i]? = some (.val (vmV E v)) := hl.2.2 i v h hj
theorem st_iload {k : Nat} {x : Int32} (r : vLi M pc k pc') (hk : ls[k]? = some (.int x)) (h : V d nf n M pc' ls (.int x :: st) σ K) : V d nf n M pc ls st σ K := by
  intro E p l e R s m args below meth c H locs cells slots Q lm C h1 h2 h3 h4 h5 h6 hw hl hr
  rcases r with ⟨q, r1, r2, rfl⟩ | ⟨r1, rfl⟩
  · exact lv_iload_n C.1 C.2.1 r1 r2 (vLs_at hl _ hk (by intro q; cases q)) (h E p l e R s m args below meth c H locs cells slots Q lm C h1 h2 h3 h4 h5 h6 hw hl hr)
  · exact lv_iload C.1 C.2.1 r1 (vLs_at hl _ hk (by intro q; cases q)) (h E p l e R s m args below meth c H locs cells slots Q lm C h1 h2 h3 h4 h5 h6 hw hl hr)
theorem st_lload {k : Nat} {x : Int64} (r : vLl M pc k pc') (hk : ls[k]? = some (.long x)) (h : V d nf n M pc' ls (.long x :: st) σ K) : V d nf n M pc ls st σ K := by
  intro E p l e R s m args below meth c H locs cells slots Q lm C h1 h2 h3 h4 h5 h6 hw hl hr
  rcases r with ⟨q, r1, r2, rfl⟩ | ⟨r1, rfl⟩
  · exact lv_lload_n C.1 C.2.1 r1 r2 (vLs_at hl _ hk (by intro q; cases q)) (h E p l e R s m args below meth c H locs cells slots Q lm C h1 h2 h3 h4 h5 h6 hw hl hr)
  · exact lv_lload C.1 C.2.1 r1 (vLs_at hl _ hk (by intro q; cases q)) (h E p l e R s m args below meth c H locs cells slots Q lm C h1 h2 h3 h4 h5 h6 hw hl hr)
theorem st_aload {k a : Nat} (r : vLa M pc k pc') (hk : ls[k]? = some (.ref a)) (h : V d nf n M pc' ls (.ref a :: st) σ K) : V d nf n M pc ls st σ K := by
  intro E p l e R s m args below meth c H locs cells slots Q lm C h1 h2 h3 h4 h5 h6 hw hl hr
  obtain ⟨q, r1, r2, rfl⟩ := r
  exact lv_aload_n C.1 C.2.1 r1 r2 (vLs_at hl _ hk (by intro q; cases q)) (h E p l e R s m args below meth c H locs cells slots Q lm C h1 h2 h3 h4 h5 h6 hw hl hr)
theorem st_xload {k : Nat} (r : vLa M pc k pc') (hk : ls[k]? = some vX) (h : V d nf n M pc' ls (vX :: st) σ K) : V d nf n M pc ls st σ K := by
  intro E p l e R s m args below meth c H locs cells slots Q lm C h1 h2 h3 h4 h5 h6 hw hl hr
  obtain ⟨q, r1, r2, rfl⟩ := r
  exact lv_aload_n C.1 C.2.1 r1 r2 (vLs_at hl _ hk (by intro q; cases q)) (h E p l e R s m args below meth c H locs cells slots Q lm C h1 h2 h3 h4 h5 h6 hw hl hr)
theorem st_istoreG {k : Nat} {x : Int32} {ls' : List Value} (r : vSi M pc k pc') (hs : vSt ls ls' k (.int x)) (h : V d nf n M pc' ls' st σ K) : V d nf n M pc ls (.int x :: st) σ K := by
  intro E p l e R s m args below meth c H locs cells slots Q lm C h1 h2 h3 h4 h5 h6 hw hl hr
  obtain ⟨r, hk⟩ := r
  rcases r with ⟨q, r1, r2, rfl⟩ | ⟨r1, rfl⟩
  · exact lv_istore_n C.1 C.2.1 r1 r2 (vLs_has hl) hk rfl (fun lm' h' => h E p l e R s m args below meth c H locs cells slots Q lm' C h1 h2 h3 h4 h5 h6 hw (vSt_ls hs h') hr)
  · exact lv_istore C.1 C.2.1 r1 (vLs_has hl) hk rfl (fun lm' h' => h E p l e R s m args below meth c H locs cells slots Q lm' C h1 h2 h3 h4 h5 h6 hw (vSt_ls hs h') hr)
theorem st_astoreG {k a : Nat} {ls' : List Value} (r : vSa M pc k pc') (hs : vSt ls ls' k (.ref a)) (h : V d nf n M pc' ls' st σ K) : V d nf n M pc ls (.ref a :: st) σ K := by
  intro E p l e R s m args below meth c H locs cells slots Q lm C h1 h2 h3 h4 h5 h6 hw hl hr
  obtain ⟨⟨q, r1, r2, rfl⟩, hk⟩ := r
  exact lv_astore_n C.1 C.2.1 r1 r2 (vLs_has hl) hk rfl (fun lm' h' => h E p l e R s m args below meth c H locs cells slots Q lm' C h1 h2 h3 h4 h5 h6 hw (vSt_ls hs h') hr)
theorem st_iincG {k : Nat} {x v : Int32} {ls' : List Value} (r : vIn M pc k v pc') (hx : ls[k]? = some (.int x)) (hs : vSt ls ls' k (.int (x + v))) (h : V d nf n M pc' ls' st σ K) : V d nf n M pc ls st σ K := by
  intro E p l e R s m args below meth c H locs cells slots Q lm C h1 h2 h3 h4 h5 h6 hw hl hr
  obtain ⟨y, r1, r2, hk, rfl⟩ := r
  subst r2
  have hh : lv_has lm M.2.2.2.1 ((k, .int x) :: vprs E ls) := by
    refine ⟨hl.1, hl.2.1, fun q hq => ?_⟩
    rcases List.mem_cons.mp hq with rfl | hq
    · exact vLs_at hl k hx (by intro q; cases q)
    · exact (vLs_has hl).2.2 q hq
  refine lv_iinc (k := 0) C.1 C.2.1 r1 hh rfl rfl hk rfl (fun lm' h' => ?_)
  have h9 : lv_has lm' M.2.2.2.1 ((k, vmV E (.int (x + Int32.ofInt y))) :: (vprs E ls).filter (fun q => !(q.1 == k) && !(q.1 + 1 == k && q.2.category == 2))) := by
    refine ⟨h'.1, h'.2.1, fun q hq => h'.2.2 q ?_⟩
    rcases List.mem_cons.mp hq with rfl | hq
    · exact List.mem_cons_self
    · refine List.mem_cons_of_mem _ (List.mem_filter.mpr ⟨List.mem_cons_of_mem _ (List.mem_filter.mp hq).1, (List.mem_filter.mp hq).2⟩)
  exact h E p l e R s m args below meth c H locs cells slots Q lm' C h1 h2 h3 h4 h5 h6 hw (vSt_ls hs h9) hr
theorem st_lstoreG {k : Nat} {x : Int64} {ls' : List Value} (r : vSl M pc k pc') (hs : vSt2 ls ls' k (.long x)) (h : V d nf n M pc' ls' st σ K) : V d nf n M pc ls (.long x :: st) σ K := by
  intro E p l e R s m args below meth c H locs cells slots Q lm C h1 h2 h3 h4 h5 h6 hw hl hr
  obtain ⟨r, hk⟩ := r
  have key : ∀ lm' : Array Slot, lv_has lm' M.2.2.2.1 ((k, .long x) :: (vprs E ls).filter (fun q => !(q.1 == k) && (!(q.1 == k + 1) && !(q.1 + 1 == k && q.2.category == 2)))) → vLs E M.2.2.2.1 lm' ls' := by
    intro lm' h'
    refine ⟨h'.1, h'.2.1, fun i w hw hj => ?_⟩
    rcases hs.1 i w hw hj with ⟨rfl, rfl⟩ | ⟨g1, g2, g3⟩
    · exact h'.2.2 _ List.mem_cons_self
    · refine h'.2.2 (i, vmV E w) (List.mem_cons_of_mem _ (List.mem_filter.mpr ⟨vprs_mem g3 hj, ?_⟩))
      have hc : i + 1 = k → ¬ (vmV E w).category = 2 := by
        intro q1 q2
        have := hs.2 w (by rw [← q1]; exact g3) (by omega)
        rw [vmV_cat] at q2
        omega
      by_cases q : i + 1 = k
      · simp [g1, g2, q, hc q]
      · simp [g1, g2, q]
  rcases r with ⟨q, r1, r2, rfl⟩ | ⟨r1, rfl⟩
  · exact lv_lstore_n C.1 C.2.1 r1 r2 (vLs_has hl) hk rfl (fun lm' h' => h E p l e R s m args below meth c H locs cells slots Q lm' C h1 h2 h3 h4 h5 h6 hw (key _ h') hr)
  · exact lv_lstore C.1 C.2.1 r1 (vLs_has hl) hk rfl (fun lm' h' => h E p l e R s m args below meth c H locs cells slots Q lm' C h1 h2 h3 h4 h5 h6 hw (key _ h') hr)
theorem st_iadd {x y : Int32} (r : vI M pc .iadd 1 pc') (h : V d nf n M pc' ls (.int (x + y) :: st) σ K) : V d nf n M pc ls (.int y :: .int x :: st) σ K := by
  intro E p l e R s m args below meth c H locs cells slots Q lm C h1 h2 h3 h4 h5 h6 hw hl hr
  obtain ⟨r1, rfl⟩ := r
  exact lv_iadd C.1 C.2.1 r1 (h E p l e R s m args below meth c H locs cells slots Q lm C h1 h2 h3 h4 h5 h6 hw hl hr)
theorem st_isub {x y : Int32} (r : vI M pc .isub 1 pc') (h : V d nf n M pc' ls (.int (x - y) :: st) σ K) : V d nf n M pc ls (.int y :: .int x :: st) σ K := by
  intro E p l e R s m args below meth c H locs cells slots Q lm C h1 h2 h3 h4 h5 h6 hw hl hr
  obtain ⟨r1, rfl⟩ := r
  exact lv_isub C.1 C.2.1 r1 (h E p l e R s m args below meth c H locs cells slots Q lm C h1 h2 h3 h4 h5 h6 hw hl hr)
theorem st_imul {x y : Int32} (r : vI M pc .imul 1 pc') (h : V d nf n M pc' ls (.int (x * y) :: st) σ K) : V d nf n M pc ls (.int y :: .int x :: st) σ K := by
  intro E p l e R s m args below meth c H locs cells slots Q lm C h1 h2 h3 h4 h5 h6 hw hl hr
  obtain ⟨r1, rfl⟩ := r
  exact lv_imul C.1 C.2.1 r1 (h E p l e R s m args below meth c H locs cells slots Q lm C h1 h2 h3 h4 h5 h6 hw hl hr)
theorem st_iand {x y : Int32} (r : vI M pc .iand 1 pc') (h : V d nf n M pc' ls (.int (x &&& y) :: st) σ K) : V d nf n M pc ls (.int y :: .int x :: st) σ K := by
  intro E p l e R s m args below meth c H locs cells slots Q lm C h1 h2 h3 h4 h5 h6 hw hl hr
  obtain ⟨r1, rfl⟩ := r
  exact lv_iand C.1 C.2.1 r1 (h E p l e R s m args below meth c H locs cells slots Q lm C h1 h2 h3 h4 h5 h6 hw hl hr)
theorem st_ior {x y : Int32} (r : vI M pc .ior 1 pc') (h : V d nf n M pc' ls (.int (x ||| y) :: st) σ K) : V d nf n M pc ls (.int y :: .int x :: st) σ K := by
  intro E p l e R s m args below meth c H locs cells slots Q lm C h1 h2 h3 h4 h5 h6 hw hl hr
  obtain ⟨r1, rfl⟩ := r
  exact lv_ior C.1 C.2.1 r1 (h E p l e R s m args below meth c H locs cells slots Q lm C h1 h2 h3 h4 h5 h6 hw hl hr)
theorem st_ixor {x y : Int32} (r : vI M pc .ixor 1 pc') (h : V d nf n M pc' ls (.int (x ^^^ y) :: st) σ K) : V d nf n M pc ls (.int y :: .int x :: st) σ K := by
  intro E p l e R s m args below meth c H locs cells slots Q lm C h1 h2 h3 h4 h5 h6 hw hl hr
  obtain ⟨r1, rfl⟩ := r
  exact lv_ixor C.1 C.2.1 r1 (h E p l e R s m args below meth c H locs cells slots Q lm C h1 h2 h3 h4 h5 h6 hw hl hr)
theorem st_ishl {x y : Int32} (r : vI M pc .ishl 1 pc') (h : V d nf n M pc' ls (.int (x <<< (y &&& 31)) :: st) σ K) : V d nf n M pc ls (.int y :: .int x :: st) σ K := by
  intro E p l e R s m args below meth c H locs cells slots Q lm C h1 h2 h3 h4 h5 h6 hw hl hr
  obtain ⟨r1, rfl⟩ := r
  exact lv_ishl C.1 C.2.1 r1 (h E p l e R s m args below meth c H locs cells slots Q lm C h1 h2 h3 h4 h5 h6 hw hl hr)
theorem st_ishr {x y : Int32} (r : vI M pc .ishr 1 pc') (h : V d nf n M pc' ls (.int (x >>> (y &&& 31)) :: st) σ K) : V d nf n M pc ls (.int y :: .int x :: st) σ K := by
  intro E p l e R s m args below meth c H locs cells slots Q lm C h1 h2 h3 h4 h5 h6 hw hl hr
  obtain ⟨r1, rfl⟩ := r
  exact lv_ishr C.1 C.2.1 r1 (h E p l e R s m args below meth c H locs cells slots Q lm C h1 h2 h3 h4 h5 h6 hw hl hr)
theorem st_ladd {x y : Int64} (r : vI M pc .ladd 1 pc') (h : V d nf n M pc' ls (.long (x + y) :: st) σ K) : V d nf n M pc ls (.long y :: .long x :: st) σ K := by
  intro E p l e R s m args below meth c H locs cells slots Q lm C h1 h2 h3 h4 h5 h6 hw hl hr
  obtain ⟨r1, rfl⟩ := r
  exact lv_ladd C.1 C.2.1 r1 (h E p l e R s m args below meth c H locs cells slots Q lm C h1 h2 h3 h4 h5 h6 hw hl hr)
theorem st_lsub {x y : Int64} (r : vI M pc .lsub 1 pc') (h : V d nf n M pc' ls (.long (x - y) :: st) σ K) : V d nf n M pc ls (.long y :: .long x :: st) σ K := by
  intro E p l e R s m args below meth c H locs cells slots Q lm C h1 h2 h3 h4 h5 h6 hw hl hr
  obtain ⟨r1, rfl⟩ := r
  exact lv_lsub C.1 C.2.1 r1 (h E p l e R s m args below meth c H locs cells slots Q lm C h1 h2 h3 h4 h5 h6 hw hl hr)
theorem st_lmul {x y : Int64} (r : vI M pc .lmul 1 pc') (h : V d nf n M pc' ls (.long (x * y) :: st) σ K) : V d nf n M pc ls (.long y :: .long x :: st) σ K := by
  intro E p l e R s m args below meth c H locs cells slots Q lm C h1 h2 h3 h4 h5 h6 hw hl hr
  obtain ⟨r1, rfl⟩ := r
  exact lv_lmul C.1 C.2.1 r1 (h E p l e R s m args below meth c H locs cells slots Q lm C h1 h2 h3 h4 h5 h6 hw hl hr)
theorem st_idiv {x y : Int32} (r : vI M pc .idiv 1 pc') (hy : ¬ y = 0) (h : V d nf n M pc' ls (.int (x / y) :: st) σ K) : V d nf n M pc ls (.int y :: .int x :: st) σ K := by
  intro E p l e R s m args below meth c H locs cells slots Q lm C h1 h2 h3 h4 h5 h6 hw hl hr
  obtain ⟨r1, rfl⟩ := r
  exact lv_idiv C.1 C.2.1 r1 hy (h E p l e R s m args below meth c H locs cells slots Q lm C h1 h2 h3 h4 h5 h6 hw hl hr)
theorem st_irem {x y : Int32} (r : vI M pc .irem 1 pc') (hy : ¬ y = 0) (h : V d nf n M pc' ls (.int (x - x / y * y) :: st) σ K) : V d nf n M pc ls (.int y :: .int x :: st) σ K := by
  intro E p l e R s m args below meth c H locs cells slots Q lm C h1 h2 h3 h4 h5 h6 hw hl hr
  obtain ⟨r1, rfl⟩ := r
  exact lv_irem C.1 C.2.1 r1 hy (h E p l e R s m args below meth c H locs cells slots Q lm C h1 h2 h3 h4 h5 h6 hw hl hr)
theorem st_ldiv {x y : Int64} (r : vI M pc .ldiv 1 pc') (hy : ¬ y = 0) (h : V d nf n M pc' ls (.long (x / y) :: st) σ K) : V d nf n M pc ls (.long y :: .long x :: st) σ K := by
  intro E p l e R s m args below meth c H locs cells slots Q lm C h1 h2 h3 h4 h5 h6 hw hl hr
  obtain ⟨r1, rfl⟩ := r
  exact lv_ldiv C.1 C.2.1 r1 hy (h E p l e R s m args below meth c H locs cells slots Q lm C h1 h2 h3 h4 h5 h6 hw hl hr)
theorem st_lrem {x y : Int64} (r : vI M pc .lrem 1 pc') (hy : ¬ y = 0) (h : V d nf n M pc' ls (.long (x - x / y * y) :: st) σ K) : V d nf n M pc ls (.long y :: .long x :: st) σ K := by
  intro E p l e R s m args below meth c H locs cells slots Q lm C h1 h2 h3 h4 h5 h6 hw hl hr
  obtain ⟨r1, rfl⟩ := r
  exact lv_lrem C.1 C.2.1 r1 hy (h E p l e R s m args below meth c H locs cells slots Q lm C h1 h2 h3 h4 h5 h6 hw hl hr)
theorem st_iushr {x y : Int32} (r : vI M pc .iushr 1 pc') (h : V d nf n M pc' ls (.int ((x.toUInt32 >>> (y.toUInt32 &&& Int32.toUInt32 31)).toInt32) :: st) σ K) : V d nf n M pc ls (.int y :: .int x :: st) σ K := by
  intro E p l e R s m args below meth c H locs cells slots Q lm C h1 h2 h3 h4 h5 h6 hw hl hr
  obtain ⟨r1, rfl⟩ := r
  exact lv_iushr C.1 C.2.1 r1 rfl (h E p l e R s m args below meth c H locs cells slots Q lm C h1 h2 h3 h4 h5 h6 hw hl hr)
theorem st_i2l {x : Int32} (r : vI M pc .i2l 1 pc') (h : V d nf n M pc' ls (.long x.toInt64 :: st) σ K) : V d nf n M pc ls (.int x :: st) σ K := by
  intro E p l e R s m args below meth c H locs cells slots Q lm C h1 h2 h3 h4 h5 h6 hw hl hr
  obtain ⟨r1, rfl⟩ := r
  exact lv_i2l C.1 C.2.1 r1 rfl (h E p l e R s m args below meth c H locs cells slots Q lm C h1 h2 h3 h4 h5 h6 hw hl hr)
theorem st_l2i {x : Int64} (r : vI M pc .l2i 1 pc') (h : V d nf n M pc' ls (.int x.toInt32 :: st) σ K) : V d nf n M pc ls (.long x :: st) σ K := by
  intro E p l e R s m args below meth c H locs cells slots Q lm C h1 h2 h3 h4 h5 h6 hw hl hr
  obtain ⟨r1, rfl⟩ := r
  exact lv_l2i C.1 C.2.1 r1 rfl (h E p l e R s m args below meth c H locs cells slots Q lm C h1 h2 h3 h4 h5 h6 hw hl hr)
theorem st_dup {v : Value} (r : vI M pc .dup 1 pc') (hc : v.category = 1) (h : V d nf n M pc' ls (v :: v :: st) σ K) : V d nf n M pc ls (v :: st) σ K := by
  intro E p l e R s m args below meth c H locs cells slots Q lm C h1 h2 h3 h4 h5 h6 hw hl hr
  obtain ⟨r1, rfl⟩ := r
  exact lv_dup C.1 C.2.1 r1 (by rw [vmV_cat]; exact hc) (h E p l e R s m args below meth c H locs cells slots Q lm C h1 h2 h3 h4 h5 h6 hw hl hr)
theorem st_dup2 {v u : Value} (r : vI M pc .dup2 1 pc') (hc : v.category = 1) (hu : u.category = 1) (h : V d nf n M pc' ls (v :: u :: v :: u :: st) σ K) : V d nf n M pc ls (v :: u :: st) σ K := by
  intro E p l e R s m args below meth c H locs cells slots Q lm C h1 h2 h3 h4 h5 h6 hw hl hr
  obtain ⟨r1, rfl⟩ := r
  exact lv_dup2_11 C.1 C.2.1 r1 (by rw [vmV_cat]; exact hc) (by rw [vmV_cat]; exact hu) (h E p l e R s m args below meth c H locs cells slots Q lm C h1 h2 h3 h4 h5 h6 hw hl hr)
theorem st_pop {v : Value} (r : vI M pc .pop 1 pc') (hc : v.category = 1) (h : V d nf n M pc' ls st σ K) : V d nf n M pc ls (v :: st) σ K := by
  intro E p l e R s m args below meth c H locs cells slots Q lm C h1 h2 h3 h4 h5 h6 hw hl hr
  obtain ⟨r1, rfl⟩ := r
  exact lv_pop C.1 C.2.1 r1 (by rw [vmV_cat]; exact hc) (h E p l e R s m args below meth c H locs cells slots Q lm C h1 h2 h3 h4 h5 h6 hw hl hr)
theorem st_icmp_eq {x y : Int32} (r : vIc M pc .eq tgt pc') (ht : x = y → V d nf n M tgt ls st σ K) (hf : ¬ x = y → V d nf n M pc' ls st σ K) : V d nf n M pc ls (.int y :: .int x :: st) σ K := by
  intro E p l e R s m args below meth c H locs cells slots Q lm C h1 h2 h3 h4 h5 h6 hw hl hr
  obtain ⟨off, r1, r2, rfl⟩ := r
  exact lv_icmp_eq C.1 C.2.1 r1 r2 (fun q => ht q E p l e R s m args below meth c H locs cells slots Q lm C h1 h2 h3 h4 h5 h6 hw hl hr) (fun q => hf q E p l e R s m args below meth c H locs cells slots Q lm C h1 h2 h3 h4 h5 h6 hw hl hr)
theorem st_if_eq {x : Int32} (r : vIf M pc .eq tgt pc') (ht : x = 0 → V d nf n M tgt ls st σ K) (hf : ¬ x = 0 → V d nf n M pc' ls st σ K) : V d nf n M pc ls (.int x :: st) σ K := by
  intro E p l e R s m args below meth c H locs cells slots Q lm C h1 h2 h3 h4 h5 h6 hw hl hr
  obtain ⟨off, r1, r2, rfl⟩ := r
  exact lv_if_eq C.1 C.2.1 r1 r2 (fun q => ht q E p l e R s m args below meth c H locs cells slots Q lm C h1 h2 h3 h4 h5 h6 hw hl hr) (fun q => hf q E p l e R s m args below meth c H locs cells slots Q lm C h1 h2 h3 h4 h5 h6 hw hl hr)
theorem st_icmp_ne {x y : Int32} (r : vIc M pc .ne tgt pc') (ht : ¬ x = y → V d nf n M tgt ls st σ K) (hf : x = y → V d nf n M pc' ls st σ K) : V d nf n M pc ls (.int y :: .int x :: st) σ K := by
  intro E p l e R s m args below meth c H locs cells slots Q lm C h1 h2 h3 h4 h5 h6 hw hl hr
  obtain ⟨off, r1, r2, rfl⟩ := r
  exact lv_icmp_ne C.1 C.2.1 r1 r2 (fun q => ht q E p l e R s m args below meth c H locs cells slots Q lm C h1 h2 h3 h4 h5 h6 hw hl hr) (fun q => hf q E p l e R s m args below meth c H locs cells slots Q lm C h1 h2 h3 h4 h5 h6 hw hl hr)
theorem st_if_ne {x : Int32} (r : vIf M pc .ne tgt pc') (ht : ¬ x = 0 → V d nf n M tgt ls st σ K) (hf : x = 0 → V d nf n M pc' ls st σ K) : V d nf n M pc ls (.int x :: st) σ K := by
  intro E p l e R s m args below meth c H locs cells slots Q lm C h1 h2 h3 h4 h5 h6 hw hl hr
  obtain ⟨off, r1, r2, rfl⟩ := r
  exact lv_if_ne C.1 C.2.1 r1 r2 (fun q => ht q E p l e R s m args below meth c H locs cells slots Q lm C h1 h2 h3 h4 h5 h6 hw hl hr) (fun q => hf q E p l e R s m args below meth c H locs cells slots Q lm C h1 h2 h3 h4 h5 h6 hw hl hr)
theorem st_icmp_lt {x y : Int32} (r : vIc M pc .lt tgt pc') (ht : x < y → V d nf n M tgt ls st σ K) (hf : ¬ x < y → V d nf n M pc' ls st σ K) : V d nf n M pc ls (.int y :: .int x :: st) σ K := by
  intro E p l e R s m args below meth c H locs cells slots Q lm C h1 h2 h3 h4 h5 h6 hw hl hr
  obtain ⟨off, r1, r2, rfl⟩ := r
  exact lv_icmp_lt C.1 C.2.1 r1 r2 (fun q => ht q E p l e R s m args below meth c H locs cells slots Q lm C h1 h2 h3 h4 h5 h6 hw hl hr) (fun q => hf q E p l e R s m args below meth c H locs cells slots Q lm C h1 h2 h3 h4 h5 h6 hw hl hr)
theorem st_if_lt {x : Int32} (r : vIf M pc .lt tgt pc') (ht : x < 0 → V d nf n M tgt ls st σ K) (hf : ¬ x < 0 → V d nf n M pc' ls st σ K) : V d nf n M pc ls (.int x :: st) σ K := by
  intro E p l e R s m args below meth c H locs cells slots Q lm C h1 h2 h3 h4 h5 h6 hw hl hr
  obtain ⟨off, r1, r2, rfl⟩ := r
  exact lv_if_lt C.1 C.2.1 r1 r2 (fun q => ht q E p l e R s m args below meth c H locs cells slots Q lm C h1 h2 h3 h4 h5 h6 hw hl hr) (fun q => hf q E p l e R s m args below meth c H locs cells slots Q lm C h1 h2 h3 h4 h5 h6 hw hl hr)
theorem st_icmp_ge {x y : Int32} (r : vIc M pc .ge tgt pc') (ht : y ≤ x → V d nf n M tgt ls st σ K) (hf : ¬ y ≤ x → V d nf n M pc' ls st σ K) : V d nf n M pc ls (.int y :: .int x :: st) σ K := by
  intro E p l e R s m args below meth c H locs cells slots Q lm C h1 h2 h3 h4 h5 h6 hw hl hr
  obtain ⟨off, r1, r2, rfl⟩ := r
  exact lv_icmp_ge C.1 C.2.1 r1 r2 (fun q => ht q E p l e R s m args below meth c H locs cells slots Q lm C h1 h2 h3 h4 h5 h6 hw hl hr) (fun q => hf q E p l e R s m args below meth c H locs cells slots Q lm C h1 h2 h3 h4 h5 h6 hw hl hr)
theorem st_if_ge {x : Int32} (r : vIf M pc .ge tgt pc') (ht : 0 ≤ x → V d nf n M tgt ls st σ K) (hf : ¬ 0 ≤ x → V d nf n M pc' ls st σ K) : V d nf n M pc ls (.int x :: st) σ K := by
  intro E p l e R s m args below meth c H locs cells slots Q lm C h1 h2 h3 h4 h5 h6 hw hl hr
  obtain ⟨off, r1, r2, rfl⟩ := r
  exact lv_if_ge C.1 C.2.1 r1 r2 (fun q => ht q E p l e R s m args below meth c H locs cells slots Q lm C h1 h2 h3 h4 h5 h6 hw hl hr) (fun q => hf q E p l e R s m args below meth c H locs cells slots Q lm C h1 h2 h3 h4 h5 h6 hw hl hr)
theorem st_icmp_gt {x y : Int32} (r : vIc M pc .gt tgt pc') (ht : y < x → V d nf n M tgt ls st σ K) (hf : ¬ y < x → V d nf n M pc' ls st σ K) : V d nf n M pc ls (.int y :: .int x :: st) σ K := by
  intro E p l e R s m args below meth c H locs cells slots Q lm C h1 h2 h3 h4 h5 h6 hw hl hr
  obtain ⟨off, r1, r2, rfl⟩ := r
  exact lv_icmp_gt C.1 C.2.1 r1 r2 (fun q => ht q E p l e R s m args below meth c H locs cells slots Q lm C h1 h2 h3 h4 h5 h6 hw hl hr) (fun q => hf q E p l e R s m args below meth c H locs cells slots Q lm C h1 h2 h3 h4 h5 h6 hw hl hr)
theorem st_if_gt {x : Int32} (r : vIf M pc .gt tgt pc') (ht : 0 < x → V d nf n M tgt ls st σ K) (hf : ¬ 0 < x → V d nf n M pc' ls st σ K) : V d nf n M pc ls (.int x :: st) σ K := by
  intro E p l e R s m args below meth c H locs cells slots Q lm C h1 h2 h3 h4 h5 h6 hw hl hr
  obtain ⟨off, r1, r2, rfl⟩ := r
  exact lv_if_gt C.1 C.2.1 r1 r2 (fun q => ht q E p l e R s m args below meth c H locs cells slots Q lm C h1 h2 h3 h4 h5 h6 hw hl hr) (fun q => hf q E p l e R s m args below meth c H locs cells slots Q lm C h1 h2 h3 h4 h5 h6 hw hl hr)
theorem st_icmp_le {x y : Int32} (r : vIc M pc .le tgt pc') (ht : x ≤ y → V d nf n M tgt ls st σ K) (hf : ¬ x ≤ y → V d nf n M pc' ls st σ K) : V d nf n M pc ls (.int y :: .int x :: st) σ K := by
  intro E p l e R s m args below meth c H locs cells slots Q lm C h1 h2 h3 h4 h5 h6 hw hl hr
  obtain ⟨off, r1, r2, rfl⟩ := r
  exact lv_icmp_le C.1 C.2.1 r1 r2 (fun q => ht q E p l e R s m args below meth c H locs cells slots Q lm C h1 h2 h3 h4 h5 h6 hw hl hr) (fun q => hf q E p l e R s m args below meth c H locs cells slots Q lm C h1 h2 h3 h4 h5 h6 hw hl hr)
theorem st_if_le {x : Int32} (r : vIf M pc .le tgt pc') (ht : x ≤ 0 → V d nf n M tgt ls st σ K) (hf : ¬ x ≤ 0 → V d nf n M pc' ls st σ K) : V d nf n M pc ls (.int x :: st) σ K := by
  intro E p l e R s m args below meth c H locs cells slots Q lm C h1 h2 h3 h4 h5 h6 hw hl hr
  obtain ⟨off, r1, r2, rfl⟩ := r
  exact lv_if_le C.1 C.2.1 r1 r2 (fun q => ht q E p l e R s m args below meth c H locs cells slots Q lm C h1 h2 h3 h4 h5 h6 hw hl hr) (fun q => hf q E p l e R s m args below meth c H locs cells slots Q lm C h1 h2 h3 h4 h5 h6 hw hl hr)
theorem st_goto (r : vGo M pc tgt) (h : V d nf n M tgt ls st σ K) : V d nf n M pc ls st σ K := by
  intro E p l e R s m args below meth c H locs cells slots Q lm C h1 h2 h3 h4 h5 h6 hw hl hr
  obtain ⟨off, r1, r2⟩ := r
  exact lv_goto C.1 C.2.1 r1 r2 (h E p l e R s m args below meth c H locs cells slots Q lm C h1 h2 h3 h4 h5 h6 hw hl hr)
theorem st_ifnonnull {a : Nat} (r : vNn M pc tgt pc') (h : V d nf n M tgt ls st σ K) : V d nf n M pc ls (.ref a :: st) σ K := by
  intro E p l e R s m args below meth c H locs cells slots Q lm C h1 h2 h3 h4 h5 h6 hw hl hr
  obtain ⟨off, r1, r2, rfl⟩ := r
  exact lv_ifnonnull C.1 C.2.1 r1 r2 (h E p l e R s m args below meth c H locs cells slots Q lm C h1 h2 h3 h4 h5 h6 hw hl hr)
theorem st_ifnull {a : Nat} (r : vNl M pc tgt pc') (h : V d nf n M pc' ls st σ K) : V d nf n M pc ls (.ref a :: st) σ K := by
  intro E p l e R s m args below meth c H locs cells slots Q lm C h1 h2 h3 h4 h5 h6 hw hl hr
  obtain ⟨off, r1, r2, rfl⟩ := r
  exact lv_ifnull C.1 C.2.1 r1 (h E p l e R s m args below meth c H locs cells slots Q lm C h1 h2 h3 h4 h5 h6 hw hl hr)
theorem st_top {x y : Int32} (e : x = y) (h : V d nf n M pc ls (.int y :: st) σ K) : V d nf n M pc ls (.int x :: st) σ K := by rw [e]; exact h
theorem st_topl {x y : Int64} (e : x = y) (h : V d nf n M pc ls (.long y :: st) σ K) : V d nf n M pc ls (.long x :: st) σ K := by rw [e]; exact h
theorem V_st {ls' st' : List Value} {σ' : vS} (h : V d nf n M pc ls' st' σ' K) (e1 : ls = ls') (e2 : st = st') (e3 : σ = σ') : V d nf n M pc ls st σ K := by rw [e1, e2, e3]; exact h
end VSt
