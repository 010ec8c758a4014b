/-! ===== counting ways to hang ===== -/
def slF (f : Nat → Nat) : List Nat → Nat
  | [] => 0
  | a :: l => f a + slF f l
def plF (f : Nat → Nat) : List Nat → Nat
  | [] => 1
  | a :: l => f a * plF f l
theorem sl_congr {f g : Nat → Nat} : ∀ l : List Nat, (∀ a, a ∈ l → f a = g a) → slF f l = slF g l := by
  intro l
  induction l with
  | nil => intro _; rfl
  | cons a l ih => intro h; simp only [slF]; rw [h a (List.mem_cons_self ..), ih (fun b hb => h b (List.mem_cons_of_mem _ hb))]
theorem pl_congr {f g : Nat → Nat} : ∀ l : List Nat, (∀ a, a ∈ l → f a = g a) → plF f l = plF g l := by
  intro l
  induction l with
  | nil => intro _; rfl
  | cons a l ih => intro h; simp only [plF]; rw [h a (List.mem_cons_self ..), ih (fun b hb => h b (List.mem_cons_of_mem _ hb))]
theorem sl_add (f g : Nat → Nat) : ∀ l : List Nat, slF (fun a => f a + g a) l = slF f l + slF g l := by
  intro l
  induction l with
  | nil => rfl
  | cons a l ih => simp only [slF]; rw [ih]; omega
theorem sl_0 : ∀ l : List Nat, slF (fun _ => 0) l = 0 := by
  intro l
  induction l with
  | nil => rfl
  | cons a l ih => simp only [slF]; rw [ih]
theorem sl_z {f : Nat → Nat} (l : List Nat) (h : ∀ a, a ∈ l → f a = 0) : slF f l = 0 := (sl_congr l h).trans (sl_0 l)
theorem sl_mul (f : Nat → Nat) (c : Nat) : ∀ l : List Nat, slF (fun a => f a * c) l = slF f l * c := by
  intro l
  induction l with
  | nil => simp [slF]
  | cons a l ih => simp only [slF]; rw [ih, Nat.add_mul]
theorem sl_const (c : Nat) : ∀ l : List Nat, slF (fun _ => c) l = l.length * c := by
  intro l
  induction l with
  | nil => simp [slF]
  | cons a l ih => simp only [slF, List.length_cons]; rw [ih, Nat.add_mul]; omega
theorem sl_swap (g : Nat → Nat → Nat) (B : List Nat) : ∀ A : List Nat, slF (fun x => slF (g x) B) A = slF (fun y => slF (fun x => g x y) A) B := by
  intro A
  induction A with
  | nil => simp only [slF]; exact (sl_0 B).symm
  | cons a A ih => simp only [slF]; rw [ih, ← sl_add]
theorem sl_erase (f : Nat → Nat) {b : Nat} : ∀ l : List Nat, b ∈ l → slF f l = f b + slF f (l.erase b) := by
  intro l
  induction l with
  | nil => intro h; cases h
  | cons a l ih =>
    intro h
    by_cases e : a = b
    · subst e; rw [List.erase_cons_head]; rfl
    · rw [List.erase_cons_tail (by simpa using e)]
      simp only [slF]
      rw [ih (by rcases List.mem_cons.mp h with h | h; exact absurd h.symm e; exact h)]
      omega
theorem pl_erase (f : Nat → Nat) {b : Nat} : ∀ l : List Nat, b ∈ l → plF f l = f b * plF f (l.erase b) := by
  intro l
  induction l with
  | nil => intro h; cases h
  | cons a l ih =>
    intro h
    by_cases e : a = b
    · subst e; rw [List.erase_cons_head]; rfl
    · rw [List.erase_cons_tail (by simpa using e)]
      simp only [plF]
      rw [ih (by rcases List.mem_cons.mp h with h | h; exact absurd h.symm e; exact h)]
      exact Nat.mul_left_comm _ _ _
/-- ways to hang the bells B in the towns T, town by town -/
def prF (fit : Nat → Nat → Bool) : List Nat → List Nat → Nat
  | [], _ => 1
  | t :: T, B => slF (fun b => if fit b t = true then prF fit T (B.erase b) else 0) B
/-- the same, along one bell -/
theorem pr_col (fit : Nat → Nat → Bool) : ∀ (T B : List Nat) (b : Nat), T.Nodup → B.Nodup → T.length = B.length → b ∈ B → prF fit T B = slF (fun t => if fit b t = true then prF fit (T.erase t) (B.erase b) else 0) T := by
  intro T
  induction T with
  | nil =>
    intro B b _ _ hl hb
    cases B with
    | nil => cases hb
    | cons x B => simp at hl
  | cons t T ih =>
    intro B b hT hB hl hb
    have hT2 := List.nodup_cons.mp hT
    rw [prF, sl_erase _ B hb]
    have e1 : slF (fun b' => if fit b' t = true then prF fit T (B.erase b') else 0) (B.erase b) = slF (fun b' => slF (fun t' => if fit b' t = true then (if fit b t' = true then prF fit (T.erase t') ((B.erase b).erase b') else 0) else 0) T) (B.erase b) := by
      refine sl_congr _ (fun b' hb' => ?_)
      have hm := (List.Nodup.mem_erase_iff hB).mp hb'
      cases hf : fit b' t with
      | false =>
        simp only [Bool.false_eq_true, if_false]
        exact (sl_0 T).symm
      | true =>
        simp only [if_true]
        rw [ih (B.erase b') b hT2.2 (List.Nodup.erase _ hB) (by rw [List.length_erase_of_mem hm.2]; simp only [List.length_cons] at hl; omega) ((List.Nodup.mem_erase_iff hB).mpr ⟨Ne.symm hm.1, hb⟩), List.erase_comm]
    have e2 : slF (fun t' => if fit b t' = true then prF fit ((t :: T).erase t') (B.erase b) else 0) T = slF (fun t' => slF (fun b' => if fit b' t = true then (if fit b t' = true then prF fit (T.erase t') ((B.erase b).erase b') else 0) else 0) (B.erase b)) T := by
      refine sl_congr _ (fun t' ht' => ?_)
      have hne : t ≠ t' := fun e => hT2.1 (by rw [e]; exact ht')
      cases hf : fit b t' with
      | false =>
        simp only [Bool.false_eq_true, if_false]
        exact (sl_z _ (fun b' _ => by split <;> rfl)).symm
      | true =>
        simp only [if_true]
        rw [List.erase_cons_tail (by simpa using hne), prF]
    simp only [slF]
    rw [List.erase_cons_head, e1, e2, sl_swap]
theorem pr_max (bf : Nat → Nat → Bool) (htot : ∀ a b, a ≠ b → bf a b = true ∨ bf b a = true) (htr : ∀ a b c, bf a b = true → bf b c = true → bf a c = true) : ∀ B : List Nat, B ≠ [] → ∃ b, b ∈ B ∧ ∀ x, x ∈ B → x ≠ b → bf b x = true := by
  intro B
  induction B with
  | nil => intro h; exact absurd rfl h
  | cons a B ih =>
    intro _
    by_cases hB : B = []
    · subst hB
      exact ⟨a, List.mem_cons_self .., fun x hx hne => by simp at hx; exact absurd hx hne⟩
    · obtain ⟨b, hb, hm⟩ := ih hB
      by_cases hab : bf a b = true
      · refine ⟨a, List.mem_cons_self .., fun x hx hne => ?_⟩
        rcases List.mem_cons.mp hx with h | h
        · exact absurd h hne
        · by_cases hxb : x = b
          · subst hxb; exact hab
          · exact htr _ _ _ hab (hm x h hxb)
      · refine ⟨b, List.mem_cons_of_mem _ hb, fun x hx hne => ?_⟩
        rcases List.mem_cons.mp hx with h | h
        · subst h
          rcases htot x b hne with h1 | h1
          · exact absurd h1 hab
          · exact h1
        · exact hm x h hne
def ob1 (b : Bool) : Nat := if b = true then 1 else 0
/-- the product: the heaviest first -/
theorem pr_prod (fit bf : Nat → Nat → Bool) (m : Nat) (hirr : ∀ a, bf a a = false) (htot : ∀ a b, a ≠ b → bf a b = true ∨ bf b a = true) (htr : ∀ a b c, bf a b = true → bf b c = true → bf a c = true) (hfit : ∀ a b t, a < m → b < m → bf a b = true → fit a t = true → fit b t = true) : ∀ (n : Nat) (T B : List Nat), T.length = n → B.length = n → T.Nodup → B.Nodup → (∀ b, b ∈ B → b < m) → prF fit T B = plF (fun b => slF (fun t => ob1 (fit b t)) T - slF (fun x => ob1 (bf x b)) B) B := by
  intro n
  induction n with
  | zero =>
    intro T B hT hB _ _ _
    have e1 := List.length_eq_zero_iff.mp hT
    have e2 := List.length_eq_zero_iff.mp hB
    subst e1 e2
    rfl
  | succ n ih =>
    intro T B hT hB nT nB hm
    obtain ⟨b0, hb0, hmax⟩ := pr_max bf htot htr B (fun e => by rw [e] at hB; simp at hB)
    have h0 : slF (fun x => ob1 (bf x b0)) B = 0 := by
      refine sl_z _ (fun x hx => ?_)
      by_cases e : x = b0
      · rw [e, hirr]; rfl
      · have h1 := hmax x hx e
        cases h2 : bf x b0 with
        | false => rfl
        | true => have := htr _ _ _ h2 h1; rw [hirr] at this; cases this
    rw [pr_col fit T B b0 nT nB (by omega) hb0, pl_erase _ B hb0, h0, Nat.sub_zero, ← sl_mul]
    refine sl_congr _ (fun t ht => ?_)
    cases hf : fit b0 t with
    | false => simp [ob1]
    | true =>
      simp only [if_true, ob1, Nat.one_mul]
      rw [ih (T.erase t) (B.erase b0) (by rw [List.length_erase_of_mem ht]; omega) (by rw [List.length_erase_of_mem hb0]; omega) (List.Nodup.erase _ nT) (List.Nodup.erase _ nB) (fun b hb => hm b (List.mem_of_mem_erase hb))]
      refine pl_congr _ (fun b hb => ?_)
      have hbm := (List.Nodup.mem_erase_iff nB).mp hb
      have hbf := hmax b hbm.2 hbm.1
      have hfb := hfit b0 b t (hm b0 hb0) (hm b hbm.2) hbf hf
      have s1 := sl_erase (fun t => ob1 (fit b t)) T ht
      have s2 := sl_erase (fun x => ob1 (bf x b)) B hb0
      simp only [hfb, hbf, ob1, if_true] at s1 s2
      simp only [ob1]
      rw [s1, s2]
      omega
def dn : Nat → List Nat
  | 0 => []
  | n + 1 => n :: dn n
theorem dn_mem {a : Nat} : ∀ n, a ∈ dn n ↔ a < n := by
  intro n
  induction n with
  | zero => simp [dn]
  | succ n ih => simp only [dn, List.mem_cons, ih]; omega
theorem dn_nd : ∀ n, (dn n).Nodup := by
  intro n
  induction n with
  | zero => exact List.nodup_nil
  | succ n ih => exact List.nodup_cons.mpr ⟨fun h => by have := (dn_mem n).mp h; omega, ih⟩
theorem dn_len : ∀ n, (dn n).length = n := by
  intro n
  induction n with
  | zero => rfl
  | succ n ih => simp [dn, ih]
theorem cw_add (P : Nat → Bool) (k : Nat) : ∀ n, whC P (k + n) = whC P k + slF (fun c => ob1 (P (k + c))) (dn n) := by
  intro n
  induction n with
  | zero => rfl
  | succ n ih =>
    rw [show k + (n + 1) = (k + n) + 1 by omega]
    simp only [whC, dn, slF]
    rw [ih]
    simp only [ob1]
    omega
theorem cw_mul (P : Nat → Bool) (m : Nat) : ∀ k, whC P (m * k) = slF (fun c => whC (fun y => P (c + m * y)) k) (dn m) := by
  intro k
  induction k with
  | zero => simp only [Nat.mul_zero, whC]; exact (sl_0 _).symm
  | succ k ih =>
    rw [Nat.mul_succ, cw_add, ih, ← sl_add]
    refine sl_congr _ (fun c _ => ?_)
    simp only [whC, ob1, Nat.add_comm c (m * k)]
theorem cw_f {P : Nat → Bool} (h : ∀ y, P y = false) : ∀ n, whC P n = 0 := by
  intro n
  induction n with
  | zero => rfl
  | succ n ih => simp only [whC, ih, h n]; rfl
theorem cw_pos {P : Nat → Bool} {x : Nat} (h : P x = true) : ∀ n, x < n → 0 < whC P n := by
  intro n
  induction n with
  | zero => intro h; omega
  | succ n ih =>
    intro hn
    simp only [whC]
    by_cases e : x = n
    · subst e; rw [if_pos h]; omega
    · have := ih (by omega); omega
def gdF (fit : Nat → Nat → Bool) (m : Nat) : Nat → List Nat → Nat → Bool
  | 0, _, _ => true
  | n + 1, B, y => decide (y % m ∈ B) && fit (y % m) n && gdF fit m n (B.erase (y % m)) (y / m)
theorem sl_mem (f : Nat → Nat) (m : Nat) : ∀ B : List Nat, B.Nodup → (∀ b, b ∈ B → b < m) → slF (fun c => if c ∈ B then f c else 0) (dn m) = slF f B := by
  intro B
  induction B with
  | nil => intro _ _; simp only [slF]; exact sl_z _ (fun c _ => by simp)
  | cons b B ih =>
    intro hB hm
    have hB2 := List.nodup_cons.mp hB
    have hbm := hm b (List.mem_cons_self ..)
    have e : slF (fun c => if c ∈ b :: B then f c else 0) (dn m) = slF (fun c => (if c = b then f b else 0) + (if c ∈ B then f c else 0)) (dn m) := by
      refine sl_congr _ (fun c _ => ?_)
      by_cases hcb : c = b
      · subst hcb
        rw [if_pos (List.mem_cons_self ..), if_pos rfl, if_neg hB2.1]; rfl
      · rw [if_neg hcb, Nat.zero_add]
        by_cases hcB : c ∈ B
        · rw [if_pos (List.mem_cons_of_mem _ hcB), if_pos hcB]
        · rw [if_neg hcB, if_neg (fun h => by rcases List.mem_cons.mp h with h | h; exact hcb h; exact hcB h)]
    rw [e, sl_add, ih hB2.2 (fun c hc => hm c (List.mem_cons_of_mem _ hc)), sl_erase _ (dn m) ((dn_mem m).mpr hbm), if_pos rfl]
    have z : slF (fun c => if c = b then f b else 0) ((dn m).erase b) = 0 := by
      exact sl_z _ (fun c hc => by rw [if_neg ((List.Nodup.mem_erase_iff (dn_nd m)).mp hc).1])
    rw [z]
    rfl
theorem cw_gd (fit : Nat → Nat → Bool) (m : Nat) : ∀ (n : Nat) (B : List Nat), B.Nodup → (∀ b, b ∈ B → b < m) → whC (gdF fit m n B) (m ^ n) = prF fit (dn n) B := by
  intro n
  induction n with
  | zero => intro B _ _; rfl
  | succ n ih =>
    intro B hB hm
    rw [Nat.pow_succ, Nat.mul_comm (m ^ n) m, cw_mul, dn, prF, ← sl_mem _ m B hB hm]
    refine sl_congr _ (fun c hc => ?_)
    have hcm := (dn_mem m).mp hc
    have e1 : ∀ y, (c + m * y) % m = c := fun y => by rw [Nat.add_mul_mod_self_left, Nat.mod_eq_of_lt hcm]
    have e2 : ∀ y, (c + m * y) / m = y := fun y => by rw [Nat.add_mul_div_left _ _ (by omega), Nat.div_eq_of_lt hcm, Nat.zero_add]
    simp only [gdF, e1, e2]
    by_cases hcB : c ∈ B
    · rw [if_pos hcB]
      cases hf : fit c n with
      | true =>
        simp only [hcB, decide_true, Bool.true_and, if_true]
        exact ih (B.erase c) (List.Nodup.erase _ hB) (fun b hb => hm b (List.mem_of_mem_erase hb))
      | false =>
        simp only [Bool.and_false, Bool.false_and, Bool.false_eq_true, if_false]
        exact cw_f (fun _ => rfl) _
    · rw [if_neg hcB]
      simp only [hcB, decide_false, Bool.false_and]
      exact cw_f (fun _ => rfl) _
theorem eD_s {m y j : Nat} : eD m y (j + 1) = eD m (y / m) j := by
  simp only [eD]
  rw [Nat.pow_succ, Nat.mul_comm (m ^ j) m, ← Nat.div_div_eq_div_mul]
theorem eD_0 {m y : Nat} : eD m y 0 = y % m := by simp [eD]
theorem gd_iff (fit : Nat → Nat → Bool) (m : Nat) : ∀ (n : Nat) (B : List Nat) (y : Nat), B.Nodup → (gdF fit m n B y = true ↔ (∀ j, j < n → eD m y j ∈ B ∧ fit (eD m y j) (n - 1 - j) = true) ∧ ∀ a b, a < b → b < n → eD m y a ≠ eD m y b) := by
  intro n
  induction n with
  | zero => intro B y _; exact ⟨fun _ => ⟨fun j h => absurd h (by omega), fun a b _ h => absurd h (by omega)⟩, fun _ => rfl⟩
  | succ n ih =>
    intro B y hB
    simp only [gdF, Bool.and_eq_true, decide_eq_true_eq]
    rw [ih (B.erase (y % m)) (y / m) (List.Nodup.erase _ hB)]
    constructor
    · rintro ⟨⟨h1, h2⟩, h3, h4⟩
      refine ⟨fun j hj => ?_, fun a b hab hb => ?_⟩
      · cases j with
        | zero => rw [eD_0]; exact ⟨h1, by rw [show n + 1 - 1 - 0 = n by omega]; exact h2⟩
        | succ j =>
          have q := h3 j (by omega)
          rw [eD_s, show n + 1 - 1 - (j + 1) = n - 1 - j by omega]
          exact ⟨((List.Nodup.mem_erase_iff hB).mp q.1).2, q.2⟩
      · cases b with
        | zero => omega
        | succ b =>
          rw [eD_s]
          cases a with
          | zero =>
            rw [eD_0]
            exact fun e => ((List.Nodup.mem_erase_iff hB).mp (h3 b (by omega)).1).1 e.symm
          | succ a => rw [eD_s]; exact h4 a b (by omega) (by omega)
    · rintro ⟨h1, h2⟩
      have q0 := h1 0 (by omega)
      rw [eD_0, show n + 1 - 1 - 0 = n by omega] at q0
      refine ⟨q0, fun j hj => ?_, fun a b hab hb => ?_⟩
      · have q := h1 (j + 1) (by omega)
        have q2 := h2 0 (j + 1) (by omega) (by omega)
        rw [eD_s, show n + 1 - 1 - (j + 1) = n - 1 - j by omega] at q
        rw [eD_0, eD_s] at q2
        exact ⟨(List.Nodup.mem_erase_iff hB).mpr ⟨Ne.symm q2, q.1⟩, q.2⟩
      · have q := h2 (a + 1) (b + 1) (by omega) (by omega)
        rw [eD_s, eD_s] at q
        exact q
def faF : Nat → Nat
  | 0 => 1
  | n + 1 => (n + 1) * faF n
theorem pr_all : ∀ T B : List Nat, T.length = B.length → prF (fun _ _ => true) T B = faF B.length := by
  intro T
  induction T with
  | nil => intro B h; rw [← h]; rfl
  | cons t T ih =>
    intro B h
    rw [prF]
    have hB : B.length = T.length + 1 := by rw [← h]; rfl
    have e : slF (fun b => if true = true then prF (fun _ _ => true) T (B.erase b) else 0) B = slF (fun _ => faF T.length) B := by
      refine sl_congr _ (fun b hb => ?_)
      rw [if_pos rfl, ih (B.erase b) (by rw [List.length_erase_of_mem hb]; omega), List.length_erase_of_mem hb, hB]
      rfl
    rw [e, sl_const, hB]
    rfl
theorem brF_iff {A : Nat → Nat → Int32} {e : Nat → Nat} : ∀ n, brF A e n = true ↔ ∀ t, t < n → fitB A (e t) t = true := by
  intro n
  induction n with
  | zero => exact ⟨fun _ t h => absurd h (by omega), fun _ => rfl⟩
  | succ n ih =>
    have hh : (!decide (A 114 (8 + n) < A 107 (e n))) = fitB A (e n) n := by
      rw [fitB]
      by_cases h : A 107 (e n) ≤ A 114 (8 + n)
      · rw [decide_eq_true h, decide_eq_false (Int32.not_lt.mpr h)]; rfl
      · rw [decide_eq_false h, decide_eq_true (Int32.not_le.mp h)]; rfl
    simp only [brF, Bool.and_eq_true, ih, hh]
    constructor
    · rintro ⟨h1, h2⟩ t ht
      by_cases e : t = n
      · subst e; exact h2
      · exact h1 t (by omega)
    · intro h; exact ⟨fun t ht => h t (by omega), h n (by omega)⟩
theorem gd_all {m x : Nat} (hm : m ≤ 6) : okE (eD m x) m = gdF (fun _ _ => true) m m (dn m) x := by
  by_cases hm0 : 0 < m
  · rw [Bool.eq_iff_iff, okE_iff hm (fun j => eD_lt hm0), gd_iff _ m m (dn m) x (dn_nd m)]
    exact ⟨fun h => ⟨fun j _ => ⟨(dn_mem m).mpr (eD_lt hm0), rfl⟩, h⟩, fun h => h.2⟩
  · have : m = 0 := by omega
    subst this
    rfl
theorem gd_fit {A : Nat → Nat → Int32} {m x : Nat} (hm : m ≤ 6) : (okE (eD m x) m && brF A (dg m x) m) = gdF (fitB A) m m (dn m) x := by
  by_cases hm0 : 0 < m
  · rw [Bool.eq_iff_iff, Bool.and_eq_true, okE_iff hm (fun j => eD_lt hm0), gd_iff _ m m (dn m) x (dn_nd m), brF_iff]
    constructor
    · rintro ⟨h1, h2⟩
      refine ⟨fun j hj => ⟨(dn_mem m).mpr (eD_lt hm0), ?_⟩, h1⟩
      have := h2 (m - 1 - j) (by omega)
      rw [dg, show m - 1 - (m - 1 - j) = j by omega] at this
      exact this
    · rintro ⟨h1, h2⟩
      refine ⟨h2, fun t ht => ?_⟩
      have := (h1 (m - 1 - t) (by omega)).2
      rw [show m - 1 - (m - 1 - t) = t by omega] at this
      exact this
  · have : m = 0 := by omega
    subst this
    rfl
def wN (A : Nat → Nat → Int32) (b : Nat) : Nat := (A 107 b).toNatClampNeg
def bfA (A : Nat → Nat → Int32) (a b : Nat) : Bool := decide (wN A b < wN A a ∨ wN A a = wN A b ∧ a < b)
def hmG (A : Nat → Nat → Int32) (m b : Nat) : Nat := slF (fun t => ob1 (fitB A b t)) (dn m) - slF (fun x => ob1 (bfA A x b)) (dn m)
theorem wN_ok {A : Nat → Nat → Int32} {m no b : Nat} (hO : OkA A m no) (hb : b < m) : A 107 b = nI (wN A b) ∧ wN A b ≤ 99 := by
  obtain ⟨x, x1, x2, x3⟩ := hO.1.2.2.2.2.1 b hb
  have e : wN A b = x := by rw [wN, x3, nI_clamp (by omega)]
  rw [e]; exact ⟨x3, x2⟩
/-- the product is the count -/
theorem hm_count {A : Nat → Nat → Int32} {m no : Nat} (hO : OkA A m no) : whC (fun x => okE (eD m x) m && brF A (dg m x) m) (m ^ m) = plF (hmG A m) (dn m) := by
  have hm6 := hO.1.2.2.1
  have e : (fun x => okE (eD m x) m && brF A (dg m x) m) = gdF (fitB A) m m (dn m) := funext (fun x => gd_fit hm6)
  rw [e, cw_gd (fitB A) m m (dn m) (dn_nd m) (fun b hb => (dn_mem m).mp hb)]
  exact pr_prod (fitB A) (bfA A) m (fun a => by simp [bfA]) (fun a b hab => by simp only [bfA, decide_eq_true_eq]; omega) (fun a b c h1 h2 => by simp only [bfA, decide_eq_true_eq] at *; omega) (fun a b t ha hb h1 h2 => by
    simp only [bfA, decide_eq_true_eq] at h1
    simp only [fitB, decide_eq_true_eq] at *
    refine Int32.le_trans ?_ h2
    have w1 := wN_ok hO ha
    have w2 := wN_ok hO hb
    rw [w1.1, w2.1, Int32.le_iff_toInt_le, nI_toInt (by omega), nI_toInt (by omega)]
    omega) m (dn m) (dn m) (dn_len m) (dn_len m) (dn_nd m) (dn_nd m) (fun b hb => (dn_mem m).mp hb)
theorem al_count {m : Nat} (hm : m ≤ 6) : whC (fun x => okE (eD m x) m) (m ^ m) = faF m := by
  have e : (fun x => okE (eD m x) m) = gdF (fun _ _ => true) m m (dn m) := funext (fun x => gd_all hm)
  rw [e, cw_gd _ m m (dn m) (dn_nd m) (fun b hb => (dn_mem m).mp hb), pr_all _ _ rfl, dn_len]
theorem pl_pos {f : Nat → Nat} : ∀ l : List Nat, 0 < plF f l → ∀ b, b ∈ l → 0 < f b := by
  intro l
  induction l with
  | nil => intro _ b hb; cases hb
  | cons a l ih =>
    intro h b hb
    simp only [plF] at h
    have h1 := Nat.pos_of_mul_pos_left h
    have h2 := Nat.pos_of_mul_pos_right h
    rcases List.mem_cons.mp hb with e | e
    · subst e; first | exact h2 | exact h1
    · first | exact ih h1 b e | exact ih h2 b e
theorem hm_pos {A : Nat → Nat → Int32} {m no : Nat} (hO : OkA A m no) : 0 < plF (hmG A m) (dn m) := by
  obtain ⟨x, h1, h2⟩ := dg_all hO
  rw [← hm_count hO]
  exact cw_pos (x := x) (by rw [okE_b hO h2, brF_b hO m (Nat.le_refl _) h2]; rfl) _ h1
theorem gcF_ok : ∀ (k f a b : Nat), b < 2 ^ k → 2 * k + 1 ≤ f → gcF f a b = Nat.gcd a b := by
  intro k
  induction k with
  | zero =>
    intro f a b hb hf
    have : b = 0 := by simpa using hb
    subst this
    obtain ⟨f, rfl⟩ : ∃ g, f = g + 1 := ⟨f - 1, by omega⟩
    simp [gcF]
  | succ k ih =>
    intro f a b hb hf
    obtain ⟨f, rfl⟩ : ∃ g, f = g + 2 := ⟨f - 2, by omega⟩
    have hg : ∀ x y, Nat.gcd x y = Nat.gcd y (x % y) := fun x y => by rw [Nat.gcd_comm x y, Nat.gcd_rec y x, Nat.gcd_comm]
    simp only [gcF]
    by_cases h0 : b = 0
    · rw [if_pos h0, h0]; simp
    · rw [if_neg h0]
      by_cases h1 : a % b = 0
      · rw [if_pos h1, hg a b, h1]; simp
      · rw [if_neg h1, ih f (a % b) (b % (a % b)) ?_ (by omega), hg a b, hg b (a % b)]
        have hr : a % b < b := Nat.mod_lt _ (by omega)
        have hr2 : b % (a % b) < a % b := Nat.mod_lt _ (by omega)
        have hd := Nat.div_add_mod b (a % b)
        have hq : 1 ≤ b / (a % b) := Nat.div_pos (by omega) (by omega)
        have hmul := Nat.mul_le_mul_left (a % b) hq
        have hpow : 2 ^ (k + 1) = 2 ^ k * 2 := Nat.pow_succ ..
        omega
theorem pop_b (f : Nat → Bool) {m : Nat} : ∀ n, n ≤ m → popM (bitsOf f m) n = slF (fun t => ob1 (f t)) (dn n) := by
  intro n
  induction n with
  | zero => intro _; rfl
  | succ n ih =>
    intro h
    have hb : bt2 (bitsOf f m) n = ob1 (f n) := bo_bit m (by omega)
    simp only [popM, dn, slF]
    rw [ih (by omega), hb]
    omega
theorem pop_6 (f : Nat → Bool) {m : Nat} (hm : m ≤ 6) : popM (bitsOf f m) 6 = slF (fun t => ob1 (f t)) (dn m) := by
  rw [← pop_b f m (Nat.le_refl _)]
  have hx := bitsOf_lt f m
  have key : ∀ r, popM (bitsOf f m) (m + r) = popM (bitsOf f m) m := by
    intro r
    induction r with
    | zero => rfl
    | succ r ih =>
      rw [show m + (r + 1) = (m + r) + 1 by omega]
      simp only [popM, ih, bt2]
      have : 2 ^ m ≤ 2 ^ (m + r) := Nat.pow_le_pow_right (by decide) (by omega)
      rw [Nat.div_eq_of_lt (by omega)]
      simp
  rw [← key (6 - m), show m + (6 - m) = 6 by omega]
