/-! ===== where the references lead; leaves ===== -/
def vRR (ρ a k : Nat) : Option Nat :=
  if a = 0 then ([some 1, some ρ, some (17 - ρ), some 22, some 27, some 32, some 84, some 97, some 100, none] : List (Option Nat)).getD k none
  else if a = 1 then ([some 2, none, some 3] : List (Option Nat)).getD k none
  else if a = 103 then ([none, none, some 104, none, none, none, none, none, none, some 105, some 106, some 107, some 108, some 109, some 110, some 111, some 112, some 113, some 114, some 115, some 116, some 117, some 118, none, some 119, some 120, none, some 121, some 122] : List (Option Nat)).getD k none
  else if a = 32 then ([some 33, none, none] : List (Option Nat)).getD k none
  else if a = 33 then some (34 + 5 * k)
  else if a = 84 then ([some 85, some 86] : List (Option Nat)).getD k none
  else if a = 85 then some (87 + 5 * k)
  else if a = 97 then ([some 98, some 99, none] : List (Option Nat)).getD k none
  else if a = 100 then ([some 101, some 102, none] : List (Option Nat)).getD k none
  else if (vSH a).1 = 6 then some (a + k - 2)
  else if (vSH a).1 = 1 then some (a + k - 1)
  else none
def vTo (a : Nat) : Prop := a = 4 ∨ a = 13
def vHg (h : Nat) : Prop := h < 123 ∧ vSH h = (1, 6)
theorem toldF {a : Nat} (h : vTo a) : vOb 123 a 6 ∧ vAr 123 (a + 1) 100 6 ∧ vAr 123 (a + 2) 100 6 ∧ vAr 123 (a + 3) 100 6 ∧ vAr 123 (a + 4) 100 36 ∧ vAr 123 (a + 5) 100 36 ∧ vAr 123 (a + 6) 100 6 ∧ vAr 123 (a + 7) 100 6 ∧ vAr 123 (a + 8) 100 6 := by
  rcases h with rfl | rfl <;> decide
theorem hangA0 : (List.range 123).all (fun h => !decide (vSH h = (1, 6)) || decide (h + 4 < 123 ∧ vSH (h + 1) = (100, 6) ∧ vSH (h + 2) = (100, 6) ∧ vSH (h + 3) = (100, 6) ∧ vSH (h + 4) = (100, 36))) = true := by decide +kernel
theorem hangA (h : Nat) (hl : h < 123) (hs : vSH h = (1, 6)) : vAr 123 (h + 1) 100 6 ∧ vAr 123 (h + 2) 100 6 ∧ vAr 123 (h + 3) 100 6 ∧ vAr 123 (h + 4) 100 36 := by
  have q := List.all_eq_true.mp hangA0 h (List.mem_range.mpr hl)
  simp only [hs, decide_true, Bool.not_true, Bool.false_or, decide_eq_true_eq] at q
  obtain ⟨q0, q1, q2, q3, q4⟩ := q
  exact ⟨⟨by omega, q1, by decide⟩, ⟨by omega, q2, by decide⟩, ⟨by omega, q3, by decide⟩, ⟨by omega, q4, by decide⟩⟩
theorem hangF {h : Nat} (hh : vHg h) : vOb 123 h 1 ∧ vAr 123 (h + 1) 100 6 ∧ vAr 123 (h + 2) 100 6 ∧ vAr 123 (h + 3) 100 6 ∧ vAr 123 (h + 4) 100 36 := ⟨⟨hh.1, hh.2, by decide⟩, hangA h hh.1 hh.2⟩

theorem tR3 {ρ a : Nat} (h : vTo a) : vRR ρ a 3 = some (a + 1) := by rcases h with rfl | rfl <;> rfl
theorem tR4 {ρ a : Nat} (h : vTo a) : vRR ρ a 4 = some (a + 2) := by rcases h with rfl | rfl <;> rfl
theorem tR5 {ρ a : Nat} (h : vTo a) : vRR ρ a 5 = some (a + 3) := by rcases h with rfl | rfl <;> rfl
theorem tR6 {ρ a : Nat} (h : vTo a) : vRR ρ a 6 = some (a + 4) := by rcases h with rfl | rfl <;> rfl
theorem tR7 {ρ a : Nat} (h : vTo a) : vRR ρ a 7 = some (a + 5) := by rcases h with rfl | rfl <;> rfl
theorem tR8 {ρ a : Nat} (h : vTo a) : vRR ρ a 8 = some (a + 6) := by rcases h with rfl | rfl <;> rfl
theorem tR9 {ρ a : Nat} (h : vTo a) : vRR ρ a 9 = some (a + 7) := by rcases h with rfl | rfl <;> rfl
theorem tR10 {ρ a : Nat} (h : vTo a) : vRR ρ a 10 = some (a + 8) := by rcases h with rfl | rfl <;> rfl
theorem hRR {ρ h k : Nat} (hh : vHg h) : vRR ρ h k = some (h + k - 1) := by
  have q : ∀ c, vSH c ≠ (1, 6) → h ≠ c := fun c hc e => hc (by rw [← e]; exact hh.2)
  simp only [vRR, if_neg (q 0 (by decide)), if_neg (q 1 (by decide)), if_neg (q 103 (by decide)), if_neg (q 32 (by decide)), if_neg (q 33 (by decide)), if_neg (q 84 (by decide)), if_neg (q 85 (by decide)), if_neg (q 97 (by decide)), if_neg (q 100 (by decide)), hh.2]
  simp
theorem hR2 {ρ h : Nat} (hh : vHg h) : vRR ρ h 2 = some (h + 1) := hRR hh
theorem hR3 {ρ h : Nat} (hh : vHg h) : vRR ρ h 3 = some (h + 2) := hRR hh
theorem hR4 {ρ h : Nat} (hh : vHg h) : vRR ρ h 4 = some (h + 3) := hRR hh
theorem hR5 {ρ h : Nat} (hh : vHg h) : vRR ρ h 5 = some (h + 4) := hRR hh
def vb (b : Bool) : Int32 := if b then nI 1 else nI 0
theorem vb_nar (b : Bool) : narrow .boolean (.int (vb b)) = .int (vb b) := by cases b <;> rfl
/-- t names one of m things -/
def isT (m : Nat) (t : Int32) : Bool := decide (0 ≤ t.toInt) && decide (t.toInt < m)
theorem isT_t {m : Nat} {t : Int32} (hm : m < 2147483648) (h : isT m t = true) : ∃ j, j < m ∧ t = nI j := by
  simp only [isT, Bool.and_eq_true, decide_eq_true_eq] at h
  refine ⟨t.toInt.toNat, by omega, ?_⟩
  apply Int32.toInt_inj.mp
  rw [nI_toInt (by omega)]
  omega
theorem isT_n {m j : Nat} (hj : j < m) (hm : m < 2147483648) : isT m (nI j) = true := by
  simp only [isT, Bool.and_eq_true, decide_eq_true_eq]
  rw [nI_toInt (by omega)]
  omega
def inR (x lo hi : Int32) : Bool := decide (lo.toInt ≤ x.toInt) && decide (x.toInt ≤ hi.toInt)
theorem inR_f1 {x lo hi : Int32} (h : x < lo) : inR x lo hi = false := by
  rw [Int32.lt_iff_toInt_lt] at h
  simp only [inR, Bool.and_eq_false_iff, decide_eq_false_iff_not]
  omega
theorem inR_f2 {x lo hi : Int32} (h : hi < x) : inR x lo hi = false := by
  rw [Int32.lt_iff_toInt_lt] at h
  simp only [inR, Bool.and_eq_false_iff, decide_eq_false_iff_not]
  omega
theorem inR_tt {x lo hi : Int32} (h1 : ¬ x < lo) (h2 : ¬ hi < x) : inR x lo hi = true := by
  rw [Int32.lt_iff_toInt_lt] at h1 h2
  simp only [inR, Bool.and_eq_true, decide_eq_true_eq]
  omega
theorem inR_T {m : Nat} (hm : m ≤ 1000) (t : Int32) : inR t (nI 0) (nI m - nI 1) = isT m t := by
  have e1 : (nI m - nI 1).toInt = (m : Int) - 1 := pk_sub_toInt (by omega) (by omega)
  have e0 : (nI 0).toInt = 0 := rfl
  simp only [inR, isT, e1, e0]
  congr 1
  simp only [decide_eq_decide]
  omega
theorem inR_N {m : Nat} (hm : m < 2147483647) (t : Int32) : inR t (nI 0) (nI m) = isT (m + 1) t := by
  have e1 : (nI m).toInt = (m : Int) := nI_toInt (by omega)
  have e0 : (nI 0).toInt = 0 := rfl
  simp only [inR, isT, e1, e0]
  congr 1
  simp only [decide_eq_decide]
  omega
section Leaf
variable {d n : Nat} {I : Nat → Nat → Int32} {J : Nat → Nat → Int64} {Z : Nat → Nat → Option Nat} {k : Int32 → vS → Prop} {kv : vS → Prop}
set_option maxHeartbeats 4000000 in
set_option maxRecDepth 100000 in
theorem s_within {x lo hi : Int32} (h : k (vb (inR x lo hi)) (I, J, Z)) : V d n n mX7_within 0 [.int x, .int lo, .int hi] [] (I, J, Z) (Ki k) := by
  refine st_iload rX7_within_0 rfl ?_
  refine st_iload rX7_within_1 rfl ?_
  first | refine st_icmp_ltN rX7_within_2 (by omega) (by omega) (fun h2 => ?_) (fun h2 => ?_) | refine st_icmp_lt rX7_within_2 (fun h2 => ?_) (fun h2 => ?_)
  · refine st_c rX7_within_14 ?_
    refine st_zret rX7_within_15 rfl (by first | rfl | exact vb_nar _) ?_
    first | (rw [inR_f1 (by assumption)] at h; exact h) | (rw [inR_f2 (by assumption)] at h; exact h) | (rw [inR_tt (by assumption) (by assumption)] at h; exact h)
  · refine st_iload rX7_within_5 rfl ?_
    refine st_iload rX7_within_6 rfl ?_
    first | refine st_icmp_gtN rX7_within_7 (by omega) (by omega) (fun h7 => ?_) (fun h7 => ?_) | refine st_icmp_gt rX7_within_7 (fun h7 => ?_) (fun h7 => ?_)
    · refine st_c rX7_within_14 ?_
      refine st_zret rX7_within_15 rfl (by first | rfl | exact vb_nar _) ?_
      first | (rw [inR_f1 (by assumption)] at h; exact h) | (rw [inR_f2 (by assumption)] at h; exact h) | (rw [inR_tt (by assumption) (by assumption)] at h; exact h)
    · refine st_c rX7_within_10 ?_
      refine st_goto rX7_within_11 ?_
      refine st_zret rX7_within_15 rfl (by first | rfl | exact vb_nar _) ?_
      first | (rw [inR_f1 (by assumption)] at h; exact h) | (rw [inR_f2 (by assumption)] at h; exact h) | (rw [inR_tt (by assumption) (by assumption)] at h; exact h)
set_option maxHeartbeats 4000000 in
set_option maxRecDepth 100000 in
theorem s_in {x lo hi : Int32} (h : k (vb (inR x lo hi)) (I, J, Z)) : V d n n mX8_in 0 [.int x, .int lo, .int hi] [] (I, J, Z) (Ki k) := by
  refine st_iload rX8_in_0 rfl ?_
  refine st_iload rX8_in_1 rfl ?_
  first | refine st_icmp_ltN rX8_in_2 (by omega) (by omega) (fun h2 => ?_) (fun h2 => ?_) | refine st_icmp_lt rX8_in_2 (fun h2 => ?_) (fun h2 => ?_)
  · refine st_c rX8_in_14 ?_
    refine st_zret rX8_in_15 rfl (by first | rfl | exact vb_nar _) ?_
    first | (rw [inR_f1 (by assumption)] at h; exact h) | (rw [inR_f2 (by assumption)] at h; exact h) | (rw [inR_tt (by assumption) (by assumption)] at h; exact h)
  · refine st_iload rX8_in_5 rfl ?_
    refine st_iload rX8_in_6 rfl ?_
    first | refine st_icmp_gtN rX8_in_7 (by omega) (by omega) (fun h7 => ?_) (fun h7 => ?_) | refine st_icmp_gt rX8_in_7 (fun h7 => ?_) (fun h7 => ?_)
    · refine st_c rX8_in_14 ?_
      refine st_zret rX8_in_15 rfl (by first | rfl | exact vb_nar _) ?_
      first | (rw [inR_f1 (by assumption)] at h; exact h) | (rw [inR_f2 (by assumption)] at h; exact h) | (rw [inR_tt (by assumption) (by assumption)] at h; exact h)
    · refine st_c rX8_in_10 ?_
      refine st_goto rX8_in_11 ?_
      refine st_zret rX8_in_15 rfl (by first | rfl | exact vb_nar _) ?_
      first | (rw [inR_f1 (by assumption)] at h; exact h) | (rw [inR_f2 (by assumption)] at h; exact h) | (rw [inR_tt (by assumption) (by assumption)] at h; exact h)
set_option maxHeartbeats 4000000 in
set_option maxRecDepth 100000 in
theorem s_pair {a b : Nat} (h : k (nI (a * 6 + b)) (I, J, Z)) : V d n n mX7_pair 0 [.int (nI a), .int (nI b)] [] (I, J, Z) (Ki k) := by
  refine st_iload rX7_pair_0 rfl ?_
  refine st_c rX7_pair_1 ?_
  first | refine st_imulN rX7_pair_3 ?_ | refine st_imul rX7_pair_3 ?_
  refine st_iload rX7_pair_4 rfl ?_
  first | refine st_iaddN rX7_pair_5 ?_ | refine st_iadd rX7_pair_5 ?_
  refine st_iret rX7_pair_6 rfl ?_
  exact h
set_option maxHeartbeats 4000000 in
set_option maxRecDepth 100000 in
theorem s_at {a len j : Nat} (ha : vAr n a 100 len) (hj : j < len) (h : k (I a j) (I, J, Z)) : V d n n mX7_at 0 [.ref a, .int (nI j)] [] (I, J, Z) (Ki k) := by
  have hl := ha.2.2
  refine st_iload rX7_at_0 rfl ?_
  first | refine st_if_ltN rX7_at_1 (by omega) (fun h => absurd h (by first | decide | omega | (simp; done) | simp_all)) (fun _ => ?_) | refine st_if_lt rX7_at_1 (fun h => absurd h (by first | decide | omega | (simp; done) | simp_all)) (fun _ => ?_)
  refine st_iload rX7_at_4 rfl ?_
  refine st_aload rX7_at_5 rfl ?_
  refine st_alen rX7_at_6 (by first | assumption | decide) ?_
  first | refine st_icmp_geN rX7_at_7 (by omega) (by omega) (fun h => absurd h (by first | decide | omega | (simp; done) | simp_all)) (fun _ => ?_) | refine st_icmp_ge rX7_at_7 (fun h => absurd h (by first | decide | omega | (simp; done) | simp_all)) (fun _ => ?_)
  refine st_aload rX7_at_10 rfl ?_
  refine st_iload rX7_at_11 rfl ?_
  refine st_ialdN rX7_at_12 (by first | assumption | decide) (by omega) ?_
  refine st_goto rX7_at_13 ?_
  refine st_iret rX7_at_17 rfl ?_
  exact h
set_option maxHeartbeats 4000000 in
set_option maxRecDepth 100000 in
theorem s_put {a len j : Nat} {x : Int32} (ha : vAr n a 100 len) (hj : j < len) (h : kv (up I a (va_up (I a) j x), J, Z)) : V d n n mX7_put 0 [.ref a, .int (nI j), .int x] [] (I, J, Z) (Kv kv) := by
  have hl := ha.2.2
  refine st_iload rX7_put_0 rfl ?_
  first | refine st_if_ltN rX7_put_1 (by omega) (fun h => absurd h (by first | decide | omega | (simp; done) | simp_all)) (fun _ => ?_) | refine st_if_lt rX7_put_1 (fun h => absurd h (by first | decide | omega | (simp; done) | simp_all)) (fun _ => ?_)
  refine st_iload rX7_put_4 rfl ?_
  refine st_aload rX7_put_5 rfl ?_
  refine st_alen rX7_put_6 (by first | assumption | decide) ?_
  first | refine st_icmp_geN rX7_put_7 (by omega) (by omega) (fun h => absurd h (by first | decide | omega | (simp; done) | simp_all)) (fun _ => ?_) | refine st_icmp_ge rX7_put_7 (fun h => absurd h (by first | decide | omega | (simp; done) | simp_all)) (fun _ => ?_)
  refine st_aload rX7_put_10 rfl ?_
  refine st_iload rX7_put_11 rfl ?_
  refine st_iload rX7_put_12 rfl ?_
  refine st_iastN rX7_put_13 (by first | assumption | decide) (by omega) ?_
  refine st_vret rX7_put_14 rfl ?_
  exact h
end Leaf
