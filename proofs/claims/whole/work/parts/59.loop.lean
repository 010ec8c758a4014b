/-! ===== the law's loop, its start ===== -/
theorem sub4 : ∀ L, L < 257 → (nI L - nI 4).toInt = (L : Int) - 4 := by decide +kernel
abbrev lK : Option Value → vS → Prop := Ki (fun x _ => x = nI 1)
set_option maxHeartbeats 4000000 in
set_option maxRecDepth 100000 in
theorem l_loop {L : Nat} (hL : L ≤ 256) : ∀ (r i ρ : Nat) (I : Nat → Nat → Int32) (J : Nat → Nat → Int64), L < i + r → i ≤ L → LI I J ρ → vLen (I, J, vRR ρ) = L → V 8 123 123 mL_law 18 [vX, .ref 0, .ref 103, .int (nI i)] [] (I, J, vRR ρ) lK := by
  intro r
  induction r with
  | zero => intro i ρ I J h1 h2; omega
  | succ r ih =>
    intro i ρ I J h1 h2 hI hlen
    have hsub := sub4 L (by omega)
    have hii : (nI i).toInt = (i : Int) := nI_toInt (by omega)
    refine st_iload rL_law_18 rfl ?_
    first | refine st_aload rL_law_19 rfl ?_ | refine st_xload rL_law_19 rfl ?_
    refine st_slen rL_law_20 ?_
    rw [hlen]
    refine st_c rL_law_21 ?_
    skip
    first | with_reducible refine st_isubN rL_law_22 (by omega) ?_ | refine st_isub rL_law_22 ?_
    skip
    by_cases hc : i + 3 < L
    · have hlt : ¬ (nI L - nI 4 : Int32) < nI i := by rw [Int32.lt_iff_toInt_lt, hsub, hii]; omega
      have hv : nI L - nI 4 = nI (L - 4) := pk_sub (by omega)
      first | refine st_icmp_gt rL_law_23 (fun h => absurd h hlt) (fun _ => ?_) | (rw [← hv]; refine st_icmp_gt rL_law_23 (fun h => absurd h hlt) (fun _ => ?_))
      obtain ⟨A, T, m, no, hC, hM, hO⟩ := hI
      have hG : GG (lG i lK) I := by
        intro I' J' ρ' hI' hf
        show V 8 123 123 mL_law 882 _ [] _ _
        first | with_reducible refine st_iincN3 rL_law_882 rfl ?_ | refine st_iinc3 rL_law_882 rfl ?_
        refine st_goto rL_law_885 ?_
        refine ih (i + 4) ρ' I' J' (by omega) (by omega) hI' ?_
        show (I' 1001 0).toNatClampNeg = L
        rw [hf 1001 (by decide)]; exact hlen
      first | refine st_aload rL_law_26 rfl ?_ | refine st_xload rL_law_26 rfl ?_
      refine st_iload rL_law_27 rfl ?_
      refine st_sldN rL_law_28 (by rw [hlen]; omega) (by rw [hlen]; omega) ?_
      refine st_c rL_law_29 ?_
      refine st_iand rL_law_31 ?_
      skip
      obtain ⟨j, hj, hjj⟩ := and31 (I 1000 i)
      have hq : j = 0 ∨ j = 1 ∨ j = 2 ∨ j = 3 ∨ j = 4 ∨ j = 5 ∨ j = 6 ∨ j = 7 ∨ j = 8 ∨ j = 9 ∨ j = 10 ∨ j = 11 ∨ j = 12 ∨ j = 13 ∨ j = 14 ∨ j = 15 ∨ j = 16 ∨ j = 17 ∨ j = 18 ∨ j = 19 ∨ j = 20 ∨ j = 21 ∨ j = 22 ∨ j = 23 ∨ j = 24 ∨ j = 25 ∨ j = 26 ∨ j = 27 ∨ j = 28 ∨ j = 29 ∨ j = 30 ∨ j = 31 := by omega
      rcases hq with rfl | rfl | rfl | rfl | rfl | rfl | rfl | rfl | rfl | rfl | rfl | rfl | rfl | rfl | rfl | rfl | rfl | rfl | rfl | rfl | rfl | rfl | rfl | rfl | rfl | rfl | rfl | rfl | rfl | rfl | rfl | rfl
      · exact st_tabI rL_law_32 0 (by rw [hjj]; rfl) rfl (l_type hlen hL hc hC hM hO hG)
      · exact st_tabI rL_law_32 1 (by rw [hjj]; rfl) rfl (l_clear hlen hL hc hC hM hO hG)
      · exact st_tabI rL_law_32 2 (by rw [hjj]; rfl) rfl (l_plain hlen hL hc hC hM hO hG)
      · exact st_tabI rL_law_32 3 (by rw [hjj]; rfl) rfl (l_town hlen hL hc hC hM hO hG)
      · exact st_tabI rL_law_32 4 (by rw [hjj]; rfl) rfl (l_bell hlen hL hc hC hM hO hG)
      · exact st_tabI rL_law_32 5 (by rw [hjj]; rfl) rfl (l_far hlen hL hc hC hM hO hG)
      · exact st_tabI rL_law_32 6 (by rw [hjj]; rfl) rfl (l_oath hlen hL hc hC hM hO hG)
      · exact st_tabI rL_law_32 7 (by rw [hjj]; rfl) rfl (l_now hlen hL hc hC hM hO hG)
      · exact st_tabI rL_law_32 8 (by rw [hjj]; rfl) rfl (l_lots hlen hL hc hC hM hO hG)
      · exact st_tabI rL_law_32 9 (by rw [hjj]; rfl) rfl (l_trades hlen hL hc hC hM hO hG)
      · exact st_tabI rL_law_32 10 (by rw [hjj]; rfl) rfl (l_widens hlen hL hc hC hM hO hG)
      · exact st_tabI rL_law_32 11 (by rw [hjj]; rfl) rfl (l_undo hlen hL hc hC hM hO hG)
      · exact st_tabI rL_law_32 12 (by rw [hjj]; rfl) rfl (l_inLots hlen hL hc hC hM hO hG)
      · exact st_tabI rL_law_32 13 (by rw [hjj]; rfl) rfl (l_cost hlen hL hc hC hM hO hG)
      · exact st_tabI rL_law_32 14 (by rw [hjj]; rfl) rfl (l_home hlen hL hc hC hM hO hG)
      · exact st_tabI rL_law_32 15 (by rw [hjj]; rfl) rfl (l_hang hlen hL hc hC hM hO hG)
      · exact st_tabI rL_law_32 16 (by rw [hjj]; rfl) rfl (l_round hlen hL hc hC hM hO hG)
      · exact st_tabI rL_law_32 17 (by rw [hjj]; rfl) rfl (l_crossed hlen hL hc hC hM hO hG)
      · exact st_tabI rL_law_32 18 (by rw [hjj]; rfl) rfl (l_oaths hlen hL hc hC hM hO hG)
      · exact st_tabI rL_law_32 19 (by rw [hjj]; rfl) rfl (l_strokes hlen hL hc hC hM hO hG)
      · exact st_tabI rL_law_32 20 (by rw [hjj]; rfl) rfl (l_found hlen hL hc hC hM hO hG)
      · exact st_tabI rL_law_32 21 (by rw [hjj]; rfl) rfl (l_forget hlen hL hc hC hM hO hG)
      · exact st_tabI rL_law_32 22 (by rw [hjj]; rfl) rfl (l_which hlen hL hc hC hM hO hG)
      · exact st_tabI rL_law_32 23 (by rw [hjj]; rfl) rfl (l_odds hlen hL hc hC hM hO hG)
      · exact st_tabI rL_law_32 24 (by rw [hjj]; rfl) rfl (l_rate hlen hL hc hC hM hO hG)
      · exact st_tabI rL_law_32 25 (by rw [hjj]; rfl) rfl (l_keep hlen hL hc hC hM hO hG)
      · exact st_tabI rL_law_32 26 (by rw [hjj]; rfl) rfl (l_back hlen hL hc hC hM hO hG)
      · exact st_tabI rL_law_32 27 (by rw [hjj]; rfl) rfl (l_count hlen hL hc hC hM hO hG)
      · exact st_tabI rL_law_32 28 (by rw [hjj]; rfl) rfl (l_trace hlen hL hc hC hM hO hG)
      · exact st_tabO rL_law_32 (Or.inr (by rw [hjj]; decide)) (hG I J ρ ⟨A, T, m, no, hC, hM, hO⟩ (fun _ _ => rfl))
      · exact st_tabO rL_law_32 (Or.inr (by rw [hjj]; decide)) (hG I J ρ ⟨A, T, m, no, hC, hM, hO⟩ (fun _ _ => rfl))
      · exact st_tabO rL_law_32 (Or.inr (by rw [hjj]; decide)) (hG I J ρ ⟨A, T, m, no, hC, hM, hO⟩ (fun _ _ => rfl))
    · have hlt : (nI L - nI 4 : Int32) < nI i := by rw [Int32.lt_iff_toInt_lt, hsub, hii]; omega
      have hend : V 8 123 123 mL_law 888 [vX, .ref 0, .ref 103, .int (nI i)] [] (I, J, vRR ρ) lK := by
        refine st_c rL_law_888 ?_
        refine st_zret rL_law_889 rfl (by first | rfl | exact vb_nar _) ?_
        exact rfl
      first | refine st_icmp_gt rL_law_23 (fun _ => hend) (fun h => absurd hlt h) | (rw [← (show nI L - nI 4 = nI (L - 4) from pk_sub (by omega))]; refine st_icmp_gt rL_law_23 (fun _ => hend) (fun h => absurd hlt h))
theorem HV_z {I : Nat → Nat → Int32} {h : Nat} (hI : ∀ a k, a < 123 → I a k = 0) (hh : h + 4 < 123) : HV I h 0 (fun _ => 0) :=
  ⟨hI _ _ (by omega), hI _ _ (by omega), fun t _ => hI _ _ (by omega), fun t _ => hI _ _ (by omega), fun t _ => hI _ _ (by omega), fun t _ => hI _ _ (by omega)⟩
def az : Nat → Nat → Int32 := fun _ _ => 0
theorem LI_0 {I : Nat → Nat → Int32} {J : Nat → Nat → Int64} (hI : ∀ a k, a < 123 → I a k = 0) (hJ : ∀ a k, J a k = 0) : LI I J 4 := by
  have z0 : (0 : Int32) = nI 0 := nI_0.symm
  have fz : ∀ a, a < 123 → I a = az a := fun a ha => funext fun k => hI a k ha
  have hN : OkN az 0 0 (az 114) := ⟨⟨fun t => t, fun t => t, fun t ht => absurd ht (by omega)⟩, fun t x ht => absurd ht (by omega), 0, by omega, z0, fun i hi => absurd hi (by omega)⟩
  refine ⟨az, 0, 0, 0, ⟨⟨Or.inl rfl, ?_, ?_, ?_, fun t ht => absurd ht (by omega), fun t ht => absurd ht (by omega), fun t u ht => absurd ht (by omega), fun t u ht => absurd ht (by omega), fun t ht => absurd ht (by omega), fun t ht => absurd ht (by omega), fun t ht => absurd ht (by omega)⟩, ⟨hI _ _ (by omega), fun L _ _ j _ => hI _ _ (by omega)⟩, HV_z hI (by omega), ⟨0, by omega, ?_, hI _ _ (by omega), fun u _ _ j _ => HV_z hI (by omega)⟩, fun i hi => ⟨hI _ _ (by omega), fun _ => HV_z hI (by omega)⟩, ⟨hI _ _ (by omega), fun f _ _ e _ => ⟨hI _ _ (by omega), hI _ _ (by omega)⟩⟩, hJ _ _⟩, ⟨fz 104 (by omega), fz 113 (by omega), fz 114 (by omega), fz 116 (by omega), fz 117 (by omega), fz 118 (by omega), fz 119 (by omega), fz 120 (by omega), fun k _ => ⟨hI _ _ (by omega), hI _ _ (by omega), hI _ _ (by omega), hI _ _ (by omega), hI _ _ (by omega)⟩, fun k _ => hI _ _ (by omega), hI _ _ (by omega), hI _ _ (by omega), hI _ _ (by omega), hI _ _ (by omega), hI _ _ (by omega), hJ _ _⟩, ⟨⟨z0, z0, by omega, by omega, fun t ht => absurd ht (by omega), fun t ht => absurd ht (by omega), fun k _ => ⟨0, by omega, z0⟩, fun a b ha => absurd ha (by omega), fun i hi => absurd hi (by omega)⟩, ⟨0, by omega, z0, fun j hj => absurd hj (by omega)⟩, hN, ⟨0, by omega, z0⟩, ⟨0, by omega, z0, fun j hj => absurd hj (by omega)⟩, fun i _ => ⟨Or.inl z0, fun e => absurd e (by show ¬ (0 : Int32) = nI 1; decide)⟩, ⟨0, by omega, z0, fun e he => absurd he (by omega)⟩⟩⟩
  · rw [hI _ _ (by omega)]; exact z0
  · rw [hI _ _ (by omega)]
    show (0 : Int32) = nI (cntP (fun _ => 0) 36 / 2)
    decide
  · rw [hI _ _ (by omega)]; exact z0
  · rw [hI _ _ (by omega)]; exact z0
set_option maxHeartbeats 4000000 in
set_option maxRecDepth 100000 in
theorem l_all {I : Nat → Nat → Int32} {J : Nat → Nat → Int64} {Z : Nat → Nat → Option Nat} {L : Nat} (hL : L ≤ 256) (hlen : vLen (I, J, vRR 4) = L) (hI : ∀ a k, a < 123 → I a k = 0) (hJ : ∀ a k, J a k = 0) (hZ : ∀ a k, Z a k = none) : V 8 123 0 mL_law 0 [vX, vJ, vJ, vJ] [] (I, J, Z) lK := by
  refine st_new rL_law_0 rfl (by decide) (by omega) (by omega) (fun k => hI _ k (by omega)) (fun k => hJ _ k) (fun k => hZ _ k) ?_
  refine st_dup rL_law_3 rfl ?_
  refine cI0 rL_law_4 (k_bell hI hJ (fun a k _ => hZ a k) (fun Z1 u1 v1 => ?_)) rfl (by decide) (by omega) (by omega)
  refine st_astore1 rL_law_7 rfl ?_
  refine st_new rL_law_8 rfl (by decide) (by omega) (by omega) (fun k => hI _ k (by omega)) (fun k => hJ _ k) (fun k => by rw [u1 103 (by omega)]; exact hZ _ k) ?_
  refine st_dup rL_law_11 rfl ?_
  refine cI0 rL_law_12 (k_model hI (fun Z2 u2 v2 => ?_)) rfl (by decide) (by omega) (by omega)
  refine st_astore2 rL_law_15 rfl ?_
  refine st_c rL_law_16 ?_
  refine st_istore3 rL_law_17 rfl ?_
  refine V_Z (Z' := vRR 4) (fun a k ha hr => ?_) (l_loop hL (L + 1) 0 4 I J (by omega) (by omega) (LI_0 hI hJ) hlen)
  by_cases q : a < 103
  · rw [u2 a (by omega)]; exact v1 a k (by omega) q hr
  · exact v2 a k (by omega) ha hr
