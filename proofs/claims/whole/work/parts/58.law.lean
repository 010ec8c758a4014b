/-! ===== the law's own rows ===== -/
theorem Ki_mono {k k' : Int32 → vS → Prop} (h : ∀ x τ, k x τ → k' x τ) : ∀ (v : Option Value) (τ : vS), Ki k v τ → Ki k' v τ := by
  intro v τ hv
  match v, hv with
  | some (.int x), hv => exact h x τ hv
theorem Kl_mono {k k' : Int64 → vS → Prop} (h : ∀ x τ, k x τ → k' x τ) : ∀ (v : Option Value) (τ : vS), Kl k v τ → Kl k' v τ := by
  intro v τ hv
  match v, hv with
  | some (.long x), hv => exact h x τ hv
theorem st_lcmp {d nf n : Nat} {M : vM} {pc pc' : Nat} {ls st : List Value} {σ : vS} {K : Option Value → vS → Prop} {x y : Int64} (r : vI M pc .lcmp 1 pc') (h : V d nf n M pc' ls (.int (lg_cmp x y) :: st) σ K) : V d nf n M pc ls (.long y :: .long x :: st) σ K := by
  intro E p l e R s m args below meth c H locs cells slots Q lm C h1 h2 h3 h4 h5 h6 hw hl hr
  obtain ⟨r1, rfl⟩ := r
  exact W.lcmp C.1 C.2.1 r1 (h E p l e R s m args below meth c H locs cells slots Q lm C h1 h2 h3 h4 h5 h6 hw hl hr)
theorem cmp_0 (x : Int64) : lg_cmp x x = 0 := by simp [lg_cmp]
theorem and31 (x : Int32) : ∃ j : Nat, j < 32 ∧ (x &&& nI 31).toInt = (j : Int) := by
  have h : (x &&& nI 31).toBitVec.toNat < 32 := by
    rw [Int32.toBitVec_and, BitVec.toNat_and]
    exact Nat.lt_of_le_of_lt Nat.and_le_right (by decide)
  refine ⟨(x &&& nI 31).toBitVec.toNat, h, ?_⟩
  show (x &&& nI 31).toBitVec.toInt = _
  exact BitVec.toInt_eq_toNat_of_lt (by omega)
section P58
variable {I A : Nat → Nat → Int32} {J : Nat → Nat → Int64} {ρ m no i L : Nat} {T : Int64} {K : Option Value → vS → Prop}
/-- behind a call -/
abbrev lG (i : Nat) (K : Option Value → vS → Prop) : vS → Prop := fun τ => V 8 123 123 mL_law 882 [vX, .ref 0, .ref 103, .int (nI i)] [] τ K
set_option maxHeartbeats 4000000 in
set_option maxRecDepth 100000 in
theorem l_type (hlen : vLen (I, J, vRR ρ) = L) (hL : L ≤ 256) (hi : i + 3 < L) (hC : InvC I J ρ A T m no) (hM : InvM I J A T) (hO : OkA A m no) (hG : GG (lG i K) I) : V 8 123 123 mL_law 164 [vX, .ref 0, .ref 103, .int (nI i)] [] (I, J, vRR ρ) K := by
  first | refine st_aload rL_law_164 rfl ?_ | refine st_xload rL_law_164 rfl ?_
  first | refine st_aload rL_law_165 rfl ?_ | refine st_xload rL_law_165 rfl ?_
  refine st_iload rL_law_166 rfl ?_
  refine st_c rL_law_167 ?_
  first | with_reducible refine st_iaddN rL_law_168 ?_ | refine st_iadd rL_law_168 ?_
  refine st_sldN rL_law_169 (by first | (rw [hlen]; omega) | (rw [hlen1]; omega)) (by first | (rw [hlen]; omega) | (rw [hlen1]; omega)) ?_
  refine cV2i rL_law_170 (by first | assumption | decide | exact ⟨by decide, rfl, by decide⟩) (V_mono (Ki_mono (fun x1 σ1 hx1 => ?_)) (b_type hC hM hO hG)) rfl (by decide)
  obtain ⟨I1, J1, Z1⟩ := σ1
  obtain ⟨e1, hx1⟩ := hx1
  have e1 : ∀ a, 103 ≤ a → I1 a = I a := e1
  have hlen1 : vLen (I1, J1, Z1) = L := by
    show (I1 1001 0).toNatClampNeg = L
    rw [e1 1001 (by decide)]; exact hlen
  first | refine st_aload rL_law_173 rfl ?_ | refine st_xload rL_law_173 rfl ?_
  first | refine st_aload rL_law_174 rfl ?_ | refine st_xload rL_law_174 rfl ?_
  refine st_iload rL_law_175 rfl ?_
  refine st_c rL_law_176 ?_
  first | with_reducible refine st_iaddN rL_law_177 ?_ | refine st_iadd rL_law_177 ?_
  refine st_sldN rL_law_178 (by first | (rw [hlen]; omega) | (rw [hlen1]; omega)) (by first | (rw [hlen]; omega) | (rw [hlen1]; omega)) ?_
  refine st_top (congrFun (e1 1000 (by decide)) _) ?_
  refine cV2i rL_law_179 (by first | assumption | decide | exact ⟨by decide, rfl, by decide⟩) (V_mono (Ki_mono (fun y1 τ1 hy1 => ?_)) hx1) rfl (by decide)
  obtain ⟨e9, hg⟩ := hy1
  subst e9
  exact st_icmp_eq rL_law_182 (fun _ => hg) (fun h => absurd rfl h)
set_option maxHeartbeats 4000000 in
set_option maxRecDepth 100000 in
theorem l_clear (hlen : vLen (I, J, vRR ρ) = L) (hL : L ≤ 256) (hi : i + 3 < L) (hC : InvC I J ρ A T m no) (hM : InvM I J A T) (hO : OkA A m no) (hG : GG (lG i K) I) : V 8 123 123 mL_law 187 [vX, .ref 0, .ref 103, .int (nI i)] [] (I, J, vRR ρ) K := by
  first | refine st_aload rL_law_187 rfl ?_ | refine st_xload rL_law_187 rfl ?_
  refine cV1i rL_law_188 (by first | assumption | decide | exact ⟨by decide, rfl, by decide⟩) (V_mono (Ki_mono (fun x1 σ1 hx1 => ?_)) (b_clear hC hM hO hG)) rfl (by decide)
  obtain ⟨I1, J1, Z1⟩ := σ1
  obtain ⟨e1, hx1⟩ := hx1
  have e1 : ∀ a, 103 ≤ a → I1 a = I a := e1
  have hlen1 : vLen (I1, J1, Z1) = L := by
    show (I1 1001 0).toNatClampNeg = L
    rw [e1 1001 (by decide)]; exact hlen
  first | refine st_aload rL_law_191 rfl ?_ | refine st_xload rL_law_191 rfl ?_
  refine cV1i rL_law_192 (by first | assumption | decide | exact ⟨by decide, rfl, by decide⟩) (V_mono (Ki_mono (fun y1 τ1 hy1 => ?_)) hx1) rfl (by decide)
  obtain ⟨e9, hg⟩ := hy1
  subst e9
  exact st_icmp_eq rL_law_195 (fun _ => hg) (fun h => absurd rfl h)
set_option maxHeartbeats 4000000 in
set_option maxRecDepth 100000 in
theorem l_plain (hlen : vLen (I, J, vRR ρ) = L) (hL : L ≤ 256) (hi : i + 3 < L) (hC : InvC I J ρ A T m no) (hM : InvM I J A T) (hO : OkA A m no) (hG : GG (lG i K) I) : V 8 123 123 mL_law 200 [vX, .ref 0, .ref 103, .int (nI i)] [] (I, J, vRR ρ) K := by
  first | refine st_aload rL_law_200 rfl ?_ | refine st_xload rL_law_200 rfl ?_
  refine cV1i rL_law_201 (by first | assumption | decide | exact ⟨by decide, rfl, by decide⟩) (V_mono (Ki_mono (fun x1 σ1 hx1 => ?_)) (b_plain hC hM hO hG)) rfl (by decide)
  obtain ⟨I1, J1, Z1⟩ := σ1
  obtain ⟨e1, hx1⟩ := hx1
  have e1 : ∀ a, 103 ≤ a → I1 a = I a := e1
  have hlen1 : vLen (I1, J1, Z1) = L := by
    show (I1 1001 0).toNatClampNeg = L
    rw [e1 1001 (by decide)]; exact hlen
  first | refine st_aload rL_law_204 rfl ?_ | refine st_xload rL_law_204 rfl ?_
  refine cV1i rL_law_205 (by first | assumption | decide | exact ⟨by decide, rfl, by decide⟩) (V_mono (Ki_mono (fun y1 τ1 hy1 => ?_)) hx1) rfl (by decide)
  obtain ⟨e9, hg⟩ := hy1
  subst e9
  exact st_icmp_eq rL_law_208 (fun _ => hg) (fun h => absurd rfl h)
set_option maxHeartbeats 4000000 in
set_option maxRecDepth 100000 in
theorem l_town (hlen : vLen (I, J, vRR ρ) = L) (hL : L ≤ 256) (hi : i + 3 < L) (hC : InvC I J ρ A T m no) (hM : InvM I J A T) (hO : OkA A m no) (hG : GG (lG i K) I) : V 8 123 123 mL_law 213 [vX, .ref 0, .ref 103, .int (nI i)] [] (I, J, vRR ρ) K := by
  first | refine st_aload rL_law_213 rfl ?_ | refine st_xload rL_law_213 rfl ?_
  first | refine st_aload rL_law_214 rfl ?_ | refine st_xload rL_law_214 rfl ?_
  refine st_iload rL_law_215 rfl ?_
  refine st_c rL_law_216 ?_
  first | with_reducible refine st_iaddN rL_law_217 ?_ | refine st_iadd rL_law_217 ?_
  refine st_sldN rL_law_218 (by first | (rw [hlen]; omega) | (rw [hlen1]; omega)) (by first | (rw [hlen]; omega) | (rw [hlen1]; omega)) ?_
  first | refine st_aload rL_law_219 rfl ?_ | refine st_xload rL_law_219 rfl ?_
  refine st_iload rL_law_220 rfl ?_
  refine st_c rL_law_221 ?_
  first | with_reducible refine st_iaddN rL_law_222 ?_ | refine st_iadd rL_law_222 ?_
  refine st_sldN rL_law_223 (by first | (rw [hlen]; omega) | (rw [hlen1]; omega)) (by first | (rw [hlen]; omega) | (rw [hlen1]; omega)) ?_
  refine cV3i rL_law_224 (by first | assumption | decide | exact ⟨by decide, rfl, by decide⟩) (V_mono (Ki_mono (fun x1 σ1 hx1 => ?_)) (b_town hC hM hO hG)) rfl (by decide)
  obtain ⟨I1, J1, Z1⟩ := σ1
  obtain ⟨e1, hx1⟩ := hx1
  have e1 : ∀ a, 103 ≤ a → I1 a = I a := e1
  have hlen1 : vLen (I1, J1, Z1) = L := by
    show (I1 1001 0).toNatClampNeg = L
    rw [e1 1001 (by decide)]; exact hlen
  first | refine st_aload rL_law_227 rfl ?_ | refine st_xload rL_law_227 rfl ?_
  first | refine st_aload rL_law_228 rfl ?_ | refine st_xload rL_law_228 rfl ?_
  refine st_iload rL_law_229 rfl ?_
  refine st_c rL_law_230 ?_
  first | with_reducible refine st_iaddN rL_law_231 ?_ | refine st_iadd rL_law_231 ?_
  refine st_sldN rL_law_232 (by first | (rw [hlen]; omega) | (rw [hlen1]; omega)) (by first | (rw [hlen]; omega) | (rw [hlen1]; omega)) ?_
  refine st_top (congrFun (e1 1000 (by decide)) _) ?_
  first | refine st_aload rL_law_233 rfl ?_ | refine st_xload rL_law_233 rfl ?_
  refine st_iload rL_law_234 rfl ?_
  refine st_c rL_law_235 ?_
  first | with_reducible refine st_iaddN rL_law_236 ?_ | refine st_iadd rL_law_236 ?_
  refine st_sldN rL_law_237 (by first | (rw [hlen]; omega) | (rw [hlen1]; omega)) (by first | (rw [hlen]; omega) | (rw [hlen1]; omega)) ?_
  refine st_top (congrFun (e1 1000 (by decide)) _) ?_
  refine cV3i rL_law_238 (by first | assumption | decide | exact ⟨by decide, rfl, by decide⟩) (V_mono (Ki_mono (fun y1 τ1 hy1 => ?_)) hx1) rfl (by decide)
  obtain ⟨e9, hg⟩ := hy1
  subst e9
  exact st_icmp_eq rL_law_241 (fun _ => hg) (fun h => absurd rfl h)
set_option maxHeartbeats 4000000 in
set_option maxRecDepth 100000 in
theorem l_bell (hlen : vLen (I, J, vRR ρ) = L) (hL : L ≤ 256) (hi : i + 3 < L) (hC : InvC I J ρ A T m no) (hM : InvM I J A T) (hO : OkA A m no) (hG : GG (lG i K) I) : V 8 123 123 mL_law 246 [vX, .ref 0, .ref 103, .int (nI i)] [] (I, J, vRR ρ) K := by
  first | refine st_aload rL_law_246 rfl ?_ | refine st_xload rL_law_246 rfl ?_
  first | refine st_aload rL_law_247 rfl ?_ | refine st_xload rL_law_247 rfl ?_
  refine st_iload rL_law_248 rfl ?_
  refine st_c rL_law_249 ?_
  first | with_reducible refine st_iaddN rL_law_250 ?_ | refine st_iadd rL_law_250 ?_
  refine st_sldN rL_law_251 (by first | (rw [hlen]; omega) | (rw [hlen1]; omega)) (by first | (rw [hlen]; omega) | (rw [hlen1]; omega)) ?_
  first | refine st_aload rL_law_252 rfl ?_ | refine st_xload rL_law_252 rfl ?_
  refine st_iload rL_law_253 rfl ?_
  refine st_c rL_law_254 ?_
  first | with_reducible refine st_iaddN rL_law_255 ?_ | refine st_iadd rL_law_255 ?_
  refine st_sldN rL_law_256 (by first | (rw [hlen]; omega) | (rw [hlen1]; omega)) (by first | (rw [hlen]; omega) | (rw [hlen1]; omega)) ?_
  refine cV3i rL_law_257 (by first | assumption | decide | exact ⟨by decide, rfl, by decide⟩) (V_mono (Ki_mono (fun x1 σ1 hx1 => ?_)) (b_bell hC hM hO hG)) rfl (by decide)
  obtain ⟨I1, J1, Z1⟩ := σ1
  obtain ⟨e1, hx1⟩ := hx1
  have e1 : ∀ a, 103 ≤ a → I1 a = I a := e1
  have hlen1 : vLen (I1, J1, Z1) = L := by
    show (I1 1001 0).toNatClampNeg = L
    rw [e1 1001 (by decide)]; exact hlen
  first | refine st_aload rL_law_260 rfl ?_ | refine st_xload rL_law_260 rfl ?_
  first | refine st_aload rL_law_261 rfl ?_ | refine st_xload rL_law_261 rfl ?_
  refine st_iload rL_law_262 rfl ?_
  refine st_c rL_law_263 ?_
  first | with_reducible refine st_iaddN rL_law_264 ?_ | refine st_iadd rL_law_264 ?_
  refine st_sldN rL_law_265 (by first | (rw [hlen]; omega) | (rw [hlen1]; omega)) (by first | (rw [hlen]; omega) | (rw [hlen1]; omega)) ?_
  refine st_top (congrFun (e1 1000 (by decide)) _) ?_
  first | refine st_aload rL_law_266 rfl ?_ | refine st_xload rL_law_266 rfl ?_
  refine st_iload rL_law_267 rfl ?_
  refine st_c rL_law_268 ?_
  first | with_reducible refine st_iaddN rL_law_269 ?_ | refine st_iadd rL_law_269 ?_
  refine st_sldN rL_law_270 (by first | (rw [hlen]; omega) | (rw [hlen1]; omega)) (by first | (rw [hlen]; omega) | (rw [hlen1]; omega)) ?_
  refine st_top (congrFun (e1 1000 (by decide)) _) ?_
  refine cV3i rL_law_271 (by first | assumption | decide | exact ⟨by decide, rfl, by decide⟩) (V_mono (Ki_mono (fun y1 τ1 hy1 => ?_)) hx1) rfl (by decide)
  obtain ⟨e9, hg⟩ := hy1
  subst e9
  exact st_icmp_eq rL_law_274 (fun _ => hg) (fun h => absurd rfl h)
set_option maxHeartbeats 4000000 in
set_option maxRecDepth 100000 in
theorem l_far (hlen : vLen (I, J, vRR ρ) = L) (hL : L ≤ 256) (hi : i + 3 < L) (hC : InvC I J ρ A T m no) (hM : InvM I J A T) (hO : OkA A m no) (hG : GG (lG i K) I) : V 8 123 123 mL_law 279 [vX, .ref 0, .ref 103, .int (nI i)] [] (I, J, vRR ρ) K := by
  first | refine st_aload rL_law_279 rfl ?_ | refine st_xload rL_law_279 rfl ?_
  first | refine st_aload rL_law_280 rfl ?_ | refine st_xload rL_law_280 rfl ?_
  refine st_iload rL_law_281 rfl ?_
  refine st_c rL_law_282 ?_
  first | with_reducible refine st_iaddN rL_law_283 ?_ | refine st_iadd rL_law_283 ?_
  refine st_sldN rL_law_284 (by first | (rw [hlen]; omega) | (rw [hlen1]; omega)) (by first | (rw [hlen]; omega) | (rw [hlen1]; omega)) ?_
  first | refine st_aload rL_law_285 rfl ?_ | refine st_xload rL_law_285 rfl ?_
  refine st_iload rL_law_286 rfl ?_
  refine st_c rL_law_287 ?_
  first | with_reducible refine st_iaddN rL_law_288 ?_ | refine st_iadd rL_law_288 ?_
  refine st_sldN rL_law_289 (by first | (rw [hlen]; omega) | (rw [hlen1]; omega)) (by first | (rw [hlen]; omega) | (rw [hlen1]; omega)) ?_
  refine cV3i rL_law_290 (by first | assumption | decide | exact ⟨by decide, rfl, by decide⟩) (V_mono (Ki_mono (fun x1 σ1 hx1 => ?_)) (b_far hC hM hO hG)) rfl (by decide)
  obtain ⟨I1, J1, Z1⟩ := σ1
  obtain ⟨e1, hx1⟩ := hx1
  have e1 : ∀ a, 103 ≤ a → I1 a = I a := e1
  have hlen1 : vLen (I1, J1, Z1) = L := by
    show (I1 1001 0).toNatClampNeg = L
    rw [e1 1001 (by decide)]; exact hlen
  first | refine st_aload rL_law_293 rfl ?_ | refine st_xload rL_law_293 rfl ?_
  first | refine st_aload rL_law_294 rfl ?_ | refine st_xload rL_law_294 rfl ?_
  refine st_iload rL_law_295 rfl ?_
  refine st_c rL_law_296 ?_
  first | with_reducible refine st_iaddN rL_law_297 ?_ | refine st_iadd rL_law_297 ?_
  refine st_sldN rL_law_298 (by first | (rw [hlen]; omega) | (rw [hlen1]; omega)) (by first | (rw [hlen]; omega) | (rw [hlen1]; omega)) ?_
  refine st_top (congrFun (e1 1000 (by decide)) _) ?_
  first | refine st_aload rL_law_299 rfl ?_ | refine st_xload rL_law_299 rfl ?_
  refine st_iload rL_law_300 rfl ?_
  refine st_c rL_law_301 ?_
  first | with_reducible refine st_iaddN rL_law_302 ?_ | refine st_iadd rL_law_302 ?_
  refine st_sldN rL_law_303 (by first | (rw [hlen]; omega) | (rw [hlen1]; omega)) (by first | (rw [hlen]; omega) | (rw [hlen1]; omega)) ?_
  refine st_top (congrFun (e1 1000 (by decide)) _) ?_
  refine cV3i rL_law_304 (by first | assumption | decide | exact ⟨by decide, rfl, by decide⟩) (V_mono (Ki_mono (fun y1 τ1 hy1 => ?_)) hx1) rfl (by decide)
  obtain ⟨e9, hg⟩ := hy1
  subst e9
  exact st_icmp_eq rL_law_307 (fun _ => hg) (fun h => absurd rfl h)
set_option maxHeartbeats 4000000 in
set_option maxRecDepth 100000 in
theorem l_oath (hlen : vLen (I, J, vRR ρ) = L) (hL : L ≤ 256) (hi : i + 3 < L) (hC : InvC I J ρ A T m no) (hM : InvM I J A T) (hO : OkA A m no) (hG : GG (lG i K) I) : V 8 123 123 mL_law 312 [vX, .ref 0, .ref 103, .int (nI i)] [] (I, J, vRR ρ) K := by
  first | refine st_aload rL_law_312 rfl ?_ | refine st_xload rL_law_312 rfl ?_
  first | refine st_aload rL_law_313 rfl ?_ | refine st_xload rL_law_313 rfl ?_
  refine st_iload rL_law_314 rfl ?_
  refine st_c rL_law_315 ?_
  first | with_reducible refine st_iaddN rL_law_316 ?_ | refine st_iadd rL_law_316 ?_
  refine st_sldN rL_law_317 (by first | (rw [hlen]; omega) | (rw [hlen1]; omega)) (by first | (rw [hlen]; omega) | (rw [hlen1]; omega)) ?_
  first | refine st_aload rL_law_318 rfl ?_ | refine st_xload rL_law_318 rfl ?_
  refine st_iload rL_law_319 rfl ?_
  refine st_c rL_law_320 ?_
  first | with_reducible refine st_iaddN rL_law_321 ?_ | refine st_iadd rL_law_321 ?_
  refine st_sldN rL_law_322 (by first | (rw [hlen]; omega) | (rw [hlen1]; omega)) (by first | (rw [hlen]; omega) | (rw [hlen1]; omega)) ?_
  refine cV3i rL_law_323 (by first | assumption | decide | exact ⟨by decide, rfl, by decide⟩) (V_mono (Ki_mono (fun x1 σ1 hx1 => ?_)) (b_oath hC hM hO hG)) rfl (by decide)
  obtain ⟨I1, J1, Z1⟩ := σ1
  obtain ⟨e1, hx1⟩ := hx1
  have e1 : ∀ a, 103 ≤ a → I1 a = I a := e1
  have hlen1 : vLen (I1, J1, Z1) = L := by
    show (I1 1001 0).toNatClampNeg = L
    rw [e1 1001 (by decide)]; exact hlen
  first | refine st_aload rL_law_326 rfl ?_ | refine st_xload rL_law_326 rfl ?_
  first | refine st_aload rL_law_327 rfl ?_ | refine st_xload rL_law_327 rfl ?_
  refine st_iload rL_law_328 rfl ?_
  refine st_c rL_law_329 ?_
  first | with_reducible refine st_iaddN rL_law_330 ?_ | refine st_iadd rL_law_330 ?_
  refine st_sldN rL_law_331 (by first | (rw [hlen]; omega) | (rw [hlen1]; omega)) (by first | (rw [hlen]; omega) | (rw [hlen1]; omega)) ?_
  refine st_top (congrFun (e1 1000 (by decide)) _) ?_
  first | refine st_aload rL_law_332 rfl ?_ | refine st_xload rL_law_332 rfl ?_
  refine st_iload rL_law_333 rfl ?_
  refine st_c rL_law_334 ?_
  first | with_reducible refine st_iaddN rL_law_335 ?_ | refine st_iadd rL_law_335 ?_
  refine st_sldN rL_law_336 (by first | (rw [hlen]; omega) | (rw [hlen1]; omega)) (by first | (rw [hlen]; omega) | (rw [hlen1]; omega)) ?_
  refine st_top (congrFun (e1 1000 (by decide)) _) ?_
  refine cV3i rL_law_337 (by first | assumption | decide | exact ⟨by decide, rfl, by decide⟩) (V_mono (Ki_mono (fun y1 τ1 hy1 => ?_)) hx1) rfl (by decide)
  obtain ⟨e9, hg⟩ := hy1
  subst e9
  exact st_icmp_eq rL_law_340 (fun _ => hg) (fun h => absurd rfl h)
set_option maxHeartbeats 4000000 in
set_option maxRecDepth 100000 in
theorem l_now (hlen : vLen (I, J, vRR ρ) = L) (hL : L ≤ 256) (hi : i + 3 < L) (hC : InvC I J ρ A T m no) (hM : InvM I J A T) (hO : OkA A m no) (hG : GG (lG i K) I) : V 8 123 123 mL_law 345 [vX, .ref 0, .ref 103, .int (nI i)] [] (I, J, vRR ρ) K := by
  first | refine st_aload rL_law_345 rfl ?_ | refine st_xload rL_law_345 rfl ?_
  first | refine st_aload rL_law_346 rfl ?_ | refine st_xload rL_law_346 rfl ?_
  refine st_iload rL_law_347 rfl ?_
  refine st_c rL_law_348 ?_
  first | with_reducible refine st_iaddN rL_law_349 ?_ | refine st_iadd rL_law_349 ?_
  refine st_sldN rL_law_350 (by first | (rw [hlen]; omega) | (rw [hlen1]; omega)) (by first | (rw [hlen]; omega) | (rw [hlen1]; omega)) ?_
  refine cV2i rL_law_351 (by first | assumption | decide | exact ⟨by decide, rfl, by decide⟩) (V_mono (Ki_mono (fun x1 σ1 hx1 => ?_)) (b_now hC hM hO hG)) rfl (by decide)
  obtain ⟨I1, J1, Z1⟩ := σ1
  obtain ⟨e1, hx1⟩ := hx1
  have e1 : ∀ a, 103 ≤ a → I1 a = I a := e1
  have hlen1 : vLen (I1, J1, Z1) = L := by
    show (I1 1001 0).toNatClampNeg = L
    rw [e1 1001 (by decide)]; exact hlen
  first | refine st_aload rL_law_354 rfl ?_ | refine st_xload rL_law_354 rfl ?_
  first | refine st_aload rL_law_355 rfl ?_ | refine st_xload rL_law_355 rfl ?_
  refine st_iload rL_law_356 rfl ?_
  refine st_c rL_law_357 ?_
  first | with_reducible refine st_iaddN rL_law_358 ?_ | refine st_iadd rL_law_358 ?_
  refine st_sldN rL_law_359 (by first | (rw [hlen]; omega) | (rw [hlen1]; omega)) (by first | (rw [hlen]; omega) | (rw [hlen1]; omega)) ?_
  refine st_top (congrFun (e1 1000 (by decide)) _) ?_
  refine cV2i rL_law_360 (by first | assumption | decide | exact ⟨by decide, rfl, by decide⟩) (V_mono (Ki_mono (fun y1 τ1 hy1 => ?_)) hx1) rfl (by decide)
  obtain ⟨e9, hg⟩ := hy1
  subst e9
  exact st_icmp_eq rL_law_363 (fun _ => hg) (fun h => absurd rfl h)
set_option maxHeartbeats 4000000 in
set_option maxRecDepth 100000 in
theorem l_lots (hlen : vLen (I, J, vRR ρ) = L) (hL : L ≤ 256) (hi : i + 3 < L) (hC : InvC I J ρ A T m no) (hM : InvM I J A T) (hO : OkA A m no) (hG : GG (lG i K) I) : V 8 123 123 mL_law 368 [vX, .ref 0, .ref 103, .int (nI i)] [] (I, J, vRR ρ) K := by
  first | refine st_aload rL_law_368 rfl ?_ | refine st_xload rL_law_368 rfl ?_
  first | refine st_aload rL_law_369 rfl ?_ | refine st_xload rL_law_369 rfl ?_
  refine st_iload rL_law_370 rfl ?_
  refine st_c rL_law_371 ?_
  first | with_reducible refine st_iaddN rL_law_372 ?_ | refine st_iadd rL_law_372 ?_
  refine st_sldN rL_law_373 (by first | (rw [hlen]; omega) | (rw [hlen1]; omega)) (by first | (rw [hlen]; omega) | (rw [hlen1]; omega)) ?_
  refine cV2i rL_law_374 (by first | assumption | decide | exact ⟨by decide, rfl, by decide⟩) (V_mono (Ki_mono (fun x1 σ1 hx1 => ?_)) (b_lots hC hM hO hG)) rfl (by decide)
  obtain ⟨I1, J1, Z1⟩ := σ1
  obtain ⟨e1, hx1⟩ := hx1
  have e1 : ∀ a, 103 ≤ a → I1 a = I a := e1
  have hlen1 : vLen (I1, J1, Z1) = L := by
    show (I1 1001 0).toNatClampNeg = L
    rw [e1 1001 (by decide)]; exact hlen
  first | refine st_aload rL_law_377 rfl ?_ | refine st_xload rL_law_377 rfl ?_
  first | refine st_aload rL_law_378 rfl ?_ | refine st_xload rL_law_378 rfl ?_
  refine st_iload rL_law_379 rfl ?_
  refine st_c rL_law_380 ?_
  first | with_reducible refine st_iaddN rL_law_381 ?_ | refine st_iadd rL_law_381 ?_
  refine st_sldN rL_law_382 (by first | (rw [hlen]; omega) | (rw [hlen1]; omega)) (by first | (rw [hlen]; omega) | (rw [hlen1]; omega)) ?_
  refine st_top (congrFun (e1 1000 (by decide)) _) ?_
  refine cV2i rL_law_383 (by first | assumption | decide | exact ⟨by decide, rfl, by decide⟩) (V_mono (Ki_mono (fun y1 τ1 hy1 => ?_)) hx1) rfl (by decide)
  obtain ⟨e9, hg⟩ := hy1
  subst e9
  exact st_icmp_eq rL_law_386 (fun _ => hg) (fun h => absurd rfl h)
set_option maxHeartbeats 4000000 in
set_option maxRecDepth 100000 in
theorem l_trades (hlen : vLen (I, J, vRR ρ) = L) (hL : L ≤ 256) (hi : i + 3 < L) (hC : InvC I J ρ A T m no) (hM : InvM I J A T) (hO : OkA A m no) (hG : GG (lG i K) I) : V 8 123 123 mL_law 391 [vX, .ref 0, .ref 103, .int (nI i)] [] (I, J, vRR ρ) K := by
  first | refine st_aload rL_law_391 rfl ?_ | refine st_xload rL_law_391 rfl ?_
  first | refine st_aload rL_law_392 rfl ?_ | refine st_xload rL_law_392 rfl ?_
  refine st_iload rL_law_393 rfl ?_
  refine st_c rL_law_394 ?_
  first | with_reducible refine st_iaddN rL_law_395 ?_ | refine st_iadd rL_law_395 ?_
  refine st_sldN rL_law_396 (by first | (rw [hlen]; omega) | (rw [hlen1]; omega)) (by first | (rw [hlen]; omega) | (rw [hlen1]; omega)) ?_
  first | refine st_aload rL_law_397 rfl ?_ | refine st_xload rL_law_397 rfl ?_
  refine st_iload rL_law_398 rfl ?_
  refine st_c rL_law_399 ?_
  first | with_reducible refine st_iaddN rL_law_400 ?_ | refine st_iadd rL_law_400 ?_
  refine st_sldN rL_law_401 (by first | (rw [hlen]; omega) | (rw [hlen1]; omega)) (by first | (rw [hlen]; omega) | (rw [hlen1]; omega)) ?_
  refine cV3i rL_law_402 (by first | assumption | decide | exact ⟨by decide, rfl, by decide⟩) (V_mono (Ki_mono (fun x1 σ1 hx1 => ?_)) (b_trades hC hM hO hG)) rfl (by decide)
  obtain ⟨I1, J1, Z1⟩ := σ1
  obtain ⟨e1, hx1⟩ := hx1
  have e1 : ∀ a, 103 ≤ a → I1 a = I a := e1
  have hlen1 : vLen (I1, J1, Z1) = L := by
    show (I1 1001 0).toNatClampNeg = L
    rw [e1 1001 (by decide)]; exact hlen
  first | refine st_aload rL_law_405 rfl ?_ | refine st_xload rL_law_405 rfl ?_
  first | refine st_aload rL_law_406 rfl ?_ | refine st_xload rL_law_406 rfl ?_
  refine st_iload rL_law_407 rfl ?_
  refine st_c rL_law_408 ?_
  first | with_reducible refine st_iaddN rL_law_409 ?_ | refine st_iadd rL_law_409 ?_
  refine st_sldN rL_law_410 (by first | (rw [hlen]; omega) | (rw [hlen1]; omega)) (by first | (rw [hlen]; omega) | (rw [hlen1]; omega)) ?_
  refine st_top (congrFun (e1 1000 (by decide)) _) ?_
  first | refine st_aload rL_law_411 rfl ?_ | refine st_xload rL_law_411 rfl ?_
  refine st_iload rL_law_412 rfl ?_
  refine st_c rL_law_413 ?_
  first | with_reducible refine st_iaddN rL_law_414 ?_ | refine st_iadd rL_law_414 ?_
  refine st_sldN rL_law_415 (by first | (rw [hlen]; omega) | (rw [hlen1]; omega)) (by first | (rw [hlen]; omega) | (rw [hlen1]; omega)) ?_
  refine st_top (congrFun (e1 1000 (by decide)) _) ?_
  refine cV3i rL_law_416 (by first | assumption | decide | exact ⟨by decide, rfl, by decide⟩) (V_mono (Ki_mono (fun y1 τ1 hy1 => ?_)) hx1) rfl (by decide)
  obtain ⟨e9, hg⟩ := hy1
  subst e9
  exact st_icmp_eq rL_law_419 (fun _ => hg) (fun h => absurd rfl h)
set_option maxHeartbeats 4000000 in
set_option maxRecDepth 100000 in
theorem l_widens (hlen : vLen (I, J, vRR ρ) = L) (hL : L ≤ 256) (hi : i + 3 < L) (hC : InvC I J ρ A T m no) (hM : InvM I J A T) (hO : OkA A m no) (hG : GG (lG i K) I) : V 8 123 123 mL_law 424 [vX, .ref 0, .ref 103, .int (nI i)] [] (I, J, vRR ρ) K := by
  first | refine st_aload rL_law_424 rfl ?_ | refine st_xload rL_law_424 rfl ?_
  first | refine st_aload rL_law_425 rfl ?_ | refine st_xload rL_law_425 rfl ?_
  refine st_iload rL_law_426 rfl ?_
  refine st_c rL_law_427 ?_
  first | with_reducible refine st_iaddN rL_law_428 ?_ | refine st_iadd rL_law_428 ?_
  refine st_sldN rL_law_429 (by first | (rw [hlen]; omega) | (rw [hlen1]; omega)) (by first | (rw [hlen]; omega) | (rw [hlen1]; omega)) ?_
  first | refine st_aload rL_law_430 rfl ?_ | refine st_xload rL_law_430 rfl ?_
  refine st_iload rL_law_431 rfl ?_
  refine st_c rL_law_432 ?_
  first | with_reducible refine st_iaddN rL_law_433 ?_ | refine st_iadd rL_law_433 ?_
  refine st_sldN rL_law_434 (by first | (rw [hlen]; omega) | (rw [hlen1]; omega)) (by first | (rw [hlen]; omega) | (rw [hlen1]; omega)) ?_
  refine cV3i rL_law_435 (by first | assumption | decide | exact ⟨by decide, rfl, by decide⟩) (V_mono (Ki_mono (fun x1 σ1 hx1 => ?_)) (b_widens hC hM hO hG)) rfl (by decide)
  obtain ⟨I1, J1, Z1⟩ := σ1
  obtain ⟨e1, hx1⟩ := hx1
  have e1 : ∀ a, 103 ≤ a → I1 a = I a := e1
  have hlen1 : vLen (I1, J1, Z1) = L := by
    show (I1 1001 0).toNatClampNeg = L
    rw [e1 1001 (by decide)]; exact hlen
  first | refine st_aload rL_law_438 rfl ?_ | refine st_xload rL_law_438 rfl ?_
  first | refine st_aload rL_law_439 rfl ?_ | refine st_xload rL_law_439 rfl ?_
  refine st_iload rL_law_440 rfl ?_
  refine st_c rL_law_441 ?_
  first | with_reducible refine st_iaddN rL_law_442 ?_ | refine st_iadd rL_law_442 ?_
  refine st_sldN rL_law_443 (by first | (rw [hlen]; omega) | (rw [hlen1]; omega)) (by first | (rw [hlen]; omega) | (rw [hlen1]; omega)) ?_
  refine st_top (congrFun (e1 1000 (by decide)) _) ?_
  first | refine st_aload rL_law_444 rfl ?_ | refine st_xload rL_law_444 rfl ?_
  refine st_iload rL_law_445 rfl ?_
  refine st_c rL_law_446 ?_
  first | with_reducible refine st_iaddN rL_law_447 ?_ | refine st_iadd rL_law_447 ?_
  refine st_sldN rL_law_448 (by first | (rw [hlen]; omega) | (rw [hlen1]; omega)) (by first | (rw [hlen]; omega) | (rw [hlen1]; omega)) ?_
  refine st_top (congrFun (e1 1000 (by decide)) _) ?_
  refine cV3i rL_law_449 (by first | assumption | decide | exact ⟨by decide, rfl, by decide⟩) (V_mono (Ki_mono (fun y1 τ1 hy1 => ?_)) hx1) rfl (by decide)
  obtain ⟨e9, hg⟩ := hy1
  subst e9
  exact st_icmp_eq rL_law_452 (fun _ => hg) (fun h => absurd rfl h)
set_option maxHeartbeats 4000000 in
set_option maxRecDepth 100000 in
theorem l_undo (hlen : vLen (I, J, vRR ρ) = L) (hL : L ≤ 256) (hi : i + 3 < L) (hC : InvC I J ρ A T m no) (hM : InvM I J A T) (hO : OkA A m no) (hG : GG (lG i K) I) : V 8 123 123 mL_law 457 [vX, .ref 0, .ref 103, .int (nI i)] [] (I, J, vRR ρ) K := by
  first | refine st_aload rL_law_457 rfl ?_ | refine st_xload rL_law_457 rfl ?_
  refine cV1i rL_law_458 (by first | assumption | decide | exact ⟨by decide, rfl, by decide⟩) (V_mono (Ki_mono (fun x1 σ1 hx1 => ?_)) (b_undo hC hM hO hG)) rfl (by decide)
  obtain ⟨I1, J1, Z1⟩ := σ1
  obtain ⟨e1, hx1⟩ := hx1
  have e1 : ∀ a, 103 ≤ a → I1 a = I a := e1
  have hlen1 : vLen (I1, J1, Z1) = L := by
    show (I1 1001 0).toNatClampNeg = L
    rw [e1 1001 (by decide)]; exact hlen
  first | refine st_aload rL_law_461 rfl ?_ | refine st_xload rL_law_461 rfl ?_
  refine cV1i rL_law_462 (by first | assumption | decide | exact ⟨by decide, rfl, by decide⟩) (V_mono (Ki_mono (fun y1 τ1 hy1 => ?_)) hx1) rfl (by decide)
  obtain ⟨e9, hg⟩ := hy1
  subst e9
  exact st_icmp_eq rL_law_465 (fun _ => hg) (fun h => absurd rfl h)
set_option maxHeartbeats 4000000 in
set_option maxRecDepth 100000 in
theorem l_inLots (hlen : vLen (I, J, vRR ρ) = L) (hL : L ≤ 256) (hi : i + 3 < L) (hC : InvC I J ρ A T m no) (hM : InvM I J A T) (hO : OkA A m no) (hG : GG (lG i K) I) : V 8 123 123 mL_law 470 [vX, .ref 0, .ref 103, .int (nI i)] [] (I, J, vRR ρ) K := by
  first | refine st_aload rL_law_470 rfl ?_ | refine st_xload rL_law_470 rfl ?_
  first | refine st_aload rL_law_471 rfl ?_ | refine st_xload rL_law_471 rfl ?_
  refine st_iload rL_law_472 rfl ?_
  refine st_c rL_law_473 ?_
  first | with_reducible refine st_iaddN rL_law_474 ?_ | refine st_iadd rL_law_474 ?_
  refine st_sldN rL_law_475 (by first | (rw [hlen]; omega) | (rw [hlen1]; omega)) (by first | (rw [hlen]; omega) | (rw [hlen1]; omega)) ?_
  first | refine st_aload rL_law_476 rfl ?_ | refine st_xload rL_law_476 rfl ?_
  refine st_iload rL_law_477 rfl ?_
  refine st_c rL_law_478 ?_
  first | with_reducible refine st_iaddN rL_law_479 ?_ | refine st_iadd rL_law_479 ?_
  refine st_sldN rL_law_480 (by first | (rw [hlen]; omega) | (rw [hlen1]; omega)) (by first | (rw [hlen]; omega) | (rw [hlen1]; omega)) ?_
  first | refine st_aload rL_law_481 rfl ?_ | refine st_xload rL_law_481 rfl ?_
  refine st_iload rL_law_482 rfl ?_
  refine st_c rL_law_483 ?_
  first | with_reducible refine st_iaddN rL_law_484 ?_ | refine st_iadd rL_law_484 ?_
  refine st_sldN rL_law_485 (by first | (rw [hlen]; omega) | (rw [hlen1]; omega)) (by first | (rw [hlen]; omega) | (rw [hlen1]; omega)) ?_
  refine cV4i rL_law_486 (by first | assumption | decide | exact ⟨by decide, rfl, by decide⟩) (V_mono (Ki_mono (fun x1 σ1 hx1 => ?_)) (b_inLots hC hM hO hG)) rfl (by decide)
  obtain ⟨I1, J1, Z1⟩ := σ1
  obtain ⟨e1, hx1⟩ := hx1
  have e1 : ∀ a, 103 ≤ a → I1 a = I a := e1
  have hlen1 : vLen (I1, J1, Z1) = L := by
    show (I1 1001 0).toNatClampNeg = L
    rw [e1 1001 (by decide)]; exact hlen
  first | refine st_aload rL_law_489 rfl ?_ | refine st_xload rL_law_489 rfl ?_
  first | refine st_aload rL_law_490 rfl ?_ | refine st_xload rL_law_490 rfl ?_
  refine st_iload rL_law_491 rfl ?_
  refine st_c rL_law_492 ?_
  first | with_reducible refine st_iaddN rL_law_493 ?_ | refine st_iadd rL_law_493 ?_
  refine st_sldN rL_law_494 (by first | (rw [hlen]; omega) | (rw [hlen1]; omega)) (by first | (rw [hlen]; omega) | (rw [hlen1]; omega)) ?_
  refine st_top (congrFun (e1 1000 (by decide)) _) ?_
  first | refine st_aload rL_law_495 rfl ?_ | refine st_xload rL_law_495 rfl ?_
  refine st_iload rL_law_496 rfl ?_
  refine st_c rL_law_497 ?_
  first | with_reducible refine st_iaddN rL_law_498 ?_ | refine st_iadd rL_law_498 ?_
  refine st_sldN rL_law_499 (by first | (rw [hlen]; omega) | (rw [hlen1]; omega)) (by first | (rw [hlen]; omega) | (rw [hlen1]; omega)) ?_
  refine st_top (congrFun (e1 1000 (by decide)) _) ?_
  first | refine st_aload rL_law_500 rfl ?_ | refine st_xload rL_law_500 rfl ?_
  refine st_iload rL_law_501 rfl ?_
  refine st_c rL_law_502 ?_
  first | with_reducible refine st_iaddN rL_law_503 ?_ | refine st_iadd rL_law_503 ?_
  refine st_sldN rL_law_504 (by first | (rw [hlen]; omega) | (rw [hlen1]; omega)) (by first | (rw [hlen]; omega) | (rw [hlen1]; omega)) ?_
  refine st_top (congrFun (e1 1000 (by decide)) _) ?_
  refine cV4i rL_law_505 (by first | assumption | decide | exact ⟨by decide, rfl, by decide⟩) (V_mono (Ki_mono (fun y1 τ1 hy1 => ?_)) hx1) rfl (by decide)
  obtain ⟨e9, hg⟩ := hy1
  subst e9
  exact st_icmp_eq rL_law_508 (fun _ => hg) (fun h => absurd rfl h)
set_option maxHeartbeats 4000000 in
set_option maxRecDepth 100000 in
theorem l_cost (hlen : vLen (I, J, vRR ρ) = L) (hL : L ≤ 256) (hi : i + 3 < L) (hC : InvC I J ρ A T m no) (hM : InvM I J A T) (hO : OkA A m no) (hG : GG (lG i K) I) : V 8 123 123 mL_law 513 [vX, .ref 0, .ref 103, .int (nI i)] [] (I, J, vRR ρ) K := by
  first | refine st_aload rL_law_513 rfl ?_ | refine st_xload rL_law_513 rfl ?_
  first | refine st_aload rL_law_514 rfl ?_ | refine st_xload rL_law_514 rfl ?_
  refine st_iload rL_law_515 rfl ?_
  refine st_c rL_law_516 ?_
  first | with_reducible refine st_iaddN rL_law_517 ?_ | refine st_iadd rL_law_517 ?_
  refine st_sldN rL_law_518 (by first | (rw [hlen]; omega) | (rw [hlen1]; omega)) (by first | (rw [hlen]; omega) | (rw [hlen1]; omega)) ?_
  refine cV2i rL_law_519 (by first | assumption | decide | exact ⟨by decide, rfl, by decide⟩) (V_mono (Ki_mono (fun x1 σ1 hx1 => ?_)) (b_cost hC hM hO hG)) rfl (by decide)
  obtain ⟨I1, J1, Z1⟩ := σ1
  obtain ⟨e1, hx1⟩ := hx1
  have e1 : ∀ a, 103 ≤ a → I1 a = I a := e1
  have hlen1 : vLen (I1, J1, Z1) = L := by
    show (I1 1001 0).toNatClampNeg = L
    rw [e1 1001 (by decide)]; exact hlen
  first | refine st_aload rL_law_522 rfl ?_ | refine st_xload rL_law_522 rfl ?_
  first | refine st_aload rL_law_523 rfl ?_ | refine st_xload rL_law_523 rfl ?_
  refine st_iload rL_law_524 rfl ?_
  refine st_c rL_law_525 ?_
  first | with_reducible refine st_iaddN rL_law_526 ?_ | refine st_iadd rL_law_526 ?_
  refine st_sldN rL_law_527 (by first | (rw [hlen]; omega) | (rw [hlen1]; omega)) (by first | (rw [hlen]; omega) | (rw [hlen1]; omega)) ?_
  refine st_top (congrFun (e1 1000 (by decide)) _) ?_
  refine cV2i rL_law_528 (by first | assumption | decide | exact ⟨by decide, rfl, by decide⟩) (V_mono (Ki_mono (fun y1 τ1 hy1 => ?_)) hx1) rfl (by decide)
  obtain ⟨e9, hg⟩ := hy1
  subst e9
  exact st_icmp_eq rL_law_531 (fun _ => hg) (fun h => absurd rfl h)
set_option maxHeartbeats 4000000 in
set_option maxRecDepth 100000 in
theorem l_home (hlen : vLen (I, J, vRR ρ) = L) (hL : L ≤ 256) (hi : i + 3 < L) (hC : InvC I J ρ A T m no) (hM : InvM I J A T) (hO : OkA A m no) (hG : GG (lG i K) I) : V 8 123 123 mL_law 536 [vX, .ref 0, .ref 103, .int (nI i)] [] (I, J, vRR ρ) K := by
  first | refine st_aload rL_law_536 rfl ?_ | refine st_xload rL_law_536 rfl ?_
  first | refine st_aload rL_law_537 rfl ?_ | refine st_xload rL_law_537 rfl ?_
  refine st_iload rL_law_538 rfl ?_
  refine st_c rL_law_539 ?_
  first | with_reducible refine st_iaddN rL_law_540 ?_ | refine st_iadd rL_law_540 ?_
  refine st_sldN rL_law_541 (by first | (rw [hlen]; omega) | (rw [hlen1]; omega)) (by first | (rw [hlen]; omega) | (rw [hlen1]; omega)) ?_
  refine cV2i rL_law_542 (by first | assumption | decide | exact ⟨by decide, rfl, by decide⟩) (V_mono (Ki_mono (fun x1 σ1 hx1 => ?_)) (b_home hC hM hO hG)) rfl (by decide)
  obtain ⟨I1, J1, Z1⟩ := σ1
  obtain ⟨e1, hx1⟩ := hx1
  have e1 : ∀ a, 103 ≤ a → I1 a = I a := e1
  have hlen1 : vLen (I1, J1, Z1) = L := by
    show (I1 1001 0).toNatClampNeg = L
    rw [e1 1001 (by decide)]; exact hlen
  first | refine st_aload rL_law_545 rfl ?_ | refine st_xload rL_law_545 rfl ?_
  first | refine st_aload rL_law_546 rfl ?_ | refine st_xload rL_law_546 rfl ?_
  refine st_iload rL_law_547 rfl ?_
  refine st_c rL_law_548 ?_
  first | with_reducible refine st_iaddN rL_law_549 ?_ | refine st_iadd rL_law_549 ?_
  refine st_sldN rL_law_550 (by first | (rw [hlen]; omega) | (rw [hlen1]; omega)) (by first | (rw [hlen]; omega) | (rw [hlen1]; omega)) ?_
  refine st_top (congrFun (e1 1000 (by decide)) _) ?_
  refine cV2i rL_law_551 (by first | assumption | decide | exact ⟨by decide, rfl, by decide⟩) (V_mono (Ki_mono (fun y1 τ1 hy1 => ?_)) hx1) rfl (by decide)
  obtain ⟨e9, hg⟩ := hy1
  subst e9
  exact st_icmp_eq rL_law_554 (fun _ => hg) (fun h => absurd rfl h)
set_option maxHeartbeats 4000000 in
set_option maxRecDepth 100000 in
theorem l_hang (hlen : vLen (I, J, vRR ρ) = L) (hL : L ≤ 256) (hi : i + 3 < L) (hC : InvC I J ρ A T m no) (hM : InvM I J A T) (hO : OkA A m no) (hG : GG (lG i K) I) : V 8 123 123 mL_law 559 [vX, .ref 0, .ref 103, .int (nI i)] [] (I, J, vRR ρ) K := by
  first | refine st_aload rL_law_559 rfl ?_ | refine st_xload rL_law_559 rfl ?_
  first | refine st_aload rL_law_560 rfl ?_ | refine st_xload rL_law_560 rfl ?_
  refine st_iload rL_law_561 rfl ?_
  refine st_c rL_law_562 ?_
  first | with_reducible refine st_iaddN rL_law_563 ?_ | refine st_iadd rL_law_563 ?_
  refine st_sldN rL_law_564 (by first | (rw [hlen]; omega) | (rw [hlen1]; omega)) (by first | (rw [hlen]; omega) | (rw [hlen1]; omega)) ?_
  refine cV2i rL_law_565 (by first | assumption | decide | exact ⟨by decide, rfl, by decide⟩) (V_mono (Ki_mono (fun x1 σ1 hx1 => ?_)) (b_hang hC hM hO hG)) rfl (by decide)
  obtain ⟨I1, J1, Z1⟩ := σ1
  obtain ⟨e1, hx1⟩ := hx1
  have e1 : ∀ a, 103 ≤ a → I1 a = I a := e1
  have hlen1 : vLen (I1, J1, Z1) = L := by
    show (I1 1001 0).toNatClampNeg = L
    rw [e1 1001 (by decide)]; exact hlen
  first | refine st_aload rL_law_568 rfl ?_ | refine st_xload rL_law_568 rfl ?_
  first | refine st_aload rL_law_569 rfl ?_ | refine st_xload rL_law_569 rfl ?_
  refine st_iload rL_law_570 rfl ?_
  refine st_c rL_law_571 ?_
  first | with_reducible refine st_iaddN rL_law_572 ?_ | refine st_iadd rL_law_572 ?_
  refine st_sldN rL_law_573 (by first | (rw [hlen]; omega) | (rw [hlen1]; omega)) (by first | (rw [hlen]; omega) | (rw [hlen1]; omega)) ?_
  refine st_top (congrFun (e1 1000 (by decide)) _) ?_
  refine cV2i rL_law_574 (by first | assumption | decide | exact ⟨by decide, rfl, by decide⟩) (V_mono (Ki_mono (fun y1 τ1 hy1 => ?_)) hx1) rfl (by decide)
  obtain ⟨e9, hg⟩ := hy1
  subst e9
  exact st_icmp_eq rL_law_577 (fun _ => hg) (fun h => absurd rfl h)
set_option maxHeartbeats 4000000 in
set_option maxRecDepth 100000 in
theorem l_round (hlen : vLen (I, J, vRR ρ) = L) (hL : L ≤ 256) (hi : i + 3 < L) (hC : InvC I J ρ A T m no) (hM : InvM I J A T) (hO : OkA A m no) (hG : GG (lG i K) I) : V 8 123 123 mL_law 582 [vX, .ref 0, .ref 103, .int (nI i)] [] (I, J, vRR ρ) K := by
  first | refine st_aload rL_law_582 rfl ?_ | refine st_xload rL_law_582 rfl ?_
  first | refine st_aload rL_law_583 rfl ?_ | refine st_xload rL_law_583 rfl ?_
  refine st_iload rL_law_584 rfl ?_
  refine st_c rL_law_585 ?_
  first | with_reducible refine st_iaddN rL_law_586 ?_ | refine st_iadd rL_law_586 ?_
  refine st_sldN rL_law_587 (by first | (rw [hlen]; omega) | (rw [hlen1]; omega)) (by first | (rw [hlen]; omega) | (rw [hlen1]; omega)) ?_
  refine cV2i rL_law_588 (by first | assumption | decide | exact ⟨by decide, rfl, by decide⟩) (V_mono (Ki_mono (fun x1 σ1 hx1 => ?_)) (b_round hC hM hO hG)) rfl (by decide)
  obtain ⟨I1, J1, Z1⟩ := σ1
  obtain ⟨e1, hx1⟩ := hx1
  have e1 : ∀ a, 103 ≤ a → I1 a = I a := e1
  have hlen1 : vLen (I1, J1, Z1) = L := by
    show (I1 1001 0).toNatClampNeg = L
    rw [e1 1001 (by decide)]; exact hlen
  first | refine st_aload rL_law_591 rfl ?_ | refine st_xload rL_law_591 rfl ?_
  first | refine st_aload rL_law_592 rfl ?_ | refine st_xload rL_law_592 rfl ?_
  refine st_iload rL_law_593 rfl ?_
  refine st_c rL_law_594 ?_
  first | with_reducible refine st_iaddN rL_law_595 ?_ | refine st_iadd rL_law_595 ?_
  refine st_sldN rL_law_596 (by first | (rw [hlen]; omega) | (rw [hlen1]; omega)) (by first | (rw [hlen]; omega) | (rw [hlen1]; omega)) ?_
  refine st_top (congrFun (e1 1000 (by decide)) _) ?_
  refine cV2i rL_law_597 (by first | assumption | decide | exact ⟨by decide, rfl, by decide⟩) (V_mono (Ki_mono (fun y1 τ1 hy1 => ?_)) hx1) rfl (by decide)
  obtain ⟨e9, hg⟩ := hy1
  subst e9
  exact st_icmp_eq rL_law_600 (fun _ => hg) (fun h => absurd rfl h)
set_option maxHeartbeats 4000000 in
set_option maxRecDepth 100000 in
theorem l_crossed (hlen : vLen (I, J, vRR ρ) = L) (hL : L ≤ 256) (hi : i + 3 < L) (hC : InvC I J ρ A T m no) (hM : InvM I J A T) (hO : OkA A m no) (hG : GG (lG i K) I) : V 8 123 123 mL_law 605 [vX, .ref 0, .ref 103, .int (nI i)] [] (I, J, vRR ρ) K := by
  first | refine st_aload rL_law_605 rfl ?_ | refine st_xload rL_law_605 rfl ?_
  refine cV1i rL_law_606 (by first | assumption | decide | exact ⟨by decide, rfl, by decide⟩) (V_mono (Ki_mono (fun x1 σ1 hx1 => ?_)) (b_crossed hC hM hO hG)) rfl (by decide)
  obtain ⟨I1, J1, Z1⟩ := σ1
  obtain ⟨e1, hx1⟩ := hx1
  have e1 : ∀ a, 103 ≤ a → I1 a = I a := e1
  have hlen1 : vLen (I1, J1, Z1) = L := by
    show (I1 1001 0).toNatClampNeg = L
    rw [e1 1001 (by decide)]; exact hlen
  first | refine st_aload rL_law_609 rfl ?_ | refine st_xload rL_law_609 rfl ?_
  refine cV1i rL_law_610 (by first | assumption | decide | exact ⟨by decide, rfl, by decide⟩) (V_mono (Ki_mono (fun y1 τ1 hy1 => ?_)) hx1) rfl (by decide)
  obtain ⟨e9, hg⟩ := hy1
  subst e9
  exact st_icmp_eq rL_law_613 (fun _ => hg) (fun h => absurd rfl h)
set_option maxHeartbeats 4000000 in
set_option maxRecDepth 100000 in
theorem l_oaths (hlen : vLen (I, J, vRR ρ) = L) (hL : L ≤ 256) (hi : i + 3 < L) (hC : InvC I J ρ A T m no) (hM : InvM I J A T) (hO : OkA A m no) (hG : GG (lG i K) I) : V 8 123 123 mL_law 618 [vX, .ref 0, .ref 103, .int (nI i)] [] (I, J, vRR ρ) K := by
  first | refine st_aload rL_law_618 rfl ?_ | refine st_xload rL_law_618 rfl ?_
  first | refine st_aload rL_law_619 rfl ?_ | refine st_xload rL_law_619 rfl ?_
  refine st_iload rL_law_620 rfl ?_
  refine st_c rL_law_621 ?_
  first | with_reducible refine st_iaddN rL_law_622 ?_ | refine st_iadd rL_law_622 ?_
  refine st_sldN rL_law_623 (by first | (rw [hlen]; omega) | (rw [hlen1]; omega)) (by first | (rw [hlen]; omega) | (rw [hlen1]; omega)) ?_
  refine cV2i rL_law_624 (by first | assumption | decide | exact ⟨by decide, rfl, by decide⟩) (V_mono (Ki_mono (fun x1 σ1 hx1 => ?_)) (b_oaths hC hM hO hG)) rfl (by decide)
  obtain ⟨I1, J1, Z1⟩ := σ1
  obtain ⟨e1, hx1⟩ := hx1
  have e1 : ∀ a, 103 ≤ a → I1 a = I a := e1
  have hlen1 : vLen (I1, J1, Z1) = L := by
    show (I1 1001 0).toNatClampNeg = L
    rw [e1 1001 (by decide)]; exact hlen
  first | refine st_aload rL_law_627 rfl ?_ | refine st_xload rL_law_627 rfl ?_
  first | refine st_aload rL_law_628 rfl ?_ | refine st_xload rL_law_628 rfl ?_
  refine st_iload rL_law_629 rfl ?_
  refine st_c rL_law_630 ?_
  first | with_reducible refine st_iaddN rL_law_631 ?_ | refine st_iadd rL_law_631 ?_
  refine st_sldN rL_law_632 (by first | (rw [hlen]; omega) | (rw [hlen1]; omega)) (by first | (rw [hlen]; omega) | (rw [hlen1]; omega)) ?_
  refine st_top (congrFun (e1 1000 (by decide)) _) ?_
  refine cV2i rL_law_633 (by first | assumption | decide | exact ⟨by decide, rfl, by decide⟩) (V_mono (Ki_mono (fun y1 τ1 hy1 => ?_)) hx1) rfl (by decide)
  obtain ⟨e9, hg⟩ := hy1
  subst e9
  exact st_icmp_eq rL_law_636 (fun _ => hg) (fun h => absurd rfl h)
set_option maxHeartbeats 4000000 in
set_option maxRecDepth 100000 in
theorem l_strokes (hlen : vLen (I, J, vRR ρ) = L) (hL : L ≤ 256) (hi : i + 3 < L) (hC : InvC I J ρ A T m no) (hM : InvM I J A T) (hO : OkA A m no) (hG : GG (lG i K) I) : V 8 123 123 mL_law 641 [vX, .ref 0, .ref 103, .int (nI i)] [] (I, J, vRR ρ) K := by
  first | refine st_aload rL_law_641 rfl ?_ | refine st_xload rL_law_641 rfl ?_
  first | refine st_aload rL_law_642 rfl ?_ | refine st_xload rL_law_642 rfl ?_
  refine st_iload rL_law_643 rfl ?_
  refine st_c rL_law_644 ?_
  first | with_reducible refine st_iaddN rL_law_645 ?_ | refine st_iadd rL_law_645 ?_
  refine st_sldN rL_law_646 (by first | (rw [hlen]; omega) | (rw [hlen1]; omega)) (by first | (rw [hlen]; omega) | (rw [hlen1]; omega)) ?_
  first | refine st_aload rL_law_647 rfl ?_ | refine st_xload rL_law_647 rfl ?_
  refine st_iload rL_law_648 rfl ?_
  refine st_c rL_law_649 ?_
  first | with_reducible refine st_iaddN rL_law_650 ?_ | refine st_iadd rL_law_650 ?_
  refine st_sldN rL_law_651 (by first | (rw [hlen]; omega) | (rw [hlen1]; omega)) (by first | (rw [hlen]; omega) | (rw [hlen1]; omega)) ?_
  refine cV3i rL_law_652 (by first | assumption | decide | exact ⟨by decide, rfl, by decide⟩) (V_mono (Ki_mono (fun x1 σ1 hx1 => ?_)) (b_strokes hC hM hO hG)) rfl (by decide)
  obtain ⟨I1, J1, Z1⟩ := σ1
  obtain ⟨e1, hx1⟩ := hx1
  have e1 : ∀ a, 103 ≤ a → I1 a = I a := e1
  have hlen1 : vLen (I1, J1, Z1) = L := by
    show (I1 1001 0).toNatClampNeg = L
    rw [e1 1001 (by decide)]; exact hlen
  first | refine st_aload rL_law_655 rfl ?_ | refine st_xload rL_law_655 rfl ?_
  first | refine st_aload rL_law_656 rfl ?_ | refine st_xload rL_law_656 rfl ?_
  refine st_iload rL_law_657 rfl ?_
  refine st_c rL_law_658 ?_
  first | with_reducible refine st_iaddN rL_law_659 ?_ | refine st_iadd rL_law_659 ?_
  refine st_sldN rL_law_660 (by first | (rw [hlen]; omega) | (rw [hlen1]; omega)) (by first | (rw [hlen]; omega) | (rw [hlen1]; omega)) ?_
  refine st_top (congrFun (e1 1000 (by decide)) _) ?_
  first | refine st_aload rL_law_661 rfl ?_ | refine st_xload rL_law_661 rfl ?_
  refine st_iload rL_law_662 rfl ?_
  refine st_c rL_law_663 ?_
  first | with_reducible refine st_iaddN rL_law_664 ?_ | refine st_iadd rL_law_664 ?_
  refine st_sldN rL_law_665 (by first | (rw [hlen]; omega) | (rw [hlen1]; omega)) (by first | (rw [hlen]; omega) | (rw [hlen1]; omega)) ?_
  refine st_top (congrFun (e1 1000 (by decide)) _) ?_
  refine cV3i rL_law_666 (by first | assumption | decide | exact ⟨by decide, rfl, by decide⟩) (V_mono (Ki_mono (fun y1 τ1 hy1 => ?_)) hx1) rfl (by decide)
  obtain ⟨e9, hg⟩ := hy1
  subst e9
  exact st_icmp_eq rL_law_669 (fun _ => hg) (fun h => absurd rfl h)
set_option maxHeartbeats 4000000 in
set_option maxRecDepth 100000 in
theorem l_found (hlen : vLen (I, J, vRR ρ) = L) (hL : L ≤ 256) (hi : i + 3 < L) (hC : InvC I J ρ A T m no) (hM : InvM I J A T) (hO : OkA A m no) (hG : GG (lG i K) I) : V 8 123 123 mL_law 674 [vX, .ref 0, .ref 103, .int (nI i)] [] (I, J, vRR ρ) K := by
  first | refine st_aload rL_law_674 rfl ?_ | refine st_xload rL_law_674 rfl ?_
  first | refine st_aload rL_law_675 rfl ?_ | refine st_xload rL_law_675 rfl ?_
  refine st_iload rL_law_676 rfl ?_
  refine st_c rL_law_677 ?_
  first | with_reducible refine st_iaddN rL_law_678 ?_ | refine st_iadd rL_law_678 ?_
  refine st_sldN rL_law_679 (by first | (rw [hlen]; omega) | (rw [hlen1]; omega)) (by first | (rw [hlen]; omega) | (rw [hlen1]; omega)) ?_
  first | refine st_aload rL_law_680 rfl ?_ | refine st_xload rL_law_680 rfl ?_
  refine st_iload rL_law_681 rfl ?_
  refine st_c rL_law_682 ?_
  first | with_reducible refine st_iaddN rL_law_683 ?_ | refine st_iadd rL_law_683 ?_
  refine st_sldN rL_law_684 (by first | (rw [hlen]; omega) | (rw [hlen1]; omega)) (by first | (rw [hlen]; omega) | (rw [hlen1]; omega)) ?_
  refine cV3i rL_law_685 (by first | assumption | decide | exact ⟨by decide, rfl, by decide⟩) (V_mono (Ki_mono (fun x1 σ1 hx1 => ?_)) (b_found hC hM hO hG)) rfl (by decide)
  obtain ⟨I1, J1, Z1⟩ := σ1
  obtain ⟨e1, hx1⟩ := hx1
  have e1 : ∀ a, 103 ≤ a → I1 a = I a := e1
  have hlen1 : vLen (I1, J1, Z1) = L := by
    show (I1 1001 0).toNatClampNeg = L
    rw [e1 1001 (by decide)]; exact hlen
  first | refine st_aload rL_law_688 rfl ?_ | refine st_xload rL_law_688 rfl ?_
  first | refine st_aload rL_law_689 rfl ?_ | refine st_xload rL_law_689 rfl ?_
  refine st_iload rL_law_690 rfl ?_
  refine st_c rL_law_691 ?_
  first | with_reducible refine st_iaddN rL_law_692 ?_ | refine st_iadd rL_law_692 ?_
  refine st_sldN rL_law_693 (by first | (rw [hlen]; omega) | (rw [hlen1]; omega)) (by first | (rw [hlen]; omega) | (rw [hlen1]; omega)) ?_
  refine st_top (congrFun (e1 1000 (by decide)) _) ?_
  first | refine st_aload rL_law_694 rfl ?_ | refine st_xload rL_law_694 rfl ?_
  refine st_iload rL_law_695 rfl ?_
  refine st_c rL_law_696 ?_
  first | with_reducible refine st_iaddN rL_law_697 ?_ | refine st_iadd rL_law_697 ?_
  refine st_sldN rL_law_698 (by first | (rw [hlen]; omega) | (rw [hlen1]; omega)) (by first | (rw [hlen]; omega) | (rw [hlen1]; omega)) ?_
  refine st_top (congrFun (e1 1000 (by decide)) _) ?_
  refine cV3i rL_law_699 (by first | assumption | decide | exact ⟨by decide, rfl, by decide⟩) (V_mono (Ki_mono (fun y1 τ1 hy1 => ?_)) hx1) rfl (by decide)
  obtain ⟨e9, hg⟩ := hy1
  subst e9
  exact st_icmp_eq rL_law_702 (fun _ => hg) (fun h => absurd rfl h)
set_option maxHeartbeats 4000000 in
set_option maxRecDepth 100000 in
theorem l_forget (hlen : vLen (I, J, vRR ρ) = L) (hL : L ≤ 256) (hi : i + 3 < L) (hC : InvC I J ρ A T m no) (hM : InvM I J A T) (hO : OkA A m no) (hG : GG (lG i K) I) : V 8 123 123 mL_law 707 [vX, .ref 0, .ref 103, .int (nI i)] [] (I, J, vRR ρ) K := by
  first | refine st_aload rL_law_707 rfl ?_ | refine st_xload rL_law_707 rfl ?_
  refine cV1i rL_law_708 (by first | assumption | decide | exact ⟨by decide, rfl, by decide⟩) (V_mono (Ki_mono (fun x1 σ1 hx1 => ?_)) (b_forget hC hM hO hG)) rfl (by decide)
  obtain ⟨I1, J1, Z1⟩ := σ1
  obtain ⟨e1, hx1⟩ := hx1
  have e1 : ∀ a, 103 ≤ a → I1 a = I a := e1
  have hlen1 : vLen (I1, J1, Z1) = L := by
    show (I1 1001 0).toNatClampNeg = L
    rw [e1 1001 (by decide)]; exact hlen
  first | refine st_aload rL_law_711 rfl ?_ | refine st_xload rL_law_711 rfl ?_
  refine cV1i rL_law_712 (by first | assumption | decide | exact ⟨by decide, rfl, by decide⟩) (V_mono (Ki_mono (fun y1 τ1 hy1 => ?_)) hx1) rfl (by decide)
  obtain ⟨e9, hg⟩ := hy1
  subst e9
  exact st_icmp_eq rL_law_715 (fun _ => hg) (fun h => absurd rfl h)
set_option maxHeartbeats 4000000 in
set_option maxRecDepth 100000 in
theorem l_which (hlen : vLen (I, J, vRR ρ) = L) (hL : L ≤ 256) (hi : i + 3 < L) (hC : InvC I J ρ A T m no) (hM : InvM I J A T) (hO : OkA A m no) (hG : GG (lG i K) I) : V 8 123 123 mL_law 720 [vX, .ref 0, .ref 103, .int (nI i)] [] (I, J, vRR ρ) K := by
  first | refine st_aload rL_law_720 rfl ?_ | refine st_xload rL_law_720 rfl ?_
  first | refine st_aload rL_law_721 rfl ?_ | refine st_xload rL_law_721 rfl ?_
  refine st_iload rL_law_722 rfl ?_
  refine st_c rL_law_723 ?_
  first | with_reducible refine st_iaddN rL_law_724 ?_ | refine st_iadd rL_law_724 ?_
  refine st_sldN rL_law_725 (by first | (rw [hlen]; omega) | (rw [hlen1]; omega)) (by first | (rw [hlen]; omega) | (rw [hlen1]; omega)) ?_
  refine cV2i rL_law_726 (by first | assumption | decide | exact ⟨by decide, rfl, by decide⟩) (V_mono (Ki_mono (fun x1 σ1 hx1 => ?_)) (b_which hC hM hO hG)) rfl (by decide)
  obtain ⟨I1, J1, Z1⟩ := σ1
  obtain ⟨e1, hx1⟩ := hx1
  have e1 : ∀ a, 103 ≤ a → I1 a = I a := e1
  have hlen1 : vLen (I1, J1, Z1) = L := by
    show (I1 1001 0).toNatClampNeg = L
    rw [e1 1001 (by decide)]; exact hlen
  first | refine st_aload rL_law_729 rfl ?_ | refine st_xload rL_law_729 rfl ?_
  first | refine st_aload rL_law_730 rfl ?_ | refine st_xload rL_law_730 rfl ?_
  refine st_iload rL_law_731 rfl ?_
  refine st_c rL_law_732 ?_
  first | with_reducible refine st_iaddN rL_law_733 ?_ | refine st_iadd rL_law_733 ?_
  refine st_sldN rL_law_734 (by first | (rw [hlen]; omega) | (rw [hlen1]; omega)) (by first | (rw [hlen]; omega) | (rw [hlen1]; omega)) ?_
  refine st_top (congrFun (e1 1000 (by decide)) _) ?_
  refine cV2i rL_law_735 (by first | assumption | decide | exact ⟨by decide, rfl, by decide⟩) (V_mono (Ki_mono (fun y1 τ1 hy1 => ?_)) hx1) rfl (by decide)
  obtain ⟨e9, hg⟩ := hy1
  subst e9
  exact st_icmp_eq rL_law_738 (fun _ => hg) (fun h => absurd rfl h)
set_option maxHeartbeats 4000000 in
set_option maxRecDepth 100000 in
theorem l_odds (hlen : vLen (I, J, vRR ρ) = L) (hL : L ≤ 256) (hi : i + 3 < L) (hC : InvC I J ρ A T m no) (hM : InvM I J A T) (hO : OkA A m no) (hG : GG (lG i K) I) : V 8 123 123 mL_law 743 [vX, .ref 0, .ref 103, .int (nI i)] [] (I, J, vRR ρ) K := by
  first | refine st_aload rL_law_743 rfl ?_ | refine st_xload rL_law_743 rfl ?_
  first | refine st_aload rL_law_744 rfl ?_ | refine st_xload rL_law_744 rfl ?_
  refine st_iload rL_law_745 rfl ?_
  refine st_c rL_law_746 ?_
  first | with_reducible refine st_iaddN rL_law_747 ?_ | refine st_iadd rL_law_747 ?_
  refine st_sldN rL_law_748 (by first | (rw [hlen]; omega) | (rw [hlen1]; omega)) (by first | (rw [hlen]; omega) | (rw [hlen1]; omega)) ?_
  refine cV2i rL_law_749 (by first | assumption | decide | exact ⟨by decide, rfl, by decide⟩) (V_mono (Ki_mono (fun x1 σ1 hx1 => ?_)) (b_odds hC hM hO hG)) rfl (by decide)
  obtain ⟨I1, J1, Z1⟩ := σ1
  obtain ⟨e1, hx1⟩ := hx1
  have e1 : ∀ a, 103 ≤ a → I1 a = I a := e1
  have hlen1 : vLen (I1, J1, Z1) = L := by
    show (I1 1001 0).toNatClampNeg = L
    rw [e1 1001 (by decide)]; exact hlen
  first | refine st_aload rL_law_752 rfl ?_ | refine st_xload rL_law_752 rfl ?_
  first | refine st_aload rL_law_753 rfl ?_ | refine st_xload rL_law_753 rfl ?_
  refine st_iload rL_law_754 rfl ?_
  refine st_c rL_law_755 ?_
  first | with_reducible refine st_iaddN rL_law_756 ?_ | refine st_iadd rL_law_756 ?_
  refine st_sldN rL_law_757 (by first | (rw [hlen]; omega) | (rw [hlen1]; omega)) (by first | (rw [hlen]; omega) | (rw [hlen1]; omega)) ?_
  refine st_top (congrFun (e1 1000 (by decide)) _) ?_
  refine cV2i rL_law_758 (by first | assumption | decide | exact ⟨by decide, rfl, by decide⟩) (V_mono (Ki_mono (fun y1 τ1 hy1 => ?_)) hx1) rfl (by decide)
  obtain ⟨e9, hg⟩ := hy1
  subst e9
  exact st_icmp_eq rL_law_761 (fun _ => hg) (fun h => absurd rfl h)
set_option maxHeartbeats 4000000 in
set_option maxRecDepth 100000 in
theorem l_rate (hlen : vLen (I, J, vRR ρ) = L) (hL : L ≤ 256) (hi : i + 3 < L) (hC : InvC I J ρ A T m no) (hM : InvM I J A T) (hO : OkA A m no) (hG : GG (lG i K) I) : V 8 123 123 mL_law 766 [vX, .ref 0, .ref 103, .int (nI i)] [] (I, J, vRR ρ) K := by
  first | refine st_aload rL_law_766 rfl ?_ | refine st_xload rL_law_766 rfl ?_
  first | refine st_aload rL_law_767 rfl ?_ | refine st_xload rL_law_767 rfl ?_
  refine st_iload rL_law_768 rfl ?_
  refine st_c rL_law_769 ?_
  first | with_reducible refine st_iaddN rL_law_770 ?_ | refine st_iadd rL_law_770 ?_
  refine st_sldN rL_law_771 (by first | (rw [hlen]; omega) | (rw [hlen1]; omega)) (by first | (rw [hlen]; omega) | (rw [hlen1]; omega)) ?_
  first | refine st_aload rL_law_772 rfl ?_ | refine st_xload rL_law_772 rfl ?_
  refine st_iload rL_law_773 rfl ?_
  refine st_c rL_law_774 ?_
  first | with_reducible refine st_iaddN rL_law_775 ?_ | refine st_iadd rL_law_775 ?_
  refine st_sldN rL_law_776 (by first | (rw [hlen]; omega) | (rw [hlen1]; omega)) (by first | (rw [hlen]; omega) | (rw [hlen1]; omega)) ?_
  refine cV3i rL_law_777 (by first | assumption | decide | exact ⟨by decide, rfl, by decide⟩) (V_mono (Ki_mono (fun x1 σ1 hx1 => ?_)) (b_rate hC hM hO hG)) rfl (by decide)
  obtain ⟨I1, J1, Z1⟩ := σ1
  obtain ⟨e1, hx1⟩ := hx1
  have e1 : ∀ a, 103 ≤ a → I1 a = I a := e1
  have hlen1 : vLen (I1, J1, Z1) = L := by
    show (I1 1001 0).toNatClampNeg = L
    rw [e1 1001 (by decide)]; exact hlen
  first | refine st_aload rL_law_780 rfl ?_ | refine st_xload rL_law_780 rfl ?_
  first | refine st_aload rL_law_781 rfl ?_ | refine st_xload rL_law_781 rfl ?_
  refine st_iload rL_law_782 rfl ?_
  refine st_c rL_law_783 ?_
  first | with_reducible refine st_iaddN rL_law_784 ?_ | refine st_iadd rL_law_784 ?_
  refine st_sldN rL_law_785 (by first | (rw [hlen]; omega) | (rw [hlen1]; omega)) (by first | (rw [hlen]; omega) | (rw [hlen1]; omega)) ?_
  refine st_top (congrFun (e1 1000 (by decide)) _) ?_
  first | refine st_aload rL_law_786 rfl ?_ | refine st_xload rL_law_786 rfl ?_
  refine st_iload rL_law_787 rfl ?_
  refine st_c rL_law_788 ?_
  first | with_reducible refine st_iaddN rL_law_789 ?_ | refine st_iadd rL_law_789 ?_
  refine st_sldN rL_law_790 (by first | (rw [hlen]; omega) | (rw [hlen1]; omega)) (by first | (rw [hlen]; omega) | (rw [hlen1]; omega)) ?_
  refine st_top (congrFun (e1 1000 (by decide)) _) ?_
  refine cV3i rL_law_791 (by first | assumption | decide | exact ⟨by decide, rfl, by decide⟩) (V_mono (Ki_mono (fun y1 τ1 hy1 => ?_)) hx1) rfl (by decide)
  obtain ⟨e9, hg⟩ := hy1
  subst e9
  exact st_icmp_eq rL_law_794 (fun _ => hg) (fun h => absurd rfl h)
set_option maxHeartbeats 4000000 in
set_option maxRecDepth 100000 in
theorem l_keep (hlen : vLen (I, J, vRR ρ) = L) (hL : L ≤ 256) (hi : i + 3 < L) (hC : InvC I J ρ A T m no) (hM : InvM I J A T) (hO : OkA A m no) (hG : GG (lG i K) I) : V 8 123 123 mL_law 799 [vX, .ref 0, .ref 103, .int (nI i)] [] (I, J, vRR ρ) K := by
  first | refine st_aload rL_law_799 rfl ?_ | refine st_xload rL_law_799 rfl ?_
  first | refine st_aload rL_law_800 rfl ?_ | refine st_xload rL_law_800 rfl ?_
  refine st_iload rL_law_801 rfl ?_
  refine st_c rL_law_802 ?_
  first | with_reducible refine st_iaddN rL_law_803 ?_ | refine st_iadd rL_law_803 ?_
  refine st_sldN rL_law_804 (by first | (rw [hlen]; omega) | (rw [hlen1]; omega)) (by first | (rw [hlen]; omega) | (rw [hlen1]; omega)) ?_
  refine cV2i rL_law_805 (by first | assumption | decide | exact ⟨by decide, rfl, by decide⟩) (V_mono (Ki_mono (fun x1 σ1 hx1 => ?_)) (b_keep hC hM hO hG)) rfl (by decide)
  obtain ⟨I1, J1, Z1⟩ := σ1
  obtain ⟨e1, hx1⟩ := hx1
  have e1 : ∀ a, 103 ≤ a → I1 a = I a := e1
  have hlen1 : vLen (I1, J1, Z1) = L := by
    show (I1 1001 0).toNatClampNeg = L
    rw [e1 1001 (by decide)]; exact hlen
  first | refine st_aload rL_law_808 rfl ?_ | refine st_xload rL_law_808 rfl ?_
  first | refine st_aload rL_law_809 rfl ?_ | refine st_xload rL_law_809 rfl ?_
  refine st_iload rL_law_810 rfl ?_
  refine st_c rL_law_811 ?_
  first | with_reducible refine st_iaddN rL_law_812 ?_ | refine st_iadd rL_law_812 ?_
  refine st_sldN rL_law_813 (by first | (rw [hlen]; omega) | (rw [hlen1]; omega)) (by first | (rw [hlen]; omega) | (rw [hlen1]; omega)) ?_
  refine st_top (congrFun (e1 1000 (by decide)) _) ?_
  refine cV2i rL_law_814 (by first | assumption | decide | exact ⟨by decide, rfl, by decide⟩) (V_mono (Ki_mono (fun y1 τ1 hy1 => ?_)) hx1) rfl (by decide)
  obtain ⟨e9, hg⟩ := hy1
  subst e9
  exact st_icmp_eq rL_law_817 (fun _ => hg) (fun h => absurd rfl h)
set_option maxHeartbeats 4000000 in
set_option maxRecDepth 100000 in
theorem l_back (hlen : vLen (I, J, vRR ρ) = L) (hL : L ≤ 256) (hi : i + 3 < L) (hC : InvC I J ρ A T m no) (hM : InvM I J A T) (hO : OkA A m no) (hG : GG (lG i K) I) : V 8 123 123 mL_law 822 [vX, .ref 0, .ref 103, .int (nI i)] [] (I, J, vRR ρ) K := by
  first | refine st_aload rL_law_822 rfl ?_ | refine st_xload rL_law_822 rfl ?_
  first | refine st_aload rL_law_823 rfl ?_ | refine st_xload rL_law_823 rfl ?_
  refine st_iload rL_law_824 rfl ?_
  refine st_c rL_law_825 ?_
  first | with_reducible refine st_iaddN rL_law_826 ?_ | refine st_iadd rL_law_826 ?_
  refine st_sldN rL_law_827 (by first | (rw [hlen]; omega) | (rw [hlen1]; omega)) (by first | (rw [hlen]; omega) | (rw [hlen1]; omega)) ?_
  refine cV2i rL_law_828 (by first | assumption | decide | exact ⟨by decide, rfl, by decide⟩) (V_mono (Ki_mono (fun x1 σ1 hx1 => ?_)) (b_back hC hM hO hG)) rfl (by decide)
  obtain ⟨I1, J1, Z1⟩ := σ1
  obtain ⟨e1, hx1⟩ := hx1
  have e1 : ∀ a, 103 ≤ a → I1 a = I a := e1
  have hlen1 : vLen (I1, J1, Z1) = L := by
    show (I1 1001 0).toNatClampNeg = L
    rw [e1 1001 (by decide)]; exact hlen
  first | refine st_aload rL_law_831 rfl ?_ | refine st_xload rL_law_831 rfl ?_
  first | refine st_aload rL_law_832 rfl ?_ | refine st_xload rL_law_832 rfl ?_
  refine st_iload rL_law_833 rfl ?_
  refine st_c rL_law_834 ?_
  first | with_reducible refine st_iaddN rL_law_835 ?_ | refine st_iadd rL_law_835 ?_
  refine st_sldN rL_law_836 (by first | (rw [hlen]; omega) | (rw [hlen1]; omega)) (by first | (rw [hlen]; omega) | (rw [hlen1]; omega)) ?_
  refine st_top (congrFun (e1 1000 (by decide)) _) ?_
  refine cV2i rL_law_837 (by first | assumption | decide | exact ⟨by decide, rfl, by decide⟩) (V_mono (Ki_mono (fun y1 τ1 hy1 => ?_)) hx1) rfl (by decide)
  obtain ⟨e9, hg⟩ := hy1
  subst e9
  exact st_icmp_eq rL_law_840 (fun _ => hg) (fun h => absurd rfl h)
set_option maxHeartbeats 4000000 in
set_option maxRecDepth 100000 in
theorem l_count (hlen : vLen (I, J, vRR ρ) = L) (hL : L ≤ 256) (hi : i + 3 < L) (hC : InvC I J ρ A T m no) (hM : InvM I J A T) (hO : OkA A m no) (hG : GG (lG i K) I) : V 8 123 123 mL_law 845 [vX, .ref 0, .ref 103, .int (nI i)] [] (I, J, vRR ρ) K := by
  first | refine st_aload rL_law_845 rfl ?_ | refine st_xload rL_law_845 rfl ?_
  first | refine st_aload rL_law_846 rfl ?_ | refine st_xload rL_law_846 rfl ?_
  refine st_iload rL_law_847 rfl ?_
  refine st_c rL_law_848 ?_
  first | with_reducible refine st_iaddN rL_law_849 ?_ | refine st_iadd rL_law_849 ?_
  refine st_sldN rL_law_850 (by first | (rw [hlen]; omega) | (rw [hlen1]; omega)) (by first | (rw [hlen]; omega) | (rw [hlen1]; omega)) ?_
  refine cV2i rL_law_851 (by first | assumption | decide | exact ⟨by decide, rfl, by decide⟩) (V_mono (Ki_mono (fun x1 σ1 hx1 => ?_)) (b_count hC hM hO hG)) rfl (by decide)
  obtain ⟨I1, J1, Z1⟩ := σ1
  obtain ⟨e1, hx1⟩ := hx1
  have e1 : ∀ a, 103 ≤ a → I1 a = I a := e1
  have hlen1 : vLen (I1, J1, Z1) = L := by
    show (I1 1001 0).toNatClampNeg = L
    rw [e1 1001 (by decide)]; exact hlen
  first | refine st_aload rL_law_854 rfl ?_ | refine st_xload rL_law_854 rfl ?_
  first | refine st_aload rL_law_855 rfl ?_ | refine st_xload rL_law_855 rfl ?_
  refine st_iload rL_law_856 rfl ?_
  refine st_c rL_law_857 ?_
  first | with_reducible refine st_iaddN rL_law_858 ?_ | refine st_iadd rL_law_858 ?_
  refine st_sldN rL_law_859 (by first | (rw [hlen]; omega) | (rw [hlen1]; omega)) (by first | (rw [hlen]; omega) | (rw [hlen1]; omega)) ?_
  refine st_top (congrFun (e1 1000 (by decide)) _) ?_
  refine cV2i rL_law_860 (by first | assumption | decide | exact ⟨by decide, rfl, by decide⟩) (V_mono (Ki_mono (fun y1 τ1 hy1 => ?_)) hx1) rfl (by decide)
  obtain ⟨e9, hg⟩ := hy1
  subst e9
  exact st_icmp_eq rL_law_863 (fun _ => hg) (fun h => absurd rfl h)
set_option maxHeartbeats 4000000 in
set_option maxRecDepth 100000 in
theorem l_trace (hlen : vLen (I, J, vRR ρ) = L) (hL : L ≤ 256) (hi : i + 3 < L) (hC : InvC I J ρ A T m no) (hM : InvM I J A T) (hO : OkA A m no) (hG : GG (lG i K) I) : V 8 123 123 mL_law 868 [vX, .ref 0, .ref 103, .int (nI i)] [] (I, J, vRR ρ) K := by
  first | refine st_aload rL_law_868 rfl ?_ | refine st_xload rL_law_868 rfl ?_
  refine cV1l rL_law_869 (by first | assumption | decide | exact ⟨by decide, rfl, by decide⟩) (V_mono (Kl_mono (fun x1 σ1 hx1 => ?_)) (b_trace hC hM hO hG)) rfl (by decide)
  obtain ⟨I1, J1, Z1⟩ := σ1
  obtain ⟨e1, hx1⟩ := hx1
  have e1 : ∀ a, 103 ≤ a → I1 a = I a := e1
  have hlen1 : vLen (I1, J1, Z1) = L := by
    show (I1 1001 0).toNatClampNeg = L
    rw [e1 1001 (by decide)]; exact hlen
  first | refine st_aload rL_law_872 rfl ?_ | refine st_xload rL_law_872 rfl ?_
  refine cV1l rL_law_873 (by first | assumption | decide | exact ⟨by decide, rfl, by decide⟩) (V_mono (Kl_mono (fun y1 τ1 hy1 => ?_)) hx1) rfl (by decide)
  obtain ⟨e9, hg⟩ := hy1
  subst e9
  refine st_lcmp rL_law_876 ?_
  exact st_if_eq rL_law_877 (fun _ => hg) (fun h => absurd (cmp_0 _) h)
end P58
