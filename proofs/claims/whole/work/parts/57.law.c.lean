/-! the law's cases -/
def SCz (X : Cxz) (L : Nat) (xs : Nat → Int32) : Prop := match X with
  | (p, l, e, R, s, m, args, below, meth, c, cells, slots, Q, D, cT, ad, nL) => va_X (ad 98) L xs s s.heap ∧ ad 98 < s.heap.size ∧ ¬ AAz ad s.heap.size (ad 98)
def LQz (X : Cxz) : Prop := match X with
  | (p, l, e, R, s, m, args, below, meth, c, cells, slots, Q, D, cT, ad, nL) => R = room_1 ∧ args = #[Value.ref (ad 98)] ∧ Q = lw_Z below #[Value.ref (ad 98)] s ∧ cells ≤ 600000 ∧ slots ≤ 7302250 ∧ meth.sig.returnType = ret ∧ meth.locks = false ∧ ∀ k, k < 45 → s.heap.size ≤ ad k
section LAWR
variable {X : Cxz} {cc : ByteArray} {own : String} {d pc L : Nat} {xs : Nat → Int32} {lv st : List Value} {M : Mm}
theorem r_sld {i : Int32} (hSc : SCz X L xs) (h : Okz X cc own d) (hd : decode cc pc = .ok (.iaload, 1)) (j : Nat) (hi : i = nI j) (hL : L ≤ 320) (hj : j < L) (kk : Gz X (pc + 1) lv (.int (xs j) :: st) M) : Gz X pc lv (.int i :: .ref 98 :: st) M := by
  obtain ⟨p, l, e, R, s, m, args, below, meth, c, cells, slots, Q, D, cT, ad, nL⟩ := X
  intro H locs ls hl hP hD hS
  subst hi
  refine va_sld (rest := st.map (cvz ad)) h.1 h.2.1 hSc.1 hSc.2.1 hSc.2.2 hS (vp_in_nI hj (by omega)) hd ?_
  rw [nI_clamp (by omega)]
  exact kk H locs ls hl hP hD hS
theorem r_sclen (hSc : SCz X L xs) (h : Okz X cc own d) (hd : decode cc pc = .ok (.arraylength, 1)) (kk : Gz X (pc + 1) lv (.int (nI L) :: st) M) : Gz X pc lv (.ref 98 :: st) M := by
  obtain ⟨p, l, e, R, s, m, args, below, meth, c, cells, slots, Q, D, cT, ad, nL⟩ := X
  intro H locs ls hl hP hD hS
  exact va_slen (rest := st.map (cvz ad)) h.1 h.2.1 hSc.1 hSc.2.1 hSc.2.2 hS hd (kk H locs ls hl hP hD hS)
theorem r_lawret (hQ : LQz X) (h : Okz X cL_law own d) (hd : decode cL_law pc = .ok (.ireturn, 1)) : Gz X pc lv [.int 1] M := by
  obtain ⟨p, l, e, R, s, m, args, below, meth, c, cells, slots, Q, D, cT, ad, nL⟩ := X
  intro H locs ls hl hP hD hS
  obtain ⟨rfl, rfl, rfl, q4, q5, q6, q7, q8⟩ := hQ
  refine va_forget (fun q hq => ?_) (W.widen q4 q5 (lw_ret h.1 h.2.1 q6 q7 hd))
  rcases hS.2.2 q hq with ⟨k, hk, e⟩ | h
  · rw [e]; exact q8 k hk
  · exact h
end LAWR
theorem nI_k2 (j : Nat) : nI j + 2 = nI (j + 2) := nI_add j 2
theorem nI_k3 (j : Nat) : nI j + 3 = nI (j + 3) := nI_add j 3
theorem nI_k4 (j : Nat) : nI j + 4 = nI (j + 4) := nI_add j 4
theorem nI_k5 (j : Nat) : nI j + 5 = nI (j + 5) := nI_add j 5
set_option maxHeartbeats 2000000 in
theorem law_c0 {X : Cxz} (hO : Okz X cL_law RL 12) {L : Nat} {xs : Nat → Int32} (hSc : SCz X L xs) (hL3 : L ≤ 320) {j : Nat} (hj : j + 5 ≤ L) {M : Mm} {σ : Sta} (hC : RC M σ) (hD : RD M σ) (nxt : ∀ (M' : Mm) (σ' : Sta), RC M' σ' → RD M' σ' → Gz X 1286 [.ref 98, .ref 0, .ref 33, .int (nI j)] [] M') : Gz X 200 [.ref 98, .ref 0, .ref 33, .int (nI j)] [] M := by
  refine r_aload_n hO dL_law_200 rfl ?_
  refine r_aload_n hO dL_law_201 rfl ?_
  refine r_iload_n hO dL_law_202 rfl ?_
  refine r_iconst hO dL_law_203 ic_1 ?_
  refine r_iadd hO dL_law_204 ?_
  refine r_sld hSc hO dL_law_205 (j + 1) (nI_1 j) hL3 (by omega) ?_
  refine r_callV hO dL_law_206 kRL_13 miX4_feed (zX4_feed _ hC) ⟨Nat.le_of_ble_eq_true rfl, Nat.le_of_ble_eq_true rfl, rfl, Nat.le_of_ble_eq_true rfl⟩ rfl rfl (fun o1 M1 hpo => ?_)
  obtain ⟨rfl, C1, E1⟩ := hpo
  refine r_aload_n hO dL_law_209 rfl ?_
  refine r_aload_n hO dL_law_210 rfl ?_
  refine r_iload_n hO dL_law_211 rfl ?_
  refine r_iconst hO dL_law_212 ic_1 ?_
  refine r_iadd hO dL_law_213 ?_
  refine r_sld hSc hO dL_law_214 (j + 1) (nI_1 j) hL3 (by omega) ?_
  refine r_callV hO dL_law_215 kRL_17 miX5_feed (zX5_feed _ (hD.eqv E1)) ⟨Nat.le_of_ble_eq_true rfl, Nat.le_of_ble_eq_true rfl, rfl, Nat.le_of_ble_eq_true rfl⟩ rfl rfl (fun o2 M2 hpo => ?_)
  obtain ⟨rfl, D2, E2⟩ := hpo
  refine r_icmp_eq 1286 hO dL_law_218 (by decide) (fun _ => ?_) (fun z => absurd rfl z)
  exact nxt M2 _ (C1.eqv E2) D2
set_option maxHeartbeats 2000000 in
theorem law_c1 {X : Cxz} (hO : Okz X cL_law RL 12) {L : Nat} {xs : Nat → Int32} (hSc : SCz X L xs) (hL3 : L ≤ 320) {j : Nat} (hj : j + 5 ≤ L) {M : Mm} {σ : Sta} (hC : RC M σ) (hD : RD M σ) (nxt : ∀ (M' : Mm) (σ' : Sta), RC M' σ' → RD M' σ' → Gz X 1286 [.ref 98, .ref 0, .ref 33, .int (nI j)] [] M') : Gz X 223 [.ref 98, .ref 0, .ref 33, .int (nI j)] [] M := by
  refine r_aload_n hO dL_law_223 rfl ?_
  refine r_aload_n hO dL_law_224 rfl ?_
  refine r_iload_n hO dL_law_225 rfl ?_
  refine r_iconst hO dL_law_226 ic_1 ?_
  refine r_iadd hO dL_law_227 ?_
  refine r_sld hSc hO dL_law_228 (j + 1) (nI_1 j) hL3 (by omega) ?_
  refine r_callV hO dL_law_229 kRL_18 miX4_end (zX4_end _ hC) ⟨Nat.le_of_ble_eq_true rfl, Nat.le_of_ble_eq_true rfl, rfl, Nat.le_of_ble_eq_true rfl⟩ rfl rfl (fun o1 M1 hpo => ?_)
  obtain ⟨rfl, C1, E1⟩ := hpo
  refine r_aload_n hO dL_law_232 rfl ?_
  refine r_aload_n hO dL_law_233 rfl ?_
  refine r_iload_n hO dL_law_234 rfl ?_
  refine r_iconst hO dL_law_235 ic_1 ?_
  refine r_iadd hO dL_law_236 ?_
  refine r_sld hSc hO dL_law_237 (j + 1) (nI_1 j) hL3 (by omega) ?_
  refine r_callV hO dL_law_238 kRL_21 miX5_end (zX5_end _ (hD.eqv E1)) ⟨Nat.le_of_ble_eq_true rfl, Nat.le_of_ble_eq_true rfl, rfl, Nat.le_of_ble_eq_true rfl⟩ rfl rfl (fun o2 M2 hpo => ?_)
  obtain ⟨rfl, D2, E2⟩ := hpo
  refine r_icmp_eq 1286 hO dL_law_241 (by decide) (fun _ => ?_) (fun z => absurd rfl z)
  exact nxt M2 _ (C1.eqv E2) D2
set_option maxHeartbeats 2000000 in
theorem law_c2 {X : Cxz} (hO : Okz X cL_law RL 12) {L : Nat} {xs : Nat → Int32} (hSc : SCz X L xs) (hL3 : L ≤ 320) {j : Nat} (hj : j + 5 ≤ L) {M : Mm} {σ : Sta} (hC : RC M σ) (hD : RD M σ) (nxt : ∀ (M' : Mm) (σ' : Sta), RC M' σ' → RD M' σ' → Gz X 1286 [.ref 98, .ref 0, .ref 33, .int (nI j)] [] M') : Gz X 246 [.ref 98, .ref 0, .ref 33, .int (nI j)] [] M := by
  refine r_aload_n hO dL_law_246 rfl ?_
  refine r_callV hO dL_law_247 kRL_22 miX4_text (zX4_text _ hC) ⟨Nat.le_of_ble_eq_true rfl, Nat.le_of_ble_eq_true rfl, rfl, Nat.le_of_ble_eq_true rfl⟩ rfl rfl (fun o1 M1 hpo => ?_)
  obtain ⟨rfl, C1, E1⟩ := hpo
  refine r_aload_n hO dL_law_250 rfl ?_
  refine r_callV hO dL_law_251 kRL_26 miX5_text (zX5_text _ (hD.eqv E1)) ⟨Nat.le_of_ble_eq_true rfl, Nat.le_of_ble_eq_true rfl, rfl, Nat.le_of_ble_eq_true rfl⟩ rfl rfl (fun o2 M2 hpo => ?_)
  obtain ⟨rfl, D2, E2⟩ := hpo
  refine r_icmp_eq 1286 hO dL_law_254 (by decide) (fun _ => ?_) (fun z => absurd rfl z)
  exact nxt M2 _ (C1.eqv E2) D2
set_option maxHeartbeats 2000000 in
theorem law_c3 {X : Cxz} (hO : Okz X cL_law RL 12) {L : Nat} {xs : Nat → Int32} (hSc : SCz X L xs) (hL3 : L ≤ 320) {j : Nat} (hj : j + 5 ≤ L) {M : Mm} {σ : Sta} (hC : RC M σ) (hD : RD M σ) (nxt : ∀ (M' : Mm) (σ' : Sta), RC M' σ' → RD M' σ' → Gz X 1286 [.ref 98, .ref 0, .ref 33, .int (nI j)] [] M') : Gz X 259 [.ref 98, .ref 0, .ref 33, .int (nI j)] [] M := by
  refine r_aload_n hO dL_law_259 rfl ?_
  refine r_callV hO dL_law_260 kRL_27 miX4_fault (zX4_fault _ hC) ⟨Nat.le_of_ble_eq_true rfl, Nat.le_of_ble_eq_true rfl, rfl, Nat.le_of_ble_eq_true rfl⟩ rfl rfl (fun o1 M1 hpo => ?_)
  obtain ⟨rfl, C1, E1⟩ := hpo
  refine r_aload_n hO dL_law_263 rfl ?_
  refine r_callV hO dL_law_264 kRL_30 miX5_fault (zX5_fault _ (hD.eqv E1)) ⟨Nat.le_of_ble_eq_true rfl, Nat.le_of_ble_eq_true rfl, rfl, Nat.le_of_ble_eq_true rfl⟩ rfl rfl (fun o2 M2 hpo => ?_)
  obtain ⟨rfl, D2, E2⟩ := hpo
  refine r_icmp_eq 1286 hO dL_law_267 (by decide) (fun _ => ?_) (fun z => absurd rfl z)
  exact nxt M2 _ (C1.eqv E2) D2
set_option maxHeartbeats 2000000 in
theorem law_c4 {X : Cxz} (hO : Okz X cL_law RL 12) {L : Nat} {xs : Nat → Int32} (hSc : SCz X L xs) (hL3 : L ≤ 320) {j : Nat} (hj : j + 5 ≤ L) {M : Mm} {σ : Sta} (hC : RC M σ) (hD : RD M σ) (nxt : ∀ (M' : Mm) (σ' : Sta), RC M' σ' → RD M' σ' → Gz X 1286 [.ref 98, .ref 0, .ref 33, .int (nI j)] [] M') : Gz X 272 [.ref 98, .ref 0, .ref 33, .int (nI j)] [] M := by
  refine r_aload_n hO dL_law_272 rfl ?_
  refine r_aload_n hO dL_law_273 rfl ?_
  refine r_iload_n hO dL_law_274 rfl ?_
  refine r_iconst hO dL_law_275 ic_1 ?_
  refine r_iadd hO dL_law_276 ?_
  refine r_sld hSc hO dL_law_277 (j + 1) (nI_1 j) hL3 (by omega) ?_
  refine r_callV hO dL_law_278 kRL_31 miX4_rule (zX4_rule _ hC) ⟨Nat.le_of_ble_eq_true rfl, Nat.le_of_ble_eq_true rfl, rfl, Nat.le_of_ble_eq_true rfl⟩ rfl rfl (fun o1 M1 hpo => ?_)
  obtain ⟨rfl, C1, E1⟩ := hpo
  refine r_aload_n hO dL_law_281 rfl ?_
  refine r_aload_n hO dL_law_282 rfl ?_
  refine r_iload_n hO dL_law_283 rfl ?_
  refine r_iconst hO dL_law_284 ic_1 ?_
  refine r_iadd hO dL_law_285 ?_
  refine r_sld hSc hO dL_law_286 (j + 1) (nI_1 j) hL3 (by omega) ?_
  refine r_callV hO dL_law_287 kRL_34 miX5_rule (zX5_rule _ (hD.eqv E1)) ⟨Nat.le_of_ble_eq_true rfl, Nat.le_of_ble_eq_true rfl, rfl, Nat.le_of_ble_eq_true rfl⟩ rfl rfl (fun o2 M2 hpo => ?_)
  obtain ⟨rfl, D2, E2⟩ := hpo
  refine r_icmp_eq 1286 hO dL_law_290 (by decide) (fun _ => ?_) (fun z => absurd rfl z)
  exact nxt M2 _ (C1.eqv E2) D2
set_option maxHeartbeats 2000000 in
theorem law_c5 {X : Cxz} (hO : Okz X cL_law RL 12) {L : Nat} {xs : Nat → Int32} (hSc : SCz X L xs) (hL3 : L ≤ 320) {j : Nat} (hj : j + 5 ≤ L) {M : Mm} {σ : Sta} (hC : RC M σ) (hD : RD M σ) (nxt : ∀ (M' : Mm) (σ' : Sta), RC M' σ' → RD M' σ' → Gz X 1286 [.ref 98, .ref 0, .ref 33, .int (nI j)] [] M') : Gz X 295 [.ref 98, .ref 0, .ref 33, .int (nI j)] [] M := by
  refine r_aload_n hO dL_law_295 rfl ?_
  refine r_aload_n hO dL_law_296 rfl ?_
  refine r_iload_n hO dL_law_297 rfl ?_
  refine r_iconst hO dL_law_298 ic_1 ?_
  refine r_iadd hO dL_law_299 ?_
  refine r_sld hSc hO dL_law_300 (j + 1) (nI_1 j) hL3 (by omega) ?_
  refine r_aload_n hO dL_law_301 rfl ?_
  refine r_iload_n hO dL_law_302 rfl ?_
  refine r_iconst hO dL_law_303 ic_2 ?_
  refine r_iadd hO dL_law_304 ?_
  refine r_sld hSc hO dL_law_305 (j + 2) (nI_k2 j) hL3 (by omega) ?_
  refine r_callV hO dL_law_306 kRL_35 miX4_member (zX4_member _ hC) ⟨Nat.le_of_ble_eq_true rfl, Nat.le_of_ble_eq_true rfl, rfl, Nat.le_of_ble_eq_true rfl⟩ rfl rfl (fun o1 M1 hpo => ?_)
  obtain ⟨rfl, C1, E1⟩ := hpo
  refine r_aload_n hO dL_law_309 rfl ?_
  refine r_aload_n hO dL_law_310 rfl ?_
  refine r_iload_n hO dL_law_311 rfl ?_
  refine r_iconst hO dL_law_312 ic_1 ?_
  refine r_iadd hO dL_law_313 ?_
  refine r_sld hSc hO dL_law_314 (j + 1) (nI_1 j) hL3 (by omega) ?_
  refine r_aload_n hO dL_law_315 rfl ?_
  refine r_iload_n hO dL_law_316 rfl ?_
  refine r_iconst hO dL_law_317 ic_2 ?_
  refine r_iadd hO dL_law_318 ?_
  refine r_sld hSc hO dL_law_319 (j + 2) (nI_k2 j) hL3 (by omega) ?_
  refine r_callV hO dL_law_320 kRL_39 miX5_member (zX5_member _ (hD.eqv E1)) ⟨Nat.le_of_ble_eq_true rfl, Nat.le_of_ble_eq_true rfl, rfl, Nat.le_of_ble_eq_true rfl⟩ rfl rfl (fun o2 M2 hpo => ?_)
  obtain ⟨rfl, D2, E2⟩ := hpo
  refine r_icmp_eq 1286 hO dL_law_323 (by decide) (fun _ => ?_) (fun z => absurd rfl z)
  exact nxt M2 _ (C1.eqv E2) D2
set_option maxHeartbeats 2000000 in
theorem law_c6 {X : Cxz} (hO : Okz X cL_law RL 12) {L : Nat} {xs : Nat → Int32} (hSc : SCz X L xs) (hL3 : L ≤ 320) {j : Nat} (hj : j + 5 ≤ L) {M : Mm} {σ : Sta} (hC : RC M σ) (hD : RD M σ) (nxt : ∀ (M' : Mm) (σ' : Sta), RC M' σ' → RD M' σ' → Gz X 1286 [.ref 98, .ref 0, .ref 33, .int (nI j)] [] M') : Gz X 328 [.ref 98, .ref 0, .ref 33, .int (nI j)] [] M := by
  refine r_aload_n hO dL_law_328 rfl ?_
  refine r_aload_n hO dL_law_329 rfl ?_
  refine r_iload_n hO dL_law_330 rfl ?_
  refine r_iconst hO dL_law_331 ic_1 ?_
  refine r_iadd hO dL_law_332 ?_
  refine r_sld hSc hO dL_law_333 (j + 1) (nI_1 j) hL3 (by omega) ?_
  refine r_aload_n hO dL_law_334 rfl ?_
  refine r_iload_n hO dL_law_335 rfl ?_
  refine r_iconst hO dL_law_336 ic_2 ?_
  refine r_iadd hO dL_law_337 ?_
  refine r_sld hSc hO dL_law_338 (j + 2) (nI_k2 j) hL3 (by omega) ?_
  refine r_callV hO dL_law_339 kRL_40 miX4_house (zX4_house _ hC) ⟨Nat.le_of_ble_eq_true rfl, Nat.le_of_ble_eq_true rfl, rfl, Nat.le_of_ble_eq_true rfl⟩ rfl rfl (fun o1 M1 hpo => ?_)
  obtain ⟨rfl, C1, E1⟩ := hpo
  refine r_aload_n hO dL_law_342 rfl ?_
  refine r_aload_n hO dL_law_343 rfl ?_
  refine r_iload_n hO dL_law_344 rfl ?_
  refine r_iconst hO dL_law_345 ic_1 ?_
  refine r_iadd hO dL_law_346 ?_
  refine r_sld hSc hO dL_law_347 (j + 1) (nI_1 j) hL3 (by omega) ?_
  refine r_aload_n hO dL_law_348 rfl ?_
  refine r_iload_n hO dL_law_349 rfl ?_
  refine r_iconst hO dL_law_350 ic_2 ?_
  refine r_iadd hO dL_law_351 ?_
  refine r_sld hSc hO dL_law_352 (j + 2) (nI_k2 j) hL3 (by omega) ?_
  refine r_callV hO dL_law_353 kRL_43 miX5_house (zX5_house _ (hD.eqv E1)) ⟨Nat.le_of_ble_eq_true rfl, Nat.le_of_ble_eq_true rfl, rfl, Nat.le_of_ble_eq_true rfl⟩ rfl rfl (fun o2 M2 hpo => ?_)
  obtain ⟨rfl, D2, E2⟩ := hpo
  refine r_icmp_eq 1286 hO dL_law_356 (by decide) (fun _ => ?_) (fun z => absurd rfl z)
  exact nxt M2 _ (C1.eqv E2) D2
set_option maxHeartbeats 2000000 in
theorem law_c7 {X : Cxz} (hO : Okz X cL_law RL 12) {L : Nat} {xs : Nat → Int32} (hSc : SCz X L xs) (hL3 : L ≤ 320) {j : Nat} (hj : j + 5 ≤ L) {M : Mm} {σ : Sta} (hC : RC M σ) (hD : RD M σ) (nxt : ∀ (M' : Mm) (σ' : Sta), RC M' σ' → RD M' σ' → Gz X 1286 [.ref 98, .ref 0, .ref 33, .int (nI j)] [] M') : Gz X 361 [.ref 98, .ref 0, .ref 33, .int (nI j)] [] M := by
  refine r_aload_n hO dL_law_361 rfl ?_
  refine r_aload_n hO dL_law_362 rfl ?_
  refine r_iload_n hO dL_law_363 rfl ?_
  refine r_iconst hO dL_law_364 ic_1 ?_
  refine r_iadd hO dL_law_365 ?_
  refine r_sld hSc hO dL_law_366 (j + 1) (nI_1 j) hL3 (by omega) ?_
  refine r_aload_n hO dL_law_367 rfl ?_
  refine r_iload_n hO dL_law_368 rfl ?_
  refine r_iconst hO dL_law_369 ic_2 ?_
  refine r_iadd hO dL_law_370 ?_
  refine r_sld hSc hO dL_law_371 (j + 2) (nI_k2 j) hL3 (by omega) ?_
  refine r_aload_n hO dL_law_372 rfl ?_
  refine r_iload_n hO dL_law_373 rfl ?_
  refine r_iconst hO dL_law_374 ic_3 ?_
  refine r_iadd hO dL_law_375 ?_
  refine r_sld hSc hO dL_law_376 (j + 3) (nI_k3 j) hL3 (by omega) ?_
  refine r_callV hO dL_law_377 kRL_44 miX4_alter (zX4_alter _ hC) ⟨Nat.le_of_ble_eq_true rfl, Nat.le_of_ble_eq_true rfl, rfl, Nat.le_of_ble_eq_true rfl⟩ rfl rfl (fun o1 M1 hpo => ?_)
  obtain ⟨rfl, C1, E1⟩ := hpo
  refine r_aload_n hO dL_law_380 rfl ?_
  refine r_aload_n hO dL_law_381 rfl ?_
  refine r_iload_n hO dL_law_382 rfl ?_
  refine r_iconst hO dL_law_383 ic_1 ?_
  refine r_iadd hO dL_law_384 ?_
  refine r_sld hSc hO dL_law_385 (j + 1) (nI_1 j) hL3 (by omega) ?_
  refine r_aload_n hO dL_law_386 rfl ?_
  refine r_iload_n hO dL_law_387 rfl ?_
  refine r_iconst hO dL_law_388 ic_2 ?_
  refine r_iadd hO dL_law_389 ?_
  refine r_sld hSc hO dL_law_390 (j + 2) (nI_k2 j) hL3 (by omega) ?_
  refine r_aload_n hO dL_law_391 rfl ?_
  refine r_iload_n hO dL_law_392 rfl ?_
  refine r_iconst hO dL_law_393 ic_3 ?_
  refine r_iadd hO dL_law_394 ?_
  refine r_sld hSc hO dL_law_395 (j + 3) (nI_k3 j) hL3 (by omega) ?_
  refine r_callV hO dL_law_396 kRL_48 miX5_alter (zX5_alter _ (hD.eqv E1)) ⟨Nat.le_of_ble_eq_true rfl, Nat.le_of_ble_eq_true rfl, rfl, Nat.le_of_ble_eq_true rfl⟩ rfl rfl (fun o2 M2 hpo => ?_)
  obtain ⟨rfl, D2, E2⟩ := hpo
  refine r_icmp_eq 1286 hO dL_law_399 (by decide) (fun _ => ?_) (fun z => absurd rfl z)
  exact nxt M2 _ (C1.eqv E2) D2
set_option maxHeartbeats 2000000 in
theorem law_c8 {X : Cxz} (hO : Okz X cL_law RL 12) {L : Nat} {xs : Nat → Int32} (hSc : SCz X L xs) (hL3 : L ≤ 320) {j : Nat} (hj : j + 5 ≤ L) {M : Mm} {σ : Sta} (hC : RC M σ) (hD : RD M σ) (nxt : ∀ (M' : Mm) (σ' : Sta), RC M' σ' → RD M' σ' → Gz X 1286 [.ref 98, .ref 0, .ref 33, .int (nI j)] [] M') : Gz X 404 [.ref 98, .ref 0, .ref 33, .int (nI j)] [] M := by
  refine r_aload_n hO dL_law_404 rfl ?_
  refine r_aload_n hO dL_law_405 rfl ?_
  refine r_iload_n hO dL_law_406 rfl ?_
  refine r_iconst hO dL_law_407 ic_1 ?_
  refine r_iadd hO dL_law_408 ?_
  refine r_sld hSc hO dL_law_409 (j + 1) (nI_1 j) hL3 (by omega) ?_
  refine r_callV hO dL_law_410 kRL_49 miX4_word (zX4_word _ hC) ⟨Nat.le_of_ble_eq_true rfl, Nat.le_of_ble_eq_true rfl, rfl, Nat.le_of_ble_eq_true rfl⟩ rfl rfl (fun o1 M1 hpo => ?_)
  obtain ⟨rfl, C1, E1⟩ := hpo
  refine r_aload_n hO dL_law_413 rfl ?_
  refine r_aload_n hO dL_law_414 rfl ?_
  refine r_iload_n hO dL_law_415 rfl ?_
  refine r_iconst hO dL_law_416 ic_1 ?_
  refine r_iadd hO dL_law_417 ?_
  refine r_sld hSc hO dL_law_418 (j + 1) (nI_1 j) hL3 (by omega) ?_
  refine r_callV hO dL_law_419 kRL_52 miX5_word (zX5_word _ (hD.eqv E1)) ⟨Nat.le_of_ble_eq_true rfl, Nat.le_of_ble_eq_true rfl, rfl, Nat.le_of_ble_eq_true rfl⟩ rfl rfl (fun o2 M2 hpo => ?_)
  obtain ⟨rfl, D2, E2⟩ := hpo
  refine r_icmp_eq 1286 hO dL_law_422 (by decide) (fun _ => ?_) (fun z => absurd rfl z)
  exact nxt M2 _ (C1.eqv E2) D2
set_option maxHeartbeats 2000000 in
theorem law_c9 {X : Cxz} (hO : Okz X cL_law RL 12) {L : Nat} {xs : Nat → Int32} (hSc : SCz X L xs) (hL3 : L ≤ 320) {j : Nat} (hj : j + 5 ≤ L) {M : Mm} {σ : Sta} (hC : RC M σ) (hD : RD M σ) (nxt : ∀ (M' : Mm) (σ' : Sta), RC M' σ' → RD M' σ' → Gz X 1286 [.ref 98, .ref 0, .ref 33, .int (nI j)] [] M') : Gz X 427 [.ref 98, .ref 0, .ref 33, .int (nI j)] [] M := by
  refine r_aload_n hO dL_law_427 rfl ?_
  refine r_aload_n hO dL_law_428 rfl ?_
  refine r_iload_n hO dL_law_429 rfl ?_
  refine r_iconst hO dL_law_430 ic_1 ?_
  refine r_iadd hO dL_law_431 ?_
  refine r_sld hSc hO dL_law_432 (j + 1) (nI_1 j) hL3 (by omega) ?_
  refine r_aload_n hO dL_law_433 rfl ?_
  refine r_iload_n hO dL_law_434 rfl ?_
  refine r_iconst hO dL_law_435 ic_2 ?_
  refine r_iadd hO dL_law_436 ?_
  refine r_sld hSc hO dL_law_437 (j + 2) (nI_k2 j) hL3 (by omega) ?_
  refine r_callV hO dL_law_438 kRL_53 miX4_seat (zX4_seat _ hC) ⟨Nat.le_of_ble_eq_true rfl, Nat.le_of_ble_eq_true rfl, rfl, Nat.le_of_ble_eq_true rfl⟩ rfl rfl (fun o1 M1 hpo => ?_)
  obtain ⟨rfl, C1, E1⟩ := hpo
  refine r_aload_n hO dL_law_441 rfl ?_
  refine r_aload_n hO dL_law_442 rfl ?_
  refine r_iload_n hO dL_law_443 rfl ?_
  refine r_iconst hO dL_law_444 ic_1 ?_
  refine r_iadd hO dL_law_445 ?_
  refine r_sld hSc hO dL_law_446 (j + 1) (nI_1 j) hL3 (by omega) ?_
  refine r_aload_n hO dL_law_447 rfl ?_
  refine r_iload_n hO dL_law_448 rfl ?_
  refine r_iconst hO dL_law_449 ic_2 ?_
  refine r_iadd hO dL_law_450 ?_
  refine r_sld hSc hO dL_law_451 (j + 2) (nI_k2 j) hL3 (by omega) ?_
  refine r_callV hO dL_law_452 kRL_56 miX5_seat (zX5_seat _ (hD.eqv E1)) ⟨Nat.le_of_ble_eq_true rfl, Nat.le_of_ble_eq_true rfl, rfl, Nat.le_of_ble_eq_true rfl⟩ rfl rfl (fun o2 M2 hpo => ?_)
  obtain ⟨rfl, D2, E2⟩ := hpo
  refine r_icmp_eq 1286 hO dL_law_455 (by decide) (fun _ => ?_) (fun z => absurd rfl z)
  exact nxt M2 _ (C1.eqv E2) D2
set_option maxHeartbeats 2000000 in
theorem law_c10 {X : Cxz} (hO : Okz X cL_law RL 12) {L : Nat} {xs : Nat → Int32} (hSc : SCz X L xs) (hL3 : L ≤ 320) {j : Nat} (hj : j + 5 ≤ L) {M : Mm} {σ : Sta} (hC : RC M σ) (hD : RD M σ) (nxt : ∀ (M' : Mm) (σ' : Sta), RC M' σ' → RD M' σ' → Gz X 1286 [.ref 98, .ref 0, .ref 33, .int (nI j)] [] M') : Gz X 460 [.ref 98, .ref 0, .ref 33, .int (nI j)] [] M := by
  refine r_aload_n hO dL_law_460 rfl ?_
  refine r_aload_n hO dL_law_461 rfl ?_
  refine r_iload_n hO dL_law_462 rfl ?_
  refine r_iconst hO dL_law_463 ic_1 ?_
  refine r_iadd hO dL_law_464 ?_
  refine r_sld hSc hO dL_law_465 (j + 1) (nI_1 j) hL3 (by omega) ?_
  refine r_callV hO dL_law_466 kRL_57 miX4_clear (zX4_clear _ hC) ⟨Nat.le_of_ble_eq_true rfl, Nat.le_of_ble_eq_true rfl, rfl, Nat.le_of_ble_eq_true rfl⟩ rfl rfl (fun o1 M1 hpo => ?_)
  obtain ⟨rfl, C1, E1⟩ := hpo
  refine r_aload_n hO dL_law_469 rfl ?_
  refine r_aload_n hO dL_law_470 rfl ?_
  refine r_iload_n hO dL_law_471 rfl ?_
  refine r_iconst hO dL_law_472 ic_1 ?_
  refine r_iadd hO dL_law_473 ?_
  refine r_sld hSc hO dL_law_474 (j + 1) (nI_1 j) hL3 (by omega) ?_
  refine r_callV hO dL_law_475 kRL_60 miX5_clear (zX5_clear _ (hD.eqv E1)) ⟨Nat.le_of_ble_eq_true rfl, Nat.le_of_ble_eq_true rfl, rfl, Nat.le_of_ble_eq_true rfl⟩ rfl rfl (fun o2 M2 hpo => ?_)
  obtain ⟨rfl, D2, E2⟩ := hpo
  refine r_icmp_eq 1286 hO dL_law_478 (by decide) (fun _ => ?_) (fun z => absurd rfl z)
  exact nxt M2 _ (C1.eqv E2) D2
set_option maxHeartbeats 2000000 in
theorem law_c11 {X : Cxz} (hO : Okz X cL_law RL 12) {L : Nat} {xs : Nat → Int32} (hSc : SCz X L xs) (hL3 : L ≤ 320) {j : Nat} (hj : j + 5 ≤ L) {M : Mm} {σ : Sta} (hC : RC M σ) (hD : RD M σ) (nxt : ∀ (M' : Mm) (σ' : Sta), RC M' σ' → RD M' σ' → Gz X 1286 [.ref 98, .ref 0, .ref 33, .int (nI j)] [] M') : Gz X 483 [.ref 98, .ref 0, .ref 33, .int (nI j)] [] M := by
  refine r_aload_n hO dL_law_483 rfl ?_
  refine r_aload_n hO dL_law_484 rfl ?_
  refine r_iload_n hO dL_law_485 rfl ?_
  refine r_iconst hO dL_law_486 ic_1 ?_
  refine r_iadd hO dL_law_487 ?_
  refine r_sld hSc hO dL_law_488 (j + 1) (nI_1 j) hL3 (by omega) ?_
  refine r_callV hO dL_law_489 kRL_61 miX4_days (zX4_days _ hC) ⟨Nat.le_of_ble_eq_true rfl, Nat.le_of_ble_eq_true rfl, rfl, Nat.le_of_ble_eq_true rfl⟩ rfl rfl (fun o1 M1 hpo => ?_)
  obtain ⟨rfl, C1, E1⟩ := hpo
  refine r_aload_n hO dL_law_492 rfl ?_
  refine r_aload_n hO dL_law_493 rfl ?_
  refine r_iload_n hO dL_law_494 rfl ?_
  refine r_iconst hO dL_law_495 ic_1 ?_
  refine r_iadd hO dL_law_496 ?_
  refine r_sld hSc hO dL_law_497 (j + 1) (nI_1 j) hL3 (by omega) ?_
  refine r_callV hO dL_law_498 kRL_64 miX5_days (zX5_days _ (hD.eqv E1)) ⟨Nat.le_of_ble_eq_true rfl, Nat.le_of_ble_eq_true rfl, rfl, Nat.le_of_ble_eq_true rfl⟩ rfl rfl (fun o2 M2 hpo => ?_)
  obtain ⟨rfl, D2, E2⟩ := hpo
  refine r_icmp_eq 1286 hO dL_law_501 (by decide) (fun _ => ?_) (fun z => absurd rfl z)
  exact nxt M2 _ (C1.eqv E2) D2
set_option maxHeartbeats 2000000 in
theorem law_c12 {X : Cxz} (hO : Okz X cL_law RL 12) {L : Nat} {xs : Nat → Int32} (hSc : SCz X L xs) (hL3 : L ≤ 320) {j : Nat} (hj : j + 5 ≤ L) {M : Mm} {σ : Sta} (hC : RC M σ) (hD : RD M σ) (nxt : ∀ (M' : Mm) (σ' : Sta), RC M' σ' → RD M' σ' → Gz X 1286 [.ref 98, .ref 0, .ref 33, .int (nI j)] [] M') : Gz X 506 [.ref 98, .ref 0, .ref 33, .int (nI j)] [] M := by
  refine r_aload_n hO dL_law_506 rfl ?_
  refine r_aload_n hO dL_law_507 rfl ?_
  refine r_iload_n hO dL_law_508 rfl ?_
  refine r_iconst hO dL_law_509 ic_1 ?_
  refine r_iadd hO dL_law_510 ?_
  refine r_sld hSc hO dL_law_511 (j + 1) (nI_1 j) hL3 (by omega) ?_
  refine r_aload_n hO dL_law_512 rfl ?_
  refine r_iload_n hO dL_law_513 rfl ?_
  refine r_iconst hO dL_law_514 ic_2 ?_
  refine r_iadd hO dL_law_515 ?_
  refine r_sld hSc hO dL_law_516 (j + 2) (nI_k2 j) hL3 (by omega) ?_
  refine r_callV hO dL_law_517 kRL_65 miX4_runs (zX4_runs _ hC) ⟨Nat.le_of_ble_eq_true rfl, Nat.le_of_ble_eq_true rfl, rfl, Nat.le_of_ble_eq_true rfl⟩ rfl rfl (fun o1 M1 hpo => ?_)
  obtain ⟨rfl, C1, E1⟩ := hpo
  refine r_aload_n hO dL_law_520 rfl ?_
  refine r_aload_n hO dL_law_521 rfl ?_
  refine r_iload_n hO dL_law_522 rfl ?_
  refine r_iconst hO dL_law_523 ic_1 ?_
  refine r_iadd hO dL_law_524 ?_
  refine r_sld hSc hO dL_law_525 (j + 1) (nI_1 j) hL3 (by omega) ?_
  refine r_aload_n hO dL_law_526 rfl ?_
  refine r_iload_n hO dL_law_527 rfl ?_
  refine r_iconst hO dL_law_528 ic_2 ?_
  refine r_iadd hO dL_law_529 ?_
  refine r_sld hSc hO dL_law_530 (j + 2) (nI_k2 j) hL3 (by omega) ?_
  refine r_callV hO dL_law_531 kRL_68 miX5_runs (zX5_runs _ (hD.eqv E1)) ⟨Nat.le_of_ble_eq_true rfl, Nat.le_of_ble_eq_true rfl, rfl, Nat.le_of_ble_eq_true rfl⟩ rfl rfl (fun o2 M2 hpo => ?_)
  obtain ⟨rfl, D2, E2⟩ := hpo
  refine r_icmp_eq 1286 hO dL_law_534 (by decide) (fun _ => ?_) (fun z => absurd rfl z)
  exact nxt M2 _ (C1.eqv E2) D2
set_option maxHeartbeats 2000000 in
theorem law_c13 {X : Cxz} (hO : Okz X cL_law RL 12) {L : Nat} {xs : Nat → Int32} (hSc : SCz X L xs) (hL3 : L ≤ 320) {j : Nat} (hj : j + 5 ≤ L) {M : Mm} {σ : Sta} (hC : RC M σ) (hD : RD M σ) (nxt : ∀ (M' : Mm) (σ' : Sta), RC M' σ' → RD M' σ' → Gz X 1286 [.ref 98, .ref 0, .ref 33, .int (nI j)] [] M') : Gz X 539 [.ref 98, .ref 0, .ref 33, .int (nI j)] [] M := by
  refine r_aload_n hO dL_law_539 rfl ?_
  refine r_aload_n hO dL_law_540 rfl ?_
  refine r_iload_n hO dL_law_541 rfl ?_
  refine r_iconst hO dL_law_542 ic_1 ?_
  refine r_iadd hO dL_law_543 ?_
  refine r_sld hSc hO dL_law_544 (j + 1) (nI_1 j) hL3 (by omega) ?_
  refine r_aload_n hO dL_law_545 rfl ?_
  refine r_iload_n hO dL_law_546 rfl ?_
  refine r_iconst hO dL_law_547 ic_2 ?_
  refine r_iadd hO dL_law_548 ?_
  refine r_sld hSc hO dL_law_549 (j + 2) (nI_k2 j) hL3 (by omega) ?_
  refine r_callV hO dL_law_550 kRL_69 miX4_ahead (zX4_ahead _ hC) ⟨Nat.le_of_ble_eq_true rfl, Nat.le_of_ble_eq_true rfl, rfl, Nat.le_of_ble_eq_true rfl⟩ rfl rfl (fun o1 M1 hpo => ?_)
  obtain ⟨rfl, C1, E1⟩ := hpo
  refine r_aload_n hO dL_law_553 rfl ?_
  refine r_aload_n hO dL_law_554 rfl ?_
  refine r_iload_n hO dL_law_555 rfl ?_
  refine r_iconst hO dL_law_556 ic_1 ?_
  refine r_iadd hO dL_law_557 ?_
  refine r_sld hSc hO dL_law_558 (j + 1) (nI_1 j) hL3 (by omega) ?_
  refine r_aload_n hO dL_law_559 rfl ?_
  refine r_iload_n hO dL_law_560 rfl ?_
  refine r_iconst hO dL_law_561 ic_2 ?_
  refine r_iadd hO dL_law_562 ?_
  refine r_sld hSc hO dL_law_563 (j + 2) (nI_k2 j) hL3 (by omega) ?_
  refine r_callV hO dL_law_564 kRL_72 miX5_ahead (zX5_ahead _ (hD.eqv E1)) ⟨Nat.le_of_ble_eq_true rfl, Nat.le_of_ble_eq_true rfl, rfl, Nat.le_of_ble_eq_true rfl⟩ rfl rfl (fun o2 M2 hpo => ?_)
  obtain ⟨rfl, D2, E2⟩ := hpo
  refine r_icmp_eq 1286 hO dL_law_567 (by decide) (fun _ => ?_) (fun z => absurd rfl z)
  exact nxt M2 _ (C1.eqv E2) D2
set_option maxHeartbeats 2000000 in
theorem law_c14 {X : Cxz} (hO : Okz X cL_law RL 12) {L : Nat} {xs : Nat → Int32} (hSc : SCz X L xs) (hL3 : L ≤ 320) {j : Nat} (hj : j + 5 ≤ L) {M : Mm} {σ : Sta} (hC : RC M σ) (hD : RD M σ) (nxt : ∀ (M' : Mm) (σ' : Sta), RC M' σ' → RD M' σ' → Gz X 1286 [.ref 98, .ref 0, .ref 33, .int (nI j)] [] M') : Gz X 572 [.ref 98, .ref 0, .ref 33, .int (nI j)] [] M := by
  refine r_aload_n hO dL_law_572 rfl ?_
  refine r_callV hO dL_law_573 kRL_73 miX4_carries (zX4_carries _ hC) ⟨Nat.le_of_ble_eq_true rfl, Nat.le_of_ble_eq_true rfl, rfl, Nat.le_of_ble_eq_true rfl⟩ rfl rfl (fun o1 M1 hpo => ?_)
  obtain ⟨rfl, C1, E1⟩ := hpo
  refine r_aload_n hO dL_law_576 rfl ?_
  refine r_callV hO dL_law_577 kRL_76 miX5_carries (zX5_carries _ (hD.eqv E1)) ⟨Nat.le_of_ble_eq_true rfl, Nat.le_of_ble_eq_true rfl, rfl, Nat.le_of_ble_eq_true rfl⟩ rfl rfl (fun o2 M2 hpo => ?_)
  obtain ⟨rfl, D2, E2⟩ := hpo
  refine r_icmp_eq 1286 hO dL_law_580 (by decide) (fun _ => ?_) (fun z => absurd rfl z)
  exact nxt M2 _ (C1.eqv E2) D2
set_option maxHeartbeats 2000000 in
theorem law_c15 {X : Cxz} (hO : Okz X cL_law RL 12) {L : Nat} {xs : Nat → Int32} (hSc : SCz X L xs) (hL3 : L ≤ 320) {j : Nat} (hj : j + 5 ≤ L) {M : Mm} {σ : Sta} (hC : RC M σ) (hD : RD M σ) (nxt : ∀ (M' : Mm) (σ' : Sta), RC M' σ' → RD M' σ' → Gz X 1286 [.ref 98, .ref 0, .ref 33, .int (nI j)] [] M') : Gz X 585 [.ref 98, .ref 0, .ref 33, .int (nI j)] [] M := by
  refine r_aload_n hO dL_law_585 rfl ?_
  refine r_aload_n hO dL_law_586 rfl ?_
  refine r_iload_n hO dL_law_587 rfl ?_
  refine r_iconst hO dL_law_588 ic_1 ?_
  refine r_iadd hO dL_law_589 ?_
  refine r_sld hSc hO dL_law_590 (j + 1) (nI_1 j) hL3 (by omega) ?_
  refine r_callV hO dL_law_591 kRL_77 miX4_wording (zX4_wording _ hC) ⟨Nat.le_of_ble_eq_true rfl, Nat.le_of_ble_eq_true rfl, rfl, Nat.le_of_ble_eq_true rfl⟩ rfl rfl (fun o1 M1 hpo => ?_)
  obtain ⟨rfl, C1, E1⟩ := hpo
  refine r_aload_n hO dL_law_594 rfl ?_
  refine r_aload_n hO dL_law_595 rfl ?_
  refine r_iload_n hO dL_law_596 rfl ?_
  refine r_iconst hO dL_law_597 ic_1 ?_
  refine r_iadd hO dL_law_598 ?_
  refine r_sld hSc hO dL_law_599 (j + 1) (nI_1 j) hL3 (by omega) ?_
  refine r_callV hO dL_law_600 kRL_80 miX5_wording (zX5_wording _ (hD.eqv E1)) ⟨Nat.le_of_ble_eq_true rfl, Nat.le_of_ble_eq_true rfl, rfl, Nat.le_of_ble_eq_true rfl⟩ rfl rfl (fun o2 M2 hpo => ?_)
  obtain ⟨rfl, D2, E2⟩ := hpo
  refine r_icmp_eq 1286 hO dL_law_603 (by decide) (fun _ => ?_) (fun z => absurd rfl z)
  exact nxt M2 _ (C1.eqv E2) D2
set_option maxHeartbeats 2000000 in
theorem law_c16 {X : Cxz} (hO : Okz X cL_law RL 12) {L : Nat} {xs : Nat → Int32} (hSc : SCz X L xs) (hL3 : L ≤ 320) {j : Nat} (hj : j + 5 ≤ L) {M : Mm} {σ : Sta} (hC : RC M σ) (hD : RD M σ) (nxt : ∀ (M' : Mm) (σ' : Sta), RC M' σ' → RD M' σ' → Gz X 1286 [.ref 98, .ref 0, .ref 33, .int (nI j)] [] M') : Gz X 608 [.ref 98, .ref 0, .ref 33, .int (nI j)] [] M := by
  refine r_aload_n hO dL_law_608 rfl ?_
  refine r_aload_n hO dL_law_609 rfl ?_
  refine r_iload_n hO dL_law_610 rfl ?_
  refine r_iconst hO dL_law_611 ic_1 ?_
  refine r_iadd hO dL_law_612 ?_
  refine r_sld hSc hO dL_law_613 (j + 1) (nI_1 j) hL3 (by omega) ?_
  refine r_callV hO dL_law_614 kRL_81 miX4_middle (zX4_middle _ hC) ⟨Nat.le_of_ble_eq_true rfl, Nat.le_of_ble_eq_true rfl, rfl, Nat.le_of_ble_eq_true rfl⟩ rfl rfl (fun o1 M1 hpo => ?_)
  obtain ⟨rfl, C1, E1⟩ := hpo
  refine r_aload_n hO dL_law_617 rfl ?_
  refine r_aload_n hO dL_law_618 rfl ?_
  refine r_iload_n hO dL_law_619 rfl ?_
  refine r_iconst hO dL_law_620 ic_1 ?_
  refine r_iadd hO dL_law_621 ?_
  refine r_sld hSc hO dL_law_622 (j + 1) (nI_1 j) hL3 (by omega) ?_
  refine r_callV hO dL_law_623 kRL_84 miX5_middle (zX5_middle _ (hD.eqv E1)) ⟨Nat.le_of_ble_eq_true rfl, Nat.le_of_ble_eq_true rfl, rfl, Nat.le_of_ble_eq_true rfl⟩ rfl rfl (fun o2 M2 hpo => ?_)
  obtain ⟨rfl, D2, E2⟩ := hpo
  refine r_icmp_eq 1286 hO dL_law_626 (by decide) (fun _ => ?_) (fun z => absurd rfl z)
  exact nxt M2 _ (C1.eqv E2) D2
set_option maxHeartbeats 2000000 in
theorem law_c17 {X : Cxz} (hO : Okz X cL_law RL 12) {L : Nat} {xs : Nat → Int32} (hSc : SCz X L xs) (hL3 : L ≤ 320) {j : Nat} (hj : j + 5 ≤ L) {M : Mm} {σ : Sta} (hC : RC M σ) (hD : RD M σ) (nxt : ∀ (M' : Mm) (σ' : Sta), RC M' σ' → RD M' σ' → Gz X 1286 [.ref 98, .ref 0, .ref 33, .int (nI j)] [] M') : Gz X 631 [.ref 98, .ref 0, .ref 33, .int (nI j)] [] M := by
  refine r_aload_n hO dL_law_631 rfl ?_
  refine r_aload_n hO dL_law_632 rfl ?_
  refine r_iload_n hO dL_law_633 rfl ?_
  refine r_iconst hO dL_law_634 ic_1 ?_
  refine r_iadd hO dL_law_635 ?_
  refine r_sld hSc hO dL_law_636 (j + 1) (nI_1 j) hL3 (by omega) ?_
  refine r_callV hO dL_law_637 kRL_85 miX4_swing (zX4_swing _ hC) ⟨Nat.le_of_ble_eq_true rfl, Nat.le_of_ble_eq_true rfl, rfl, Nat.le_of_ble_eq_true rfl⟩ rfl rfl (fun o1 M1 hpo => ?_)
  obtain ⟨rfl, C1, E1⟩ := hpo
  refine r_aload_n hO dL_law_640 rfl ?_
  refine r_aload_n hO dL_law_641 rfl ?_
  refine r_iload_n hO dL_law_642 rfl ?_
  refine r_iconst hO dL_law_643 ic_1 ?_
  refine r_iadd hO dL_law_644 ?_
  refine r_sld hSc hO dL_law_645 (j + 1) (nI_1 j) hL3 (by omega) ?_
  refine r_callV hO dL_law_646 kRL_88 miX5_swing (zX5_swing _ (hD.eqv E1)) ⟨Nat.le_of_ble_eq_true rfl, Nat.le_of_ble_eq_true rfl, rfl, Nat.le_of_ble_eq_true rfl⟩ rfl rfl (fun o2 M2 hpo => ?_)
  obtain ⟨rfl, D2, E2⟩ := hpo
  refine r_icmp_eq 1286 hO dL_law_649 (by decide) (fun _ => ?_) (fun z => absurd rfl z)
  exact nxt M2 _ (C1.eqv E2) D2
set_option maxHeartbeats 2000000 in
theorem law_c18 {X : Cxz} (hO : Okz X cL_law RL 12) {L : Nat} {xs : Nat → Int32} (hSc : SCz X L xs) (hL3 : L ≤ 320) {j : Nat} (hj : j + 5 ≤ L) {M : Mm} {σ : Sta} (hC : RC M σ) (hD : RD M σ) (nxt : ∀ (M' : Mm) (σ' : Sta), RC M' σ' → RD M' σ' → Gz X 1286 [.ref 98, .ref 0, .ref 33, .int (nI j)] [] M') : Gz X 654 [.ref 98, .ref 0, .ref 33, .int (nI j)] [] M := by
  refine r_aload_n hO dL_law_654 rfl ?_
  refine r_aload_n hO dL_law_655 rfl ?_
  refine r_iload_n hO dL_law_656 rfl ?_
  refine r_iconst hO dL_law_657 ic_1 ?_
  refine r_iadd hO dL_law_658 ?_
  refine r_sld hSc hO dL_law_659 (j + 1) (nI_1 j) hL3 (by omega) ?_
  refine r_callV hO dL_law_660 kRL_89 miX4_lose (zX4_lose _ hC) ⟨Nat.le_of_ble_eq_true rfl, Nat.le_of_ble_eq_true rfl, rfl, Nat.le_of_ble_eq_true rfl⟩ rfl rfl (fun o1 M1 hpo => ?_)
  obtain ⟨rfl, C1, E1⟩ := hpo
  refine r_aload_n hO dL_law_663 rfl ?_
  refine r_aload_n hO dL_law_664 rfl ?_
  refine r_iload_n hO dL_law_665 rfl ?_
  refine r_iconst hO dL_law_666 ic_1 ?_
  refine r_iadd hO dL_law_667 ?_
  refine r_sld hSc hO dL_law_668 (j + 1) (nI_1 j) hL3 (by omega) ?_
  refine r_callV hO dL_law_669 kRL_92 miX5_lose (zX5_lose _ (hD.eqv E1)) ⟨Nat.le_of_ble_eq_true rfl, Nat.le_of_ble_eq_true rfl, rfl, Nat.le_of_ble_eq_true rfl⟩ rfl rfl (fun o2 M2 hpo => ?_)
  obtain ⟨rfl, D2, E2⟩ := hpo
  refine r_icmp_eq 1286 hO dL_law_672 (by decide) (fun _ => ?_) (fun z => absurd rfl z)
  exact nxt M2 _ (C1.eqv E2) D2
set_option maxHeartbeats 2000000 in
theorem law_c19 {X : Cxz} (hO : Okz X cL_law RL 12) {L : Nat} {xs : Nat → Int32} (hSc : SCz X L xs) (hL3 : L ≤ 320) {j : Nat} (hj : j + 5 ≤ L) {M : Mm} {σ : Sta} (hC : RC M σ) (hD : RD M σ) (nxt : ∀ (M' : Mm) (σ' : Sta), RC M' σ' → RD M' σ' → Gz X 1286 [.ref 98, .ref 0, .ref 33, .int (nI j)] [] M') : Gz X 677 [.ref 98, .ref 0, .ref 33, .int (nI j)] [] M := by
  refine r_aload_n hO dL_law_677 rfl ?_
  refine r_aload_n hO dL_law_678 rfl ?_
  refine r_iload_n hO dL_law_679 rfl ?_
  refine r_iconst hO dL_law_680 ic_1 ?_
  refine r_iadd hO dL_law_681 ?_
  refine r_sld hSc hO dL_law_682 (j + 1) (nI_1 j) hL3 (by omega) ?_
  refine r_callV hO dL_law_683 kRL_93 miX4_cross (zX4_cross _ hC) ⟨Nat.le_of_ble_eq_true rfl, Nat.le_of_ble_eq_true rfl, rfl, Nat.le_of_ble_eq_true rfl⟩ rfl rfl (fun o1 M1 hpo => ?_)
  obtain ⟨rfl, C1, E1⟩ := hpo
  refine r_aload_n hO dL_law_686 rfl ?_
  refine r_aload_n hO dL_law_687 rfl ?_
  refine r_iload_n hO dL_law_688 rfl ?_
  refine r_iconst hO dL_law_689 ic_1 ?_
  refine r_iadd hO dL_law_690 ?_
  refine r_sld hSc hO dL_law_691 (j + 1) (nI_1 j) hL3 (by omega) ?_
  refine r_callV hO dL_law_692 kRL_96 miX5_cross (zX5_cross _ (hD.eqv E1)) ⟨Nat.le_of_ble_eq_true rfl, Nat.le_of_ble_eq_true rfl, rfl, Nat.le_of_ble_eq_true rfl⟩ rfl rfl (fun o2 M2 hpo => ?_)
  obtain ⟨rfl, D2, E2⟩ := hpo
  refine r_icmp_eq 1286 hO dL_law_695 (by decide) (fun _ => ?_) (fun z => absurd rfl z)
  exact nxt M2 _ (C1.eqv E2) D2
set_option maxHeartbeats 2000000 in
theorem law_c20 {X : Cxz} (hO : Okz X cL_law RL 12) {L : Nat} {xs : Nat → Int32} (hSc : SCz X L xs) (hL3 : L ≤ 320) {j : Nat} (hj : j + 5 ≤ L) {M : Mm} {σ : Sta} (hC : RC M σ) (hD : RD M σ) (nxt : ∀ (M' : Mm) (σ' : Sta), RC M' σ' → RD M' σ' → Gz X 1286 [.ref 98, .ref 0, .ref 33, .int (nI j)] [] M') : Gz X 700 [.ref 98, .ref 0, .ref 33, .int (nI j)] [] M := by
  refine r_aload_n hO dL_law_700 rfl ?_
  refine r_aload_n hO dL_law_701 rfl ?_
  refine r_iload_n hO dL_law_702 rfl ?_
  refine r_iconst hO dL_law_703 ic_1 ?_
  refine r_iadd hO dL_law_704 ?_
  refine r_sld hSc hO dL_law_705 (j + 1) (nI_1 j) hL3 (by omega) ?_
  refine r_aload_n hO dL_law_706 rfl ?_
  refine r_iload_n hO dL_law_707 rfl ?_
  refine r_iconst hO dL_law_708 ic_2 ?_
  refine r_iadd hO dL_law_709 ?_
  refine r_sld hSc hO dL_law_710 (j + 2) (nI_k2 j) hL3 (by omega) ?_
  refine r_callV hO dL_law_711 kRL_97 miX4_give (zX4_give _ hC) ⟨Nat.le_of_ble_eq_true rfl, Nat.le_of_ble_eq_true rfl, rfl, Nat.le_of_ble_eq_true rfl⟩ rfl rfl (fun o1 M1 hpo => ?_)
  obtain ⟨rfl, C1, E1⟩ := hpo
  refine r_aload_n hO dL_law_714 rfl ?_
  refine r_aload_n hO dL_law_715 rfl ?_
  refine r_iload_n hO dL_law_716 rfl ?_
  refine r_iconst hO dL_law_717 ic_1 ?_
  refine r_iadd hO dL_law_718 ?_
  refine r_sld hSc hO dL_law_719 (j + 1) (nI_1 j) hL3 (by omega) ?_
  refine r_aload_n hO dL_law_720 rfl ?_
  refine r_iload_n hO dL_law_721 rfl ?_
  refine r_iconst hO dL_law_722 ic_2 ?_
  refine r_iadd hO dL_law_723 ?_
  refine r_sld hSc hO dL_law_724 (j + 2) (nI_k2 j) hL3 (by omega) ?_
  refine r_callV hO dL_law_725 kRL_100 miX5_give (zX5_give _ (hD.eqv E1)) ⟨Nat.le_of_ble_eq_true rfl, Nat.le_of_ble_eq_true rfl, rfl, Nat.le_of_ble_eq_true rfl⟩ rfl rfl (fun o2 M2 hpo => ?_)
  obtain ⟨rfl, D2, E2⟩ := hpo
  refine r_icmp_eq 1286 hO dL_law_728 (by decide) (fun _ => ?_) (fun z => absurd rfl z)
  exact nxt M2 _ (C1.eqv E2) D2
set_option maxHeartbeats 2000000 in
theorem law_c21 {X : Cxz} (hO : Okz X cL_law RL 12) {L : Nat} {xs : Nat → Int32} (hSc : SCz X L xs) (hL3 : L ≤ 320) {j : Nat} (hj : j + 5 ≤ L) {M : Mm} {σ : Sta} (hC : RC M σ) (hD : RD M σ) (nxt : ∀ (M' : Mm) (σ' : Sta), RC M' σ' → RD M' σ' → Gz X 1286 [.ref 98, .ref 0, .ref 33, .int (nI j)] [] M') : Gz X 733 [.ref 98, .ref 0, .ref 33, .int (nI j)] [] M := by
  refine r_aload_n hO dL_law_733 rfl ?_
  refine r_aload_n hO dL_law_734 rfl ?_
  refine r_iload_n hO dL_law_735 rfl ?_
  refine r_iconst hO dL_law_736 ic_1 ?_
  refine r_iadd hO dL_law_737 ?_
  refine r_sld hSc hO dL_law_738 (j + 1) (nI_1 j) hL3 (by omega) ?_
  refine r_aload_n hO dL_law_739 rfl ?_
  refine r_iload_n hO dL_law_740 rfl ?_
  refine r_iconst hO dL_law_741 ic_2 ?_
  refine r_iadd hO dL_law_742 ?_
  refine r_sld hSc hO dL_law_743 (j + 2) (nI_k2 j) hL3 (by omega) ?_
  refine r_callV hO dL_law_744 kRL_101 miX4_mind (zX4_mind _ hC) ⟨Nat.le_of_ble_eq_true rfl, Nat.le_of_ble_eq_true rfl, rfl, Nat.le_of_ble_eq_true rfl⟩ rfl rfl (fun o1 M1 hpo => ?_)
  obtain ⟨rfl, C1, E1⟩ := hpo
  refine r_aload_n hO dL_law_747 rfl ?_
  refine r_aload_n hO dL_law_748 rfl ?_
  refine r_iload_n hO dL_law_749 rfl ?_
  refine r_iconst hO dL_law_750 ic_1 ?_
  refine r_iadd hO dL_law_751 ?_
  refine r_sld hSc hO dL_law_752 (j + 1) (nI_1 j) hL3 (by omega) ?_
  refine r_aload_n hO dL_law_753 rfl ?_
  refine r_iload_n hO dL_law_754 rfl ?_
  refine r_iconst hO dL_law_755 ic_2 ?_
  refine r_iadd hO dL_law_756 ?_
  refine r_sld hSc hO dL_law_757 (j + 2) (nI_k2 j) hL3 (by omega) ?_
  refine r_callV hO dL_law_758 kRL_104 miX5_mind (zX5_mind _ (hD.eqv E1)) ⟨Nat.le_of_ble_eq_true rfl, Nat.le_of_ble_eq_true rfl, rfl, Nat.le_of_ble_eq_true rfl⟩ rfl rfl (fun o2 M2 hpo => ?_)
  obtain ⟨rfl, D2, E2⟩ := hpo
  refine r_icmp_eq 1286 hO dL_law_761 (by decide) (fun _ => ?_) (fun z => absurd rfl z)
  exact nxt M2 _ (C1.eqv E2) D2
set_option maxHeartbeats 2000000 in
theorem law_c22 {X : Cxz} (hO : Okz X cL_law RL 12) {L : Nat} {xs : Nat → Int32} (hSc : SCz X L xs) (hL3 : L ≤ 320) {j : Nat} (hj : j + 5 ≤ L) {M : Mm} {σ : Sta} (hC : RC M σ) (hD : RD M σ) (nxt : ∀ (M' : Mm) (σ' : Sta), RC M' σ' → RD M' σ' → Gz X 1286 [.ref 98, .ref 0, .ref 33, .int (nI j)] [] M') : Gz X 766 [.ref 98, .ref 0, .ref 33, .int (nI j)] [] M := by
  refine r_aload_n hO dL_law_766 rfl ?_
  refine r_aload_n hO dL_law_767 rfl ?_
  refine r_iload_n hO dL_law_768 rfl ?_
  refine r_iconst hO dL_law_769 ic_1 ?_
  refine r_iadd hO dL_law_770 ?_
  refine r_sld hSc hO dL_law_771 (j + 1) (nI_1 j) hL3 (by omega) ?_
  refine r_aload_n hO dL_law_772 rfl ?_
  refine r_iload_n hO dL_law_773 rfl ?_
  refine r_iconst hO dL_law_774 ic_2 ?_
  refine r_iadd hO dL_law_775 ?_
  refine r_sld hSc hO dL_law_776 (j + 2) (nI_k2 j) hL3 (by omega) ?_
  refine r_callV hO dL_law_777 kRL_105 miX4_kind (zX4_kind _ hC) ⟨Nat.le_of_ble_eq_true rfl, Nat.le_of_ble_eq_true rfl, rfl, Nat.le_of_ble_eq_true rfl⟩ rfl rfl (fun o1 M1 hpo => ?_)
  obtain ⟨rfl, C1, E1⟩ := hpo
  refine r_aload_n hO dL_law_780 rfl ?_
  refine r_aload_n hO dL_law_781 rfl ?_
  refine r_iload_n hO dL_law_782 rfl ?_
  refine r_iconst hO dL_law_783 ic_1 ?_
  refine r_iadd hO dL_law_784 ?_
  refine r_sld hSc hO dL_law_785 (j + 1) (nI_1 j) hL3 (by omega) ?_
  refine r_aload_n hO dL_law_786 rfl ?_
  refine r_iload_n hO dL_law_787 rfl ?_
  refine r_iconst hO dL_law_788 ic_2 ?_
  refine r_iadd hO dL_law_789 ?_
  refine r_sld hSc hO dL_law_790 (j + 2) (nI_k2 j) hL3 (by omega) ?_
  refine r_callV hO dL_law_791 kRL_108 miX5_kind (zX5_kind _ (hD.eqv E1)) ⟨Nat.le_of_ble_eq_true rfl, Nat.le_of_ble_eq_true rfl, rfl, Nat.le_of_ble_eq_true rfl⟩ rfl rfl (fun o2 M2 hpo => ?_)
  obtain ⟨rfl, D2, E2⟩ := hpo
  refine r_icmp_eq 1286 hO dL_law_794 (by decide) (fun _ => ?_) (fun z => absurd rfl z)
  exact nxt M2 _ (C1.eqv E2) D2
set_option maxHeartbeats 2000000 in
theorem law_c23 {X : Cxz} (hO : Okz X cL_law RL 12) {L : Nat} {xs : Nat → Int32} (hSc : SCz X L xs) (hL3 : L ≤ 320) {j : Nat} (hj : j + 5 ≤ L) {M : Mm} {σ : Sta} (hC : RC M σ) (hD : RD M σ) (nxt : ∀ (M' : Mm) (σ' : Sta), RC M' σ' → RD M' σ' → Gz X 1286 [.ref 98, .ref 0, .ref 33, .int (nI j)] [] M') : Gz X 799 [.ref 98, .ref 0, .ref 33, .int (nI j)] [] M := by
  refine r_aload_n hO dL_law_799 rfl ?_
  refine r_aload_n hO dL_law_800 rfl ?_
  refine r_iload_n hO dL_law_801 rfl ?_
  refine r_iconst hO dL_law_802 ic_1 ?_
  refine r_iadd hO dL_law_803 ?_
  refine r_sld hSc hO dL_law_804 (j + 1) (nI_1 j) hL3 (by omega) ?_
  refine r_aload_n hO dL_law_805 rfl ?_
  refine r_iload_n hO dL_law_806 rfl ?_
  refine r_iconst hO dL_law_807 ic_2 ?_
  refine r_iadd hO dL_law_808 ?_
  refine r_sld hSc hO dL_law_809 (j + 2) (nI_k2 j) hL3 (by omega) ?_
  refine r_aload_n hO dL_law_810 rfl ?_
  refine r_iload_n hO dL_law_811 rfl ?_
  refine r_iconst hO dL_law_812 ic_3 ?_
  refine r_iadd hO dL_law_813 ?_
  refine r_sld hSc hO dL_law_814 (j + 3) (nI_k3 j) hL3 (by omega) ?_
  refine r_callV hO dL_law_815 kRL_109 miX4_luck (zX4_luck _ hC) ⟨Nat.le_of_ble_eq_true rfl, Nat.le_of_ble_eq_true rfl, rfl, Nat.le_of_ble_eq_true rfl⟩ rfl rfl (fun o1 M1 hpo => ?_)
  obtain ⟨rfl, C1, E1⟩ := hpo
  refine r_aload_n hO dL_law_818 rfl ?_
  refine r_aload_n hO dL_law_819 rfl ?_
  refine r_iload_n hO dL_law_820 rfl ?_
  refine r_iconst hO dL_law_821 ic_1 ?_
  refine r_iadd hO dL_law_822 ?_
  refine r_sld hSc hO dL_law_823 (j + 1) (nI_1 j) hL3 (by omega) ?_
  refine r_aload_n hO dL_law_824 rfl ?_
  refine r_iload_n hO dL_law_825 rfl ?_
  refine r_iconst hO dL_law_826 ic_2 ?_
  refine r_iadd hO dL_law_827 ?_
  refine r_sld hSc hO dL_law_828 (j + 2) (nI_k2 j) hL3 (by omega) ?_
  refine r_aload_n hO dL_law_829 rfl ?_
  refine r_iload_n hO dL_law_830 rfl ?_
  refine r_iconst hO dL_law_831 ic_3 ?_
  refine r_iadd hO dL_law_832 ?_
  refine r_sld hSc hO dL_law_833 (j + 3) (nI_k3 j) hL3 (by omega) ?_
  refine r_callV hO dL_law_834 kRL_113 miX5_luck (zX5_luck _ (hD.eqv E1)) ⟨Nat.le_of_ble_eq_true rfl, Nat.le_of_ble_eq_true rfl, rfl, Nat.le_of_ble_eq_true rfl⟩ rfl rfl (fun o2 M2 hpo => ?_)
  obtain ⟨rfl, D2, E2⟩ := hpo
  refine r_lcmp hO dL_law_837 ?_
  refine r_if_eq 1286 hO dL_law_838 (by decide) (fun _ => ?_) (fun z => absurd ((lg_cmp_eq _ _).mpr rfl) z)
  exact nxt M2 _ (C1.eqv E2) D2
set_option maxHeartbeats 2000000 in
theorem law_c24 {X : Cxz} (hO : Okz X cL_law RL 12) {L : Nat} {xs : Nat → Int32} (hSc : SCz X L xs) (hL3 : L ≤ 320) {j : Nat} (hj : j + 5 ≤ L) {M : Mm} {σ : Sta} (hC : RC M σ) (hD : RD M σ) (nxt : ∀ (M' : Mm) (σ' : Sta), RC M' σ' → RD M' σ' → Gz X 1286 [.ref 98, .ref 0, .ref 33, .int (nI j)] [] M') : Gz X 843 [.ref 98, .ref 0, .ref 33, .int (nI j)] [] M := by
  refine r_aload_n hO dL_law_843 rfl ?_
  refine r_aload_n hO dL_law_844 rfl ?_
  refine r_iload_n hO dL_law_845 rfl ?_
  refine r_iconst hO dL_law_846 ic_1 ?_
  refine r_iadd hO dL_law_847 ?_
  refine r_sld hSc hO dL_law_848 (j + 1) (nI_1 j) hL3 (by omega) ?_
  refine r_aload_n hO dL_law_849 rfl ?_
  refine r_iload_n hO dL_law_850 rfl ?_
  refine r_iconst hO dL_law_851 ic_2 ?_
  refine r_iadd hO dL_law_852 ?_
  refine r_sld hSc hO dL_law_853 (j + 2) (nI_k2 j) hL3 (by omega) ?_
  refine r_aload_n hO dL_law_854 rfl ?_
  refine r_iload_n hO dL_law_855 rfl ?_
  refine r_iconst hO dL_law_856 ic_3 ?_
  refine r_iadd hO dL_law_857 ?_
  refine r_sld hSc hO dL_law_858 (j + 3) (nI_k3 j) hL3 (by omega) ?_
  refine r_callV hO dL_law_859 kRL_114 miX4_mean (zX4_mean _ hC) ⟨Nat.le_of_ble_eq_true rfl, Nat.le_of_ble_eq_true rfl, rfl, Nat.le_of_ble_eq_true rfl⟩ rfl rfl (fun o1 M1 hpo => ?_)
  obtain ⟨rfl, C1, E1⟩ := hpo
  refine r_aload_n hO dL_law_862 rfl ?_
  refine r_aload_n hO dL_law_863 rfl ?_
  refine r_iload_n hO dL_law_864 rfl ?_
  refine r_iconst hO dL_law_865 ic_1 ?_
  refine r_iadd hO dL_law_866 ?_
  refine r_sld hSc hO dL_law_867 (j + 1) (nI_1 j) hL3 (by omega) ?_
  refine r_aload_n hO dL_law_868 rfl ?_
  refine r_iload_n hO dL_law_869 rfl ?_
  refine r_iconst hO dL_law_870 ic_2 ?_
  refine r_iadd hO dL_law_871 ?_
  refine r_sld hSc hO dL_law_872 (j + 2) (nI_k2 j) hL3 (by omega) ?_
  refine r_aload_n hO dL_law_873 rfl ?_
  refine r_iload_n hO dL_law_874 rfl ?_
  refine r_iconst hO dL_law_875 ic_3 ?_
  refine r_iadd hO dL_law_876 ?_
  refine r_sld hSc hO dL_law_877 (j + 3) (nI_k3 j) hL3 (by omega) ?_
  refine r_callV hO dL_law_878 kRL_117 miX5_mean (zX5_mean _ (hD.eqv E1)) ⟨Nat.le_of_ble_eq_true rfl, Nat.le_of_ble_eq_true rfl, rfl, Nat.le_of_ble_eq_true rfl⟩ rfl rfl (fun o2 M2 hpo => ?_)
  obtain ⟨rfl, D2, E2⟩ := hpo
  refine r_lcmp hO dL_law_881 ?_
  refine r_if_eq 1286 hO dL_law_882 (by decide) (fun _ => ?_) (fun z => absurd ((lg_cmp_eq _ _).mpr rfl) z)
  exact nxt M2 _ (C1.eqv E2) D2
set_option maxHeartbeats 2000000 in
theorem law_c25 {X : Cxz} (hO : Okz X cL_law RL 12) {L : Nat} {xs : Nat → Int32} (hSc : SCz X L xs) (hL3 : L ≤ 320) {j : Nat} (hj : j + 5 ≤ L) {M : Mm} {σ : Sta} (hC : RC M σ) (hD : RD M σ) (nxt : ∀ (M' : Mm) (σ' : Sta), RC M' σ' → RD M' σ' → Gz X 1286 [.ref 98, .ref 0, .ref 33, .int (nI j)] [] M') : Gz X 887 [.ref 98, .ref 0, .ref 33, .int (nI j)] [] M := by
  refine r_aload_n hO dL_law_887 rfl ?_
  refine r_aload_n hO dL_law_888 rfl ?_
  refine r_iload_n hO dL_law_889 rfl ?_
  refine r_iconst hO dL_law_890 ic_1 ?_
  refine r_iadd hO dL_law_891 ?_
  refine r_sld hSc hO dL_law_892 (j + 1) (nI_1 j) hL3 (by omega) ?_
  refine r_aload_n hO dL_law_893 rfl ?_
  refine r_iload_n hO dL_law_894 rfl ?_
  refine r_iconst hO dL_law_895 ic_2 ?_
  refine r_iadd hO dL_law_896 ?_
  refine r_sld hSc hO dL_law_897 (j + 2) (nI_k2 j) hL3 (by omega) ?_
  refine r_callV hO dL_law_898 kRL_118 miX4_see (zX4_see _ hC) ⟨Nat.le_of_ble_eq_true rfl, Nat.le_of_ble_eq_true rfl, rfl, Nat.le_of_ble_eq_true rfl⟩ rfl rfl (fun o1 M1 hpo => ?_)
  obtain ⟨rfl, C1, E1⟩ := hpo
  refine r_aload_n hO dL_law_901 rfl ?_
  refine r_aload_n hO dL_law_902 rfl ?_
  refine r_iload_n hO dL_law_903 rfl ?_
  refine r_iconst hO dL_law_904 ic_1 ?_
  refine r_iadd hO dL_law_905 ?_
  refine r_sld hSc hO dL_law_906 (j + 1) (nI_1 j) hL3 (by omega) ?_
  refine r_aload_n hO dL_law_907 rfl ?_
  refine r_iload_n hO dL_law_908 rfl ?_
  refine r_iconst hO dL_law_909 ic_2 ?_
  refine r_iadd hO dL_law_910 ?_
  refine r_sld hSc hO dL_law_911 (j + 2) (nI_k2 j) hL3 (by omega) ?_
  refine r_callV hO dL_law_912 kRL_121 miX5_see (zX5_see _ (hD.eqv E1)) ⟨Nat.le_of_ble_eq_true rfl, Nat.le_of_ble_eq_true rfl, rfl, Nat.le_of_ble_eq_true rfl⟩ rfl rfl (fun o2 M2 hpo => ?_)
  obtain ⟨rfl, D2, E2⟩ := hpo
  refine r_icmp_eq 1286 hO dL_law_915 (by decide) (fun _ => ?_) (fun z => absurd rfl z)
  exact nxt M2 _ (C1.eqv E2) D2
set_option maxHeartbeats 2000000 in
theorem law_c26 {X : Cxz} (hO : Okz X cL_law RL 12) {L : Nat} {xs : Nat → Int32} (hSc : SCz X L xs) (hL3 : L ≤ 320) {j : Nat} (hj : j + 5 ≤ L) {M : Mm} {σ : Sta} (hC : RC M σ) (hD : RD M σ) (nxt : ∀ (M' : Mm) (σ' : Sta), RC M' σ' → RD M' σ' → Gz X 1286 [.ref 98, .ref 0, .ref 33, .int (nI j)] [] M') : Gz X 920 [.ref 98, .ref 0, .ref 33, .int (nI j)] [] M := by
  refine r_aload_n hO dL_law_920 rfl ?_
  refine r_aload_n hO dL_law_921 rfl ?_
  refine r_iload_n hO dL_law_922 rfl ?_
  refine r_iconst hO dL_law_923 ic_1 ?_
  refine r_iadd hO dL_law_924 ?_
  refine r_sld hSc hO dL_law_925 (j + 1) (nI_1 j) hL3 (by omega) ?_
  refine r_callV hO dL_law_926 kRL_122 miX4_forget (zX4_forget _ hC) ⟨Nat.le_of_ble_eq_true rfl, Nat.le_of_ble_eq_true rfl, rfl, Nat.le_of_ble_eq_true rfl⟩ rfl rfl (fun o1 M1 hpo => ?_)
  obtain ⟨rfl, C1, E1⟩ := hpo
  refine r_aload_n hO dL_law_929 rfl ?_
  refine r_aload_n hO dL_law_930 rfl ?_
  refine r_iload_n hO dL_law_931 rfl ?_
  refine r_iconst hO dL_law_932 ic_1 ?_
  refine r_iadd hO dL_law_933 ?_
  refine r_sld hSc hO dL_law_934 (j + 1) (nI_1 j) hL3 (by omega) ?_
  refine r_callV hO dL_law_935 kRL_125 miX5_forget (zX5_forget _ (hD.eqv E1)) ⟨Nat.le_of_ble_eq_true rfl, Nat.le_of_ble_eq_true rfl, rfl, Nat.le_of_ble_eq_true rfl⟩ rfl rfl (fun o2 M2 hpo => ?_)
  obtain ⟨rfl, D2, E2⟩ := hpo
  refine r_icmp_eq 1286 hO dL_law_938 (by decide) (fun _ => ?_) (fun z => absurd rfl z)
  exact nxt M2 _ (C1.eqv E2) D2
set_option maxHeartbeats 2000000 in
theorem law_c27 {X : Cxz} (hO : Okz X cL_law RL 12) {L : Nat} {xs : Nat → Int32} (hSc : SCz X L xs) (hL3 : L ≤ 320) {j : Nat} (hj : j + 5 ≤ L) {M : Mm} {σ : Sta} (hC : RC M σ) (hD : RD M σ) (nxt : ∀ (M' : Mm) (σ' : Sta), RC M' σ' → RD M' σ' → Gz X 1286 [.ref 98, .ref 0, .ref 33, .int (nI j)] [] M') : Gz X 943 [.ref 98, .ref 0, .ref 33, .int (nI j)] [] M := by
  refine r_aload_n hO dL_law_943 rfl ?_
  refine r_aload_n hO dL_law_944 rfl ?_
  refine r_iload_n hO dL_law_945 rfl ?_
  refine r_iconst hO dL_law_946 ic_1 ?_
  refine r_iadd hO dL_law_947 ?_
  refine r_sld hSc hO dL_law_948 (j + 1) (nI_1 j) hL3 (by omega) ?_
  refine r_callV hO dL_law_949 kRL_126 miX4_kinds (zX4_kinds _ hC) ⟨Nat.le_of_ble_eq_true rfl, Nat.le_of_ble_eq_true rfl, rfl, Nat.le_of_ble_eq_true rfl⟩ rfl rfl (fun o1 M1 hpo => ?_)
  obtain ⟨rfl, C1, E1⟩ := hpo
  refine r_aload_n hO dL_law_952 rfl ?_
  refine r_aload_n hO dL_law_953 rfl ?_
  refine r_iload_n hO dL_law_954 rfl ?_
  refine r_iconst hO dL_law_955 ic_1 ?_
  refine r_iadd hO dL_law_956 ?_
  refine r_sld hSc hO dL_law_957 (j + 1) (nI_1 j) hL3 (by omega) ?_
  refine r_callV hO dL_law_958 kRL_129 miX5_kinds (zX5_kinds _ (hD.eqv E1)) ⟨Nat.le_of_ble_eq_true rfl, Nat.le_of_ble_eq_true rfl, rfl, Nat.le_of_ble_eq_true rfl⟩ rfl rfl (fun o2 M2 hpo => ?_)
  obtain ⟨rfl, D2, E2⟩ := hpo
  refine r_icmp_eq 1286 hO dL_law_961 (by decide) (fun _ => ?_) (fun z => absurd rfl z)
  exact nxt M2 _ (C1.eqv E2) D2
set_option maxHeartbeats 2000000 in
theorem law_c28 {X : Cxz} (hO : Okz X cL_law RL 12) {L : Nat} {xs : Nat → Int32} (hSc : SCz X L xs) (hL3 : L ≤ 320) {j : Nat} (hj : j + 5 ≤ L) {M : Mm} {σ : Sta} (hC : RC M σ) (hD : RD M σ) (nxt : ∀ (M' : Mm) (σ' : Sta), RC M' σ' → RD M' σ' → Gz X 1286 [.ref 98, .ref 0, .ref 33, .int (nI j)] [] M') : Gz X 966 [.ref 98, .ref 0, .ref 33, .int (nI j)] [] M := by
  refine r_aload_n hO dL_law_966 rfl ?_
  refine r_aload_n hO dL_law_967 rfl ?_
  refine r_iload_n hO dL_law_968 rfl ?_
  refine r_iconst hO dL_law_969 ic_1 ?_
  refine r_iadd hO dL_law_970 ?_
  refine r_sld hSc hO dL_law_971 (j + 1) (nI_1 j) hL3 (by omega) ?_
  refine r_callV hO dL_law_972 kRL_130 miX4_wants (zX4_wants _ hC) ⟨Nat.le_of_ble_eq_true rfl, Nat.le_of_ble_eq_true rfl, rfl, Nat.le_of_ble_eq_true rfl⟩ rfl rfl (fun o1 M1 hpo => ?_)
  obtain ⟨rfl, C1, E1⟩ := hpo
  refine r_aload_n hO dL_law_975 rfl ?_
  refine r_aload_n hO dL_law_976 rfl ?_
  refine r_iload_n hO dL_law_977 rfl ?_
  refine r_iconst hO dL_law_978 ic_1 ?_
  refine r_iadd hO dL_law_979 ?_
  refine r_sld hSc hO dL_law_980 (j + 1) (nI_1 j) hL3 (by omega) ?_
  refine r_callV hO dL_law_981 kRL_133 miX5_wants (zX5_wants _ (hD.eqv E1)) ⟨Nat.le_of_ble_eq_true rfl, Nat.le_of_ble_eq_true rfl, rfl, Nat.le_of_ble_eq_true rfl⟩ rfl rfl (fun o2 M2 hpo => ?_)
  obtain ⟨rfl, D2, E2⟩ := hpo
  refine r_icmp_eq 1286 hO dL_law_984 (by decide) (fun _ => ?_) (fun z => absurd rfl z)
  exact nxt M2 _ (C1.eqv E2) D2
set_option maxHeartbeats 2000000 in
theorem law_c29 {X : Cxz} (hO : Okz X cL_law RL 12) {L : Nat} {xs : Nat → Int32} (hSc : SCz X L xs) (hL3 : L ≤ 320) {j : Nat} (hj : j + 5 ≤ L) {M : Mm} {σ : Sta} (hC : RC M σ) (hD : RD M σ) (nxt : ∀ (M' : Mm) (σ' : Sta), RC M' σ' → RD M' σ' → Gz X 1286 [.ref 98, .ref 0, .ref 33, .int (nI j)] [] M') : Gz X 989 [.ref 98, .ref 0, .ref 33, .int (nI j)] [] M := by
  refine r_aload_n hO dL_law_989 rfl ?_
  refine r_aload_n hO dL_law_990 rfl ?_
  refine r_iload_n hO dL_law_991 rfl ?_
  refine r_iconst hO dL_law_992 ic_1 ?_
  refine r_iadd hO dL_law_993 ?_
  refine r_sld hSc hO dL_law_994 (j + 1) (nI_1 j) hL3 (by omega) ?_
  refine r_aload_n hO dL_law_995 rfl ?_
  refine r_iload_n hO dL_law_996 rfl ?_
  refine r_iconst hO dL_law_997 ic_2 ?_
  refine r_iadd hO dL_law_998 ?_
  refine r_sld hSc hO dL_law_999 (j + 2) (nI_k2 j) hL3 (by omega) ?_
  refine r_callV hO dL_law_1000 kRL_134 miX4_ask (zX4_ask _ hC) ⟨Nat.le_of_ble_eq_true rfl, Nat.le_of_ble_eq_true rfl, rfl, Nat.le_of_ble_eq_true rfl⟩ rfl rfl (fun o1 M1 hpo => ?_)
  obtain ⟨rfl, C1, E1⟩ := hpo
  refine r_aload_n hO dL_law_1003 rfl ?_
  refine r_aload_n hO dL_law_1004 rfl ?_
  refine r_iload_n hO dL_law_1005 rfl ?_
  refine r_iconst hO dL_law_1006 ic_1 ?_
  refine r_iadd hO dL_law_1007 ?_
  refine r_sld hSc hO dL_law_1008 (j + 1) (nI_1 j) hL3 (by omega) ?_
  refine r_aload_n hO dL_law_1009 rfl ?_
  refine r_iload_n hO dL_law_1010 rfl ?_
  refine r_iconst hO dL_law_1011 ic_2 ?_
  refine r_iadd hO dL_law_1012 ?_
  refine r_sld hSc hO dL_law_1013 (j + 2) (nI_k2 j) hL3 (by omega) ?_
  refine r_callV hO dL_law_1014 kRL_137 miX5_ask (zX5_ask _ (hD.eqv E1)) ⟨Nat.le_of_ble_eq_true rfl, Nat.le_of_ble_eq_true rfl, rfl, Nat.le_of_ble_eq_true rfl⟩ rfl rfl (fun o2 M2 hpo => ?_)
  obtain ⟨rfl, D2, E2⟩ := hpo
  refine r_icmp_eq 1286 hO dL_law_1017 (by decide) (fun _ => ?_) (fun z => absurd rfl z)
  exact nxt M2 _ (C1.eqv E2) D2
set_option maxHeartbeats 2000000 in
theorem law_c30 {X : Cxz} (hO : Okz X cL_law RL 12) {L : Nat} {xs : Nat → Int32} (hSc : SCz X L xs) (hL3 : L ≤ 320) {j : Nat} (hj : j + 5 ≤ L) {M : Mm} {σ : Sta} (hC : RC M σ) (hD : RD M σ) (nxt : ∀ (M' : Mm) (σ' : Sta), RC M' σ' → RD M' σ' → Gz X 1286 [.ref 98, .ref 0, .ref 33, .int (nI j)] [] M') : Gz X 1022 [.ref 98, .ref 0, .ref 33, .int (nI j)] [] M := by
  refine r_aload_n hO dL_law_1022 rfl ?_
  refine r_aload_n hO dL_law_1023 rfl ?_
  refine r_iload_n hO dL_law_1024 rfl ?_
  refine r_iconst hO dL_law_1025 ic_1 ?_
  refine r_iadd hO dL_law_1026 ?_
  refine r_sld hSc hO dL_law_1027 (j + 1) (nI_1 j) hL3 (by omega) ?_
  refine r_aload_n hO dL_law_1028 rfl ?_
  refine r_iload_n hO dL_law_1029 rfl ?_
  refine r_iconst hO dL_law_1030 ic_2 ?_
  refine r_iadd hO dL_law_1031 ?_
  refine r_sld hSc hO dL_law_1032 (j + 2) (nI_k2 j) hL3 (by omega) ?_
  refine r_aload_n hO dL_law_1033 rfl ?_
  refine r_iload_n hO dL_law_1034 rfl ?_
  refine r_iconst hO dL_law_1035 ic_3 ?_
  refine r_iadd hO dL_law_1036 ?_
  refine r_sld hSc hO dL_law_1037 (j + 3) (nI_k3 j) hL3 (by omega) ?_
  refine r_callV hO dL_law_1038 kRL_138 miX4_drift (zX4_drift _ hC) ⟨Nat.le_of_ble_eq_true rfl, Nat.le_of_ble_eq_true rfl, rfl, Nat.le_of_ble_eq_true rfl⟩ rfl rfl (fun o1 M1 hpo => ?_)
  obtain ⟨rfl, C1, E1⟩ := hpo
  refine r_aload_n hO dL_law_1041 rfl ?_
  refine r_aload_n hO dL_law_1042 rfl ?_
  refine r_iload_n hO dL_law_1043 rfl ?_
  refine r_iconst hO dL_law_1044 ic_1 ?_
  refine r_iadd hO dL_law_1045 ?_
  refine r_sld hSc hO dL_law_1046 (j + 1) (nI_1 j) hL3 (by omega) ?_
  refine r_aload_n hO dL_law_1047 rfl ?_
  refine r_iload_n hO dL_law_1048 rfl ?_
  refine r_iconst hO dL_law_1049 ic_2 ?_
  refine r_iadd hO dL_law_1050 ?_
  refine r_sld hSc hO dL_law_1051 (j + 2) (nI_k2 j) hL3 (by omega) ?_
  refine r_aload_n hO dL_law_1052 rfl ?_
  refine r_iload_n hO dL_law_1053 rfl ?_
  refine r_iconst hO dL_law_1054 ic_3 ?_
  refine r_iadd hO dL_law_1055 ?_
  refine r_sld hSc hO dL_law_1056 (j + 3) (nI_k3 j) hL3 (by omega) ?_
  refine r_callV hO dL_law_1057 kRL_141 miX5_drift (zX5_drift _ (hD.eqv E1)) ⟨Nat.le_of_ble_eq_true rfl, Nat.le_of_ble_eq_true rfl, rfl, Nat.le_of_ble_eq_true rfl⟩ rfl rfl (fun o2 M2 hpo => ?_)
  obtain ⟨rfl, D2, E2⟩ := hpo
  refine r_icmp_eq 1286 hO dL_law_1060 (by decide) (fun _ => ?_) (fun z => absurd rfl z)
  exact nxt M2 _ (C1.eqv E2) D2
set_option maxHeartbeats 2000000 in
theorem law_c31 {X : Cxz} (hO : Okz X cL_law RL 12) {L : Nat} {xs : Nat → Int32} (hSc : SCz X L xs) (hL3 : L ≤ 320) {j : Nat} (hj : j + 5 ≤ L) {M : Mm} {σ : Sta} (hC : RC M σ) (hD : RD M σ) (nxt : ∀ (M' : Mm) (σ' : Sta), RC M' σ' → RD M' σ' → Gz X 1286 [.ref 98, .ref 0, .ref 33, .int (nI j)] [] M') : Gz X 1065 [.ref 98, .ref 0, .ref 33, .int (nI j)] [] M := by
  refine r_aload_n hO dL_law_1065 rfl ?_
  refine r_aload_n hO dL_law_1066 rfl ?_
  refine r_iload_n hO dL_law_1067 rfl ?_
  refine r_iconst hO dL_law_1068 ic_1 ?_
  refine r_iadd hO dL_law_1069 ?_
  refine r_sld hSc hO dL_law_1070 (j + 1) (nI_1 j) hL3 (by omega) ?_
  refine r_callV hO dL_law_1071 kRL_142 miX4_keep (zX4_keep _ hC) ⟨Nat.le_of_ble_eq_true rfl, Nat.le_of_ble_eq_true rfl, rfl, Nat.le_of_ble_eq_true rfl⟩ rfl rfl (fun o1 M1 hpo => ?_)
  obtain ⟨rfl, C1, E1⟩ := hpo
  refine r_aload_n hO dL_law_1074 rfl ?_
  refine r_aload_n hO dL_law_1075 rfl ?_
  refine r_iload_n hO dL_law_1076 rfl ?_
  refine r_iconst hO dL_law_1077 ic_1 ?_
  refine r_iadd hO dL_law_1078 ?_
  refine r_sld hSc hO dL_law_1079 (j + 1) (nI_1 j) hL3 (by omega) ?_
  refine r_callV hO dL_law_1080 kRL_145 miX5_keep (zX5_keep _ (hD.eqv E1)) ⟨Nat.le_of_ble_eq_true rfl, Nat.le_of_ble_eq_true rfl, rfl, Nat.le_of_ble_eq_true rfl⟩ rfl rfl (fun o2 M2 hpo => ?_)
  obtain ⟨rfl, D2, E2⟩ := hpo
  refine r_icmp_eq 1286 hO dL_law_1083 (by decide) (fun _ => ?_) (fun z => absurd rfl z)
  exact nxt M2 _ (C1.eqv E2) D2
set_option maxHeartbeats 2000000 in
theorem law_c32 {X : Cxz} (hO : Okz X cL_law RL 12) {L : Nat} {xs : Nat → Int32} (hSc : SCz X L xs) (hL3 : L ≤ 320) {j : Nat} (hj : j + 5 ≤ L) {M : Mm} {σ : Sta} (hC : RC M σ) (hD : RD M σ) (nxt : ∀ (M' : Mm) (σ' : Sta), RC M' σ' → RD M' σ' → Gz X 1286 [.ref 98, .ref 0, .ref 33, .int (nI j)] [] M') : Gz X 1088 [.ref 98, .ref 0, .ref 33, .int (nI j)] [] M := by
  refine r_aload_n hO dL_law_1088 rfl ?_
  refine r_aload_n hO dL_law_1089 rfl ?_
  refine r_iload_n hO dL_law_1090 rfl ?_
  refine r_iconst hO dL_law_1091 ic_1 ?_
  refine r_iadd hO dL_law_1092 ?_
  refine r_sld hSc hO dL_law_1093 (j + 1) (nI_1 j) hL3 (by omega) ?_
  refine r_callV hO dL_law_1094 kRL_146 miX4_back (zX4_back _ hC) ⟨Nat.le_of_ble_eq_true rfl, Nat.le_of_ble_eq_true rfl, rfl, Nat.le_of_ble_eq_true rfl⟩ rfl rfl (fun o1 M1 hpo => ?_)
  obtain ⟨rfl, C1, E1⟩ := hpo
  refine r_aload_n hO dL_law_1097 rfl ?_
  refine r_aload_n hO dL_law_1098 rfl ?_
  refine r_iload_n hO dL_law_1099 rfl ?_
  refine r_iconst hO dL_law_1100 ic_1 ?_
  refine r_iadd hO dL_law_1101 ?_
  refine r_sld hSc hO dL_law_1102 (j + 1) (nI_1 j) hL3 (by omega) ?_
  refine r_callV hO dL_law_1103 kRL_149 miX5_back (zX5_back _ (hD.eqv E1)) ⟨Nat.le_of_ble_eq_true rfl, Nat.le_of_ble_eq_true rfl, rfl, Nat.le_of_ble_eq_true rfl⟩ rfl rfl (fun o2 M2 hpo => ?_)
  obtain ⟨rfl, D2, E2⟩ := hpo
  refine r_icmp_eq 1286 hO dL_law_1106 (by decide) (fun _ => ?_) (fun z => absurd rfl z)
  exact nxt M2 _ (C1.eqv E2) D2
set_option maxHeartbeats 2000000 in
theorem law_c33 {X : Cxz} (hO : Okz X cL_law RL 12) {L : Nat} {xs : Nat → Int32} (hSc : SCz X L xs) (hL3 : L ≤ 320) {j : Nat} (hj : j + 5 ≤ L) {M : Mm} {σ : Sta} (hC : RC M σ) (hD : RD M σ) (nxt : ∀ (M' : Mm) (σ' : Sta), RC M' σ' → RD M' σ' → Gz X 1286 [.ref 98, .ref 0, .ref 33, .int (nI j)] [] M') : Gz X 1111 [.ref 98, .ref 0, .ref 33, .int (nI j)] [] M := by
  refine r_aload_n hO dL_law_1111 rfl ?_
  refine r_aload_n hO dL_law_1112 rfl ?_
  refine r_iload_n hO dL_law_1113 rfl ?_
  refine r_iconst hO dL_law_1114 ic_1 ?_
  refine r_iadd hO dL_law_1115 ?_
  refine r_sld hSc hO dL_law_1116 (j + 1) (nI_1 j) hL3 (by omega) ?_
  refine r_aload_n hO dL_law_1117 rfl ?_
  refine r_iload_n hO dL_law_1118 rfl ?_
  refine r_iconst hO dL_law_1119 ic_2 ?_
  refine r_iadd hO dL_law_1120 ?_
  refine r_sld hSc hO dL_law_1121 (j + 2) (nI_k2 j) hL3 (by omega) ?_
  refine r_aload_n hO dL_law_1122 rfl ?_
  refine r_iload_n hO dL_law_1123 rfl ?_
  refine r_iconst hO dL_law_1124 ic_3 ?_
  refine r_iadd hO dL_law_1125 ?_
  refine r_sld hSc hO dL_law_1126 (j + 3) (nI_k3 j) hL3 (by omega) ?_
  refine r_callV hO dL_law_1127 kRL_150 miX4_sheet (zX4_sheet _ hC) ⟨Nat.le_of_ble_eq_true rfl, Nat.le_of_ble_eq_true rfl, rfl, Nat.le_of_ble_eq_true rfl⟩ rfl rfl (fun o1 M1 hpo => ?_)
  obtain ⟨rfl, C1, E1⟩ := hpo
  refine r_aload_n hO dL_law_1130 rfl ?_
  refine r_aload_n hO dL_law_1131 rfl ?_
  refine r_iload_n hO dL_law_1132 rfl ?_
  refine r_iconst hO dL_law_1133 ic_1 ?_
  refine r_iadd hO dL_law_1134 ?_
  refine r_sld hSc hO dL_law_1135 (j + 1) (nI_1 j) hL3 (by omega) ?_
  refine r_aload_n hO dL_law_1136 rfl ?_
  refine r_iload_n hO dL_law_1137 rfl ?_
  refine r_iconst hO dL_law_1138 ic_2 ?_
  refine r_iadd hO dL_law_1139 ?_
  refine r_sld hSc hO dL_law_1140 (j + 2) (nI_k2 j) hL3 (by omega) ?_
  refine r_aload_n hO dL_law_1141 rfl ?_
  refine r_iload_n hO dL_law_1142 rfl ?_
  refine r_iconst hO dL_law_1143 ic_3 ?_
  refine r_iadd hO dL_law_1144 ?_
  refine r_sld hSc hO dL_law_1145 (j + 3) (nI_k3 j) hL3 (by omega) ?_
  refine r_callV hO dL_law_1146 kRL_153 miX5_sheet (zX5_sheet _ (hD.eqv E1)) ⟨Nat.le_of_ble_eq_true rfl, Nat.le_of_ble_eq_true rfl, rfl, Nat.le_of_ble_eq_true rfl⟩ rfl rfl (fun o2 M2 hpo => ?_)
  obtain ⟨rfl, D2, E2⟩ := hpo
  refine r_icmp_eq 1286 hO dL_law_1149 (by decide) (fun _ => ?_) (fun z => absurd rfl z)
  exact nxt M2 _ (C1.eqv E2) D2
set_option maxHeartbeats 2000000 in
theorem law_c34 {X : Cxz} (hO : Okz X cL_law RL 12) {L : Nat} {xs : Nat → Int32} (hSc : SCz X L xs) (hL3 : L ≤ 320) {j : Nat} (hj : j + 5 ≤ L) {M : Mm} {σ : Sta} (hC : RC M σ) (hD : RD M σ) (nxt : ∀ (M' : Mm) (σ' : Sta), RC M' σ' → RD M' σ' → Gz X 1286 [.ref 98, .ref 0, .ref 33, .int (nI j)] [] M') : Gz X 1154 [.ref 98, .ref 0, .ref 33, .int (nI j)] [] M := by
  refine r_aload_n hO dL_law_1154 rfl ?_
  refine r_aload_n hO dL_law_1155 rfl ?_
  refine r_iload_n hO dL_law_1156 rfl ?_
  refine r_iconst hO dL_law_1157 ic_1 ?_
  refine r_iadd hO dL_law_1158 ?_
  refine r_sld hSc hO dL_law_1159 (j + 1) (nI_1 j) hL3 (by omega) ?_
  refine r_aload_n hO dL_law_1160 rfl ?_
  refine r_iload_n hO dL_law_1161 rfl ?_
  refine r_iconst hO dL_law_1162 ic_2 ?_
  refine r_iadd hO dL_law_1163 ?_
  refine r_sld hSc hO dL_law_1164 (j + 2) (nI_k2 j) hL3 (by omega) ?_
  refine r_aload_n hO dL_law_1165 rfl ?_
  refine r_iload_n hO dL_law_1166 rfl ?_
  refine r_iconst hO dL_law_1167 ic_3 ?_
  refine r_iadd hO dL_law_1168 ?_
  refine r_sld hSc hO dL_law_1169 (j + 3) (nI_k3 j) hL3 (by omega) ?_
  refine r_callV hO dL_law_1170 kRL_154 miX4_lay (zX4_lay _ hC) ⟨Nat.le_of_ble_eq_true rfl, Nat.le_of_ble_eq_true rfl, rfl, Nat.le_of_ble_eq_true rfl⟩ rfl rfl (fun o1 M1 hpo => ?_)
  obtain ⟨rfl, C1, E1⟩ := hpo
  refine r_aload_n hO dL_law_1173 rfl ?_
  refine r_aload_n hO dL_law_1174 rfl ?_
  refine r_iload_n hO dL_law_1175 rfl ?_
  refine r_iconst hO dL_law_1176 ic_1 ?_
  refine r_iadd hO dL_law_1177 ?_
  refine r_sld hSc hO dL_law_1178 (j + 1) (nI_1 j) hL3 (by omega) ?_
  refine r_aload_n hO dL_law_1179 rfl ?_
  refine r_iload_n hO dL_law_1180 rfl ?_
  refine r_iconst hO dL_law_1181 ic_2 ?_
  refine r_iadd hO dL_law_1182 ?_
  refine r_sld hSc hO dL_law_1183 (j + 2) (nI_k2 j) hL3 (by omega) ?_
  refine r_aload_n hO dL_law_1184 rfl ?_
  refine r_iload_n hO dL_law_1185 rfl ?_
  refine r_iconst hO dL_law_1186 ic_3 ?_
  refine r_iadd hO dL_law_1187 ?_
  refine r_sld hSc hO dL_law_1188 (j + 3) (nI_k3 j) hL3 (by omega) ?_
  refine r_callV hO dL_law_1189 kRL_157 miX5_lay (zX5_lay _ (hD.eqv E1)) ⟨Nat.le_of_ble_eq_true rfl, Nat.le_of_ble_eq_true rfl, rfl, Nat.le_of_ble_eq_true rfl⟩ rfl rfl (fun o2 M2 hpo => ?_)
  obtain ⟨rfl, D2, E2⟩ := hpo
  refine r_icmp_eq 1286 hO dL_law_1192 (by decide) (fun _ => ?_) (fun z => absurd rfl z)
  exact nxt M2 _ (C1.eqv E2) D2
set_option maxHeartbeats 2000000 in
theorem law_c35 {X : Cxz} (hO : Okz X cL_law RL 12) {L : Nat} {xs : Nat → Int32} (hSc : SCz X L xs) (hL3 : L ≤ 320) {j : Nat} (hj : j + 5 ≤ L) {M : Mm} {σ : Sta} (hC : RC M σ) (hD : RD M σ) (nxt : ∀ (M' : Mm) (σ' : Sta), RC M' σ' → RD M' σ' → Gz X 1286 [.ref 98, .ref 0, .ref 33, .int (nI j)] [] M') : Gz X 1197 [.ref 98, .ref 0, .ref 33, .int (nI j)] [] M := by
  refine r_aload_n hO dL_law_1197 rfl ?_
  refine r_aload_n hO dL_law_1198 rfl ?_
  refine r_iload_n hO dL_law_1199 rfl ?_
  refine r_iconst hO dL_law_1200 ic_1 ?_
  refine r_iadd hO dL_law_1201 ?_
  refine r_sld hSc hO dL_law_1202 (j + 1) (nI_1 j) hL3 (by omega) ?_
  refine r_aload_n hO dL_law_1203 rfl ?_
  refine r_iload_n hO dL_law_1204 rfl ?_
  refine r_iconst hO dL_law_1205 ic_2 ?_
  refine r_iadd hO dL_law_1206 ?_
  refine r_sld hSc hO dL_law_1207 (j + 2) (nI_k2 j) hL3 (by omega) ?_
  refine r_aload_n hO dL_law_1208 rfl ?_
  refine r_iload_n hO dL_law_1209 rfl ?_
  refine r_iconst hO dL_law_1210 ic_3 ?_
  refine r_iadd hO dL_law_1211 ?_
  refine r_sld hSc hO dL_law_1212 (j + 3) (nI_k3 j) hL3 (by omega) ?_
  refine r_aload_n hO dL_law_1213 rfl ?_
  refine r_iload_n hO dL_law_1214 rfl ?_
  refine r_iconst hO dL_law_1215 ic_4 ?_
  refine r_iadd hO dL_law_1216 ?_
  refine r_sld hSc hO dL_law_1217 (j + 4) (nI_k4 j) hL3 (by omega) ?_
  refine r_callV hO dL_law_1218 kRL_158 miX4_read (zX4_read _ hC) ⟨Nat.le_of_ble_eq_true rfl, Nat.le_of_ble_eq_true rfl, rfl, Nat.le_of_ble_eq_true rfl⟩ rfl rfl (fun o1 M1 hpo => ?_)
  obtain ⟨rfl, C1, E1⟩ := hpo
  refine r_aload_n hO dL_law_1221 rfl ?_
  refine r_aload_n hO dL_law_1222 rfl ?_
  refine r_iload_n hO dL_law_1223 rfl ?_
  refine r_iconst hO dL_law_1224 ic_1 ?_
  refine r_iadd hO dL_law_1225 ?_
  refine r_sld hSc hO dL_law_1226 (j + 1) (nI_1 j) hL3 (by omega) ?_
  refine r_aload_n hO dL_law_1227 rfl ?_
  refine r_iload_n hO dL_law_1228 rfl ?_
  refine r_iconst hO dL_law_1229 ic_2 ?_
  refine r_iadd hO dL_law_1230 ?_
  refine r_sld hSc hO dL_law_1231 (j + 2) (nI_k2 j) hL3 (by omega) ?_
  refine r_aload_n hO dL_law_1232 rfl ?_
  refine r_iload_n hO dL_law_1233 rfl ?_
  refine r_iconst hO dL_law_1234 ic_3 ?_
  refine r_iadd hO dL_law_1235 ?_
  refine r_sld hSc hO dL_law_1236 (j + 3) (nI_k3 j) hL3 (by omega) ?_
  refine r_aload_n hO dL_law_1237 rfl ?_
  refine r_iload_n hO dL_law_1238 rfl ?_
  refine r_iconst hO dL_law_1239 ic_4 ?_
  refine r_iadd hO dL_law_1240 ?_
  refine r_sld hSc hO dL_law_1241 (j + 4) (nI_k4 j) hL3 (by omega) ?_
  refine r_callV hO dL_law_1242 kRL_162 miX5_read (zX5_read _ (hD.eqv E1)) ⟨Nat.le_of_ble_eq_true rfl, Nat.le_of_ble_eq_true rfl, rfl, Nat.le_of_ble_eq_true rfl⟩ rfl rfl (fun o2 M2 hpo => ?_)
  obtain ⟨rfl, D2, E2⟩ := hpo
  refine r_icmp_eq 1286 hO dL_law_1245 (by decide) (fun _ => ?_) (fun z => absurd rfl z)
  exact nxt M2 _ (C1.eqv E2) D2
set_option maxHeartbeats 2000000 in
theorem law_c36 {X : Cxz} (hO : Okz X cL_law RL 12) {L : Nat} {xs : Nat → Int32} (hSc : SCz X L xs) (hL3 : L ≤ 320) {j : Nat} (hj : j + 5 ≤ L) {M : Mm} {σ : Sta} (hC : RC M σ) (hD : RD M σ) (nxt : ∀ (M' : Mm) (σ' : Sta), RC M' σ' → RD M' σ' → Gz X 1286 [.ref 98, .ref 0, .ref 33, .int (nI j)] [] M') : Gz X 1250 [.ref 98, .ref 0, .ref 33, .int (nI j)] [] M := by
  refine r_aload_n hO dL_law_1250 rfl ?_
  refine r_callV hO dL_law_1251 kRL_163 miX4_torn (zX4_torn _ hC) ⟨Nat.le_of_ble_eq_true rfl, Nat.le_of_ble_eq_true rfl, rfl, Nat.le_of_ble_eq_true rfl⟩ rfl rfl (fun o1 M1 hpo => ?_)
  obtain ⟨rfl, C1, E1⟩ := hpo
  refine r_aload_n hO dL_law_1254 rfl ?_
  refine r_callV hO dL_law_1255 kRL_166 miX5_torn (zX5_torn _ (hD.eqv E1)) ⟨Nat.le_of_ble_eq_true rfl, Nat.le_of_ble_eq_true rfl, rfl, Nat.le_of_ble_eq_true rfl⟩ rfl rfl (fun o2 M2 hpo => ?_)
  obtain ⟨rfl, D2, E2⟩ := hpo
  refine r_icmp_eq 1286 hO dL_law_1258 (by decide) (fun _ => ?_) (fun z => absurd rfl z)
  exact nxt M2 _ (C1.eqv E2) D2
set_option maxHeartbeats 2000000 in
theorem law_c37 {X : Cxz} (hO : Okz X cL_law RL 12) {L : Nat} {xs : Nat → Int32} (hSc : SCz X L xs) (hL3 : L ≤ 320) {j : Nat} (hj : j + 5 ≤ L) {M : Mm} {σ : Sta} (hC : RC M σ) (hD : RD M σ) (nxt : ∀ (M' : Mm) (σ' : Sta), RC M' σ' → RD M' σ' → Gz X 1286 [.ref 98, .ref 0, .ref 33, .int (nI j)] [] M') : Gz X 1263 [.ref 98, .ref 0, .ref 33, .int (nI j)] [] M := by
  refine r_aload_n hO dL_law_1263 rfl ?_
  refine r_aload_n hO dL_law_1264 rfl ?_
  refine r_iload_n hO dL_law_1265 rfl ?_
  refine r_iconst hO dL_law_1266 ic_1 ?_
  refine r_iadd hO dL_law_1267 ?_
  refine r_sld hSc hO dL_law_1268 (j + 1) (nI_1 j) hL3 (by omega) ?_
  refine r_callV hO dL_law_1269 kRL_167 miX4_count (zX4_count _ hC) ⟨Nat.le_of_ble_eq_true rfl, Nat.le_of_ble_eq_true rfl, rfl, Nat.le_of_ble_eq_true rfl⟩ rfl rfl (fun o1 M1 hpo => ?_)
  obtain ⟨rfl, C1, E1⟩ := hpo
  refine r_aload_n hO dL_law_1272 rfl ?_
  refine r_aload_n hO dL_law_1273 rfl ?_
  refine r_iload_n hO dL_law_1274 rfl ?_
  refine r_iconst hO dL_law_1275 ic_1 ?_
  refine r_iadd hO dL_law_1276 ?_
  refine r_sld hSc hO dL_law_1277 (j + 1) (nI_1 j) hL3 (by omega) ?_
  refine r_callV hO dL_law_1278 kRL_170 miX5_count (zX5_count _ (hD.eqv E1)) ⟨Nat.le_of_ble_eq_true rfl, Nat.le_of_ble_eq_true rfl, rfl, Nat.le_of_ble_eq_true rfl⟩ rfl rfl (fun o2 M2 hpo => ?_)
  obtain ⟨rfl, D2, E2⟩ := hpo
  refine r_icmp_eq 1286 hO dL_law_1281 (by decide) (fun _ => ?_) (fun z => absurd rfl z)
  exact nxt M2 _ (C1.eqv E2) D2
