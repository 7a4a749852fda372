/-! the law's loop, and its start -/
theorem Kz.useD {X : Kxz} {D : va_G} {cT : Nat → ClassId} {A : Nat → Prop} {N pc : Nat} {lv : List (Nat × Value)} {st : List Value} {ws : va_W} {cells slots : Nat} (kk : va_D A ws → Kz X D cT A N pc lv st ws cells slots) : Kz X D cT A N pc lv st ws cells slots := by
  obtain ⟨p, l, e, R, s, m, args, below, meth, c, Q⟩ := X
  intro H locs ls hl hP hD hS
  exact kk hD H locs ls hl hP hD hS
theorem sw_0_37 (x : Int32) : (∃ k : Nat, k ≤ 37 ∧ x = nI k) ∨ (x.toInt < 0 ∨ 37 < x.toInt) := by
  by_cases h0 : x < 0
  · right; left
    rw [Int32.lt_iff_toInt_lt] at h0
    exact h0
  · obtain ⟨k, hk, e⟩ := nI_of h0
    by_cases h : k ≤ 37
    · exact Or.inl ⟨k, h, e⟩
    · right; right
      have h1 : nI 37 < x := by rw [e]; exact nI_lt (by omega) hk
      rw [Int32.lt_iff_toInt_lt] at h1
      exact h1
theorem law_len {L j : Nat} (hL : L ≤ 320) (hj : j ≤ L) (h : ¬ nI L - 5 < nI j) : j + 5 ≤ L := by
  by_cases h5 : 5 ≤ L
  · rw [show (5 : Int32) = nI 5 from rfl, nI_sub h5, nI_ltI (by omega) (by omega)] at h
    omega
  · exfalso
    apply h
    have h1 : nI L - 5 < 0 := by
      rcases (show L = 0 ∨ L = 1 ∨ L = 2 ∨ L = 3 ∨ L = 4 by omega) with rfl | rfl | rfl | rfl | rfl <;> decide
    rw [Int32.lt_iff_toInt_lt] at h1 ⊢
    have h2 : (0 : Int32) ≤ nI j := nI_pos' (by omega)
    rw [Int32.le_iff_toInt_le] at h2
    omega
set_option maxHeartbeats 8000000 in
theorem law_loop {X : Cxz} (hLn : nLz X = 4) (hO : Okz X cL_law RL 12) (hQ : LQz X) {L : Nat} {xs : Nat → Int32} (hSc : SCz X L xs) (hL3 : L ≤ 320) : ∀ (n j : Nat) (M : Mm) (σ : Sta), j ≤ L → L + 1 ≤ j + n → RC M σ → RD M σ → Gz X 18 [.ref 98, .ref 0, .ref 33, .int (nI j)] [] M := by
  intro n
  induction n with
  | zero => intro j M σ h1 h2; omega
  | succ n ih =>
    intro j M σ h1 h2 hC hD
    have nxt : j + 5 ≤ L → ∀ (M' : Mm) (σ' : Sta), RC M' σ' → RD M' σ' → Gz X 1286 [.ref 98, .ref 0, .ref 33, .int (nI j)] [] M' := by
      intro hj M' σ' hC hD
      refine s_iinc hLn hO dL_law_1286 rfl (show Int32.ofInt 5 = 5 by decide) (by decide) rfl ?_
      rw [nI_k5]
      refine r_goto 18 hO dL_law_1289 (by decide) ?_
      exact ih (j + 5) M' σ' (by omega) (by omega) hC hD
    refine r_iload_n hO dL_law_18 rfl ?_
    refine r_aload_n hO dL_law_19 rfl ?_
    refine r_sclen hSc hO dL_law_20 ?_
    refine r_iconst hO dL_law_21 ic_5 ?_
    refine r_isub hO dL_law_22 ?_
    refine r_icmp_gt 1292 hO dL_law_23 (by decide) (fun _ => ?_) (fun hc => ?_)
    · refine r_iconst hO dL_law_1292 ic_1 ?_
      exact r_lawret hQ hO dL_law_1293
    · have hj := law_len hL3 h1 hc
      refine r_aload_n hO dL_law_26 rfl ?_
      refine r_iload_n hO dL_law_27 rfl ?_
      refine r_sld hSc hO dL_law_28 j rfl hL3 (by omega) ?_
      refine r_bipush hO dL_law_29 bc_63 ?_
      refine r_iand hO dL_law_31 ?_
      rcases sw_0_37 (xs j &&& 63) with ⟨k, hk, hx⟩ | hx
      · rw [hx]
        rcases (show k = 0 ∨ k = 1 ∨ k = 2 ∨ k = 3 ∨ k = 4 ∨ k = 5 ∨ k = 6 ∨ k = 7 ∨ k = 8 ∨ k = 9 ∨ k = 10 ∨ k = 11 ∨ k = 12 ∨ k = 13 ∨ k = 14 ∨ k = 15 ∨ k = 16 ∨ k = 17 ∨ k = 18 ∨ k = 19 ∨ k = 20 ∨ k = 21 ∨ k = 22 ∨ k = 23 ∨ k = 24 ∨ k = 25 ∨ k = 26 ∨ k = 27 ∨ k = 28 ∨ k = 29 ∨ k = 30 ∨ k = 31 ∨ k = 32 ∨ k = 33 ∨ k = 34 ∨ k = 35 ∨ k = 36 ∨ k = 37 by omega) with rfl | rfl | rfl | rfl | rfl | rfl | rfl | rfl | rfl | rfl | rfl | rfl | rfl | rfl | rfl | rfl | rfl | rfl | rfl | rfl | rfl | rfl | rfl | rfl | rfl | rfl | rfl | rfl | rfl | rfl | rfl | rfl | rfl | rfl | rfl | rfl | rfl | rfl
        · exact r_tabIn 200 hO dL_law_32 (by decide) (by decide) rfl (by decide) (law_c0 hO hSc hL3 hj hC hD (nxt hj))
        · exact r_tabIn 223 hO dL_law_32 (by decide) (by decide) rfl (by decide) (law_c1 hO hSc hL3 hj hC hD (nxt hj))
        · exact r_tabIn 246 hO dL_law_32 (by decide) (by decide) rfl (by decide) (law_c2 hO hSc hL3 hj hC hD (nxt hj))
        · exact r_tabIn 259 hO dL_law_32 (by decide) (by decide) rfl (by decide) (law_c3 hO hSc hL3 hj hC hD (nxt hj))
        · exact r_tabIn 272 hO dL_law_32 (by decide) (by decide) rfl (by decide) (law_c4 hO hSc hL3 hj hC hD (nxt hj))
        · exact r_tabIn 295 hO dL_law_32 (by decide) (by decide) rfl (by decide) (law_c5 hO hSc hL3 hj hC hD (nxt hj))
        · exact r_tabIn 328 hO dL_law_32 (by decide) (by decide) rfl (by decide) (law_c6 hO hSc hL3 hj hC hD (nxt hj))
        · exact r_tabIn 361 hO dL_law_32 (by decide) (by decide) rfl (by decide) (law_c7 hO hSc hL3 hj hC hD (nxt hj))
        · exact r_tabIn 404 hO dL_law_32 (by decide) (by decide) rfl (by decide) (law_c8 hO hSc hL3 hj hC hD (nxt hj))
        · exact r_tabIn 427 hO dL_law_32 (by decide) (by decide) rfl (by decide) (law_c9 hO hSc hL3 hj hC hD (nxt hj))
        · exact r_tabIn 460 hO dL_law_32 (by decide) (by decide) rfl (by decide) (law_c10 hO hSc hL3 hj hC hD (nxt hj))
        · exact r_tabIn 483 hO dL_law_32 (by decide) (by decide) rfl (by decide) (law_c11 hO hSc hL3 hj hC hD (nxt hj))
        · exact r_tabIn 506 hO dL_law_32 (by decide) (by decide) rfl (by decide) (law_c12 hO hSc hL3 hj hC hD (nxt hj))
        · exact r_tabIn 539 hO dL_law_32 (by decide) (by decide) rfl (by decide) (law_c13 hO hSc hL3 hj hC hD (nxt hj))
        · exact r_tabIn 572 hO dL_law_32 (by decide) (by decide) rfl (by decide) (law_c14 hO hSc hL3 hj hC hD (nxt hj))
        · exact r_tabIn 585 hO dL_law_32 (by decide) (by decide) rfl (by decide) (law_c15 hO hSc hL3 hj hC hD (nxt hj))
        · exact r_tabIn 608 hO dL_law_32 (by decide) (by decide) rfl (by decide) (law_c16 hO hSc hL3 hj hC hD (nxt hj))
        · exact r_tabIn 631 hO dL_law_32 (by decide) (by decide) rfl (by decide) (law_c17 hO hSc hL3 hj hC hD (nxt hj))
        · exact r_tabIn 654 hO dL_law_32 (by decide) (by decide) rfl (by decide) (law_c18 hO hSc hL3 hj hC hD (nxt hj))
        · exact r_tabIn 677 hO dL_law_32 (by decide) (by decide) rfl (by decide) (law_c19 hO hSc hL3 hj hC hD (nxt hj))
        · exact r_tabIn 700 hO dL_law_32 (by decide) (by decide) rfl (by decide) (law_c20 hO hSc hL3 hj hC hD (nxt hj))
        · exact r_tabIn 733 hO dL_law_32 (by decide) (by decide) rfl (by decide) (law_c21 hO hSc hL3 hj hC hD (nxt hj))
        · exact r_tabIn 766 hO dL_law_32 (by decide) (by decide) rfl (by decide) (law_c22 hO hSc hL3 hj hC hD (nxt hj))
        · exact r_tabIn 799 hO dL_law_32 (by decide) (by decide) rfl (by decide) (law_c23 hO hSc hL3 hj hC hD (nxt hj))
        · exact r_tabIn 843 hO dL_law_32 (by decide) (by decide) rfl (by decide) (law_c24 hO hSc hL3 hj hC hD (nxt hj))
        · exact r_tabIn 887 hO dL_law_32 (by decide) (by decide) rfl (by decide) (law_c25 hO hSc hL3 hj hC hD (nxt hj))
        · exact r_tabIn 920 hO dL_law_32 (by decide) (by decide) rfl (by decide) (law_c26 hO hSc hL3 hj hC hD (nxt hj))
        · exact r_tabIn 943 hO dL_law_32 (by decide) (by decide) rfl (by decide) (law_c27 hO hSc hL3 hj hC hD (nxt hj))
        · exact r_tabIn 966 hO dL_law_32 (by decide) (by decide) rfl (by decide) (law_c28 hO hSc hL3 hj hC hD (nxt hj))
        · exact r_tabIn 989 hO dL_law_32 (by decide) (by decide) rfl (by decide) (law_c29 hO hSc hL3 hj hC hD (nxt hj))
        · exact r_tabIn 1022 hO dL_law_32 (by decide) (by decide) rfl (by decide) (law_c30 hO hSc hL3 hj hC hD (nxt hj))
        · exact r_tabIn 1065 hO dL_law_32 (by decide) (by decide) rfl (by decide) (law_c31 hO hSc hL3 hj hC hD (nxt hj))
        · exact r_tabIn 1088 hO dL_law_32 (by decide) (by decide) rfl (by decide) (law_c32 hO hSc hL3 hj hC hD (nxt hj))
        · exact r_tabIn 1111 hO dL_law_32 (by decide) (by decide) rfl (by decide) (law_c33 hO hSc hL3 hj hC hD (nxt hj))
        · exact r_tabIn 1154 hO dL_law_32 (by decide) (by decide) rfl (by decide) (law_c34 hO hSc hL3 hj hC hD (nxt hj))
        · exact r_tabIn 1197 hO dL_law_32 (by decide) (by decide) rfl (by decide) (law_c35 hO hSc hL3 hj hC hD (nxt hj))
        · exact r_tabIn 1250 hO dL_law_32 (by decide) (by decide) rfl (by decide) (law_c36 hO hSc hL3 hj hC hD (nxt hj))
        · exact r_tabIn 1263 hO dL_law_32 (by decide) (by decide) rfl (by decide) (law_c37 hO hSc hL3 hj hC hD (nxt hj))
      · exact r_tabOut 1286 hO dL_law_32 hx (by decide) (nxt hj M σ hC hD)
set_option maxHeartbeats 8000000 in
set_option maxRecDepth 100000 in
/-- THE LAW, from its entry -/
theorem whole_start {p : Program} {e : Env} {s : State} {m : MethodId} {below : List Frame} {meth : Method} {c : Code} (l : Launch) {b L : Nat} {xs : Nat → Int32} (hL : L ≤ 320) (C0 : lw_At p s m meth c b L xs) : W p l e room_1 s m #[Value.ref b] below meth c s.heap [] 0 0 (lw_Z below #[Value.ref b] s) (entryFrame m ([Value.ref b] : List Value).toArray 4) := by
  obtain ⟨hx, hb, hr, hml, hown, hts, hX, hbl, hlocks, hgv⟩ := C0
  obtain ⟨D, cT, hK⟩ := law_K hts
  obtain ⟨az, hz98, hRS, hZS⟩ := law_Z hts hgv
  have hN : NW s := NW.of hts
  have hAO : va_AO "WalnutHouses$Nut" s ∧ va_AO "WalnutHouses$Sheet" s := ⟨va_AO.of (hts _ (List.mem_of_getElem? (i := 193) (by decide +kernel))), va_AO.of (hts _ (List.mem_of_getElem? (i := 195) (by decide +kernel)))⟩
  rw [lg_entry_eq]
  have hl := lv_entry ([Value.ref b]) (n := 4) (Nat.le_of_ble_eq_true rfl)
  have hO : OkK (p, l, e, room_1, s, m, #[Value.ref b], below, meth, c, lw_Z below #[Value.ref b] s) D cT (fun q => s.heap.size ≤ q) 4 s.heap.size cL_law RL 12 45 2062 := ⟨hx, hb, hml, hown, fun w hw => hts w (tb_in hw), hN, hK, fun q h => h, rfl, by decide, by decide, by decide, by decide⟩
  suffices hgo : Kz (p, l, e, room_1, s, m, #[Value.ref b], below, meth, c, lw_Z below #[Value.ref b] s) D cT (fun q => s.heap.size ≤ q) 4 0 [(0, .ref b)] [] [] 0 0 from hgo s.heap [] _ hl (fun k q h => by simp at h) ⟨fun i j p q h => by simp at h, fun k q h => by simp at h⟩ va_S.rf
  have hX98 : b = az 98 := hz98.symm
  refine k_new [.null, .null, .null, .null, .null, .null, .null, .null, .null, .int 0, .int 0] tyX4 hO dL_law_0 ck4 tyX4_ok (tb_of 100 (by decide +kernel) rfl) (tb_of 101 (by decide +kernel) rfl) (tb_of 86 (by decide +kernel) rfl) (fun j hj => by rcases (show j = 0 ∨ j = 1 ∨ j = 2 ∨ j = 3 ∨ j = 4 ∨ j = 5 ∨ j = 6 ∨ j = 7 ∨ j = 8 ∨ j = 9 ∨ j = 10 by omega) with rfl | rfl | rfl | rfl | rfl | rfl | rfl | rfl | rfl | rfl | rfl <;> rfl) (Nat.le_of_ble_eq_true rfl) (Nat.le_of_ble_eq_true rfl) (fun q0 hq0 => ?_)
  show Kz (p, l, e, room_1, s, m, #[Value.ref b], below, meth, c, lw_Z below #[Value.ref b] s) D cT (fun q => s.heap.size ≤ q) 4 3 [(0, .ref b)] [.ref q0] [(q0, .inr (4, [.null, .null, .null, .null, .null, .null, .null, .null, .null, .int 0, .int 0]))] 1 11
  refine k_dup hO dL_law_3 rfl ?_
  refine k_callI (wr := []) (wc := [(q0, .inr (4, [.null, .null, .null, .null, .null, .null, .null, .null, .null, .int 0, .int 0]))]) (kX4_init _ D cT q0) hO dL_law_4 (Or.inl (tb_of 102 (by decide +kernel) rfl)) (tb_of 86 (by decide +kernel) rfl) (tb_of 103 (by decide +kernel) rfl) (tb_of 104 (by decide +kernel) rfl) ⟨by decide +kernel, by decide +kernel, by decide +kernel⟩ rfl ⟨(Nat.le_of_ble_eq_true rfl), (Nat.le_of_ble_eq_true rfl), (Nat.le_of_ble_eq_true rfl)⟩ (Nat.le_of_ble_eq_true rfl) (Nat.le_of_ble_eq_true rfl) (fun _ U V hv _ z => ⟨va_AO.moved (by rw [hv]; exact Vm.Alike.refl _) z.1, va_AO.moved (by rw [hv]; exact Vm.Alike.refl _) z.2⟩) (fun _ _ _ U _ hW => ⟨va_AO.moved hW.alike hAO.1, va_AO.moved hW.alike hAO.2⟩) (fun a1 ha1 => ?_)
  show Kz (p, l, e, room_1, s, m, #[Value.ref b], below, meth, c, lw_Z below #[Value.ref b] s) D cT (fun q => s.heap.size ≤ q) 4 7 [(0, .ref b)] [.ref q0] (wl33 a1 cT M0z) 33 997
  refine k_astore_n [(1, .ref q0), (0, .ref b)] hO dL_law_7 (by decide) rfl ?_
  refine k_new [.null, .null, .null, .null, .int 0, .null, .int 0, .int 0, .int 0, .int 0, .int 0, .int 0, .int 0, .int 0, .int 0, .int 0, .int 0, .long 0, .long 0, .long 0, .null, .null, .null, .null, .null, .int 0, .null] tyX5 hO dL_law_8 ck5 tyX5_ok (tb_of 690 (by decide +kernel) rfl) (tb_of 691 (by decide +kernel) rfl) (tb_of 91 (by decide +kernel) rfl) (fun j hj => by rcases (show j = 0 ∨ j = 1 ∨ j = 2 ∨ j = 3 ∨ j = 4 ∨ j = 5 ∨ j = 6 ∨ j = 7 ∨ j = 8 ∨ j = 9 ∨ j = 10 ∨ j = 11 ∨ j = 12 ∨ j = 13 ∨ j = 14 ∨ j = 15 ∨ j = 16 ∨ j = 17 ∨ j = 18 ∨ j = 19 ∨ j = 20 ∨ j = 21 ∨ j = 22 ∨ j = 23 ∨ j = 24 ∨ j = 25 ∨ j = 26 by omega) with rfl | rfl | rfl | rfl | rfl | rfl | rfl | rfl | rfl | rfl | rfl | rfl | rfl | rfl | rfl | rfl | rfl | rfl | rfl | rfl | rfl | rfl | rfl | rfl | rfl | rfl | rfl <;> rfl) (Nat.le_of_ble_eq_true rfl) (Nat.le_of_ble_eq_true rfl) (fun q33 hq33 => ?_)
  obtain ⟨a0, ha0⟩ : ∃ a0 : Nat → Nat, a0 = fun k => if k < 33 then a1 k else if k = 33 then q33 else az k := ⟨_, rfl⟩
  have lo : ∀ k, k < 33 → a0 k = a1 k := fun k hk => by rw [ha0]; exact if_pos hk
  have c33 : a0 33 = q33 := by rw [ha0]; rfl
  have hi : ∀ k, 45 ≤ k → a0 k = az k := fun k hk => by rw [ha0]; show (if k < 33 then a1 k else if k = 33 then q33 else az k) = az k; rw [if_neg (by omega), if_neg (by omega)]
  have f1 : (fun i : Nat => (([16, 20] : List Nat)[i]?).map a1) = fun i : Nat => (([16, 20] : List Nat)[i]?).map a0 := by
    funext i
    match i with
    | 0 => exact congrArg some (lo 16 (by decide)).symm
    | 1 => exact congrArg some (lo 20 (by decide)).symm
    | j + 2 => rfl
  have f2 : (fun i : Nat => (([24, 26, 28, 30] : List Nat)[i]?).map a1) = fun i : Nat => (([24, 26, 28, 30] : List Nat)[i]?).map a0 := by
    funext i
    match i with
    | 0 => exact congrArg some (lo 24 (by decide)).symm
    | 1 => exact congrArg some (lo 26 (by decide)).symm
    | 2 => exact congrArg some (lo 28 (by decide)).symm
    | 3 => exact congrArg some (lo 30 (by decide)).symm
    | j + 4 => rfl
  have e33 : wl33 a1 cT M0z = wl33 a0 cT M0z := by
    unfold wl33
    simp only [f1, f2, lo 0 (by decide), lo 1 (by decide), lo 2 (by decide), lo 3 (by decide), lo 4 (by decide), lo 5 (by decide), lo 6 (by decide), lo 7 (by decide), lo 8 (by decide), lo 9 (by decide), lo 10 (by decide), lo 11 (by decide), lo 12 (by decide), lo 13 (by decide), lo 14 (by decide), lo 15 (by decide), lo 16 (by decide), lo 17 (by decide), lo 18 (by decide), lo 19 (by decide), lo 20 (by decide), lo 21 (by decide), lo 22 (by decide), lo 23 (by decide), lo 24 (by decide), lo 25 (by decide), lo 26 (by decide), lo 27 (by decide), lo 28 (by decide), lo 29 (by decide), lo 30 (by decide), lo 31 (by decide), lo 32 (by decide)]
  rw [e33, ← c33]
  have hq0 : q0 = a0 0 := by rw [lo 0 (by decide)]; exact ha1.symm
  show Kz (p, l, e, room_1, s, m, #[Value.ref b], below, meth, c, lw_Z below #[Value.ref b] s) D cT (fun q => s.heap.size ≤ q) 4 11 [(1, .ref q0), (0, .ref b)] [.ref (a0 33)] (wl33 a0 cT M0z ++ [(a0 33, .inr (5, [.null, .null, .null, .null, .int 0, .null, .int 0, .int 0, .int 0, .int 0, .int 0, .int 0, .int 0, .int 0, .int 0, .int 0, .int 0, .long 0, .long 0, .long 0, .null, .null, .null, .null, .null, .int 0, .null]))]) 34 1024
  refine k_dup hO dL_law_11 rfl ?_
  refine Kz.perm (ws' := [] ++ ((a0 33, .inr (5, [.null, .null, .null, .null, .int 0, .null, .int 0, .int 0, .int 0, .int 0, .int 0, .int 0, .int 0, .int 0, .int 0, .int 0, .int 0, .long 0, .long 0, .long 0, .null, .null, .null, .null, .null, .int 0, .null])) :: wl33 a0 cT M0z)) (List.perm_append_singleton _ _) ?_
  refine Kz.useD (fun hDw => ?_)
  have hAq : ∀ (H : Heap) (q : Nat), s.heap.size ≤ H.size → va_A ((a0 33, .inr (5, [.null, .null, .null, .null, .int 0, .null, .int 0, .int 0, .int 0, .int 0, .int 0, .int 0, .int 0, .int 0, .int 0, .int 0, .int 0, .long 0, .long 0, .long 0, .null, .null, .null, .null, .null, .int 0, .null])) :: wl33 a0 cT M0z) H.size q → s.heap.size ≤ q := by
    intro H q hH hq
    rcases hq with ⟨k, x, hx⟩ | h
    · exact hDw.2 k (q, x) hx
    · exact Nat.le_trans hH h
  refine k_callI (wr := []) (wc := ((a0 33, .inr (5, [.null, .null, .null, .null, .int 0, .null, .int 0, .int 0, .int 0, .int 0, .int 0, .int 0, .int 0, .int 0, .int 0, .int 0, .int 0, .long 0, .long 0, .long 0, .null, .null, .null, .null, .null, .int 0, .null])) :: wl33 a0 cT M0z)) (kX5_init _ D cT a0 M0z) hO dL_law_12 (Or.inl (tb_of 692 (by decide +kernel) rfl)) (tb_of 91 (by decide +kernel) rfl) (tb_of 693 (by decide +kernel) rfl) (tb_of 694 (by decide +kernel) rfl) ⟨by decide +kernel, by decide +kernel, by decide +kernel⟩ rfl ⟨(Nat.le_of_ble_eq_true rfl), (Nat.le_of_ble_eq_true rfl), (Nat.le_of_ble_eq_true rfl)⟩ (Nat.le_of_ble_eq_true rfl) (Nat.le_of_ble_eq_true rfl) (fun _ U V hv hh z => ⟨z.1.same hv, by rw [hh]; exact z.2.moved (by rw [hv]; exact Vm.Alike.refl _)⟩) (fun H locs hS U hU hW => ⟨(hRS.cong hi).warm hW, by rw [hU]; exact (((hZS.cong hi).kept hS.2.1).narrow (fun q hq => hAq H q hS.1 hq)).moved hW.alike⟩) (fun u hu => ?_)
  obtain ⟨ad, M1⟩ := u
  obtain ⟨hu1, hu2, hu3⟩ := hu
  refine k_astore_n [(2, .ref (a0 33)), (1, .ref q0), (0, .ref b)] hO dL_law_15 (by decide) rfl ?_
  refine k_iconst (v := 0) hO dL_law_16 (by decide) ?_
  refine k_istore_n [(3, .int 0), (2, .ref (a0 33)), (1, .ref q0), (0, .ref b)] hO dL_law_17 (by decide) rfl ?_
  show Kz (p, l, e, room_1, s, m, #[Value.ref b], below, meth, c, lw_Z below #[Value.ref b] s) D cT (fun q => s.heap.size ≤ q) 4 18 [(3, .int 0), (2, .ref (a0 33)), (1, .ref q0), (0, .ref b)] [] (wlz ad cT M1) 45 2062
  refine Kz.useD (fun hDw2 => ?_)
  have hDk : ∀ k, k < 45 → s.heap.size ≤ ad k := fun k hk => by
    obtain ⟨x, hx⟩ := wlz_some (ad := ad) (cT := cT) M1 hk
    exact hDw2.2 k _ hx
  have h98 : ad 98 = b := (hu1 98 (by decide)).trans ((hi 98 (by decide)).trans hz98)
  have hc : ∀ k, 45 ≤ k → ad k = az k := fun k hk => (hu1 k (by omega)).trans (hi k hk)
  have hAA : ∀ q, AAz ad s.heap.size q → s.heap.size ≤ q := by
    intro q hq
    rcases hq with ⟨k, hk, rfl⟩ | h
    · exact hDk k hk
    · exact h
  have hO2 : Okz (p, l, e, room_1, s, m, #[Value.ref b], below, meth, c, 45, 2062, lw_Z below #[Value.ref b] s, D, cT, ad, 4) cL_law RL 12 := ⟨hx, hb, hml, hown, fun w hw => hts w (tb_in hw), hN, hRS.cong hc, hK, (hZS.cong hc).narrow hAA, by decide, by decide, by decide, by decide⟩
  have hQ : LQz (p, l, e, room_1, s, m, #[Value.ref b], below, meth, c, 45, 2062, lw_Z below #[Value.ref b] s, D, cT, ad, 4) := ⟨rfl, by rw [h98], by rw [h98], by decide, by decide, hr, hlocks, hDk⟩
  have hSc : SCz (p, l, e, room_1, s, m, #[Value.ref b], below, meth, c, 45, 2062, lw_Z below #[Value.ref b] s, D, cT, ad, 4) L xs := ⟨by rw [h98]; exact hX, by rw [h98]; exact hbl, fun z => by have := hAA _ z; rw [h98] at this; omega⟩
  refine Kz.gz ad M1 [.ref 98, .ref 0, .ref 33, .int (nI 0)] [] (fun q hq => Or.inr hq) (List.Perm.refl _) (fun q hq => ?_) rfl (law_loop rfl hO2 hQ hSc hL (L + 1) 0 M1 σ0z (Nat.zero_le _) (by omega) (RC_0.eqv hu3) hu2)
  obtain ⟨v, h1, h2, h3⟩ := lvK_mem.mp hq
  obtain ⟨i, x⟩ := q
  match i, h1 with
  | 0, h1 =>
    cases h1
    have h3 : x = .ref (ad 98) := h3
    rw [h3, h98]
    simp
  | 1, h1 =>
    cases h1
    have h3 : x = .ref (ad 0) := h3
    rw [h3, hu1 0 (by decide), ← hq0]
    simp
  | 2, h1 =>
    cases h1
    have h3 : x = .ref (ad 33) := h3
    rw [h3, hu1 33 (by decide)]
    simp
  | 3, h1 =>
    cases h1
    have h3 : x = .int (nI 0) := h3
    rw [h3]
    exact List.mem_cons_self
  | j + 4, h1 => simp at h1
