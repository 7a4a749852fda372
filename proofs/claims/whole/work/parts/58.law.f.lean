/-! the law's start, in three steps -/
def Xl (p : Program) (l : Launch) (e : Env) (s : State) (m : MethodId) (below : List Frame) (meth : Method) (c : Code) (b : Nat) : Kxz := (p, l, e, room_1, s, m, #[Value.ref b], below, meth, c, lw_Z below #[Value.ref b] s)
def Lb (s : State) : Nat → Prop := fun q => s.heap.size ≤ q
def LF (p : Program) (s : State) (m : MethodId) (meth : Method) (c : Code) (b L : Nat) (xs : Nat → Int32) (D : va_G) (cT : Nat → ClassId) (az : Nat → Nat) : Prop := p.tables.exec = Jvm.exec ∧ c.code = cL_law ∧ c.maxLocals = 4 ∧ s.vm.findClass RL = some m.cls ∧ (∀ w ∈ lw_tbl, w.before #[Value.ref b] s = true) ∧ NW s ∧ va_K D cls6 (tyz cT) s ∧ az 98 = b ∧ RSz az s ∧ ZSz az (Lb s) s s.heap ∧ va_X b L xs s s.heap ∧ b < s.heap.size ∧ meth.sig.returnType = ret ∧ meth.locks = false
theorem LF.ok {p : Program} {l : Launch} {e : Env} {s : State} {m : MethodId} {below : List Frame} {meth : Method} {c : Code} {b L : Nat} {xs : Nat → Int32} {D : va_G} {cT : Nat → ClassId} {az : Nat → Nat} (F : LF p s m meth c b L xs D cT az) : OkK (Xl p l e s m below meth c b) D cT (Lb s) 4 s.heap.size cL_law RL 12 45 2062 := by
  obtain ⟨hx, hb, hml, hown, hts, hN, hK, hz98, hRS, hZS, hX, hbl, hr, hlocks⟩ := F
  exact ⟨hx, hb, hml, hown, fun w hw => hts w (tb_in hw), hN, hK, fun q h => h, rfl, (show 45 ≤ 600000 by omega), (show 2062 ≤ 7302250 by omega), Nat.le_refl 12, (show 36 * 12 ≤ 440 by omega)⟩
theorem ls_3 {p : Program} {l : Launch} {e : Env} {s : State} {m : MethodId} {below : List Frame} {meth : Method} {c : Code} {b L : Nat} {xs : Nat → Int32} {D : va_G} {cT : Nat → ClassId} {az : Nat → Nat} (hL : L ≤ 320) (F : LF p s m meth c b L xs D cT az) {ad : Nat → Nat} {M1 : Mm} (hc : ∀ k, 45 ≤ k → ad k = az k) (hu2 : RD M1 σ0z) (hu3 : FDr M0z M1) : Kz (Xl p l e s m below meth c b) D cT (Lb s) 4 18 [(3, .int 0), (2, .ref (ad 33)), (1, .ref (ad 0)), (0, .ref b)] [] (wlz ad cT M1) 45 2062 := by
  obtain ⟨hx, hb, hml, hown, hts, hN, hK, hz98, hRS, hZS, hX, hbl, hr, hlocks⟩ := F
  refine Kz.useD (fun hDw2 => ?_)
  have hDk : ∀ k, k < 45 → s.heap.size ≤ ad k := fun k hk => by
    obtain ⟨x, hx⟩ := wlz_some (ad := ad) (cT := cT) M1 hk
    exact hDw2.2 k _ hx
  have h98 : ad 98 = b := (hc 98 (by decide)).trans hz98
  have hAA : ∀ q, AAz ad s.heap.size q → Lb s q := by
    intro q hq
    rcases hq with ⟨k, hk, rfl⟩ | h
    · exact hDk k hk
    · exact h
  have hO2 : Okz (p, l, e, room_1, s, m, #[Value.ref b], below, meth, c, 45, 2062, lw_Z below #[Value.ref b] s, D, cT, ad, 4) cL_law RL 12 := ⟨hx, hb, hml, hown, fun w hw => hts w (tb_in hw), hN, hRS.cong hc, hK, (hZS.cong hc).narrow hAA, (show 45 ≤ 600000 by omega), (show 2062 ≤ 7302250 by omega), Nat.le_refl 12, (show 36 * 12 ≤ 440 by omega)⟩
  have hQ : LQz (p, l, e, room_1, s, m, #[Value.ref b], below, meth, c, 45, 2062, lw_Z below #[Value.ref b] s, D, cT, ad, 4) := ⟨rfl, by rw [h98], by rw [h98], (show 45 ≤ 600000 by omega), (show 2062 ≤ 7302250 by omega), hr, hlocks, hDk⟩
  have hSc : SCz (p, l, e, room_1, s, m, #[Value.ref b], below, meth, c, 45, 2062, lw_Z below #[Value.ref b] s, D, cT, ad, 4) L xs := ⟨by rw [h98]; exact hX, by rw [h98]; exact hbl, fun z => by have z2 : s.heap.size ≤ ad 98 := hAA _ z; rw [h98] at z2; omega⟩
  refine Kz.gz ad M1 [.ref 98, .ref 0, .ref 33, .int (nI 0)] [] (fun q hq => Or.inr hq) (List.Perm.refl _) (fun q hq => ?_) rfl (law_loop rfl hO2 hQ hSc hL (L + 1) 0 M1 σ0z (Nat.zero_le _) (by omega) (RC_0.eqv hu3) hu2)
  obtain ⟨v, h1, h2, h3⟩ := lvK_mem.mp hq
  obtain ⟨i, x⟩ := q
  match i, h1 with
  | 0, h1 =>
    cases h1
    have h3 : x = .ref (ad 98) := h3
    rw [h3, h98]
    exact List.mem_of_getElem? (i := 3) rfl
  | 1, h1 =>
    cases h1
    have h3 : x = .ref (ad 0) := h3
    rw [h3]
    exact List.mem_of_getElem? (i := 2) rfl
  | 2, h1 =>
    cases h1
    have h3 : x = .ref (ad 33) := h3
    rw [h3]
    exact List.mem_of_getElem? (i := 1) rfl
  | 3, h1 =>
    cases h1
    have h3 : x = .int (nI 0) := h3
    rw [h3]
    exact List.mem_cons_self
  | j + 4, h1 => simp at h1
set_option maxHeartbeats 2000000 in
theorem ls_2 {p : Program} {l : Launch} {e : Env} {s : State} {m : MethodId} {below : List Frame} {meth : Method} {c : Code} {b L : Nat} {xs : Nat → Int32} {D : va_G} {cT : Nat → ClassId} {az : Nat → Nat} (hL : L ≤ 320) (F : LF p s m meth c b L xs D cT az) {a0 : Nat → Nat} (hi : ∀ k, 45 ≤ k → a0 k = az k) : Kz (Xl p l e s m below meth c b) D cT (Lb s) 4 12 [(1, .ref (a0 0)), (0, .ref b)] [.ref (a0 33), .ref (a0 33)] ((a0 33, .inr (5, [.null, .null, .null, .null, .int 0, .null, .int 0, .int 0, .int 0, .int 0, .int 0, .int 0, .int 0, .int 0, .int 0, .int 0, .int 0, .long 0, .long 0, .long 0, .null, .null, .null, .null, .null, .int 0, .null])) :: wl33 a0 cT M0z) 34 1024 := by
  have hRS := F.2.2.2.2.2.2.2.2.1
  have hZS := F.2.2.2.2.2.2.2.2.2.1
  refine Kz.useD (fun hDw => ?_)
  have hAq : ∀ (H : Heap) (q : Nat), s.heap.size ≤ H.size → va_A ((a0 33, .inr (5, [.null, .null, .null, .null, .int 0, .null, .int 0, .int 0, .int 0, .int 0, .int 0, .int 0, .int 0, .int 0, .int 0, .int 0, .int 0, .long 0, .long 0, .long 0, .null, .null, .null, .null, .null, .int 0, .null])) :: wl33 a0 cT M0z) H.size q → Lb s q := by
    intro H q hH hq
    rcases hq with ⟨k, x, hx⟩ | h
    · exact hDw.2 k (q, x) hx
    · exact Nat.le_trans hH h
  refine k_callI (wr := []) (wc := ((a0 33, .inr (5, [.null, .null, .null, .null, .int 0, .null, .int 0, .int 0, .int 0, .int 0, .int 0, .int 0, .int 0, .int 0, .int 0, .int 0, .int 0, .long 0, .long 0, .long 0, .null, .null, .null, .null, .null, .int 0, .null])) :: wl33 a0 cT M0z)) (kX5_init _ D cT a0 M0z) F.ok dL_law_12 (Or.inl (tb_of 692 (by decide +kernel) rfl)) (tb_of 91 (by decide +kernel) rfl) (tb_of 693 (by decide +kernel) rfl) (tb_of 694 (by decide +kernel) rfl) ⟨by decide +kernel, by decide +kernel, by decide +kernel⟩ rfl ⟨(Nat.le_of_ble_eq_true rfl), (Nat.le_of_ble_eq_true rfl), (Nat.le_of_ble_eq_true rfl)⟩ (Nat.le_of_ble_eq_true rfl) (Nat.le_of_ble_eq_true rfl) (fun _ U V hv hh z => ⟨z.1.same hv, by rw [hh]; exact z.2.moved (by rw [hv]; exact Vm.Alike.refl _)⟩) (fun H locs hS U hU hW => ⟨(hRS.cong hi).warm hW, by rw [hU]; exact (((hZS.cong hi).kept hS.2.1).narrow (fun q hq => hAq H q hS.1 hq)).moved hW.alike⟩) (fun u hu => ?_)
  obtain ⟨ad, M1⟩ := u
  obtain ⟨hu1, hu2, hu3⟩ := hu
  have hu1 : ∀ k, ¬ (34 ≤ k ∧ k ≤ 44) → ad k = a0 k := hu1
  have hu2 : RD M1 σ0z := hu2
  have hu3 : FDr M0z M1 := hu3
  refine Kz.to (ws := wlz ad cT M1) (List.nil_append _) rfl rfl ?_
  refine k_astore_n [(2, .ref (a0 33)), (1, .ref (a0 0)), (0, .ref b)] F.ok dL_law_15 (by decide) rfl ?_
  refine k_iconst (v := 0) F.ok dL_law_16 (by decide) ?_
  refine k_istore_n [(3, .int 0), (2, .ref (a0 33)), (1, .ref (a0 0)), (0, .ref b)] F.ok dL_law_17 (by decide) rfl ?_
  rw [← hu1 33 (by decide), ← hu1 0 (by decide)]
  exact ls_3 hL F (fun k hk => (hu1 k (by omega)).trans (hi k hk)) hu2 hu3
set_option maxHeartbeats 2000000 in
theorem ls_1 {p : Program} {l : Launch} {e : Env} {s : State} {m : MethodId} {below : List Frame} {meth : Method} {c : Code} {b L : Nat} {xs : Nat → Int32} {D : va_G} {cT : Nat → ClassId} {az : Nat → Nat} (hL : L ≤ 320) (F : LF p s m meth c b L xs D cT az) {a1 : Nat → Nat} : Kz (Xl p l e s m below meth c b) D cT (Lb s) 4 8 [(1, .ref (a1 0)), (0, .ref b)] [] (wl33 a1 cT M0z) 33 997 := by
  refine k_new [.null, .null, .null, .null, .int 0, .null, .int 0, .int 0, .int 0, .int 0, .int 0, .int 0, .int 0, .int 0, .int 0, .int 0, .int 0, .long 0, .long 0, .long 0, .null, .null, .null, .null, .null, .int 0, .null] tyX5 F.ok dL_law_8 ck5 tyX5_ok (tb_of 690 (by decide +kernel) rfl) (tb_of 691 (by decide +kernel) rfl) (tb_of 91 (by decide +kernel) rfl) (fun j hj => by rcases (show j = 0 ∨ j = 1 ∨ j = 2 ∨ j = 3 ∨ j = 4 ∨ j = 5 ∨ j = 6 ∨ j = 7 ∨ j = 8 ∨ j = 9 ∨ j = 10 ∨ j = 11 ∨ j = 12 ∨ j = 13 ∨ j = 14 ∨ j = 15 ∨ j = 16 ∨ j = 17 ∨ j = 18 ∨ j = 19 ∨ j = 20 ∨ j = 21 ∨ j = 22 ∨ j = 23 ∨ j = 24 ∨ j = 25 ∨ j = 26 by omega) with rfl | rfl | rfl | rfl | rfl | rfl | rfl | rfl | rfl | rfl | rfl | rfl | rfl | rfl | rfl | rfl | rfl | rfl | rfl | rfl | rfl | rfl | rfl | rfl | rfl | rfl | rfl <;> rfl) (Nat.le_of_ble_eq_true rfl) (Nat.le_of_ble_eq_true rfl) (fun q33 hq33 => ?_)
  obtain ⟨a0, ha0⟩ : ∃ a0 : Nat → Nat, a0 = fun k => if k < 33 then a1 k else if k = 33 then q33 else az k := ⟨_, rfl⟩
  have lo : ∀ k, k < 33 → a0 k = a1 k := fun k hk => by rw [ha0]; exact if_pos hk
  have c33 : a0 33 = q33 := by rw [ha0]; rfl
  have hi : ∀ k, 45 ≤ k → a0 k = az k := fun k hk => by rw [ha0]; show (if k < 33 then a1 k else if k = 33 then q33 else az k) = az k; rw [if_neg (by omega), if_neg (by omega)]
  have f1 : (fun i : Nat => (([16, 20] : List Nat)[i]?).map a1) = fun i : Nat => (([16, 20] : List Nat)[i]?).map a0 := by
    funext i
    match i with
    | 0 => exact congrArg some (lo 16 (by decide)).symm
    | 1 => exact congrArg some (lo 20 (by decide)).symm
    | j + 2 => rfl
  have f2 : (fun i : Nat => (([24, 26, 28, 30] : List Nat)[i]?).map a1) = fun i : Nat => (([24, 26, 28, 30] : List Nat)[i]?).map a0 := by
    funext i
    match i with
    | 0 => exact congrArg some (lo 24 (by decide)).symm
    | 1 => exact congrArg some (lo 26 (by decide)).symm
    | 2 => exact congrArg some (lo 28 (by decide)).symm
    | 3 => exact congrArg some (lo 30 (by decide)).symm
    | j + 4 => rfl
  have e33 : wl33 a1 cT M0z = wl33 a0 cT M0z := by
    unfold wl33
    simp only [f1, f2, lo 0 (by decide), lo 1 (by decide), lo 2 (by decide), lo 3 (by decide), lo 4 (by decide), lo 5 (by decide), lo 6 (by decide), lo 7 (by decide), lo 8 (by decide), lo 9 (by decide), lo 10 (by decide), lo 11 (by decide), lo 12 (by decide), lo 13 (by decide), lo 14 (by decide), lo 15 (by decide), lo 16 (by decide), lo 17 (by decide), lo 18 (by decide), lo 19 (by decide), lo 20 (by decide), lo 21 (by decide), lo 22 (by decide), lo 23 (by decide), lo 24 (by decide), lo 25 (by decide), lo 26 (by decide), lo 27 (by decide), lo 28 (by decide), lo 29 (by decide), lo 30 (by decide), lo 31 (by decide), lo 32 (by decide)]
  clear ha0
  subst c33
  rw [e33, ← lo 0 (by decide)]
  refine k_dup F.ok dL_law_11 rfl ?_
  refine Kz.perm (List.perm_append_singleton _ _) ?_
  exact ls_2 hL F hi
set_option maxHeartbeats 2000000 in
theorem ls_0 {p : Program} {l : Launch} {e : Env} {s : State} {m : MethodId} {below : List Frame} {meth : Method} {c : Code} {b L : Nat} {xs : Nat → Int32} {D : va_G} {cT : Nat → ClassId} {az : Nat → Nat} (hL : L ≤ 320) (F : LF p s m meth c b L xs D cT az) (hAO : va_AO "WalnutHouses$Nut" s ∧ va_AO "WalnutHouses$Sheet" s) : Kz (Xl p l e s m below meth c b) D cT (Lb s) 4 0 [(0, .ref b)] [] [] 0 0 := by
  refine k_new [.null, .null, .null, .null, .null, .null, .null, .null, .null, .int 0, .int 0] tyX4 F.ok dL_law_0 ck4 tyX4_ok (tb_of 100 (by decide +kernel) rfl) (tb_of 101 (by decide +kernel) rfl) (tb_of 86 (by decide +kernel) rfl) (fun j hj => by rcases (show j = 0 ∨ j = 1 ∨ j = 2 ∨ j = 3 ∨ j = 4 ∨ j = 5 ∨ j = 6 ∨ j = 7 ∨ j = 8 ∨ j = 9 ∨ j = 10 by omega) with rfl | rfl | rfl | rfl | rfl | rfl | rfl | rfl | rfl | rfl | rfl <;> rfl) (Nat.le_of_ble_eq_true rfl) (Nat.le_of_ble_eq_true rfl) (fun q0 hq0 => ?_)
  refine k_dup F.ok dL_law_3 rfl ?_
  refine k_callI (wr := []) (wc := [(q0, .inr (4, [.null, .null, .null, .null, .null, .null, .null, .null, .null, .int 0, .int 0]))]) (kX4_init _ D cT q0) F.ok dL_law_4 (Or.inl (tb_of 102 (by decide +kernel) rfl)) (tb_of 86 (by decide +kernel) rfl) (tb_of 103 (by decide +kernel) rfl) (tb_of 104 (by decide +kernel) rfl) ⟨by decide +kernel, by decide +kernel, by decide +kernel⟩ rfl ⟨(Nat.le_of_ble_eq_true rfl), (Nat.le_of_ble_eq_true rfl), (Nat.le_of_ble_eq_true rfl)⟩ (Nat.le_of_ble_eq_true rfl) (Nat.le_of_ble_eq_true rfl) (fun _ U V hv _ z => ⟨va_AO.moved (by rw [hv]; exact Vm.Alike.refl _) z.1, va_AO.moved (by rw [hv]; exact Vm.Alike.refl _) z.2⟩) (fun _ _ _ U _ hW => ⟨va_AO.moved hW.alike hAO.1, va_AO.moved hW.alike hAO.2⟩) (fun a1 ha1 => ?_)
  refine k_astore_n [(1, .ref q0), (0, .ref b)] F.ok dL_law_7 (by decide) rfl ?_
  rw [← ha1]
  exact ls_1 hL F
/-- THE LAW, from its entry -/
theorem whole_start {p : Program} {e : Env} {s : State} {m : MethodId} {below : List Frame} {meth : Method} {c : Code} (l : Launch) {b L : Nat} {xs : Nat → Int32} (hL : L ≤ 320) (C0 : lw_At p s m meth c b L xs) : W p l e room_1 s m #[Value.ref b] below meth c s.heap [] 0 0 (lw_Z below #[Value.ref b] s) (entryFrame m ([Value.ref b] : List Value).toArray 4) := by
  obtain ⟨hx, hb, hr, hml, hown, hts, hX, hbl, hlocks, hgv⟩ := C0
  obtain ⟨D, cT, hK⟩ := law_K hts
  obtain ⟨az, hz98, hRS, hZS⟩ := law_Z hts hgv
  have hAO : va_AO "WalnutHouses$Nut" s ∧ va_AO "WalnutHouses$Sheet" s := ⟨va_AO.of (hts _ (List.mem_of_getElem? (i := 193) (by decide +kernel))), va_AO.of (hts _ (List.mem_of_getElem? (i := 195) (by decide +kernel)))⟩
  have F : LF p s m meth c b L xs D cT az := ⟨hx, hb, hml, hown, hts, NW.of hts, hK, hz98, hRS, hZS, hX, hbl, hr, hlocks⟩
  rw [lg_entry_eq]
  have hl := lv_entry ([Value.ref b]) (n := 4) (Nat.le_of_ble_eq_true rfl)
  exact ls_0 (l := l) (e := e) (below := below) hL F hAO s.heap [] _ hl (fun k q h => by simp at h) ⟨fun i j p q h => by simp at h, fun k q h => by simp at h⟩ va_S.rf
