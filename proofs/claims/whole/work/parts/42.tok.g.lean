/-! the text, reference: drafts, members -/
def DrS (M : Mm) (ms : List Mb) (mo : Nat) : Prop := ms.length ≤ 6 ∧ MbAt (M.1 37) ms ∧ M.1 37 24 = nI ms.length ∧ (M.1 37 25 = nI mo ∧ mo ≤ 20) ∧ ∀ k, 26 ≤ k → k < 41 → M.1 37 k = 0
theorem DrS.eq {M M' : Mm} {ms : List Mb} {mo : Nat} (h : DrS M ms mo) (e : ∀ k, M'.1 37 k = M.1 37 k) : DrS M' ms mo := by
  obtain ⟨h1, h2, h3, h4, h5⟩ := h
  exact ⟨h1, h2.eq h1 (fun k _ => e k), by rw [e]; exact h3, by rw [e]; exact h4, fun k a b => by rw [e]; exact h5 k a b⟩
theorem DrS.mo {M M' : Mm} {ms : List Mb} {mo v : Nat} (h : DrS M ms mo) (e : ∀ k, k ≠ 25 → M'.1 37 k = M.1 37 k) (hv : M'.1 37 25 = nI v) (hv2 : v ≤ 20) : DrS M' ms v := by
  obtain ⟨h1, h2, h3, h4, h5⟩ := h
  exact ⟨h1, h2.eq h1 (fun k _ => e k (by omega)), by rw [e _ (by omega)]; exact h3, ⟨hv, hv2⟩, fun k a b => by rw [e _ (by omega)]; exact h5 k a b⟩
theorem DrS.add {M M' : Mm} {ms : List Mb} {mo : Nat} {b : Mb} (h : DrS M ms mo) (hl : ms.length < 6) (hb : okB b) (e : ∀ k, k ≠ 24 → (k < 4 * ms.length ∨ 4 * ms.length + 3 < k) → M'.1 37 k = M.1 37 k) (h3' : M'.1 37 24 = nI (ms.length + 1)) (b0 : M'.1 37 (4 * ms.length) = nI b.1) (b1 : M'.1 37 (4 * ms.length + 1) = nI b.2.1) (b2 : M'.1 37 (4 * ms.length + 2) = nI b.2.2.1) (b3 : M'.1 37 (4 * ms.length + 3) = nI b.2.2.2) : DrS M' (ms ++ [b]) mo := by
  obtain ⟨h1, h2, h3, h4, h5⟩ := h
  have hl2 : (ms ++ [b]).length = ms.length + 1 := by simp
  refine ⟨by omega, MbAt.push ?_ hb b0 b1 b2 b3, by rw [hl2]; exact h3', by rw [e _ (by omega) (by omega)]; exact h4, fun k a b => by rw [e _ (by omega) (by omega)]; exact h5 k a b⟩
  intro i c hc
  have hi := (List.getElem?_eq_some_iff.mp hc).1
  obtain ⟨q0, q1, q2, q3, q4⟩ := h2 i c hc
  exact ⟨by rw [e _ (by omega) (by omega)]; exact q0, by rw [e _ (by omega) (by omega)]; exact q1, by rw [e _ (by omega) (by omega)]; exact q2, by rw [e _ (by omega) (by omega)]; exact q3, q4⟩
set_option maxHeartbeats 4000000 in
theorem zX5_firstDraft (l : Launch) {M : Mm}  : Clz l 0 yX5_firstDraft cX5_firstDraft 2 none [.ref 33] M (fun r M' => r = none ∧ (∀ a k, a ≠ 37 → (a ≠ 33 ∨ k ≠ 4) → M'.1 a k = M.1 a k) ∧ DrS M' [] 10 ∧ M'.1 33 4 = 0) := by
  refine Clz.on RX5 rfl (by decide +kernel) (Nat.le_of_ble_eq_true rfl) (fun X hL hO hr => ?_)
  show Gz X 0 [.ref 33, .null] [] M
  refine r_iconst hO dX5_firstDraft_0 ic_0 ?_
  refine s_istore_n hL hO dX5_firstDraft_1 (Nat.le_of_ble_eq_true rfl) rfl ?_
  have loop : ∀ (r i : Nat) (M1 : Mm), i + r = 41 → (∀ a k, a ≠ 37 → M1.1 a k = M.1 a k) → (∀ k, k < i → M1.1 37 k = 0) → Gz X 2 [.ref 33, .int (nI i)] [] M1 := by
    intro r
    induction r with
    | zero =>
      intro i M1 hir hF hZ
      refine r_iload_n hO dX5_firstDraft_2 rfl ?_
      refine r_bipush hO dX5_firstDraft_3 bc_41 ?_
      refine r_icmp_ge 21 hO dX5_firstDraft_5 (by decide) (fun _ => ?_) (fun z => absurd (by rw [show (41 : Int32) = nI 41 from rfl]; exact nI_le (by omega) (by omega)) z)
      refine r_aload_n hO dX5_firstDraft_21 rfl ?_
      refine r_getR 37 hO dX5_firstDraft_22 fRX5_20 rfl ?_
      refine r_bipush hO dX5_firstDraft_25 bc_25 ?_
      refine r_bipush hO dX5_firstDraft_27 bc_10 ?_
      refine s_iast 41 hO dX5_firstDraft_29 rfl (Nat.le_of_ble_eq_true rfl) 25 (by decide) (by decide) ?_
      refine r_aload_n hO dX5_firstDraft_30 rfl ?_
      refine r_iconst hO dX5_firstDraft_31 ic_0 ?_
      refine r_putT hO dX5_firstDraft_32 fRX5_50 rfl rfl rfl ?_
      have ei : i = 41 := by omega
      rw [ei] at hZ
      exact r_return hO hr dX5_firstDraft_35 ⟨rfl, fun a k h1 h2 => by rw [mpn (by omega), mpn (by omega)]; exact hF a k h1, ⟨by show 0 ≤ 6; omega, fun i b hb => (by cases hb), by rw [mpn (by omega), mpn (by omega), hZ 24 (by omega)]; rfl, ⟨by rw [mpn (by omega), mpe]; rfl, by omega⟩, fun k h1 h2 => by rw [mpn (by omega), mpn (by omega), hZ k (by omega)]⟩, mpe⟩
    | succ r ih =>
      intro i M1 hir hF hZ
      refine r_iload_n hO dX5_firstDraft_2 rfl ?_
      refine r_bipush hO dX5_firstDraft_3 bc_41 ?_
      refine r_icmp_ge 21 hO dX5_firstDraft_5 (by decide) (fun z => absurd z (by rw [show (41 : Int32) = nI 41 from rfl]; exact nI_ge (by omega) (by omega))) (fun _ => ?_)
      refine r_aload_n hO dX5_firstDraft_8 rfl ?_
      refine r_getR 37 hO dX5_firstDraft_9 fRX5_20 rfl ?_
      refine r_iload_n hO dX5_firstDraft_12 rfl ?_
      refine r_iconst hO dX5_firstDraft_13 ic_0 ?_
      refine s_iast 41 hO dX5_firstDraft_14 rfl (Nat.le_of_ble_eq_true rfl) i rfl (by omega) ?_
      refine s_iinc hL hO dX5_firstDraft_15 rfl ic_1 (Nat.le_of_ble_eq_true rfl) rfl ?_
      refine r_goto 2 hO dX5_firstDraft_18 (by decide) ?_
      show Gz X 2 [.ref 33, .int (nI i + 1)] [] _
      rw [nI_1]
      exact ih (i + 1) _ (by omega) (fun a k h1 => by rw [mpn (by omega)]; exact hF a k h1) (fun k hk => by
        by_cases q : k = i
        · subst q; rw [mpe]
        · rw [mpn (by omega)]; exact hZ k (by omega))
  exact loop 41 0 M (by omega) (fun _ _ _ => rfl) (fun k hk => absurd hk (by omega))
set_option maxHeartbeats 4000000 in
theorem zX5_keepDraft (l : Launch) {M : Mm}  : Clz l 0 yX5_keepDraft cX5_keepDraft 2 none [.ref 33] M (fun r M' => r = none ∧ (∀ a k, (a ≠ 34 ∨ 41 ≤ k) → a ≠ 36 → M'.1 a k = M.1 a k) ∧ (∀ k, k < 41 → M'.1 34 k = M.1 37 k) ∧ M'.1 36 0 = 0 ∧ M'.1 36 1 = 0) := by
  refine Clz.on RX5 rfl (by decide +kernel) (Nat.le_of_ble_eq_true rfl) (fun X hL hO hr => ?_)
  show Gz X 0 [.ref 33, .null] [] M
  refine r_iconst hO dX5_keepDraft_0 ic_0 ?_
  refine s_istore_n hL hO dX5_keepDraft_1 (Nat.le_of_ble_eq_true rfl) rfl ?_
  have loop : ∀ (r i : Nat) (M1 : Mm), i + r = 41 → (∀ a k, (a ≠ 34 ∨ 41 ≤ k) → M1.1 a k = M.1 a k) → (∀ k, k < i → M1.1 34 k = M.1 37 k) → Gz X 2 [.ref 33, .int (nI i)] [] M1 := by
    intro r
    induction r with
    | zero =>
      intro i M1 hir hF hZ
      refine r_iload_n hO dX5_keepDraft_2 rfl ?_
      refine r_bipush hO dX5_keepDraft_3 bc_41 ?_
      refine r_icmp_ge 26 hO dX5_keepDraft_5 (by decide) (fun _ => ?_) (fun z => absurd (by rw [show (41 : Int32) = nI 41 from rfl]; exact nI_le (by omega) (by omega)) z)
      refine r_aload_n hO dX5_keepDraft_26 rfl ?_
      refine r_getR 36 hO dX5_keepDraft_27 fRX5_16 rfl ?_
      refine r_iconst hO dX5_keepDraft_30 ic_0 ?_
      refine r_iconst hO dX5_keepDraft_31 ic_0 ?_
      refine s_zast 2 hO dX5_keepDraft_32 rfl (Nat.le_of_ble_eq_true rfl) 0 (by decide) (by decide) ?_
      refine r_aload_n hO dX5_keepDraft_33 rfl ?_
      refine r_getR 36 hO dX5_keepDraft_34 fRX5_16 rfl ?_
      refine r_iconst hO dX5_keepDraft_37 ic_1 ?_
      refine r_iconst hO dX5_keepDraft_38 ic_0 ?_
      refine s_zast 2 hO dX5_keepDraft_39 rfl (Nat.le_of_ble_eq_true rfl) 1 (by decide) (by decide) ?_
      have ei : i = 41 := by omega
      rw [ei] at hZ
      exact r_return hO hr dX5_keepDraft_40 ⟨rfl, fun a k h1 h2 => by rw [mpn (by omega), mpn (by omega)]; exact hF a k h1, fun k hk => by rw [mpn (by omega), mpn (by omega)]; exact hZ k hk, by rw [mpn (by omega), mpe]; decide, by rw [mpe]; decide⟩
    | succ r ih =>
      intro i M1 hir hF hZ
      refine r_iload_n hO dX5_keepDraft_2 rfl ?_
      refine r_bipush hO dX5_keepDraft_3 bc_41 ?_
      refine r_icmp_ge 26 hO dX5_keepDraft_5 (by decide) (fun z => absurd z (by rw [show (41 : Int32) = nI 41 from rfl]; exact nI_ge (by omega) (by omega))) (fun _ => ?_)
      refine r_aload_n hO dX5_keepDraft_8 rfl ?_
      refine r_getR 34 hO dX5_keepDraft_9 fRX5_7 rfl ?_
      refine r_iload_n hO dX5_keepDraft_12 rfl ?_
      refine r_aload_n hO dX5_keepDraft_13 rfl ?_
      refine r_getR 37 hO dX5_keepDraft_14 fRX5_20 rfl ?_
      refine r_iload_n hO dX5_keepDraft_17 rfl ?_
      refine s_iald 41 hO dX5_keepDraft_18 rfl (Nat.le_of_ble_eq_true rfl) i rfl (by omega) ?_
      refine s_iast 123 hO dX5_keepDraft_19 rfl (Nat.le_of_ble_eq_true rfl) i rfl (by omega) ?_
      refine s_iinc hL hO dX5_keepDraft_20 rfl ic_1 (Nat.le_of_ble_eq_true rfl) rfl ?_
      refine r_goto 2 hO dX5_keepDraft_23 (by decide) ?_
      show Gz X 2 [.ref 33, .int (nI i + 1)] [] _
      rw [nI_1]
      exact ih (i + 1) _ (by omega) (fun a k h1 => by rw [mpn (by omega)]; exact hF a k h1) (fun k hk => by
        by_cases q : k = i
        · subst q; rw [mpe]; exact hF 37 k (by omega)
        · rw [mpn (by omega)]; exact hZ k (by omega))
  exact loop 41 0 M (by omega) (fun _ _ _ => rfl) (fun k hk => absurd hk (by omega))
def FRl (M M' : Mm) : Prop := ∀ a k, a ≠ 37 → (a ≠ 33 ∨ (k ≠ 4 ∧ (k < 7 ∨ 12 < k))) → M'.1 a k = M.1 a k
theorem FRl.rf {M : Mm} : FRl M M := fun _ _ _ _ => rfl
theorem FRl.tr {M M1 M2 : Mm} (h1 : FRl M M1) (h2 : FRl M1 M2) : FRl M M2 := fun a k x y => (h2 a k x y).trans (h1 a k x y)
theorem FRl.k {M M1 : Mm} (h : FKd M M1) : FRl M M1 := fun a k x y => h a k (by omega)
theorem FRl.put {M : Mm} {p k : Nat} {x : Int32} (h : p = 37 ∨ (p = 33 ∧ (k = 4 ∨ (7 ≤ k ∧ k ≤ 12)))) : FRl M (mput M p k x) := fun a j h1 h2 => by rw [mpn (by omega)]
theorem TpD.l {M M' : Mm} {t : List Nat} (h : TpD M t) (F : FRl M M') : TpD M' t := h.eq (F _ _ (by omega) (by omega)) (fun k => F _ _ (by omega) (by omega))
def y1 (t : List Nat) (p : Nat) := nx t (.inr p) 1
def y2 (t : List Nat) (p : Nat) := nx t (nxp (y1 t p)) 20
def y3 (t : List Nat) (p : Nat) := nx t (nxp (y2 t p)) 20
theorem mb_y (t : List Nat) (p : Nat) : mbP t p = (nxp (y3 t p)).elim .inl (fun q => (smP t q).elim .inl (fun q' => .inr (vl (y1 t p), vl (y2 t p), vl (y3 t p), q'))) := by
  unfold mbP y3 y2 y1 nx nxp vl
  cases h1 : nmP t p 1 with
  | inl c => simp only [Sum.elim_inl, Sum.elim_inr, h1]
  | inr a =>
    cases h2 : nmP t a.2 20 with
    | inl c => simp only [Sum.elim_inl, Sum.elim_inr, h1, h2]
    | inr b =>
      cases h3 : nmP t b.2 20 with
      | inl c => simp only [Sum.elim_inl, Sum.elim_inr, h1, h2, h3]
      | inr c => simp only [Sum.elim_inl, Sum.elim_inr, h1, h2, h3]
set_option maxHeartbeats 4000000 in
theorem zX5_readMember (l : Launch) {M : Mm} {t : List Nat} (h : TpD M t) {n : Nat} (hm : M.1 37 24 = nI n) (hn : n < 6) (p : Nat) (hS : SD t M (.inr p)) {x : Int32} : Clz l 3 yX5_readMember cX5_readMember 3 none [.ref 33, .int x] M (fun r M' => r = none ∧ FRl M M' ∧ M'.1 33 4 = M.1 33 4 ∧ SD t M' (nxp (y3 t p)) ∧ (∀ k, k ≠ 24 → (k < 4 * n ∨ 4 * n + 3 < k) → M'.1 37 k = M.1 37 k) ∧ M'.1 37 24 = nI (n + 1) ∧ M'.1 37 (4 * n) = x ∧ M'.1 37 (4 * n + 1) = nI (vl (y1 t p)) ∧ M'.1 37 (4 * n + 2) = nI (vl (y2 t p)) ∧ M'.1 37 (4 * n + 3) = nI (vl (y3 t p))) := by
  refine Clz.on RX5 rfl (by decide +kernel) (Nat.le_of_ble_eq_true rfl) (fun X hL hO hr => ?_)
  show Gz X 0 [.ref 33, .int x, .null] [] M
  refine r_iconst hO dX5_readMember_0 ic_4 ?_
  refine r_aload_n hO dX5_readMember_1 rfl ?_
  refine r_getR 37 hO dX5_readMember_2 fRX5_20 rfl ?_
  refine r_bipush hO dX5_readMember_5 bc_24 ?_
  refine s_iald 41 hO dX5_readMember_7 rfl (Nat.le_of_ble_eq_true rfl) 24 (by decide) (by decide) ?_
  refine r_imul hO dX5_readMember_8 ?_
  refine s_istore_n hL hO dX5_readMember_9 (Nat.le_of_ble_eq_true rfl) rfl ?_
  refine r_aload_n hO dX5_readMember_10 rfl ?_
  refine r_getR 37 hO dX5_readMember_11 fRX5_20 rfl ?_
  refine r_iload_n hO dX5_readMember_14 rfl ?_
  refine r_iconst hO dX5_readMember_15 ic_0 ?_
  refine r_iadd hO dX5_readMember_16 ?_
  refine r_iload_n hO dX5_readMember_17 rfl ?_
  refine s_iast 41 hO dX5_readMember_18 rfl (Nat.le_of_ble_eq_true rfl) (4 * n + 0) (by rw [hm, show (4 : Int32) = nI 4 from rfl, pk_mul, show (0 : Int32) = nI 0 from rfl, nI_add]) (by omega) ?_
  have S0 : SD t (mput M 37 (4 * n + 0) x) (.inr p) := hS.eq (fun k _ _ => mpn (by omega))
  have L0 : FRl M (mput M 37 (4 * n + 0) x) := FRl.put (Or.inl rfl)
  refine r_aload_n hO dX5_readMember_19 rfl ?_
  refine r_getR 37 hO dX5_readMember_20 fRX5_20 rfl ?_
  refine r_iload_n hO dX5_readMember_23 rfl ?_
  refine r_iconst hO dX5_readMember_24 ic_1 ?_
  refine r_iadd hO dX5_readMember_25 ?_
  refine r_aload_n hO dX5_readMember_26 rfl ?_
  refine r_iconst hO dX5_readMember_27 ic_1 ?_
  refine r_callV hO dX5_readMember_28 kRX5_109 miX5_readNumber (zX5_readNumber _ (h.l L0) 1 (by decide) (by decide) (.inr p) S0) ⟨Nat.le_of_ble_eq_true rfl, Nat.le_of_ble_eq_true rfl, rfl, Nat.le_of_ble_eq_true rfl⟩ rfl rfl (fun q M1 hpo => ?_)
  obtain ⟨K1, rfl, S1⟩ := hpo
  have L1 : FRl M (mput M1 37 (4 * n + 1) (nI (vl (y1 t p)))) := (L0.tr (FRl.k K1)).tr (FRl.put (Or.inl rfl))
  have S1' : SD t (mput M1 37 (4 * n + 1) (nI (vl (y1 t p)))) (nxp (y1 t p)) := S1.eq (fun k _ _ => mpn (by omega))
  refine s_iast 41 hO dX5_readMember_31 rfl (Nat.le_of_ble_eq_true rfl) (4 * n + 1) (by rw [hm, show (4 : Int32) = nI 4 from rfl, pk_mul, show (1 : Int32) = nI 1 from rfl, nI_add]) (by omega) ?_
  refine r_aload_n hO dX5_readMember_32 rfl ?_
  refine r_getR 37 hO dX5_readMember_33 fRX5_20 rfl ?_
  refine r_iload_n hO dX5_readMember_36 rfl ?_
  refine r_iconst hO dX5_readMember_37 ic_2 ?_
  refine r_iadd hO dX5_readMember_38 ?_
  refine r_aload_n hO dX5_readMember_39 rfl ?_
  refine r_bipush hO dX5_readMember_40 bc_20 ?_
  refine r_callV hO dX5_readMember_42 kRX5_109 miX5_readNumber (zX5_readNumber _ (h.l L1) 20 (by decide) (by decide) (nxp (y1 t p)) S1') ⟨Nat.le_of_ble_eq_true rfl, Nat.le_of_ble_eq_true rfl, rfl, Nat.le_of_ble_eq_true rfl⟩ rfl rfl (fun q M2 hpo => ?_)
  obtain ⟨K2, rfl, S2⟩ := hpo
  have L2 : FRl M (mput M2 37 (4 * n + 2) (nI (vl (y2 t p)))) := (L1.tr (FRl.k K2)).tr (FRl.put (Or.inl rfl))
  have S2' : SD t (mput M2 37 (4 * n + 2) (nI (vl (y2 t p)))) (nxp (y2 t p)) := S2.eq (fun k _ _ => mpn (by omega))
  refine s_iast 41 hO dX5_readMember_45 rfl (Nat.le_of_ble_eq_true rfl) (4 * n + 2) (by rw [hm, show (4 : Int32) = nI 4 from rfl, pk_mul, show (2 : Int32) = nI 2 from rfl, nI_add]) (by omega) ?_
  refine r_aload_n hO dX5_readMember_46 rfl ?_
  refine r_getR 37 hO dX5_readMember_47 fRX5_20 rfl ?_
  refine r_iload_n hO dX5_readMember_50 rfl ?_
  refine r_iconst hO dX5_readMember_51 ic_3 ?_
  refine r_iadd hO dX5_readMember_52 ?_
  refine r_aload_n hO dX5_readMember_53 rfl ?_
  refine r_bipush hO dX5_readMember_54 bc_20 ?_
  refine r_callV hO dX5_readMember_56 kRX5_109 miX5_readNumber (zX5_readNumber _ (h.l L2) 20 (by decide) (by decide) (nxp (y2 t p)) S2') ⟨Nat.le_of_ble_eq_true rfl, Nat.le_of_ble_eq_true rfl, rfl, Nat.le_of_ble_eq_true rfl⟩ rfl rfl (fun q M3 hpo => ?_)
  obtain ⟨K3, rfl, S3⟩ := hpo
  have L3 : FRl M (mput M3 37 (4 * n + 3) (nI (vl (y3 t p)))) := (L2.tr (FRl.k K3)).tr (FRl.put (Or.inl rfl))
  have S3' : SD t (mput M3 37 (4 * n + 3) (nI (vl (y3 t p)))) (nxp (y3 t p)) := S3.eq (fun k _ _ => mpn (by omega))
  have e3 : ∀ k, M3.1 37 k = (mput M2 37 (4 * n + 2) (nI (vl (y2 t p)))).1 37 k := fun k => K3 37 k (by omega)
  have e2 : ∀ k, M2.1 37 k = (mput M1 37 (4 * n + 1) (nI (vl (y1 t p)))).1 37 k := fun k => K2 37 k (by omega)
  have e1 : ∀ k, M1.1 37 k = (mput M 37 (4 * n + 0) x).1 37 k := fun k => K1 37 k (by omega)
  refine s_iast 41 hO dX5_readMember_59 rfl (Nat.le_of_ble_eq_true rfl) (4 * n + 3) (by rw [hm, show (4 : Int32) = nI 4 from rfl, pk_mul, show (3 : Int32) = nI 3 from rfl, nI_add]) (by omega) ?_
  refine r_aload_n hO dX5_readMember_60 rfl ?_
  refine r_getR 37 hO dX5_readMember_61 fRX5_20 rfl ?_
  refine r_bipush hO dX5_readMember_64 bc_24 ?_
  refine r_dup2 hO dX5_readMember_66 rfl rfl ?_
  refine s_iald 41 hO dX5_readMember_67 rfl (Nat.le_of_ble_eq_true rfl) 24 (by decide) (by decide) ?_
  refine r_iconst hO dX5_readMember_68 ic_1 ?_
  refine r_iadd hO dX5_readMember_69 ?_
  refine s_iast 41 hO dX5_readMember_70 rfl (Nat.le_of_ble_eq_true rfl) 24 (by decide) (by decide) ?_
  exact r_return hO hr dX5_readMember_71 ⟨rfl, L3.tr (FRl.put (Or.inl rfl)), by rw [mpn (by omega), mpn (by omega), K3 _ _ (by omega), mpn (by omega), K2 _ _ (by omega), mpn (by omega), K1 _ _ (by omega), mpn (by omega)], S3'.eq (fun k _ _ => mpn (by omega)), fun k h1 h2 => by rw [mpn (by omega), mpn (by omega), e3, mpn (by omega), e2, mpn (by omega), e1, mpn (by omega)], by rw [mpe, mpn (by omega), e3, mpn (by omega), e2, mpn (by omega), e1, mpn (by omega), hm, nI_1], by rw [mpn (by omega), mpn (by omega), e3, mpn (by omega), e2, mpn (by omega), e1]; exact mpe, by rw [mpn (by omega), mpn (by omega), e3, mpn (by omega), e2]; exact mpe, by rw [mpn (by omega), mpn (by omega), e3]; exact mpe, by rw [mpn (by omega)]; exact mpe⟩
