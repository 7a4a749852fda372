/-! kinds, wants -/
theorem runS_S : ∀ (k : Nat) (s : Ns), runS (k + 1) s = dayS (runS k s) := by
  intro k
  induction k with
  | zero => intro s; rfl
  | succ k ih => intro s; exact ih (dayS s)
def soS (σ : Sta) (s : Ns) : Bool := σ.1.2.2.2.2.all (fun q => decide ((runS q.1 s).2.1 = q.2))
def orF (f : Nat → Bool) : Nat → Nat → Int32 → Int32
  | 0, _, m => m
  | r + 1, j, m => orF f r (j + 1) (m ||| (bI (f j) <<< (nI j &&& 31)))
theorem or_f (m : Int32) {b : Bool} (h : b = false) (j : Nat) : m ||| (bI b <<< (nI j &&& 31)) = m := by
  have := orB_f (f := fun _ => b) (i := j) (m := m) (b := (0, 0, 0, 0)) (bs := []) h
  exact this
def p_as (σ : Sta) (k n : Nat) (i : Int32) : Int32 := if inI i 0 (nI σ.1.1.length - 1) = true then orF (fun v => soS σ (sMb (nuS σ.1) i.toNatClampNeg k v)) n 0 0 else -1
def FT (M M' : Mm) : Prop := (∀ a k, ¬ (8 ≤ a ∧ a ≤ 11) → a ≠ 15 → M'.1 a k = M.1 a k) ∧ M'.2 = M.2
theorem FT.rf {M : Mm} : FT M M := ⟨fun _ _ _ _ => rfl, rfl⟩
theorem FT.tr {M M1 M2 : Mm} (h1 : FT M M1) (h2 : FT M1 M2) : FT M M2 := ⟨fun a k x y => (h2.1 a k x y).trans (h1.1 a k x y), h2.2.trans h1.2⟩
theorem FT.bec {q : Nat} {M M' : Mm} (B : BecR 8 q M M') : FT M M' := ⟨fun a k h _ => B.1 a k (by omega), B.2.1⟩
theorem FT.fn {M M' : Mm} (B : FN 8 M M') : FT M M' := ⟨fun a k h _ => B.1 a k (by omega) (by omega), B.2⟩
theorem FT.put {M : Mm} {p k : Nat} {x : Int32} (h : (8 ≤ p ∧ p ≤ 11) ∨ p = 15) : FT M (mput M p k x) := ⟨fun a j h1 h2 => by rw [mpg, if_neg (by omega)], rfl⟩
theorem FT.q {M M' : Mm} (h : FT M M') : FQ M M' := ⟨fun a k x y _ => h.1 a k x y, h.2⟩
def FS (M M' : Mm) : Prop := ∀ a k, a ≠ 35 → a ≠ 39 → (a ≠ 33 ∨ (k ≠ 13 ∧ k ≠ 14)) → M'.1 a k = M.1 a k
theorem FS.tr {M M1 M2 : Mm} (h1 : FS M M1) (h2 : FS M1 M2) : FS M M2 := fun a k x y z => (h2 a k x y z).trans (h1 a k x y z)
theorem FS.rf {M : Mm} : FS M M := fun _ _ _ _ _ => rfl
theorem FS.st {M M' : Mm} (h : StR M M') : FS M M' := fun a k h1 _ h5 => h.1 a k h1 (by omega)
theorem FS.f35 {M M' : Mm} (h : F35 M M') : FS M M' := fun a k h1 _ h5 => h.1 a k (Or.inl h1) (by omega)
theorem FS.put {M : Mm} {p k : Nat} {x : Int32} (h : p = 35 ∨ p = 39) : FS M (mput M p k x) := fun a j h1 h2 _ => by rw [mpg, if_neg (by omega)]
theorem FS.r {M M' : Mm} (h : FS M M') : FR M M' := fun a k h1 h2 _ _ h5 => h a k h1 h2 (by omega)
def TrA (M : Mm) (p : Nat) (s : Ns) (n : Nat) : Prop := ∀ d, d < n → M.1 p d = nI (runS d s).2.1 ∧ (runS d s).2.1 ≤ 20
theorem TrA.eq {M M' : Mm} {p : Nat} {s : Ns} {n : Nat} (h : TrA M p s n) (e : ∀ k, M'.1 p k = M.1 p k) : TrA M' p s n := fun d hd => by rw [e]; exact h d hd
theorem TrA.push {M : Mm} {p : Nat} {s : Ns} {n : Nat} (h : TrA M p s n) {x : Int32} (hx : x = nI (runS n s).2.1) (hb : (runS n s).2.1 ≤ 20) : TrA (mput M p n x) p s (n + 1) := by
  intro d hd
  rw [mpg]
  by_cases e : d = n
  · subst e; rw [if_pos ⟨rfl, rfl⟩]; exact ⟨hx, hb⟩
  · rw [if_neg (fun z => e z.2)]; exact h d (by omega)
theorem so_d {σ : Sta} {s : Ns} {i : Nat} {q : Nat × Nat} (hq : σ.1.2.2.2.2[i]? = some q) : σ.1.2.2.2.2.drop i = q :: σ.1.2.2.2.2.drop (i + 1) := by
  have hi := (List.getElem?_eq_some_iff.mp hq)
  obtain ⟨h1, h2⟩ := hi
  rw [← h2]
  exact List.drop_eq_getElem_cons h1
set_option maxHeartbeats 4000000 in
theorem zX4_traceWith (l : Launch) {M : Mm} {σ : Sta} (h : RC M σ) {x y z : Int32} (a k v : Nat) (hx : x = nI a) (hy : y = nI k) (hz : z = nI v) (ha : a < σ.1.1.length) (hk : k < 4) (hv : v ≤ topN k) : Clz l 4 yX4_traceWith cX4_traceWith 5 none [.ref 0, .int x, .int y, .int z] M (fun r M' => r = none ∧ FT M M' ∧ TrA M' 15 (sMb (nuS σ.1) a k v) 21) := by
  refine Clz.on RX4 rfl (by decide +kernel) (Nat.le_of_ble_eq_true rfl) (fun X hL hO hr => ?_)
  show Gz X 0 [.ref 0, .int x, .int y, .int z, .null] [] M
  refine r_aload_n hO dX4_traceWith_0 rfl ?_
  refine r_getR 8 hO dX4_traceWith_1 fRX4_30 rfl ?_
  refine r_aload_n hO dX4_traceWith_4 rfl ?_
  refine r_getR 4 hO dX4_traceWith_5 fRX4_26 rfl ?_
  refine r_callV hO dX4_traceWith_8 kRX4_80 miX0_become (zX0_become _ (show nuP 8 from Or.inr (Or.inl rfl)) (show nuP 4 from Or.inl rfl) (by decide)) ⟨Nat.le_of_ble_eq_true rfl, Nat.le_of_ble_eq_true rfl, rfl, Nat.le_of_ble_eq_true rfl⟩ rfl rfl (fun r M0 hpo => ?_)
  obtain ⟨rfl, B⟩ := hpo
  refine r_aload_n hO dX4_traceWith_11 rfl ?_
  refine r_getR 8 hO dX4_traceWith_12 fRX4_30 rfl ?_
  refine r_iload_n hO dX4_traceWith_15 rfl ?_
  refine r_iload_n hO dX4_traceWith_16 rfl ?_
  refine r_iload_n hO dX4_traceWith_17 rfl ?_
  refine r_fV hO dX4_traceWith_18 kRX4_141 miX0_put (zX0_put _ (show nuP 8 from Or.inr (Or.inl rfl)) a k hx hy (by have := h.1.1.1; omega) hk) ⟨Nat.le_of_ble_eq_true rfl, Nat.le_of_ble_eq_true rfl, rfl, Nat.le_of_ble_eq_true rfl⟩ rfl rfl ?_
  refine r_iconst hO dX4_traceWith_21 ic_0 ?_
  refine s_istore hL hO dX4_traceWith_22 (Nat.le_of_ble_eq_true rfl) rfl ?_
  have hd := h.1.2.1
  have hdd : (sMb (nuS σ.1) a k v).2.2.1 ≤ 999 := hd
  have loop : ∀ (r j : Nat) (M1 : Mm), j + r = 21 → CV M1 8 (runS j (sMb (nuS σ.1) a k v)) → FT M M1 → TrA M1 15 (sMb (nuS σ.1) a k v) j → Gz X 24 [.ref 0, .int x, .int y, .int z, .int (nI j)] [] M1 := by
    intro r
    induction r with
    | zero =>
      intro j M1 hjr V hF hT
      refine r_iload hO dX4_traceWith_24 rfl ?_
      refine r_bipush hO dX4_traceWith_26 bc_20 ?_
      refine r_icmp_gt 60 hO dX4_traceWith_28 (by decide) (fun _ => ?_) (fun z => absurd (by rw [show (20 : Int32) = nI 20 from rfl]; exact nI_lt (by omega) (by omega)) z)
      have e : j = 21 := by omega
      rw [e] at hT
      exact r_return hO hr dX4_traceWith_60 ⟨rfl, hF, hT⟩
    | succ r ih =>
      intro j M1 hjr V hF hT
      refine r_iload hO dX4_traceWith_24 rfl ?_
      refine r_bipush hO dX4_traceWith_26 bc_20 ?_
      refine r_icmp_gt 60 hO dX4_traceWith_28 (by decide) (fun z => absurd z (by rw [show (20 : Int32) = nI 20 from rfl]; exact nI_nlt (by omega) (by omega))) (fun _ => ?_)
      refine r_aload_n hO dX4_traceWith_31 rfl ?_
      refine r_getR 15 hO dX4_traceWith_32 fRX4_47 rfl ?_
      refine r_iload hO dX4_traceWith_35 rfl ?_
      refine r_aload_n hO dX4_traceWith_37 rfl ?_
      refine r_getR 8 hO dX4_traceWith_38 fRX4_30 rfl ?_
      refine r_getI hO dX4_traceWith_41 fRX4_90 rfl ?_
      refine s_iast 21 hO dX4_traceWith_44 rfl (Nat.le_of_ble_eq_true rfl) j rfl (by omega) ?_
      have V1 : CV (mput M1 15 j (M1.1 8 4)) 8 (runS j (sMb (nuS σ.1) a k v)) := CN.eq V (fun k _ _ => by rw [mpg, if_neg (by omega)]) (fun k _ => by rw [mpg, if_neg (by omega)])
      have T1 := hT.push V.2.2.2.1.1 V.2.2.2.1.2
      refine r_aload_n hO dX4_traceWith_45 rfl ?_
      refine r_getR 8 hO dX4_traceWith_46 fRX4_30 rfl ?_
      refine r_iconst hO dX4_traceWith_49 ic_1 ?_
      refine r_callV hO dX4_traceWith_50 kRX4_190 miX0_passDay (zX0_passDay _ (show nuP 8 from Or.inr (Or.inl rfl)) V1 true rfl (by rw [runS_day]; omega)) ⟨Nat.le_of_ble_eq_true rfl, Nat.le_of_ble_eq_true rfl, rfl, Nat.le_of_ble_eq_true rfl⟩ rfl rfl (fun q M2 hpo => ?_)
      obtain ⟨rfl, F, V2⟩ := hpo
      rw [if_pos rfl, ← runS_S] at V2
      refine r_pop hO dX4_traceWith_53 rfl ?_
      refine s_iinc hL hO dX4_traceWith_54 rfl ic_1 (Nat.le_of_ble_eq_true rfl) rfl ?_
      refine r_goto 24 hO dX4_traceWith_57 (by decide) ?_
      show Gz X 24 [.ref 0, .int x, .int y, .int z, .int (nI j + 1)] [] M2
      rw [nI_1]
      exact ih (j + 1) M2 (by omega) V2 ((hF.tr (FT.put (Or.inr rfl))).tr (FT.fn F)) (T1.eq (fun k => F.1 15 k (by omega) (by omega)))
  have V0 := (h.1.bec B).cvMb ha hk hv
  rw [← hz] at V0
  exact loop 21 0 _ (by omega) V0 ((FT.bec B).tr (FT.put (by omega))) (fun d hd => absurd hd (by omega))
set_option maxHeartbeats 4000000 in
theorem zX4_traceIsAsSeen (l : Launch) {M : Mm} {σ : Sta} (h : RC M σ) {s : Ns} (T : TrA M 15 s 21) : CFz l 0 yX4_traceIsAsSeen cX4_traceIsAsSeen 2 (some .boolean) [.ref 0] M (some (.int (bI (soS σ s)))) (M) := by
  refine Clz.on RX4 rfl (by decide +kernel) (Nat.le_of_ble_eq_true rfl) (fun X hL hO hr => ?_)
  show Gz X 0 [.ref 0, .null] [] M
  refine r_iconst hO dX4_traceIsAsSeen_0 ic_0 ?_
  refine s_istore_n hL hO dX4_traceIsAsSeen_1 (Nat.le_of_ble_eq_true rfl) rfl ?_
  have hl6 := h.1.2.2.2.1
  have loop : ∀ (rest : List (Nat × Nat)) (i : Nat), σ.1.2.2.2.2.drop i = rest → i ≤ σ.1.2.2.2.2.length → rest.all (fun q => decide ((runS q.1 s).2.1 = q.2)) = soS σ s → Gz X 2 [.ref 0, .int (nI i)] [] M := by
    intro rest
    induction rest with
    | nil =>
      intro i hdr hi he
      have hi2 : i = σ.1.2.2.2.2.length := by have := congrArg List.length hdr; rw [List.length_drop, List.length_nil] at this; omega
      refine r_iload_n hO dX4_traceIsAsSeen_2 rfl ?_
      refine r_aload_n hO dX4_traceIsAsSeen_3 rfl ?_
      refine r_getR 4 hO dX4_traceIsAsSeen_4 fRX4_26 rfl ?_
      refine r_getI hO dX4_traceIsAsSeen_7 fRX4_171 rfl ?_
      refine r_icmp_ge 47 hO dX4_traceIsAsSeen_10 (by decide) (fun _ => ?_) (fun z => absurd (by rw [h.1.2.2.1]; exact nI_le (by omega) (by omega)) z)
      refine r_iconst hO dX4_traceIsAsSeen_47 ic_1 ?_
      exact r_ireturn hO hr dX4_traceIsAsSeen_48 rfl ⟨sI (by rw [← he]; rfl), rfl⟩
    | cons q rest ih =>
      intro i hdr hi he
      have hq : σ.1.2.2.2.2[i]? = some q := by have := congrArg (fun l => l[0]?) hdr; simpa using this
      have hi3 := (List.getElem?_eq_some_iff.mp hq).1
      have hdr2 : σ.1.2.2.2.2.drop (i + 1) = rest := by rw [so_d (s := s) hq] at hdr; exact (List.cons.inj hdr).2
      obtain ⟨q1, q2, q3, q4⟩ := h.1.2.2.2.2 i q hq
      obtain ⟨t1, t2⟩ := T q.1 (by omega)
      rw [List.all_cons] at he
      refine r_iload_n hO dX4_traceIsAsSeen_2 rfl ?_
      refine r_aload_n hO dX4_traceIsAsSeen_3 rfl ?_
      refine r_getR 4 hO dX4_traceIsAsSeen_4 fRX4_26 rfl ?_
      refine r_getI hO dX4_traceIsAsSeen_7 fRX4_171 rfl ?_
      refine r_icmp_ge 47 hO dX4_traceIsAsSeen_10 (by decide) (fun z => absurd z (by rw [h.1.2.2.1]; exact nI_ge (by omega) (by omega))) (fun _ => ?_)
      refine r_aload_n hO dX4_traceIsAsSeen_13 rfl ?_
      refine r_getR 15 hO dX4_traceIsAsSeen_14 fRX4_47 rfl ?_
      refine r_aload_n hO dX4_traceIsAsSeen_17 rfl ?_
      refine r_getR 4 hO dX4_traceIsAsSeen_18 fRX4_26 rfl ?_
      refine r_getR 6 hO dX4_traceIsAsSeen_21 fRX4_174 rfl ?_
      refine r_iload_n hO dX4_traceIsAsSeen_24 rfl ?_
      refine s_iald 6 hO dX4_traceIsAsSeen_25 rfl (Nat.le_of_ble_eq_true rfl) i rfl (by omega) ?_
      refine s_iald 21 hO dX4_traceIsAsSeen_26 rfl (Nat.le_of_ble_eq_true rfl) q.1 q1 (by omega) ?_
      refine r_aload_n hO dX4_traceIsAsSeen_27 rfl ?_
      refine r_getR 4 hO dX4_traceIsAsSeen_28 fRX4_26 rfl ?_
      refine r_getR 7 hO dX4_traceIsAsSeen_31 fRX4_177 rfl ?_
      refine r_iload_n hO dX4_traceIsAsSeen_34 rfl ?_
      refine s_iald 6 hO dX4_traceIsAsSeen_35 rfl (Nat.le_of_ble_eq_true rfl) i rfl (by omega) ?_
      refine r_icmp_eq 41 hO dX4_traceIsAsSeen_36 (by decide) (fun h36 => ?_) (fun h36 => ?_)
      · rw [t1, show M.1 7 i = nI q.2 from q2, nI_eq (by omega) (by omega)] at h36
        refine s_iinc hL hO dX4_traceIsAsSeen_41 rfl ic_1 (Nat.le_of_ble_eq_true rfl) rfl ?_
        refine r_goto 2 hO dX4_traceIsAsSeen_44 (by decide) ?_
        show Gz X 2 [.ref 0, .int (nI i + 1)] [] M
        rw [nI_1]
        exact ih (i + 1) hdr2 (by omega) (by rw [← he, decide_eq_true h36, Bool.true_and])
      · rw [t1, show M.1 7 i = nI q.2 from q2, nI_eq (by omega) (by omega)] at h36
        refine r_iconst hO dX4_traceIsAsSeen_39 ic_0 ?_
        exact r_ireturn hO hr dX4_traceIsAsSeen_40 rfl ⟨sI (by rw [← he, decide_eq_false h36]; rfl), rfl⟩
  exact loop _ 0 rfl (Nat.zero_le _) rfl
set_option maxHeartbeats 4000000 in
theorem zX4_asSeen (l : Launch) {M : Mm} {σ : Sta} (h : RC M σ) {x y : Int32} (a k n : Nat) (hx : x = nI a) (hy : y = nI k) (ha : a < σ.1.1.length) (hk : k < 4) (hn : topN k = n) : Clz l 5 yX4_asSeen cX4_asSeen 5 (some .int) [.ref 0, .int x, .int y] M (fun r M' => r = some (.int (orF (fun v => soS σ (sMb (nuS σ.1) a k v)) (n + 1) 0 0)) ∧ RC M' σ ∧ FCr M M') := by
  refine Clz.on RX4 rfl (by decide +kernel) (Nat.le_of_ble_eq_true rfl) (fun X hL hO hr => ?_)
  show Gz X 0 [.ref 0, .int x, .int y, .null, .null] [] M
  refine r_iconst hO dX4_asSeen_0 ic_0 ?_
  refine s_istore_n hL hO dX4_asSeen_1 (Nat.le_of_ble_eq_true rfl) rfl ?_
  refine r_iconst hO dX4_asSeen_2 ic_0 ?_
  refine s_istore hL hO dX4_asSeen_3 (Nat.le_of_ble_eq_true rfl) rfl ?_
  have htp : topz k = nI n := by rw [topz_n k hk, hn]
  have hn20 : n ≤ 20 := hn ▸ topN_le k
  have loop : ∀ (r j : Nat) (m : Int32) (M1 : Mm), j + r = n + 1 → FT M M1 → orF (fun v => soS σ (sMb (nuS σ.1) a k v)) r j m = orF (fun v => soS σ (sMb (nuS σ.1) a k v)) (n + 1) 0 0 → Gz X 5 [.ref 0, .int x, .int y, .int m, .int (nI j)] [] M1 := by
    intro r
    induction r with
    | zero =>
      intro j m M1 hjr hF he
      refine r_iload hO dX4_asSeen_5 rfl ?_
      refine r_getTop hO dX4_asSeen_7 sRX4_212 ?_
      refine r_iload_n hO dX4_asSeen_10 rfl ?_
      refine s_topld hO dX4_asSeen_11 k hy (by omega) ?_
      refine r_icmp_gt 43 hO dX4_asSeen_12 (by decide) (fun _ => ?_) (fun z => absurd (by rw [htp]; exact nI_lt (by omega) (by omega)) z)
      refine r_iload_n hO dX4_asSeen_43 rfl ?_
      exact r_ireturn hO hr dX4_asSeen_44 rfl ⟨sI (by rw [← he]; rfl), h.q hF.q, hF.q.fc⟩
    | succ r ih =>
      intro j m M1 hjr hF he
      refine r_iload hO dX4_asSeen_5 rfl ?_
      refine r_getTop hO dX4_asSeen_7 sRX4_212 ?_
      refine r_iload_n hO dX4_asSeen_10 rfl ?_
      refine s_topld hO dX4_asSeen_11 k hy (by omega) ?_
      refine r_icmp_gt 43 hO dX4_asSeen_12 (by decide) (fun z => absurd z (by rw [htp]; exact nI_nlt (by omega) (by omega))) (fun _ => ?_)
      refine r_aload_n hO dX4_asSeen_15 rfl ?_
      refine r_iload_n hO dX4_asSeen_16 rfl ?_
      refine r_iload_n hO dX4_asSeen_17 rfl ?_
      refine r_iload hO dX4_asSeen_18 rfl ?_
      refine r_callV hO dX4_asSeen_20 kRX4_227 miX4_traceWith (zX4_traceWith _ (h.q hF.q) a k j hx hy rfl ha hk (by omega)) ⟨Nat.le_of_ble_eq_true rfl, Nat.le_of_ble_eq_true rfl, rfl, Nat.le_of_ble_eq_true rfl⟩ rfl rfl (fun q M2 hpo => ?_)
      obtain ⟨rfl, F, T⟩ := hpo
      refine r_aload_n hO dX4_asSeen_23 rfl ?_
      refine r_fV hO dX4_asSeen_24 kRX4_230 miX4_traceIsAsSeen (zX4_traceIsAsSeen _ (h.q (hF.tr F).q) T) ⟨Nat.le_of_ble_eq_true rfl, Nat.le_of_ble_eq_true rfl, rfl, Nat.le_of_ble_eq_true rfl⟩ rfl rfl ?_
      refine r_if_eq 37 hO dX4_asSeen_27 (by decide) (fun h27 => ?_) (fun h27 => ?_)
      · rw [bI_0] at h27
        refine s_iinc hL hO dX4_asSeen_37 rfl ic_1 (Nat.le_of_ble_eq_true rfl) rfl ?_
        refine r_goto 5 hO dX4_asSeen_40 (by decide) ?_
        show Gz X 5 [.ref 0, .int x, .int y, .int m, .int (nI j + 1)] [] M2
        rw [nI_1]
        exact ih (j + 1) m M2 (by omega) (hF.tr F) (by rw [← he]; show _ = orF _ _ _ (m ||| _); rw [or_f m h27 j])
      · rw [bI_n0] at h27
        refine r_iload_n hO dX4_asSeen_30 rfl ?_
        refine r_iconst hO dX4_asSeen_31 ic_1 ?_
        refine r_iload hO dX4_asSeen_32 rfl ?_
        refine r_ishl hO dX4_asSeen_34 ?_
        refine r_ior hO dX4_asSeen_35 ?_
        refine s_istore_n hL hO dX4_asSeen_36 (Nat.le_of_ble_eq_true rfl) rfl ?_
        refine s_iinc hL hO dX4_asSeen_37 rfl ic_1 (Nat.le_of_ble_eq_true rfl) rfl ?_
        refine r_goto 5 hO dX4_asSeen_40 (by decide) ?_
        show Gz X 5 [.ref 0, .int x, .int y, .int (m ||| (1 <<< (nI j &&& 31))), .int (nI j + 1)] [] M2
        rw [nI_1]
        exact ih (j + 1) _ M2 (by omega) (hF.tr F) (by rw [← he]; show _ = orF _ _ _ (m ||| _); dsimp only; rw [h27]; rfl)
  exact loop (n + 1) 0 0 M (by omega) FT.rf rfl
set_option maxHeartbeats 4000000 in
theorem zX4_kinds (l : Launch) {M : Mm} {σ : Sta} (h : RC M σ) {i : Int32} : Clz l 6 yX4_kinds cX4_kinds 2 (some .int) [.ref 0, .int i] M (fun r M' => r = some (.int (p_as σ 0 4 i)) ∧ RC M' σ ∧ FCr M M') := by
  refine Clz.on RX4 rfl (by decide +kernel) (Nat.le_of_ble_eq_true rfl) (fun X hL hO hr => ?_)
  show Gz X 0 [.ref 0, .int i] [] M
  refine r_aload_n hO dX4_kinds_0 rfl ?_
  refine r_iload_n hO dX4_kinds_1 rfl ?_
  refine r_fV hO dX4_kinds_2 kRX4_112 miX4_isMember (zX4_isMember _ h) ⟨Nat.le_of_ble_eq_true rfl, Nat.le_of_ble_eq_true rfl, rfl, Nat.le_of_ble_eq_true rfl⟩ rfl rfl ?_
  refine r_if_eq 17 hO dX4_kinds_5 (by decide) (fun h5 => ?_) (fun h5 => ?_)
  · rw [bI_0] at h5
    refine r_iconst hO dX4_kinds_17 ic_m1 ?_
    exact r_ireturn hO hr dX4_kinds_18 rfl ⟨sI (show _ = p_as σ 0 4 i from by unfold p_as; rw [if_neg (by rw [h5]; decide)]), h, FCr.rf⟩
  · rw [bI_n0] at h5
    obtain ⟨a, ha, rfl⟩ := inI_mem (by have := h.1.1.1; omega) h5
    have hl6 := h.1.1.1
    have e : p_as σ 0 4 (nI a) = orF (fun v => soS σ (sMb (nuS σ.1) a 0 v)) 4 0 0 := by unfold p_as; rw [if_pos h5, nI_clamp (by omega)]
    refine r_aload_n hO dX4_kinds_8 rfl ?_
    refine r_iload_n hO dX4_kinds_9 rfl ?_
    refine r_iconst hO dX4_kinds_10 ic_0 ?_
    refine r_callV hO dX4_kinds_11 kRX4_180 miX4_asSeen (zX4_asSeen _ h a 0 3 rfl rfl ha (by decide) rfl) ⟨Nat.le_of_ble_eq_true rfl, Nat.le_of_ble_eq_true rfl, rfl, Nat.le_of_ble_eq_true rfl⟩ rfl rfl (fun q M1 hpo => ?_)
    obtain ⟨rfl, h1, F1⟩ := hpo
    refine r_goto 18 hO dX4_kinds_14 (by decide) ?_
    exact r_ireturn hO hr dX4_kinds_18 rfl ⟨sI e.symm, h1, F1⟩
set_option maxHeartbeats 4000000 in
theorem zX4_wants (l : Launch) {M : Mm} {σ : Sta} (h : RC M σ) {i : Int32} : Clz l 6 yX4_wants cX4_wants 2 (some .int) [.ref 0, .int i] M (fun r M' => r = some (.int (p_as σ 2 21 i)) ∧ RC M' σ ∧ FCr M M') := by
  refine Clz.on RX4 rfl (by decide +kernel) (Nat.le_of_ble_eq_true rfl) (fun X hL hO hr => ?_)
  show Gz X 0 [.ref 0, .int i] [] M
  refine r_aload_n hO dX4_wants_0 rfl ?_
  refine r_iload_n hO dX4_wants_1 rfl ?_
  refine r_fV hO dX4_wants_2 kRX4_112 miX4_isMember (zX4_isMember _ h) ⟨Nat.le_of_ble_eq_true rfl, Nat.le_of_ble_eq_true rfl, rfl, Nat.le_of_ble_eq_true rfl⟩ rfl rfl ?_
  refine r_if_eq 17 hO dX4_wants_5 (by decide) (fun h5 => ?_) (fun h5 => ?_)
  · rw [bI_0] at h5
    refine r_iconst hO dX4_wants_17 ic_m1 ?_
    exact r_ireturn hO hr dX4_wants_18 rfl ⟨sI (show _ = p_as σ 2 21 i from by unfold p_as; rw [if_neg (by rw [h5]; decide)]), h, FCr.rf⟩
  · rw [bI_n0] at h5
    obtain ⟨a, ha, rfl⟩ := inI_mem (by have := h.1.1.1; omega) h5
    have hl6 := h.1.1.1
    have e : p_as σ 2 21 (nI a) = orF (fun v => soS σ (sMb (nuS σ.1) a 2 v)) 21 0 0 := by unfold p_as; rw [if_pos h5, nI_clamp (by omega)]
    refine r_aload_n hO dX4_wants_8 rfl ?_
    refine r_iload_n hO dX4_wants_9 rfl ?_
    refine r_iconst hO dX4_wants_10 ic_2 ?_
    refine r_callV hO dX4_wants_11 kRX4_180 miX4_asSeen (zX4_asSeen _ h a 2 20 rfl rfl ha (by decide) rfl) ⟨Nat.le_of_ble_eq_true rfl, Nat.le_of_ble_eq_true rfl, rfl, Nat.le_of_ble_eq_true rfl⟩ rfl rfl (fun q M1 hpo => ?_)
    obtain ⟨rfl, h1, F1⟩ := hpo
    refine r_goto 18 hO dX4_wants_14 (by decide) ?_
    exact r_ireturn hO hr dX4_wants_18 rfl ⟨sI e.symm, h1, F1⟩
theorem runS_ch : ∀ (k : Nat) (s : Ns), (runS k s).2.2.2.2 ≤ s.2.2.2.2 + k := by
  intro k
  induction k with
  | zero => intro s; exact Nat.le_refl _
  | succ k ih => intro s; have := ih (dayS s); have := dayS_ch s; show (runS k (dayS s)).2.2.2.2 ≤ _; omega
set_option maxHeartbeats 4000000 in
theorem zX5_isSoWith (l : Launch) {M : Mm} {σ : Sta} (h : RD M σ) {x z : Int32} (a k v : Nat) (hx : x = nI (4 * a + k)) (hz : z = nI v) (ha : a < σ.1.1.length) (hk : k < 4) (hv : v ≤ topN k) : Clz l 7 yX5_isSoWith cX5_isSoWith 5 (some .boolean) [.ref 33, .int x, .int z] M (fun r M' => r = some (.int (bI (soS σ (sMb (nuS σ.1) a k v)))) ∧ FS M M' ∧ TrA M' 39 (sMb (nuS σ.1) a k v) 21) := by
  refine Clz.on RX5 rfl (by decide +kernel) (Nat.le_of_ble_eq_true rfl) (fun X hL hO hr => ?_)
  show Gz X 0 [.ref 33, .int x, .int z, .null, .null] [] M
  refine r_aload_n hO dX5_isSoWith_0 rfl ?_
  refine r_callV hO dX5_isSoWith_1 kRX5_196 miX5_starts (zX5_starts _) ⟨Nat.le_of_ble_eq_true rfl, Nat.le_of_ble_eq_true rfl, rfl, Nat.le_of_ble_eq_true rfl⟩ rfl rfl (fun r M0 hpo => ?_)
  obtain ⟨rfl, hst⟩ := hpo
  have hl6 := h.1.2.2.2.2.2.2.1.2
  have hm6 := h.1.1
  refine r_aload_n hO dX5_isSoWith_4 rfl ?_
  refine r_getR 35 hO dX5_isSoWith_5 fRX5_13 rfl ?_
  refine r_iload_n hO dX5_isSoWith_8 rfl ?_
  refine r_iload_n hO dX5_isSoWith_9 rfl ?_
  refine s_iast 41 hO dX5_isSoWith_10 rfl (Nat.le_of_ble_eq_true rfl) (4 * a + k) hx (by omega) ?_
  refine r_iconst hO dX5_isSoWith_11 ic_0 ?_
  refine s_istore_n hL hO dX5_isSoWith_12 (Nat.le_of_ble_eq_true rfl) rfl ?_
  have seen : ∀ (M1 : Mm), FS M M1 → TrA M1 39 (sMb (nuS σ.1) a k v) 21 → Gz X 43 [.ref 33, .int x, .int z, .null, .null] [] M1 := by
    intro M1 hF hT
    refine r_iconst hO dX5_isSoWith_43 ic_1 ?_
    refine s_istore_n hL hO dX5_isSoWith_44 (Nat.le_of_ble_eq_true rfl) rfl ?_
    refine r_iconst hO dX5_isSoWith_45 ic_0 ?_
    refine s_istore hL hO dX5_isSoWith_46 (Nat.le_of_ble_eq_true rfl) rfl ?_
    have loop2 : ∀ (rest : List (Nat × Nat)) (i : Nat) (b : Bool), σ.1.2.2.2.2.drop i = rest → i ≤ σ.1.2.2.2.2.length → (b && rest.all (fun q => decide ((runS q.1 (sMb (nuS σ.1) a k v)).2.1 = q.2))) = soS σ (sMb (nuS σ.1) a k v) → Gz X 48 [.ref 33, .int x, .int z, .int (bI b), .int (nI i)] [] M1 := by
      intro rest
      induction rest with
      | nil =>
        intro i b hdr hi he
        have hi2 : i = σ.1.2.2.2.2.length := by have := congrArg List.length hdr; rw [List.length_drop, List.length_nil] at this; omega
        refine r_iload hO dX5_isSoWith_48 rfl ?_
        refine r_aload_n hO dX5_isSoWith_50 rfl ?_
        refine r_getR 34 hO dX5_isSoWith_51 fRX5_7 rfl ?_
        refine r_bipush hO dX5_isSoWith_54 bc_28 ?_
        refine s_iald 123 hO dX5_isSoWith_56 rfl (Nat.le_of_ble_eq_true rfl) 28 (by decide) (by decide) ?_
        refine r_icmp_ge 110 hO dX5_isSoWith_57 (by decide) (fun _ => ?_) (fun z => absurd (by rw [hF 34 28 (by omega) (by omega) (by omega), h.1.2.2.2.2.2.2.1.1]; exact nI_le (by omega) (by omega)) z)
        refine r_iload_n hO dX5_isSoWith_110 rfl ?_
        exact r_ireturn hO hr dX5_isSoWith_111 bI_n ⟨sI (by rw [← he, List.all_nil, Bool.and_true]), hF, hT⟩
      | cons q rest ih =>
        intro i b hdr hi he
        have hq : σ.1.2.2.2.2[i]? = some q := by have := congrArg (fun l => l[0]?) hdr; simpa using this
        have hi3 := (List.getElem?_eq_some_iff.mp hq).1
        have hdr2 : σ.1.2.2.2.2.drop (i + 1) = rest := by rw [so_d (s := (sMb (nuS σ.1) a k v)) hq] at hdr; exact (List.cons.inj hdr).2
        obtain ⟨q1, q2, q3, q4⟩ := h.1.2.2.2.2.2.2.2 i q hq
        obtain ⟨t1, t2⟩ := hT q.1 (by omega)
        rw [List.all_cons] at he
        refine r_iload hO dX5_isSoWith_48 rfl ?_
        refine r_aload_n hO dX5_isSoWith_50 rfl ?_
        refine r_getR 34 hO dX5_isSoWith_51 fRX5_7 rfl ?_
        refine r_bipush hO dX5_isSoWith_54 bc_28 ?_
        refine s_iald 123 hO dX5_isSoWith_56 rfl (Nat.le_of_ble_eq_true rfl) 28 (by decide) (by decide) ?_
        refine r_icmp_ge 110 hO dX5_isSoWith_57 (by decide) (fun z => absurd z (by rw [hF 34 28 (by omega) (by omega) (by omega), h.1.2.2.2.2.2.2.1.1]; exact nI_ge (by omega) (by omega))) (fun _ => ?_)
        refine r_iload_n hO dX5_isSoWith_60 rfl ?_
        refine r_if_eq 102 hO dX5_isSoWith_61 (by decide) (fun h61 => ?_) (fun h61 => ?_)
        · refine r_iconst hO dX5_isSoWith_102 ic_0 ?_
          refine s_istore_n hL hO dX5_isSoWith_103 (Nat.le_of_ble_eq_true rfl) rfl ?_
          refine s_iinc hL hO dX5_isSoWith_104 rfl ic_1 (Nat.le_of_ble_eq_true rfl) rfl ?_
          refine r_goto 48 hO dX5_isSoWith_107 (by decide) ?_
          rw [bI_0] at h61
          show Gz X 48 [.ref 33, .int x, .int z, .int (bI false), .int (nI i + 1)] [] M1
          rw [nI_1]
          exact ih (i + 1) false hdr2 (by omega) (by rw [← he, h61]; rfl)
        · refine r_aload_n hO dX5_isSoWith_64 rfl ?_
          refine r_getR 39 hO dX5_isSoWith_65 fRX5_26 rfl ?_
          refine r_aload_n hO dX5_isSoWith_68 rfl ?_
          refine r_getR 34 hO dX5_isSoWith_69 fRX5_7 rfl ?_
          refine r_bipush hO dX5_isSoWith_72 bc_29 ?_
          refine r_iconst hO dX5_isSoWith_74 ic_2 ?_
          refine r_iload hO dX5_isSoWith_75 rfl ?_
          refine r_imul hO dX5_isSoWith_77 ?_
          refine r_iadd hO dX5_isSoWith_78 ?_
          refine s_iald 123 hO dX5_isSoWith_79 rfl (Nat.le_of_ble_eq_true rfl) (29 + 2 * i) (by rw [show (2 : Int32) = nI 2 from rfl, show (29 : Int32) = nI 29 from rfl, pk_mul, nI_add]) (by omega) ?_
          refine s_iald 21 hO dX5_isSoWith_80 rfl (Nat.le_of_ble_eq_true rfl) q.1 (by rw [hF 34 _ (by omega) (by omega) (by omega)]; exact q1) (by omega) ?_
          refine r_aload_n hO dX5_isSoWith_81 rfl ?_
          refine r_getR 34 hO dX5_isSoWith_82 fRX5_7 rfl ?_
          refine r_bipush hO dX5_isSoWith_85 bc_29 ?_
          refine r_iconst hO dX5_isSoWith_87 ic_2 ?_
          refine r_iload hO dX5_isSoWith_88 rfl ?_
          refine r_imul hO dX5_isSoWith_90 ?_
          refine r_iadd hO dX5_isSoWith_91 ?_
          refine r_iconst hO dX5_isSoWith_92 ic_1 ?_
          refine r_iadd hO dX5_isSoWith_93 ?_
          refine s_iald 123 hO dX5_isSoWith_94 rfl (Nat.le_of_ble_eq_true rfl) (29 + 2 * i + 1) (by rw [show (2 : Int32) = nI 2 from rfl, show (29 : Int32) = nI 29 from rfl, pk_mul, nI_add, nI_1]) (by omega) ?_
          refine r_icmp_ne 102 hO dX5_isSoWith_95 (by decide) (fun h95 => ?_) (fun h95 => ?_)
          · rw [t1, hF 34 _ (by omega) (by omega) (by omega), show M.1 34 (29 + 2 * i + 1) = nI q.2 from by rw [show 29 + 2 * i + 1 = 30 + 2 * i from by omega]; exact q2, nI_eq (by omega) (by omega)] at h95
            refine r_iconst hO dX5_isSoWith_102 ic_0 ?_
            refine s_istore_n hL hO dX5_isSoWith_103 (Nat.le_of_ble_eq_true rfl) rfl ?_
            refine s_iinc hL hO dX5_isSoWith_104 rfl ic_1 (Nat.le_of_ble_eq_true rfl) rfl ?_
            refine r_goto 48 hO dX5_isSoWith_107 (by decide) ?_
            show Gz X 48 [.ref 33, .int x, .int z, .int (bI false), .int (nI i + 1)] [] M1
            rw [nI_1]
            exact ih (i + 1) false hdr2 (by omega) (by rw [← he, decide_eq_false h95]; simp)
          · rw [t1, hF 34 _ (by omega) (by omega) (by omega), show M.1 34 (29 + 2 * i + 1) = nI q.2 from by rw [show 29 + 2 * i + 1 = 30 + 2 * i from by omega]; exact q2, nI_eq (by omega) (by omega)] at h95
            refine r_iconst hO dX5_isSoWith_98 ic_1 ?_
            refine r_goto 103 hO dX5_isSoWith_99 (by decide) ?_
            refine s_istore_n hL hO dX5_isSoWith_103 (Nat.le_of_ble_eq_true rfl) rfl ?_
            refine s_iinc hL hO dX5_isSoWith_104 rfl ic_1 (Nat.le_of_ble_eq_true rfl) rfl ?_
            refine r_goto 48 hO dX5_isSoWith_107 (by decide) ?_
            rw [bI_n0] at h61
            show Gz X 48 [.ref 33, .int x, .int z, .int (bI true), .int (nI i + 1)] [] M1
            rw [nI_1]
            exact ih (i + 1) true hdr2 (by omega) (by rw [← he, h61, decide_eq_true h95]; simp)
    exact loop2 _ 0 true rfl (Nat.zero_le _) rfl
  have hdd : (sMb (nuS σ.1) a k v).2.2.1 ≤ 999 := h.1.2.2.2.2.1.2
  have hcc : (sMb (nuS σ.1) a k v).2.2.2.2 = 0 := rfl
  have loop : ∀ (r j : Nat) (M1 : Mm), j + r = 21 → RV M1 (runS j (sMb (nuS σ.1) a k v)) (-4) σ.1.1.length → FS M M1 → TrA M1 39 (sMb (nuS σ.1) a k v) j → Gz X 13 [.ref 33, .int x, .int z, .int (nI j), .null] [] M1 := by
    intro r
    induction r with
    | zero =>
      intro j M1 hjr V hF hT
      refine r_iload_n hO dX5_isSoWith_13 rfl ?_
      refine r_bipush hO dX5_isSoWith_14 bc_20 ?_
      refine r_icmp_gt 43 hO dX5_isSoWith_16 (by decide) (fun _ => ?_) (fun z => absurd (by rw [show (20 : Int32) = nI 20 from rfl]; exact nI_lt (by omega) (by omega)) z)
      have e : j = 21 := by omega
      rw [e] at hT
      refine r_null 3 ?_
      show Gz X 43 [.ref 33, .int x, .int z, .null, .null] [] M1
      exact seen M1 hF hT
    | succ r ih =>
      intro j M1 hjr V hF hT
      refine r_iload_n hO dX5_isSoWith_13 rfl ?_
      refine r_bipush hO dX5_isSoWith_14 bc_20 ?_
      refine r_icmp_gt 43 hO dX5_isSoWith_16 (by decide) (fun z => absurd z (by rw [show (20 : Int32) = nI 20 from rfl]; exact nI_nlt (by omega) (by omega))) (fun _ => ?_)
      refine r_aload_n hO dX5_isSoWith_19 rfl ?_
      refine r_getR 39 hO dX5_isSoWith_20 fRX5_26 rfl ?_
      refine r_iload_n hO dX5_isSoWith_23 rfl ?_
      refine r_aload_n hO dX5_isSoWith_24 rfl ?_
      refine r_getR 35 hO dX5_isSoWith_25 fRX5_13 rfl ?_
      refine r_bipush hO dX5_isSoWith_28 bc_25 ?_
      refine s_iald 41 hO dX5_isSoWith_30 rfl (Nat.le_of_ble_eq_true rfl) 25 (by decide) (by decide) ?_
      refine s_iast 21 hO dX5_isSoWith_31 rfl (Nat.le_of_ble_eq_true rfl) j rfl (by omega) ?_
      obtain ⟨R, hl⟩ := V.rn
      have T1 := hT.push R.2.2.2.1.1 R.2.2.2.1.2
      have V1 : RV (mput M1 39 j (M1.1 35 25)) (runS j (sMb (nuS σ.1) a k v)) (-4) σ.1.1.length := ⟨_, hl, ⟨R.1, by rw [mput_ne _ (by decide)]; exact R.2.1, by rw [mput_ne _ (by decide)]; exact R.2.2.1, by rw [mput_ne _ (by decide)]; exact R.2.2.2.1, by rw [mput_ne _ (by decide)]; exact R.2.2.2.2.1, by rw [mput_ne _ (by decide)]; exact R.2.2.2.2.2.1, by rw [mput_ne _ (by decide)]; exact R.2.2.2.2.2.2.1, by rw [mput_ne _ (by decide)]; exact R.2.2.2.2.2.2.2⟩, act_none _ 0 (by have := R.1; omega)⟩
      refine r_aload_n hO dX5_isSoWith_32 rfl ?_
      refine r_iconst hO dX5_isSoWith_33 ic_0 ?_
      refine r_callV hO dX5_isSoWith_34 kRX5_192 miX5_dayGoes (zX5_dayGoes _ V1 false rfl (by rw [runS_day]; omega) (by have := runS_ch j (sMb (nuS σ.1) a k v); omega)) ⟨Nat.le_of_ble_eq_true rfl, Nat.le_of_ble_eq_true rfl, rfl, Nat.le_of_ble_eq_true rfl⟩ rfl rfl (fun q M2 hpo => ?_)
      obtain ⟨rfl, F, V2⟩ := hpo
      rw [if_neg (by decide), ← runS_S] at V2
      refine s_iinc hL hO dX5_isSoWith_37 rfl ic_1 (Nat.le_of_ble_eq_true rfl) rfl ?_
      refine r_goto 13 hO dX5_isSoWith_40 (by decide) ?_
      show Gz X 13 [.ref 33, .int x, .int z, .int (nI j + 1), .null] [] M2
      rw [nI_1]
      exact ih (j + 1) M2 (by omega) V2 ((hF.tr (FS.put (Or.inr rfl))).tr (FS.f35 F)) (T1.eq (fun k => F.1 39 k (by omega) (by omega)))
  have V0 := h.1.rvMb hst ha hk hv
  rw [← hz] at V0
  exact loop 21 0 _ (by omega) V0 ((FS.st hst).tr (FS.put (Or.inl rfl))) (fun d hd => absurd hd (by omega))
set_option maxHeartbeats 4000000 in
theorem zX5_which (l : Launch) {M : Mm} {σ : Sta} (h : RD M σ) {x y : Int32} (a k n : Nat) (hx : x = nI (4 * a + k)) (hy : y = nI n) (ha : a < σ.1.1.length) (hk : k < 4) (hn : topN k = n) : Clz l 8 yX5_which cX5_which 5 (some .int) [.ref 33, .int x, .int y] M (fun r M' => r = some (.int (orF (fun v => soS σ (sMb (nuS σ.1) a k v)) (n + 1) 0 0)) ∧ RD M' σ ∧ FDr M M') := by
  refine Clz.on RX5 rfl (by decide +kernel) (Nat.le_of_ble_eq_true rfl) (fun X hL hO hr => ?_)
  show Gz X 0 [.ref 33, .int x, .int y, .null, .null] [] M
  refine r_iconst hO dX5_which_0 ic_0 ?_
  refine s_istore_n hL hO dX5_which_1 (Nat.le_of_ble_eq_true rfl) rfl ?_
  refine r_iconst hO dX5_which_2 ic_0 ?_
  refine s_istore hL hO dX5_which_3 (Nat.le_of_ble_eq_true rfl) rfl ?_
  have hn20 : n ≤ 20 := hn ▸ topN_le k
  have loop : ∀ (r j : Nat) (m : Int32) (M1 : Mm), j + r = n + 1 → FS M M1 → orF (fun v => soS σ (sMb (nuS σ.1) a k v)) r j m = orF (fun v => soS σ (sMb (nuS σ.1) a k v)) (n + 1) 0 0 → Gz X 5 [.ref 33, .int x, .int y, .int m, .int (nI j)] [] M1 := by
    intro r
    induction r with
    | zero =>
      intro j m M1 hjr hF he
      refine r_iload hO dX5_which_5 rfl ?_
      refine r_iload_n hO dX5_which_7 rfl ?_
      refine r_icmp_gt 33 hO dX5_which_8 (by decide) (fun _ => ?_) (fun z => absurd (by rw [hy]; exact nI_lt (by omega) (by omega)) z)
      refine r_iload_n hO dX5_which_33 rfl ?_
      exact r_ireturn hO hr dX5_which_34 rfl ⟨sI (by rw [← he]; rfl), h.q hF.r, hF.r.fd⟩
    | succ r ih =>
      intro j m M1 hjr hF he
      refine r_iload hO dX5_which_5 rfl ?_
      refine r_iload_n hO dX5_which_7 rfl ?_
      refine r_icmp_gt 33 hO dX5_which_8 (by decide) (fun z => absurd z (by rw [hy]; exact nI_nlt (by omega) (by omega))) (fun _ => ?_)
      refine r_iload_n hO dX5_which_11 rfl ?_
      refine r_aload_n hO dX5_which_12 rfl ?_
      refine r_iload_n hO dX5_which_13 rfl ?_
      refine r_iload hO dX5_which_14 rfl ?_
      refine r_callV hO dX5_which_16 kRX5_293 miX5_isSoWith (zX5_isSoWith _ (h.q hF.r) a k j hx rfl ha hk (by omega)) ⟨Nat.le_of_ble_eq_true rfl, Nat.le_of_ble_eq_true rfl, rfl, Nat.le_of_ble_eq_true rfl⟩ rfl rfl (fun q M2 hpo => ?_)
      obtain ⟨rfl, F, T⟩ := hpo
      refine r_fS hO dX5_which_19 kRX5_153 msX5_flag (zX5_flag _ (soS σ (sMb (nuS σ.1) a k j)) rfl) ⟨Nat.le_of_ble_eq_true rfl, Nat.le_of_ble_eq_true rfl, rfl, Nat.le_of_ble_eq_true rfl⟩ rfl ?_
      refine r_iload hO dX5_which_22 rfl ?_
      refine r_ishl hO dX5_which_24 ?_
      refine r_ior hO dX5_which_25 ?_
      refine s_istore_n hL hO dX5_which_26 (Nat.le_of_ble_eq_true rfl) rfl ?_
      refine s_iinc hL hO dX5_which_27 rfl ic_1 (Nat.le_of_ble_eq_true rfl) rfl ?_
      refine r_goto 5 hO dX5_which_30 (by decide) ?_
      show Gz X 5 [.ref 33, .int x, .int y, .int (m ||| (bI (soS σ (sMb (nuS σ.1) a k j)) <<< (nI j &&& 31))), .int (nI j + 1)] [] M2
      rw [nI_1]
      exact ih (j + 1) _ M2 (by omega) (hF.tr F) he
  exact loop (n + 1) 0 0 M (by omega) FS.rf rfl
set_option maxHeartbeats 4000000 in
theorem zX5_kinds (l : Launch) {M : Mm} {σ : Sta} (h : RD M σ) {i : Int32} : Clz l 9 yX5_kinds cX5_kinds 2 (some .int) [.ref 33, .int i] M (fun r M' => r = some (.int (p_as σ 0 4 i)) ∧ RD M' σ ∧ FDr M M') := by
  refine Clz.on RX5 rfl (by decide +kernel) (Nat.le_of_ble_eq_true rfl) (fun X hL hO hr => ?_)
  show Gz X 0 [.ref 33, .int i] [] M
  refine r_aload_n hO dX5_kinds_0 rfl ?_
  refine r_iload_n hO dX5_kinds_1 rfl ?_
  refine r_fV hO dX5_kinds_2 kRX5_205 miX5_isMember (zX5_isMember _) ⟨Nat.le_of_ble_eq_true rfl, Nat.le_of_ble_eq_true rfl, rfl, Nat.le_of_ble_eq_true rfl⟩ rfl rfl ?_
  refine r_if_eq 21 hO dX5_kinds_5 (by decide) (fun h5 => ?_) (fun h5 => ?_)
  · rw [bI_0, h.1.2.2.1] at h5
    refine r_iconst hO dX5_kinds_21 ic_m1 ?_
    exact r_ireturn hO hr dX5_kinds_22 rfl ⟨sI (show _ = p_as σ 0 4 i from by unfold p_as; rw [if_neg (by rw [h5]; decide)]), h, FDr.rf⟩
  · rw [bI_n0, h.1.2.2.1] at h5
    obtain ⟨a, ha, rfl⟩ := inI_mem (by have := h.1.1; omega) h5
    have hl6 := h.1.1
    have e : p_as σ 0 4 (nI a) = orF (fun v => soS σ (sMb (nuS σ.1) a 0 v)) 4 0 0 := by unfold p_as; rw [if_pos h5, nI_clamp (by omega)]
    refine r_aload_n hO dX5_kinds_8 rfl ?_
    refine r_iconst hO dX5_kinds_9 ic_4 ?_
    refine r_iload_n hO dX5_kinds_10 rfl ?_
    refine r_imul hO dX5_kinds_11 ?_
    refine r_iconst hO dX5_kinds_12 ic_0 ?_
    refine r_iadd hO dX5_kinds_13 ?_
    refine r_iconst hO dX5_kinds_14 ic_3 ?_
    refine r_callV hO dX5_kinds_15 kRX5_296 miX5_which (zX5_which _ h a 0 3 (ix4 rfl rfl) rfl ha (by decide) rfl) ⟨Nat.le_of_ble_eq_true rfl, Nat.le_of_ble_eq_true rfl, rfl, Nat.le_of_ble_eq_true rfl⟩ rfl rfl (fun q M1 hpo => ?_)
    obtain ⟨rfl, h1, F1⟩ := hpo
    refine r_goto 22 hO dX5_kinds_18 (by decide) ?_
    exact r_ireturn hO hr dX5_kinds_22 rfl ⟨sI e.symm, h1, F1⟩
set_option maxHeartbeats 4000000 in
theorem zX5_wants (l : Launch) {M : Mm} {σ : Sta} (h : RD M σ) {i : Int32} : Clz l 9 yX5_wants cX5_wants 2 (some .int) [.ref 33, .int i] M (fun r M' => r = some (.int (p_as σ 2 21 i)) ∧ RD M' σ ∧ FDr M M') := by
  refine Clz.on RX5 rfl (by decide +kernel) (Nat.le_of_ble_eq_true rfl) (fun X hL hO hr => ?_)
  show Gz X 0 [.ref 33, .int i] [] M
  refine r_aload_n hO dX5_wants_0 rfl ?_
  refine r_iload_n hO dX5_wants_1 rfl ?_
  refine r_fV hO dX5_wants_2 kRX5_205 miX5_isMember (zX5_isMember _) ⟨Nat.le_of_ble_eq_true rfl, Nat.le_of_ble_eq_true rfl, rfl, Nat.le_of_ble_eq_true rfl⟩ rfl rfl ?_
  refine r_if_eq 22 hO dX5_wants_5 (by decide) (fun h5 => ?_) (fun h5 => ?_)
  · rw [bI_0, h.1.2.2.1] at h5
    refine r_iconst hO dX5_wants_22 ic_m1 ?_
    exact r_ireturn hO hr dX5_wants_23 rfl ⟨sI (show _ = p_as σ 2 21 i from by unfold p_as; rw [if_neg (by rw [h5]; decide)]), h, FDr.rf⟩
  · rw [bI_n0, h.1.2.2.1] at h5
    obtain ⟨a, ha, rfl⟩ := inI_mem (by have := h.1.1; omega) h5
    have hl6 := h.1.1
    have e : p_as σ 2 21 (nI a) = orF (fun v => soS σ (sMb (nuS σ.1) a 2 v)) 21 0 0 := by unfold p_as; rw [if_pos h5, nI_clamp (by omega)]
    refine r_aload_n hO dX5_wants_8 rfl ?_
    refine r_iconst hO dX5_wants_9 ic_4 ?_
    refine r_iload_n hO dX5_wants_10 rfl ?_
    refine r_imul hO dX5_wants_11 ?_
    refine r_iconst hO dX5_wants_12 ic_2 ?_
    refine r_iadd hO dX5_wants_13 ?_
    refine r_bipush hO dX5_wants_14 bc_20 ?_
    refine r_callV hO dX5_wants_16 kRX5_296 miX5_which (zX5_which _ h a 2 20 (ix4 rfl rfl) rfl ha (by decide) rfl) ⟨Nat.le_of_ble_eq_true rfl, Nat.le_of_ble_eq_true rfl, rfl, Nat.le_of_ble_eq_true rfl⟩ rfl rfl (fun q M1 hpo => ?_)
    obtain ⟨rfl, h1, F1⟩ := hpo
    refine r_goto 23 hO dX5_wants_19 (by decide) ?_
    exact r_ireturn hO hr dX5_wants_23 rfl ⟨sI e.symm, h1, F1⟩
