/-! the text, class: words, lines -/
def nmB : List (List Nat) := [[112, 108, 97, 105, 110], [119, 104, 105, 112], [100, 111, 117, 98, 116, 101, 114], [109, 97, 103, 103, 111, 116], [109, 111, 116, 105, 111, 110]]
def nmN (i k : Nat) : Nat := (nmB.getD i []).getD k 0
theorem nm_d : ∀ i, i < 5 → ∀ k, k < 8 → chz i k = nI (nmN i k) ∧ nmN i k < 128 := by decide +kernel
def nmq (t : List Nat) (b e i : Nat) : Bool := decide (e - b = lenz.getD i 0 ∧ ∀ k, k < lenz.getD i 0 → t.getD (b + k) 0 = nmN i k)
def wdT (t : List Nat) (T : Tk) : Nat := if T.1 = 1 then (if nmq t T.2.1 T.2.2.1 0 = true then 0 else if nmq t T.2.1 T.2.2.1 1 = true then 1 else if nmq t T.2.1 T.2.2.1 2 = true then 2 else if nmq t T.2.1 T.2.2.1 3 = true then 3 else if nmq t T.2.1 T.2.2.1 4 = true then 4 else 5) else 5
def wdI (w : Nat) : Int32 := if w = 5 then -1 else nI w
def ftN (K w : Nat) : Nat := if K = 4 then 1 else if K = w then 0 else 2
abbrev Fb : Type := Nat × Nat
def nmP (t : List Nat) (p top : Nat) : Fb ⊕ (Nat × Nat) := if ftN (tok t p).1 2 = 0 then (if (tok t p).2.2.2 ≤ top then .inr ((tok t p).2.2.2, (tok t p).2.2.1) else .inl (3, (tok t p).2.1)) else .inl (ftN (tok t p).1 2, (tok t p).2.1)
def smP (t : List Nat) (p : Nat) : Fb ⊕ Nat := if ftN (tok t p).1 3 = 0 then .inr (tok t p).2.2.1 else .inl (ftN (tok t p).1 3, (tok t p).2.1)
def mtP (t : List Nat) (p : Nat) : Fb ⊕ (Nat × Nat) := (nmP t p 20).elim .inl (fun y => (smP t y.2).elim .inl (fun q => .inr (y.1, q)))
def mbP (t : List Nat) (p : Nat) : Fb ⊕ (Nat × Nat × Nat × Nat) := (nmP t p 1).elim .inl (fun a => (nmP t a.2 20).elim .inl (fun b => (nmP t b.2 20).elim .inl (fun c => (smP t c.2).elim .inl (fun q => .inr (a.1, b.1, c.1, q)))))
abbrev Ln : Type := List Mb × Nat × Bool × Nat
def lineP (t : List Nat) (T : Tk) (ms : List Mb) (mo : Nat) (told : Bool) : Fb ⊕ Ln :=
  if T.1 = 4 then .inl (1, T.2.1) else if wdT t T = 5 then .inl (2, T.2.1) else if wdT t T = 4 then (if told = true then .inl (4, T.2.1) else (mtP t T.2.2.1).elim .inl (fun y => .inr (ms, y.1, true, y.2))) else if ms.length = 6 then .inl (5, T.2.1) else (mbP t T.2.2.1).elim .inl (fun y => .inr (ms ++ [(wdT t T, y.1, y.2.1, y.2.2.1)], mo, told, y.2.2.2))
def textP (t : List Nat) : Nat → Nat → Nat → List Mb → Nat → Bool → Fb ⊕ (Nat × List Mb × Nat)
  | 0, _, n, ms, mo, _ => .inr (n, ms, mo)
  | f + 1, p, n, ms, mo, told => if (tok t p).1 = 0 then .inr (n, ms, mo) else (lineP t (tok t p) ms mo told).elim .inl (fun y => textP t f y.2.2.2 (n + 1) y.1 y.2.1 y.2.2.1)
theorem tok_e {t : List Nat} {p : Nat} (h : p ≤ t.length) : p ≤ (tok t p).2.1 ∧ (tok t p).2.1 ≤ (tok t p).2.2.1 ∧ (tok t p).2.2.1 ≤ t.length ∧ ((tok t p).1 ≠ 0 → p < (tok t p).2.2.1) ∧ (tok t p).1 ≤ 4 ∧ (tok t p).2.2.2 ≤ 99 ∧ (p = t.length → (tok t p).1 = 0) := by
  have h1 := tkB_le h
  have h2 := tok1_e h1.2
  have h3 := tok1_b t (tkB t p)
  have h4 := tok1_v (t := t) (b := tkB t p)
  unfold tok
  rw [h3]
  refine ⟨h1.1, h2.1, h2.2.1, fun z => by have := h2.2.2.1 z; omega, h2.2.2.2.1, h4, fun z => ?_⟩
  rcases Nat.eq_zero_or_pos (tok1 t (tkB t p)).1 with q | q
  · exact q
  · have := h2.2.2.1 (by omega); omega
theorem ft_le (K w : Nat) : ftN K w ≤ 2 := by unfold ftN; split; omega; split <;> omega
theorem ft_0 {K w : Nat} (h : ftN K w = 0) : K = w ∧ K ≠ 4 := by unfold ftN at h; split at h; cases h; split at h; rename_i a b; exact ⟨b, a⟩; cases h
theorem nm_ok {t : List Nat} {p top : Nat} {y : Nat × Nat} (hp : p ≤ t.length) (h : nmP t p top = .inr y) : y.1 ≤ top ∧ p < y.2 ∧ y.2 ≤ t.length := by
  unfold nmP at h
  have k := tok_e hp
  split at h
  · rename_i q
    split at h
    · cases h; exact ⟨by assumption, k.2.2.2.1 (by have := (ft_0 q).1; omega), k.2.2.1⟩
    · cases h
  · cases h
theorem sm_ok {t : List Nat} {p q : Nat} (hp : p ≤ t.length) (h : smP t p = .inr q) : p < q ∧ q ≤ t.length := by
  unfold smP at h
  have k := tok_e hp
  split at h
  · rename_i q; cases h; exact ⟨k.2.2.2.1 (by have := (ft_0 q).1; omega), k.2.2.1⟩
  · cases h
theorem nm_f {t : List Nat} {p top : Nat} (h : ¬ ftN (tok t p).1 2 = 0) : nmP t p top = .inl (ftN (tok t p).1 2, (tok t p).2.1) := if_neg h
theorem nm_3 {t : List Nat} {p top : Nat} (h : ftN (tok t p).1 2 = 0) (h2 : ¬ (tok t p).2.2.2 ≤ top) : nmP t p top = .inl (3, (tok t p).2.1) := by unfold nmP; rw [if_pos h, if_neg h2]
theorem nm_t {t : List Nat} {p top : Nat} (h : ftN (tok t p).1 2 = 0) (h2 : (tok t p).2.2.2 ≤ top) : nmP t p top = .inr ((tok t p).2.2.2, (tok t p).2.2.1) := by unfold nmP; rw [if_pos h, if_pos h2]
theorem sm_f {t : List Nat} {p : Nat} (h : ¬ ftN (tok t p).1 3 = 0) : smP t p = .inl (ftN (tok t p).1 3, (tok t p).2.1) := if_neg h
theorem sm_t {t : List Nat} {p : Nat} (h : ftN (tok t p).1 3 = 0) : smP t p = .inr (tok t p).2.2.1 := if_pos h
theorem wd_le (t : List Nat) (T : Tk) : wdT t T ≤ 5 := by unfold wdT; (repeat' split) <;> omega
set_option maxHeartbeats 4000000 in
theorem zX2_isNamed (l : Launch) {M : Mm} {t : List Nat} (h : TpC M t) {K b e i : Nat} (hK : M.1 1 2 = nI K) (hb : M.1 1 3 = nI b) (he : M.1 1 4 = nI e) (hK4 : K ≤ 4) (hbe : b ≤ e) (het : e ≤ t.length) (hi : i < 5) : CFz l 5 yX2_isNamed cX2_isNamed 3 (some .boolean) [.ref 1, .ref (60 + i)] M (some (.int (bI (decide (K = 1) && nmq t b e i)))) (M) := by
  refine Clz.on RX2 rfl (by decide +kernel) (Nat.le_of_ble_eq_true rfl) (fun X hL hO hr => ?_)
  show Gz X 0 [.ref 1, .ref (60 + i), .null] [] M
  have hl160 := h.1
  have hl8 := (len_d i hi).2
  refine r_aload_n hO dX2_isNamed_0 rfl ?_
  refine r_getI hO dX2_isNamed_1 fRX2_19 rfl ?_
  refine r_iconst hO dX2_isNamed_4 ic_1 ?_
  refine r_icmp_ne 24 hO dX2_isNamed_5 (by decide) (fun h5 => ?_) (fun h5 => ?_)
  · rw [hK, show (1 : Int32) = nI 1 from rfl, nI_eq (by omega) (by omega)] at h5
    refine r_iconst hO dX2_isNamed_24 ic_0 ?_
    exact r_ireturn hO hr dX2_isNamed_25 rfl ⟨sI (by rw [decide_eq_false h5, Bool.false_and]; rfl), rfl⟩
  · rw [hK, show (1 : Int32) = nI 1 from rfl, nI_eq (by omega) (by omega)] at h5
    refine r_aload_n hO dX2_isNamed_8 rfl ?_
    refine r_getI hO dX2_isNamed_9 fRX2_25 rfl ?_
    refine r_aload_n hO dX2_isNamed_12 rfl ?_
    refine r_getI hO dX2_isNamed_13 fRX2_22 rfl ?_
    refine r_isub hO dX2_isNamed_16 ?_
    refine r_aload_n hO dX2_isNamed_17 rfl ?_
    refine r_fT hi hO dX2_isNamed_18 (tb_of 303 (by decide +kernel) rfl) mtJ0_length_8abf5 (zJ0_length_8abf5 _ hi) ⟨Nat.le_of_ble_eq_true rfl, Nat.le_of_ble_eq_true rfl, rfl, Nat.le_of_ble_eq_true rfl⟩ rfl ?_
    refine r_icmp_eq 26 hO dX2_isNamed_21 (by decide) (fun h21 => ?_) (fun h21 => ?_)
    · rw [he, hb, nI_sub hbe, nI_eq (by omega) (by omega)] at h21
      refine r_iconst hO dX2_isNamed_26 ic_0 ?_
      refine s_istore_n hL hO dX2_isNamed_27 (Nat.le_of_ble_eq_true rfl) rfl ?_
      have hlen := h21
      have hK1 : (decide (K = 1) && nmq t b e i) = nmq t b e i := by rw [decide_eq_true h5, Bool.true_and]
      have loop : ∀ (r j : Nat), j + r = lenz.getD i 0 → (∀ k, k < j → t.getD (b + k) 0 = nmN i k) → Gz X 28 [.ref 1, .ref (60 + i), .int (nI j)] [] M := by
        intro r
        induction r with
        | zero =>
          intro j hjr hall
          refine r_iload_n hO dX2_isNamed_28 rfl ?_
          refine r_aload_n hO dX2_isNamed_29 rfl ?_
          refine r_fT hi hO dX2_isNamed_30 (tb_of 303 (by decide +kernel) rfl) mtJ0_length_8abf5 (zJ0_length_8abf5 _ hi) ⟨Nat.le_of_ble_eq_true rfl, Nat.le_of_ble_eq_true rfl, rfl, Nat.le_of_ble_eq_true rfl⟩ rfl ?_
          refine r_icmp_ge 63 hO dX2_isNamed_33 (by decide) (fun _ => ?_) (fun z => absurd (nI_le (by omega) (by omega)) z)
          refine r_iconst hO dX2_isNamed_63 ic_1 ?_
          exact r_ireturn hO hr dX2_isNamed_64 rfl ⟨sI (by rw [hK1]; show _ = bI (nmq t b e i); unfold nmq; rw [decide_eq_true ⟨hlen, fun k hk => hall k (by omega)⟩]; rfl), rfl⟩
        | succ r ih =>
          intro j hjr hall
          obtain ⟨c, hc⟩ : ∃ c, t[b + j]? = some c := ⟨_, List.getElem?_eq_getElem (by omega)⟩
          obtain ⟨a1, a2, a3⟩ := h.at hc
          have hgd : t.getD (b + j) 0 = c := by rw [List.getD_eq_getElem?_getD, hc]; rfl
          refine r_iload_n hO dX2_isNamed_28 rfl ?_
          refine r_aload_n hO dX2_isNamed_29 rfl ?_
          refine r_fT hi hO dX2_isNamed_30 (tb_of 303 (by decide +kernel) rfl) mtJ0_length_8abf5 (zJ0_length_8abf5 _ hi) ⟨Nat.le_of_ble_eq_true rfl, Nat.le_of_ble_eq_true rfl, rfl, Nat.le_of_ble_eq_true rfl⟩ rfl ?_
          refine r_icmp_ge 63 hO dX2_isNamed_33 (by decide) (fun z => absurd z (nI_ge (by omega) (by omega))) (fun _ => ?_)
          refine r_aload_n hO dX2_isNamed_36 rfl ?_
          refine r_getR 2 hO dX2_isNamed_37 fRX2_9 rfl ?_
          refine r_aload_n hO dX2_isNamed_40 rfl ?_
          refine r_getI hO dX2_isNamed_41 fRX2_22 rfl ?_
          refine r_iload_n hO dX2_isNamed_44 rfl ?_
          refine r_iadd hO dX2_isNamed_45 ?_
          refine s_bald 160 hO dX2_isNamed_46 rfl (Nat.le_of_ble_eq_true rfl) (b + j) (by rw [hb, nI_add]) a3 ?_
          refine r_aload_n hO dX2_isNamed_47 rfl ?_
          refine r_iload_n hO dX2_isNamed_48 rfl ?_
          refine r_fT hi hO dX2_isNamed_49 (tb_of 313 (by decide +kernel) rfl) mtJ0_charAt_5068e (zJ0_charAt_5068e _ hi rfl (by omega)) ⟨Nat.le_of_ble_eq_true rfl, Nat.le_of_ble_eq_true rfl, rfl, Nat.le_of_ble_eq_true rfl⟩ rfl ?_
          refine r_icmp_eq 57 hO dX2_isNamed_52 (by decide) (fun h52 => ?_) (fun h52 => ?_)
          · rw [a1, (nm_d i hi j (by omega)).1, nI_eq (by omega) (by have := (nm_d i hi j (by omega)).2; omega)] at h52
            refine s_iinc hL hO dX2_isNamed_57 rfl ic_1 (Nat.le_of_ble_eq_true rfl) rfl ?_
            refine r_goto 28 hO dX2_isNamed_60 (by decide) ?_
            show Gz X 28 [.ref 1, .ref (60 + i), .int (nI j + 1)] [] M
            rw [nI_1]
            exact ih (j + 1) (by omega) (fun k hk => by
              by_cases q : k = j
              · subst q; rw [hgd]; exact h52
              · exact hall k (by omega))
          · rw [a1, (nm_d i hi j (by omega)).1, nI_eq (by omega) (by have := (nm_d i hi j (by omega)).2; omega)] at h52
            refine r_iconst hO dX2_isNamed_55 ic_0 ?_
            exact r_ireturn hO hr dX2_isNamed_56 rfl ⟨sI (by rw [hK1]; show _ = bI (nmq t b e i); unfold nmq; rw [decide_eq_false (fun z => h52 (by rw [← hgd]; exact z.2 j (by omega)))]; rfl), rfl⟩
      exact loop (lenz.getD i 0) 0 (by omega) (fun k hk => absurd hk (by omega))
    · rw [he, hb, nI_sub hbe, nI_eq (by omega) (by omega)] at h21
      refine r_iconst hO dX2_isNamed_24 ic_0 ?_
      exact r_ireturn hO hr dX2_isNamed_25 rfl ⟨sI (by rw [show nmq t b e i = false from decide_eq_false (fun z => h21 z.1), Bool.and_false]; rfl), rfl⟩
theorem wd_k {t : List Nat} {T : Tk} (k : Nat) (hk : k < 5) (h : (decide (T.1 = 1) && nmq t T.2.1 T.2.2.1 k) = true) (hn : ∀ i, i < k → (decide (T.1 = 1) && nmq t T.2.1 T.2.2.1 i) = false) : wdT t T = k := by
  rw [Bool.and_eq_true, decide_eq_true_iff] at h
  obtain ⟨q1, q2⟩ := h
  have hn2 : ∀ i, i < k → ¬ nmq t T.2.1 T.2.2.1 i = true := fun i hi => by have := hn i hi; rw [decide_eq_true q1, Bool.true_and] at this; rw [this]; decide
  unfold wdT
  rw [if_pos q1]
  rcases (show k = 0 ∨ k = 1 ∨ k = 2 ∨ k = 3 ∨ k = 4 by omega) with rfl | rfl | rfl | rfl | rfl
  · rw [if_pos q2]
  · rw [if_neg (hn2 0 (by omega)), if_pos q2]
  · rw [if_neg (hn2 0 (by omega)), if_neg (hn2 1 (by omega)), if_pos q2]
  · rw [if_neg (hn2 0 (by omega)), if_neg (hn2 1 (by omega)), if_neg (hn2 2 (by omega)), if_pos q2]
  · rw [if_neg (hn2 0 (by omega)), if_neg (hn2 1 (by omega)), if_neg (hn2 2 (by omega)), if_neg (hn2 3 (by omega)), if_pos q2]
theorem wd_5 {t : List Nat} {T : Tk} (hn : ∀ i, i < 5 → (decide (T.1 = 1) && nmq t T.2.1 T.2.2.1 i) = false) : wdT t T = 5 := by
  unfold wdT
  by_cases q1 : T.1 = 1
  · have hn2 : ∀ i, i < 5 → ¬ nmq t T.2.1 T.2.2.1 i = true := fun i hi => by have := hn i hi; rw [decide_eq_true q1, Bool.true_and] at this; rw [this]; decide
    rw [if_pos q1, if_neg (hn2 0 (by omega)), if_neg (hn2 1 (by omega)), if_neg (hn2 2 (by omega)), if_neg (hn2 3 (by omega)), if_neg (hn2 4 (by omega))]
  · rw [if_neg q1]
theorem lt1 {P : Nat → Prop} (h0 : P 0) : ∀ i, i < 1 → P i := fun i hi => by rcases (show i = 0 by omega) with rfl; exact h0
theorem lt2 {P : Nat → Prop} (h0 : P 0) (h1 : P 1) : ∀ i, i < 2 → P i := fun i hi => by rcases (show i = 0 ∨ i = 1 by omega) with rfl | rfl <;> assumption
theorem lt3 {P : Nat → Prop} (h0 : P 0) (h1 : P 1) (h2 : P 2) : ∀ i, i < 3 → P i := fun i hi => by rcases (show i = 0 ∨ i = 1 ∨ i = 2 by omega) with rfl | rfl | rfl <;> assumption
theorem lt4 {P : Nat → Prop} (h0 : P 0) (h1 : P 1) (h2 : P 2) (h3 : P 3) : ∀ i, i < 4 → P i := fun i hi => by rcases (show i = 0 ∨ i = 1 ∨ i = 2 ∨ i = 3 by omega) with rfl | rfl | rfl | rfl <;> assumption
theorem lt5 {P : Nat → Prop} (h0 : P 0) (h1 : P 1) (h2 : P 2) (h3 : P 3) (h4 : P 4) : ∀ i, i < 5 → P i := fun i hi => by rcases (show i = 0 ∨ i = 1 ∨ i = 2 ∨ i = 3 ∨ i = 4 by omega) with rfl | rfl | rfl | rfl | rfl <;> assumption
set_option maxHeartbeats 4000000 in
theorem zX3_wordOf (l : Launch) {M : Mm} {t : List Nat} (h : TpC M t) {T : Tk} (hT : TokC M T) (hT4 : T.1 ≤ 4) (hbe : T.2.1 ≤ T.2.2.1) (het : T.2.2.1 ≤ t.length) : CFz l 6 yX3_wordOf cX3_wordOf 1 (some .int) [.ref 1] M (some (.int (wdI (wdT t T)))) (M) := by
  refine Clz.on RX3 rfl (by decide +kernel) (Nat.le_of_ble_eq_true rfl) (fun X hL hO hr => ?_)
  show Gz X 0 [.ref 1] [] M
  refine r_aload_n hO dX3_wordOf_0 rfl ?_
  refine r_ldcT (q := 60) hO dX3_wordOf_1 (fun ad s hz => hz.1) ?_
  refine r_fV hO dX3_wordOf_3 kRX3_59 miX2_isNamed (zX2_isNamed _ h (i := 0) hT.1 hT.2.1 hT.2.2.1 hT4 hbe het (by decide)) ⟨Nat.le_of_ble_eq_true rfl, Nat.le_of_ble_eq_true rfl, rfl, Nat.le_of_ble_eq_true rfl⟩ rfl rfl ?_
  refine r_if_eq 11 hO dX3_wordOf_6 (by decide) (fun h6 => ?_) (fun h6 => ?_)
  · rw [bI_0] at h6
    refine r_aload_n hO dX3_wordOf_11 rfl ?_
    refine r_ldcT (q := 61) hO dX3_wordOf_12 (fun ad s hz => hz.2.1) ?_
    refine r_fV hO dX3_wordOf_14 kRX3_59 miX2_isNamed (zX2_isNamed _ h (i := 1) hT.1 hT.2.1 hT.2.2.1 hT4 hbe het (by decide)) ⟨Nat.le_of_ble_eq_true rfl, Nat.le_of_ble_eq_true rfl, rfl, Nat.le_of_ble_eq_true rfl⟩ rfl rfl ?_
    refine r_if_eq 22 hO dX3_wordOf_17 (by decide) (fun h17 => ?_) (fun h17 => ?_)
    · rw [bI_0] at h17
      refine r_aload_n hO dX3_wordOf_22 rfl ?_
      refine r_ldcT (q := 62) hO dX3_wordOf_23 (fun ad s hz => hz.2.2.1) ?_
      refine r_fV hO dX3_wordOf_25 kRX3_59 miX2_isNamed (zX2_isNamed _ h (i := 2) hT.1 hT.2.1 hT.2.2.1 hT4 hbe het (by decide)) ⟨Nat.le_of_ble_eq_true rfl, Nat.le_of_ble_eq_true rfl, rfl, Nat.le_of_ble_eq_true rfl⟩ rfl rfl ?_
      refine r_if_eq 33 hO dX3_wordOf_28 (by decide) (fun h28 => ?_) (fun h28 => ?_)
      · rw [bI_0] at h28
        refine r_aload_n hO dX3_wordOf_33 rfl ?_
        refine r_ldcT (q := 63) hO dX3_wordOf_34 (fun ad s hz => hz.2.2.2.1) ?_
        refine r_fV hO dX3_wordOf_36 kRX3_59 miX2_isNamed (zX2_isNamed _ h (i := 3) hT.1 hT.2.1 hT.2.2.1 hT4 hbe het (by decide)) ⟨Nat.le_of_ble_eq_true rfl, Nat.le_of_ble_eq_true rfl, rfl, Nat.le_of_ble_eq_true rfl⟩ rfl rfl ?_
        refine r_if_eq 44 hO dX3_wordOf_39 (by decide) (fun h39 => ?_) (fun h39 => ?_)
        · rw [bI_0] at h39
          refine r_aload_n hO dX3_wordOf_44 rfl ?_
          refine r_ldcT (q := 64) hO dX3_wordOf_45 (fun ad s hz => hz.2.2.2.2) ?_
          refine r_fV hO dX3_wordOf_47 kRX3_59 miX2_isNamed (zX2_isNamed _ h (i := 4) hT.1 hT.2.1 hT.2.2.1 hT4 hbe het (by decide)) ⟨Nat.le_of_ble_eq_true rfl, Nat.le_of_ble_eq_true rfl, rfl, Nat.le_of_ble_eq_true rfl⟩ rfl rfl ?_
          refine r_if_eq 57 hO dX3_wordOf_50 (by decide) (fun h50 => ?_) (fun h50 => ?_)
          · rw [bI_0] at h50
            refine r_iconst hO dX3_wordOf_57 ic_m1 ?_
            exact r_ireturn hO hr dX3_wordOf_58 rfl ⟨sI (by rw [wd_5 (lt5 h6 h17 h28 h39 h50)]; rfl), rfl⟩
          · rw [bI_n0] at h50
            refine r_iconst hO dX3_wordOf_53 ic_4 ?_
            refine r_goto 58 hO dX3_wordOf_54 (by decide) ?_
            exact r_ireturn hO hr dX3_wordOf_58 rfl ⟨sI (by rw [wd_k 4 (by decide) h50 (lt4 h6 h17 h28 h39)]; rfl), rfl⟩
        · rw [bI_n0] at h39
          refine r_iconst hO dX3_wordOf_42 ic_3 ?_
          exact r_ireturn hO hr dX3_wordOf_43 rfl ⟨sI (by rw [wd_k 3 (by decide) h39 (lt3 h6 h17 h28)]; rfl), rfl⟩
      · rw [bI_n0] at h28
        refine r_iconst hO dX3_wordOf_31 ic_2 ?_
        exact r_ireturn hO hr dX3_wordOf_32 rfl ⟨sI (by rw [wd_k 2 (by decide) h28 (lt2 h6 h17)]; rfl), rfl⟩
    · rw [bI_n0] at h17
      refine r_iconst hO dX3_wordOf_20 ic_1 ?_
      exact r_ireturn hO hr dX3_wordOf_21 rfl ⟨sI (by rw [wd_k 1 (by decide) h17 (lt1 h6)]; rfl), rfl⟩
  · rw [bI_n0] at h6
    refine r_iconst hO dX3_wordOf_9 ic_0 ?_
    exact r_ireturn hO hr dX3_wordOf_10 rfl ⟨sI (by rw [wd_k 0 (by decide) h6 (fun i hi => absurd hi (by omega))]; rfl), rfl⟩
set_option maxHeartbeats 4000000 in
theorem zX3_faultOfToken (l : Launch) {M : Mm} {t : List Nat} (h : TpC M t) (p : Nat) (hp : M.1 1 4 = nI p) (hp2 : p ≤ t.length) {y : Int32} (w : Nat) (hy : y = nI w) (hw : w ≤ 4) : Clz l 2 yX3_faultOfToken cX3_faultOfToken 2 (some .int) [.ref 1, .int y] M (fun r M' => r = some (.int (nI (ftN (tok t p).1 w))) ∧ FK M M' ∧ TokC M' (tok t p)) := by
  refine Clz.on RX3 rfl (by decide +kernel) (Nat.le_of_ble_eq_true rfl) (fun X hL hO hr => ?_)
  show Gz X 0 [.ref 1, .int y] [] M
  refine r_aload_n hO dX3_faultOfToken_0 rfl ?_
  refine r_callV hO dX3_faultOfToken_1 kRX3_29 miX2_readToken (zX2_readToken _ h p hp hp2) ⟨Nat.le_of_ble_eq_true rfl, Nat.le_of_ble_eq_true rfl, rfl, Nat.le_of_ble_eq_true rfl⟩ rfl rfl (fun q M1 hpo => ?_)
  obtain ⟨rfl, F, hT⟩ := hpo
  have k4 := (tok_e hp2).2.2.2.2.1
  refine r_aload_n hO dX3_faultOfToken_4 rfl ?_
  refine r_getI hO dX3_faultOfToken_5 fRX3_32 rfl ?_
  refine r_iconst hO dX3_faultOfToken_8 ic_4 ?_
  refine r_icmp_ne 14 hO dX3_faultOfToken_9 (by decide) (fun h9 => ?_) (fun h9 => ?_)
  · rw [hT.1, show (4 : Int32) = nI 4 from rfl, nI_eq (by omega) (by omega)] at h9
    refine r_aload_n hO dX3_faultOfToken_14 rfl ?_
    refine r_getI hO dX3_faultOfToken_15 fRX3_32 rfl ?_
    refine r_iload_n hO dX3_faultOfToken_18 rfl ?_
    refine r_icmp_ne 26 hO dX3_faultOfToken_19 (by decide) (fun h19 => ?_) (fun h19 => ?_)
    · rw [hT.1, hy, nI_eq (by omega) (by omega)] at h19
      refine r_iconst hO dX3_faultOfToken_26 ic_2 ?_
      exact r_ireturn hO hr dX3_faultOfToken_27 rfl ⟨sI (by unfold ftN; rw [if_neg h9, if_neg h19]; rfl), F, hT⟩
    · rw [hT.1, hy, nI_eq (by omega) (by omega)] at h19
      refine r_iconst hO dX3_faultOfToken_22 ic_0 ?_
      refine r_goto 27 hO dX3_faultOfToken_23 (by decide) ?_
      exact r_ireturn hO hr dX3_faultOfToken_27 rfl ⟨sI (by unfold ftN; rw [if_neg h9, if_pos h19]; rfl), F, hT⟩
  · rw [hT.1, show (4 : Int32) = nI 4 from rfl, nI_eq (by omega) (by omega)] at h9
    refine r_iconst hO dX3_faultOfToken_12 ic_1 ?_
    exact r_ireturn hO hr dX3_faultOfToken_13 rfl ⟨sI (by unfold ftN; rw [if_pos h9]; rfl), F, hT⟩
