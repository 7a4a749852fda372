/-! the text: tokens -/
def isR (lo hi c : Nat) : Bool := decide (lo ≤ c ∧ c ≤ hi)
def isS (c : Nat) : Bool := decide (c = 32)
def tkB (t : List Nat) (p : Nat) : Nat := p + ((t.drop p).takeWhile isS).length
def tkR (t : List Nat) (b lo hi : Nat) : Nat := b + ((t.drop b).takeWhile (isR lo hi)).length
def dgs (t : List Nat) (b : Nat) : List Nat := (t.drop b).takeWhile (isR 48 57)
def dgV (l : List Nat) : Nat := l.foldl (fun v c => v * 10 + (c - 48)) 0
abbrev Tk : Type := Nat × Nat × Nat × Nat
def tok1 (t : List Nat) (b : Nat) : Tk := match t[b]? with
  | none => (0, b, b, 0)
  | some c => if isR 97 122 c = true then (1, b, tkR t b 97 122, 0) else if isR 48 57 c = true then (if tkR t b 48 57 - b ≤ 2 then (2, b, tkR t b 48 57, dgV ((dgs t b).take 2)) else (4, b, tkR t b 48 57, 0)) else if c = 59 then (3, b, b + 1, 0) else (4, b, b + 1, 0)
def tok (t : List Nat) (p : Nat) : Tk := tok1 t (tkB t p)
theorem tw_len {α : Type} (f : α → Bool) : ∀ l : List α, (l.takeWhile f).length ≤ l.length := by
  intro l
  induction l with
  | nil => exact Nat.le_refl _
  | cons a l ih =>
    rw [List.takeWhile_cons]
    split
    · simp only [List.length_cons]; omega
    · exact Nat.zero_le _
theorem tkB_le {t : List Nat} {p : Nat} (h : p ≤ t.length) : p ≤ tkB t p ∧ tkB t p ≤ t.length := by
  unfold tkB
  have := tw_len isS (t.drop p)
  rw [List.length_drop] at this
  omega
theorem tkR_le {t : List Nat} {b lo hi : Nat} (h : b ≤ t.length) : b ≤ tkR t b lo hi ∧ tkR t b lo hi ≤ t.length := by
  unfold tkR
  have := tw_len (isR lo hi) (t.drop b)
  rw [List.length_drop] at this
  omega
theorem dr_c {t : List Nat} {i c : Nat} {rest : List Nat} (h : t.drop i = c :: rest) : t[i]? = some c ∧ t.drop (i + 1) = rest ∧ i < t.length := by
  have h1 : t[i]? = some c := by have := congrArg (fun l => l[0]?) h; simpa using this
  obtain ⟨h2, h3⟩ := List.getElem?_eq_some_iff.mp h1
  rw [List.drop_eq_getElem_cons h2] at h
  exact ⟨h1, (List.cons.inj h).2, h2⟩
theorem dr_n {t : List Nat} {i : Nat} (h : t.drop i = []) (hi : i ≤ t.length) : i = t.length := by
  have := congrArg List.length h
  rw [List.length_drop, List.length_nil] at this
  omega
theorem tkR_pos {t : List Nat} {b lo hi c : Nat} (h : t[b]? = some c) (hc : isR lo hi c = true) : b < tkR t b lo hi := by
  obtain ⟨h1, h2⟩ := List.getElem?_eq_some_iff.mp h
  unfold tkR
  rw [List.drop_eq_getElem_cons h1, List.takeWhile_cons, h2, hc, if_pos rfl, List.length_cons]
  omega
theorem tok1_b (t : List Nat) (b : Nat) : (tok1 t b).2.1 = b := by
  unfold tok1
  split
  · rfl
  · (repeat' split) <;> rfl
theorem tok1_e {t : List Nat} {b : Nat} (h : b ≤ t.length) : b ≤ (tok1 t b).2.2.1 ∧ (tok1 t b).2.2.1 ≤ t.length ∧ ((tok1 t b).1 ≠ 0 → b < (tok1 t b).2.2.1) ∧ (tok1 t b).1 ≤ 4 ∧ ((tok1 t b).1 = 0 → b = t.length) := by
  unfold tok1
  split
  · rename_i h1
    rw [List.getElem?_eq_none_iff] at h1
    exact ⟨Nat.le_refl _, h, fun z => absurd rfl z, by show 0 ≤ 4; omega, fun _ => by omega⟩
  · rename_i c h1
    have h2 := (List.getElem?_eq_some_iff.mp h1).1
    have k1 := tkR_le (lo := 97) (hi := 122) h
    have k2 := tkR_le (lo := 48) (hi := 57) h
    split
    · rename_i h3
      have := tkR_pos h1 h3
      exact ⟨k1.1, k1.2, fun _ => this, by show 1 ≤ 4; omega, fun z => by cases z⟩
    · split
      · rename_i h3
        have := tkR_pos h1 h3
        split
        · exact ⟨k2.1, k2.2, fun _ => this, by show 2 ≤ 4; omega, fun z => by cases z⟩
        · exact ⟨k2.1, k2.2, fun _ => this, by show 4 ≤ 4; omega, fun z => by cases z⟩
      · split
        · exact ⟨by show b ≤ b + 1; omega, by show b + 1 ≤ _; omega, fun _ => by show b < b + 1; omega, by show 3 ≤ 4; omega, fun z => by cases z⟩
        · exact ⟨by show b ≤ b + 1; omega, by show b + 1 ≤ _; omega, fun _ => by show b < b + 1; omega, by show 4 ≤ 4; omega, fun z => by cases z⟩
theorem dg_mem {t : List Nat} {b i c : Nat} (h : (dgs t b)[i]? = some c) : t[b + i]? = some c ∧ 48 ≤ c ∧ c ≤ 57 := by
  unfold dgs at h
  have key : ∀ (l : List Nat) (i : Nat), (l.takeWhile (isR 48 57))[i]? = some c → l[i]? = some c ∧ isR 48 57 c = true := by
    intro l
    induction l with
    | nil => intro i h; simp at h
    | cons a l ih =>
      intro i h
      rw [List.takeWhile_cons] at h
      split at h
      · rename_i ha
        cases i with
        | zero => simp at h; subst h; exact ⟨rfl, ha⟩
        | succ i => simp at h; have := ih i h; exact ⟨by simpa using this.1, this.2⟩
      · simp at h
  obtain ⟨h1, h2⟩ := key _ _ h
  rw [List.getElem?_drop] at h1
  have := of_decide_eq_true h2
  exact ⟨h1, this.1, this.2⟩
theorem dgV_s (l : List Nat) (c : Nat) : dgV (l ++ [c]) = dgV l * 10 + (c - 48) := by unfold dgV; rw [List.foldl_append]; rfl
theorem dgV_t {l : List Nat} {i c : Nat} (h : l[i]? = some c) : dgV (l.take (i + 1)) = dgV (l.take i) * 10 + (c - 48) := by
  rw [List.take_succ, h]
  exact dgV_s _ _
theorem dgV_99 {t : List Nat} {b : Nat} : dgV ((dgs t b).take 2) ≤ 99 := by
  cases h0 : (dgs t b)[0]? with
  | none =>
    rw [List.getElem?_eq_none_iff] at h0
    rw [List.length_eq_zero_iff.mp (by omega : (dgs t b).length = 0)]
    show 0 ≤ 99
    omega
  | some c0 =>
    have k0 := dg_mem h0
    have e1 := dgV_t h0
    rw [List.take_zero, show dgV [] = 0 from rfl] at e1
    cases h1 : (dgs t b)[1]? with
    | none =>
      rw [List.take_succ, h1]
      simp only [Option.toList_none, List.append_nil]
      rw [e1]; omega
    | some c1 =>
      have k1 := dg_mem h1
      have e2 := dgV_t h1
      rw [e2, e1]; omega
theorem tok1_v {t : List Nat} {b : Nat} : (tok1 t b).2.2.2 ≤ 99 := by
  unfold tok1
  split
  · exact Nat.zero_le _
  · split
    · exact Nat.zero_le _
    · split
      · split
        · exact dgV_99
        · exact Nat.zero_le _
      · split <;> exact Nat.zero_le _
/-- the class's own token -/
def TokC (M : Mm) (T : Tk) : Prop := M.1 1 2 = nI T.1 ∧ M.1 1 3 = nI T.2.1 ∧ M.1 1 4 = nI T.2.2.1 ∧ (T.1 = 2 → M.1 1 5 = nI T.2.2.2)
def FK (M M' : Mm) : Prop := (∀ a k, (a ≠ 1 ∨ k < 2) → M'.1 a k = M.1 a k) ∧ M'.2 = M.2
theorem FK.rf {M : Mm} : FK M M := ⟨fun _ _ _ => rfl, rfl⟩
theorem FK.tr {M M1 M2 : Mm} (h1 : FK M M1) (h2 : FK M1 M2) : FK M M2 := ⟨fun a k x => (h2.1 a k x).trans (h1.1 a k x), h2.2.trans h1.2⟩
theorem FK.put {M : Mm} {k : Nat} {x : Int32} (hk : 2 ≤ k) : FK M (mput M 1 k x) := ⟨fun a j h => by rw [mpg, if_neg (by omega)], rfl⟩
theorem TpC.k {M M' : Mm} {t : List Nat} (h : TpC M t) (F : FK M M') : TpC M' t := h.eq (F.1 _ _ (by omega)) (fun k => F.1 _ _ (by omega))
theorem TpC.at {M : Mm} {t : List Nat} (h : TpC M t) {i c : Nat} (hc : t[i]? = some c) : M.1 2 i = nI c ∧ c ≤ 127 ∧ i < 160 := by
  have := h.2.2 i c hc
  have h2 := (List.getElem?_eq_some_iff.mp hc).1
  have := h.1
  exact ⟨‹M.1 2 i = nI c ∧ c ≤ 127›.1, ‹M.1 2 i = nI c ∧ c ≤ 127›.2, by omega⟩
theorem mpe {M : Mm} {p k : Nat} {x : Int32} : (mput M p k x).1 p k = x := by rw [mpg, if_pos ⟨rfl, rfl⟩]
theorem mpn {M : Mm} {p k : Nat} {x : Int32} {q j : Nat} (h : q ≠ p ∨ j ≠ k) : (mput M p k x).1 q j = M.1 q j := by rw [mpg, if_neg (by omega)]
theorem isR_f1 {lo hi c : Nat} (h : c < lo) : isR lo hi c = false := decide_eq_false (by omega)
theorem isR_f2 {lo hi c : Nat} (h : hi < c) : isR lo hi c = false := decide_eq_false (by omega)
theorem isR_t {lo hi c : Nat} (h : lo ≤ c) (h2 : c ≤ hi) : isR lo hi c = true := decide_eq_true ⟨h, h2⟩
set_option maxHeartbeats 4000000 in
theorem zX2_rewind (l : Launch) {M : Mm}  : CFz l 0 yX2_rewind cX2_rewind 1 none [.ref 1] M (none) (mput M 1 4 0) := by
  refine Clz.on RX2 rfl (by decide +kernel) (Nat.le_of_ble_eq_true rfl) (fun X hL hO hr => ?_)
  show Gz X 0 [.ref 1] [] M
  refine r_aload_n hO dX2_rewind_0 rfl ?_
  refine r_iconst hO dX2_rewind_1 ic_0 ?_
  refine r_putI hO dX2_rewind_2 fRX2_25 rfl ?_
  exact r_return hO hr dX2_rewind_5 ⟨rfl, rfl⟩
set_option maxHeartbeats 4000000 in
theorem zX2_startsWithin (l : Launch) {M : Mm} {t : List Nat} (h : TpC M t) {b c : Nat} (hs : M.1 1 3 = nI b) (hc : t[b]? = some c) {x y : Int32} (lo hi : Nat) (hx : x = nI lo) (hy : y = nI hi) (hlo : lo < 128) (hhi : hi < 128) : CFz l 0 yX2_startsWithin cX2_startsWithin 3 (some .boolean) [.ref 1, .int x, .int y] M (some (.int (bI (isR lo hi c)))) (M) := by
  refine Clz.on RX2 rfl (by decide +kernel) (Nat.le_of_ble_eq_true rfl) (fun X hL hO hr => ?_)
  show Gz X 0 [.ref 1, .int x, .int y] [] M
  obtain ⟨a1, a2, a3⟩ := h.at hc
  refine r_aload_n hO dX2_startsWithin_0 rfl ?_
  refine r_getR 2 hO dX2_startsWithin_1 fRX2_9 rfl ?_
  refine r_aload_n hO dX2_startsWithin_4 rfl ?_
  refine r_getI hO dX2_startsWithin_5 fRX2_22 rfl ?_
  refine s_bald 160 hO dX2_startsWithin_8 rfl (Nat.le_of_ble_eq_true rfl) b hs a3 ?_
  refine r_iload_n hO dX2_startsWithin_9 rfl ?_
  refine r_icmp_lt 30 hO dX2_startsWithin_10 (by decide) (fun h10 => ?_) (fun h10 => ?_)
  · rw [a1, hx, nI_ltI (by omega) (by omega)] at h10
    refine r_iconst hO dX2_startsWithin_30 ic_0 ?_
    exact r_ireturn hO hr dX2_startsWithin_31 rfl ⟨sI (by rw [isR_f1 h10]; rfl), rfl⟩
  · rw [a1, hx, nI_ltI (by omega) (by omega)] at h10
    refine r_aload_n hO dX2_startsWithin_13 rfl ?_
    refine r_getR 2 hO dX2_startsWithin_14 fRX2_9 rfl ?_
    refine r_aload_n hO dX2_startsWithin_17 rfl ?_
    refine r_getI hO dX2_startsWithin_18 fRX2_22 rfl ?_
    refine s_bald 160 hO dX2_startsWithin_21 rfl (Nat.le_of_ble_eq_true rfl) b hs a3 ?_
    refine r_iload_n hO dX2_startsWithin_22 rfl ?_
    refine r_icmp_gt 30 hO dX2_startsWithin_23 (by decide) (fun h23 => ?_) (fun h23 => ?_)
    · rw [a1, hy, nI_ltI (by omega) (by omega)] at h23
      refine r_iconst hO dX2_startsWithin_30 ic_0 ?_
      exact r_ireturn hO hr dX2_startsWithin_31 rfl ⟨sI (by rw [isR_f2 h23]; rfl), rfl⟩
    · rw [a1, hy, nI_ltI (by omega) (by omega)] at h23
      refine r_iconst hO dX2_startsWithin_26 ic_1 ?_
      refine r_goto 31 hO dX2_startsWithin_27 (by decide) ?_
      exact r_ireturn hO hr dX2_startsWithin_31 rfl ⟨sI (by rw [isR_t (by omega) (by omega)]; rfl), rfl⟩
set_option maxHeartbeats 4000000 in
theorem zX2_endOfRun (l : Launch) {M : Mm} {t : List Nat} (h : TpC M t) {b : Nat} (hs : M.1 1 3 = nI b) (hb : b ≤ t.length) {x y : Int32} (lo hi : Nat) (hx : x = nI lo) (hy : y = nI hi) (hlo : lo < 128) (hhi : hi < 128) : CFz l 0 yX2_endOfRun cX2_endOfRun 4 (some .int) [.ref 1, .int x, .int y] M (some (.int (nI (tkR t b lo hi)))) (M) := by
  refine Clz.on RX2 rfl (by decide +kernel) (Nat.le_of_ble_eq_true rfl) (fun X hL hO hr => ?_)
  show Gz X 0 [.ref 1, .int x, .int y, .null] [] M
  refine r_aload_n hO dX2_endOfRun_0 rfl ?_
  refine r_getI hO dX2_endOfRun_1 fRX2_22 rfl ?_
  refine s_istore_n hL hO dX2_endOfRun_4 (Nat.le_of_ble_eq_true rfl) rfl ?_
  have hl160 := h.1
  have loop : ∀ (rest : List Nat) (i : Nat), t.drop i = rest → i ≤ t.length → i + (rest.takeWhile (isR lo hi)).length = tkR t b lo hi → Gz X 5 [.ref 1, .int x, .int y, .int (nI i)] [] M := by
    intro rest
    induction rest with
    | nil =>
      intro i hdr hi2 he
      refine r_iload_n hO dX2_endOfRun_5 rfl ?_
      refine r_aload_n hO dX2_endOfRun_6 rfl ?_
      refine r_getI hO dX2_endOfRun_7 fRX2_15 rfl ?_
      refine r_icmp_ge 39 hO dX2_endOfRun_10 (by decide) (fun _ => ?_) (fun z => absurd (by rw [h.2.1, dr_n hdr hi2]; exact nI_le (by omega) (by omega)) z)
      refine r_iload_n hO dX2_endOfRun_39 rfl ?_
      exact r_ireturn hO hr dX2_endOfRun_40 rfl ⟨sI (by rw [← he]; rfl), rfl⟩
    | cons c rest ih =>
      intro i hdr hi2 he
      obtain ⟨d1, d2, d3⟩ := dr_c hdr
      obtain ⟨a1, a2, a3⟩ := h.at d1
      refine r_iload_n hO dX2_endOfRun_5 rfl ?_
      refine r_aload_n hO dX2_endOfRun_6 rfl ?_
      refine r_getI hO dX2_endOfRun_7 fRX2_15 rfl ?_
      refine r_icmp_ge 39 hO dX2_endOfRun_10 (by decide) (fun z => absurd z (by rw [h.2.1]; exact nI_ge (by omega) (by omega))) (fun _ => ?_)
      refine r_aload_n hO dX2_endOfRun_13 rfl ?_
      refine r_getR 2 hO dX2_endOfRun_14 fRX2_9 rfl ?_
      refine r_iload_n hO dX2_endOfRun_17 rfl ?_
      refine s_bald 160 hO dX2_endOfRun_18 rfl (Nat.le_of_ble_eq_true rfl) i rfl a3 ?_
      refine r_iload_n hO dX2_endOfRun_19 rfl ?_
      refine r_icmp_lt 39 hO dX2_endOfRun_20 (by decide) (fun h20 => ?_) (fun h20 => ?_)
      · rw [a1, hx, nI_ltI (by omega) (by omega)] at h20
        refine r_iload_n hO dX2_endOfRun_39 rfl ?_
        exact r_ireturn hO hr dX2_endOfRun_40 rfl ⟨sI (by rw [← he, List.takeWhile_cons, isR_f1 h20, if_neg (by decide)]; rfl), rfl⟩
      · rw [a1, hx, nI_ltI (by omega) (by omega)] at h20
        refine r_aload_n hO dX2_endOfRun_23 rfl ?_
        refine r_getR 2 hO dX2_endOfRun_24 fRX2_9 rfl ?_
        refine r_iload_n hO dX2_endOfRun_27 rfl ?_
        refine s_bald 160 hO dX2_endOfRun_28 rfl (Nat.le_of_ble_eq_true rfl) i rfl a3 ?_
        refine r_iload_n hO dX2_endOfRun_29 rfl ?_
        refine r_icmp_gt 39 hO dX2_endOfRun_30 (by decide) (fun h30 => ?_) (fun h30 => ?_)
        · rw [a1, hy, nI_ltI (by omega) (by omega)] at h30
          refine r_iload_n hO dX2_endOfRun_39 rfl ?_
          exact r_ireturn hO hr dX2_endOfRun_40 rfl ⟨sI (by rw [← he, List.takeWhile_cons, isR_f2 h30, if_neg (by decide)]; rfl), rfl⟩
        · rw [a1, hy, nI_ltI (by omega) (by omega)] at h30
          refine s_iinc hL hO dX2_endOfRun_33 rfl ic_1 (Nat.le_of_ble_eq_true rfl) rfl ?_
          refine r_goto 5 hO dX2_endOfRun_36 (by decide) ?_
          show Gz X 5 [.ref 1, .int x, .int y, .int (nI i + 1)] [] M
          rw [nI_1]
          exact ih (i + 1) d2 (by omega) (by rw [← he, List.takeWhile_cons, isR_t (by omega) (by omega), if_pos rfl, List.length_cons]; omega)
  have := loop _ b rfl hb rfl
  rw [← hs] at this
  exact this
theorem nI_dg {v c : Nat} (hc : 48 ≤ c) : nI v * 10 + nI c - 48 = nI (v * 10 + (c - 48)) := by
  rw [show (10 : Int32) = nI 10 from rfl, show (48 : Int32) = nI 48 from rfl, pk_mul, nI_add, nI_sub (by omega)]
  congr 1
  omega
set_option maxHeartbeats 4000000 in
theorem zX2_readFigures (l : Launch) {M : Mm} {t : List Nat} (h : TpC M t) {b e : Nat} (hs : M.1 1 3 = nI b) (hb : b ≤ t.length) (he : e = b + (dgs t b).length) (hn : M.1 1 4 = nI e) : Clz l 0 yX2_readFigures cX2_readFigures 2 none [.ref 1] M (fun r M' => r = none ∧ FK M M' ∧ M'.1 1 3 = nI b ∧ M'.1 1 4 = nI e ∧ (e - b ≤ 2 → M'.1 1 2 = 2 ∧ M'.1 1 5 = nI (dgV ((dgs t b).take 2))) ∧ (¬ e - b ≤ 2 → M'.1 1 2 = 4)) := by
  refine Clz.on RX2 rfl (by decide +kernel) (Nat.le_of_ble_eq_true rfl) (fun X hL hO hr => ?_)
  show Gz X 0 [.ref 1, .null] [] M
  have hl160 := h.1
  have hd1 : (dgs t b).length ≤ (t.drop b).length := tw_len _ _
  rw [List.length_drop] at hd1
  refine r_aload_n hO dX2_readFigures_0 rfl ?_
  refine r_aload_n hO dX2_readFigures_1 rfl ?_
  refine r_getI hO dX2_readFigures_2 fRX2_25 rfl ?_
  refine r_aload_n hO dX2_readFigures_5 rfl ?_
  refine r_getI hO dX2_readFigures_6 fRX2_22 rfl ?_
  refine r_isub hO dX2_readFigures_9 ?_
  refine r_iconst hO dX2_readFigures_10 ic_2 ?_
  refine r_icmp_le 18 hO dX2_readFigures_11 (by decide) (fun h11 => ?_) (fun h11 => ?_)
  · rw [hn, hs, nI_sub (by omega), show (2 : Int32) = nI 2 from rfl, nI_leI (by omega) (by omega)] at h11
    have hle := h11
    refine r_iconst hO dX2_readFigures_18 ic_2 ?_
    refine r_putI hO dX2_readFigures_19 fRX2_19 rfl ?_
    refine r_aload_n hO dX2_readFigures_22 rfl ?_
    refine r_iconst hO dX2_readFigures_23 ic_0 ?_
    refine r_putI hO dX2_readFigures_24 fRX2_28 rfl ?_
    refine r_aload_n hO dX2_readFigures_27 rfl ?_
    refine r_getI hO dX2_readFigures_28 fRX2_22 rfl ?_
    refine s_istore_n hL hO dX2_readFigures_31 (Nat.le_of_ble_eq_true rfl) rfl ?_
    have loop : ∀ (r i : Nat) (M1 : Mm), i + r = (dgs t b).length → FK M M1 → M1.1 1 2 = 2 → M1.1 1 3 = nI b → M1.1 1 4 = nI e → M1.1 1 5 = nI (dgV ((dgs t b).take i)) → Gz X 32 [.ref 1, .int (nI (b + i))] [] M1 := by
      intro r
      induction r with
      | zero =>
        intro i M1 hir hF m2 m3 m4 m5
        refine r_iload_n hO dX2_readFigures_32 rfl ?_
        refine r_aload_n hO dX2_readFigures_33 rfl ?_
        refine r_getI hO dX2_readFigures_34 fRX2_25 rfl ?_
        refine r_icmp_ge 75 hO dX2_readFigures_37 (by decide) (fun _ => ?_) (fun z => absurd (by rw [m4]; exact nI_le (by omega) (by omega)) z)
        exact r_return hO hr dX2_readFigures_75 ⟨rfl, hF, m3, m4, fun _ => ⟨m2, by rw [m5]; congr 2; rw [List.take_of_length_le (by omega), List.take_of_length_le (by omega)]⟩, fun z => absurd hle z⟩
      | succ r ih =>
        intro i M1 hir hF m2 m3 m4 m5
        obtain ⟨c, hdc⟩ : ∃ c, (dgs t b)[i]? = some c := ⟨_, List.getElem?_eq_getElem (by omega)⟩
        obtain ⟨k1, hc48, k3⟩ := dg_mem hdc
        obtain ⟨a1, a2, a3⟩ := (h.k hF).at k1
        refine r_iload_n hO dX2_readFigures_32 rfl ?_
        refine r_aload_n hO dX2_readFigures_33 rfl ?_
        refine r_getI hO dX2_readFigures_34 fRX2_25 rfl ?_
        refine r_icmp_ge 75 hO dX2_readFigures_37 (by decide) (fun z => absurd z (by rw [m4]; exact nI_ge (by omega) (by omega))) (fun _ => ?_)
        refine r_aload_n hO dX2_readFigures_40 rfl ?_
        refine r_getI hO dX2_readFigures_41 fRX2_19 rfl ?_
        refine r_iconst hO dX2_readFigures_44 ic_2 ?_
        refine r_icmp_ne 75 hO dX2_readFigures_45 (by decide) (fun z => absurd m2 z) (fun _ => ?_)
        refine r_aload_n hO dX2_readFigures_48 rfl ?_
        refine r_aload_n hO dX2_readFigures_49 rfl ?_
        refine r_getI hO dX2_readFigures_50 fRX2_28 rfl ?_
        refine r_bipush hO dX2_readFigures_53 bc_10 ?_
        refine r_imul hO dX2_readFigures_55 ?_
        refine r_aload_n hO dX2_readFigures_56 rfl ?_
        refine r_getR 2 hO dX2_readFigures_57 fRX2_9 rfl ?_
        refine r_iload_n hO dX2_readFigures_60 rfl ?_
        refine s_bald 160 hO dX2_readFigures_61 rfl (Nat.le_of_ble_eq_true rfl) (b + i) rfl a3 ?_
        refine r_iadd hO dX2_readFigures_62 ?_
        refine r_bipush hO dX2_readFigures_63 bc_48 ?_
        refine r_isub hO dX2_readFigures_65 ?_
        refine r_putI hO dX2_readFigures_66 fRX2_28 rfl ?_
        refine s_iinc hL hO dX2_readFigures_69 rfl ic_1 (Nat.le_of_ble_eq_true rfl) rfl ?_
        refine r_goto 32 hO dX2_readFigures_72 (by decide) ?_
        show Gz X 32 [.ref 1, .int (nI (b + i) + 1)] [] (mput M1 1 5 (M1.1 1 5 * 10 + M1.1 2 (b + i) - 48))
        rw [nI_1, m5, a1, nI_dg hc48, ← dgV_t hdc]
        exact ih (i + 1) _ (by omega) (hF.tr (FK.put (by omega))) (by rw [mpn (by omega)]; exact m2) (by rw [mpn (by omega)]; exact m3) (by rw [mpn (by omega)]; exact m4) mpe
    have h3 : (mput (mput M 1 2 2) 1 5 0).1 1 3 = nI (b + 0) := by rw [mpn (by omega), mpn (by omega)]; exact hs
    rw [h3]
    exact loop (dgs t b).length 0 _ (by omega) ((FK.put (by omega)).tr (FK.put (by omega))) (by rw [mpn (by omega), mpe]) (by rw [mpn (by omega), mpn (by omega)]; exact hs) (by rw [mpn (by omega), mpn (by omega)]; exact hn) mpe
  · rw [hn, hs, nI_sub (by omega), show (2 : Int32) = nI 2 from rfl, nI_leI (by omega) (by omega)] at h11
    have hle := h11
    refine r_iconst hO dX2_readFigures_14 ic_4 ?_
    refine r_goto 19 hO dX2_readFigures_15 (by decide) ?_
    refine r_putI hO dX2_readFigures_19 fRX2_19 rfl ?_
    refine r_aload_n hO dX2_readFigures_22 rfl ?_
    refine r_iconst hO dX2_readFigures_23 ic_0 ?_
    refine r_putI hO dX2_readFigures_24 fRX2_28 rfl ?_
    refine r_aload_n hO dX2_readFigures_27 rfl ?_
    refine r_getI hO dX2_readFigures_28 fRX2_22 rfl ?_
    refine s_istore_n hL hO dX2_readFigures_31 (Nat.le_of_ble_eq_true rfl) rfl ?_
    have h3 : (mput (mput M 1 2 4) 1 5 0).1 1 3 = nI b := by rw [mpn (by omega), mpn (by omega)]; exact hs
    rw [h3]
    refine r_iload_n hO dX2_readFigures_32 rfl ?_
    refine r_aload_n hO dX2_readFigures_33 rfl ?_
    refine r_getI hO dX2_readFigures_34 fRX2_25 rfl ?_
    refine r_icmp_ge 75 hO dX2_readFigures_37 (by decide) (fun z => absurd z (by rw [mpn (by omega), mpn (by omega), hn]; exact nI_ge (by omega) (by omega))) (fun _ => ?_)
    refine r_aload_n hO dX2_readFigures_40 rfl ?_
    refine r_getI hO dX2_readFigures_41 fRX2_19 rfl ?_
    refine r_iconst hO dX2_readFigures_44 ic_2 ?_
    refine r_icmp_ne 75 hO dX2_readFigures_45 (by decide) (fun _ => ?_) (fun z => absurd z (by rw [mpn (by omega), mpe]; decide))
    exact r_return hO hr dX2_readFigures_75 ⟨rfl, (FK.put (by omega)).tr (FK.put (by omega)), by rw [mpn (by omega), mpn (by omega)]; exact hs, by rw [mpn (by omega), mpn (by omega)]; exact hn, fun z => absurd z hle, fun _ => by rw [mpn (by omega), mpe]⟩
set_option maxHeartbeats 4000000 in
theorem zX2_readToken (l : Launch) {M : Mm} {t : List Nat} (h : TpC M t) (p : Nat) (hp : M.1 1 4 = nI p) (hp2 : p ≤ t.length) : Clz l 1 yX2_readToken cX2_readToken 1 none [.ref 1] M (fun r M' => r = none ∧ FK M M' ∧ TokC M' (tok t p)) := by
  refine Clz.on RX2 rfl (by decide +kernel) (Nat.le_of_ble_eq_true rfl) (fun X hL hO hr => ?_)
  show Gz X 0 [.ref 1] [] M
  refine r_aload_n hO dX2_readToken_0 rfl ?_
  refine r_aload_n hO dX2_readToken_1 rfl ?_
  refine r_getI hO dX2_readToken_2 fRX2_25 rfl ?_
  refine r_putI hO dX2_readToken_5 fRX2_22 rfl ?_
  have hl160 := h.1
  have hbl := tkB_le hp2
  have fin : ∀ (M1 : Mm), FK M M1 → M1.1 1 3 = nI (tkB t p) → Gz X 46 [.ref 1] [] M1 := by
    intro M1 hF hb1
    refine r_aload_n hO dX2_readToken_46 rfl ?_
    refine r_aload_n hO dX2_readToken_47 rfl ?_
    refine r_getI hO dX2_readToken_48 fRX2_22 rfl ?_
    refine r_putI hO dX2_readToken_51 fRX2_25 rfl ?_
    rw [hb1]
    have hF2 : FK M (mput M1 1 4 (nI (tkB t p))) := hF.tr (FK.put (by omega))
    have hb2 : (mput M1 1 4 (nI (tkB t p))).1 1 3 = nI (tkB t p) := by rw [mpn (by omega)]; exact hb1
    refine r_aload_n hO dX2_readToken_54 rfl ?_
    refine r_getI hO dX2_readToken_55 fRX2_22 rfl ?_
    refine r_aload_n hO dX2_readToken_58 rfl ?_
    refine r_getI hO dX2_readToken_59 fRX2_15 rfl ?_
    refine r_icmp_lt 73 hO dX2_readToken_62 (by decide) (fun h62 => ?_) (fun h62 => ?_)
    · rw [hb2, (h.k hF2).2.1, nI_ltI (by omega) (by omega)] at h62
      obtain ⟨c, hc⟩ : ∃ c, t[tkB t p]? = some c := ⟨_, List.getElem?_eq_getElem h62⟩
      obtain ⟨a1, a2, a3⟩ := (h.k hF2).at hc
      refine r_aload_n hO dX2_readToken_73 rfl ?_
      refine r_bipush hO dX2_readToken_74 bc_97 ?_
      refine r_bipush hO dX2_readToken_76 bc_122 ?_
      refine r_fV hO dX2_readToken_78 kRX2_31 miX2_startsWithin (zX2_startsWithin _ (h.k hF2) hb2 hc 97 122 rfl rfl (by decide) (by decide)) ⟨Nat.le_of_ble_eq_true rfl, Nat.le_of_ble_eq_true rfl, rfl, Nat.le_of_ble_eq_true rfl⟩ rfl rfl ?_
      refine r_if_eq 104 hO dX2_readToken_81 (by decide) (fun h81 => ?_) (fun h81 => ?_)
      · rw [bI_0] at h81
        refine r_aload_n hO dX2_readToken_104 rfl ?_
        refine r_bipush hO dX2_readToken_105 bc_48 ?_
        refine r_bipush hO dX2_readToken_107 bc_57 ?_
        refine r_fV hO dX2_readToken_109 kRX2_31 miX2_startsWithin (zX2_startsWithin _ (h.k hF2) hb2 hc 48 57 rfl rfl (by decide) (by decide)) ⟨Nat.le_of_ble_eq_true rfl, Nat.le_of_ble_eq_true rfl, rfl, Nat.le_of_ble_eq_true rfl⟩ rfl rfl ?_
        refine r_if_eq 134 hO dX2_readToken_112 (by decide) (fun h112 => ?_) (fun h112 => ?_)
        · rw [bI_0] at h112
          refine r_aload_n hO dX2_readToken_134 rfl ?_
          refine r_aload_n hO dX2_readToken_135 rfl ?_
          refine r_getR 2 hO dX2_readToken_136 fRX2_9 rfl ?_
          refine r_aload_n hO dX2_readToken_139 rfl ?_
          refine r_getI hO dX2_readToken_140 fRX2_22 rfl ?_
          refine s_bald 160 hO dX2_readToken_143 rfl (Nat.le_of_ble_eq_true rfl) (tkB t p) hb2 a3 ?_
          refine r_bipush hO dX2_readToken_144 bc_59 ?_
          refine r_icmp_ne 153 hO dX2_readToken_146 (by decide) (fun h146 => ?_) (fun h146 => ?_)
          · rw [a1, show (59 : Int32) = nI 59 from rfl, nI_eq (by omega) (by omega)] at h146
            have eT : tok t p = (4, tkB t p, tkB t p + 1, 0) := by unfold tok tok1; rw [hc]; show (if _ then _ else _) = _; rw [if_neg (by rw [h81]; decide), if_neg (by rw [h112]; decide)]; exact if_neg h146
            refine r_iconst hO dX2_readToken_153 ic_4 ?_
            refine r_putI hO dX2_readToken_154 fRX2_19 rfl ?_
            refine r_aload_n hO dX2_readToken_157 rfl ?_
            refine r_aload_n hO dX2_readToken_158 rfl ?_
            refine r_getI hO dX2_readToken_159 fRX2_22 rfl ?_
            refine r_iconst hO dX2_readToken_162 ic_1 ?_
            refine r_iadd hO dX2_readToken_163 ?_
            refine r_putI hO dX2_readToken_164 fRX2_25 rfl ?_
            exact r_return hO hr dX2_readToken_167 ⟨rfl, (hF2.tr (FK.put (by omega))).tr (FK.put (by omega)), by rw [eT]; exact ⟨by rw [mpn (by omega), mpe]; rfl, by rw [mpn (by omega), mpn (by omega)]; exact hb2, by rw [mpe, mpn (by omega), hb2, nI_1], fun z => by cases z⟩⟩
          · rw [a1, show (59 : Int32) = nI 59 from rfl, nI_eq (by omega) (by omega)] at h146
            have eT : tok t p = (3, tkB t p, tkB t p + 1, 0) := by unfold tok tok1; rw [hc]; show (if _ then _ else _) = _; rw [if_neg (by rw [h81]; decide), if_neg (by rw [h112]; decide)]; exact if_pos h146
            refine r_iconst hO dX2_readToken_149 ic_3 ?_
            refine r_goto 154 hO dX2_readToken_150 (by decide) ?_
            refine r_putI hO dX2_readToken_154 fRX2_19 rfl ?_
            refine r_aload_n hO dX2_readToken_157 rfl ?_
            refine r_aload_n hO dX2_readToken_158 rfl ?_
            refine r_getI hO dX2_readToken_159 fRX2_22 rfl ?_
            refine r_iconst hO dX2_readToken_162 ic_1 ?_
            refine r_iadd hO dX2_readToken_163 ?_
            refine r_putI hO dX2_readToken_164 fRX2_25 rfl ?_
            exact r_return hO hr dX2_readToken_167 ⟨rfl, (hF2.tr (FK.put (by omega))).tr (FK.put (by omega)), by rw [eT]; exact ⟨by rw [mpn (by omega), mpe]; rfl, by rw [mpn (by omega), mpn (by omega)]; exact hb2, by rw [mpe, mpn (by omega), hb2, nI_1], fun z => by cases z⟩⟩
        · rw [bI_n0] at h112
          refine r_aload_n hO dX2_readToken_115 rfl ?_
          refine r_aload_n hO dX2_readToken_116 rfl ?_
          refine r_bipush hO dX2_readToken_117 bc_48 ?_
          refine r_bipush hO dX2_readToken_119 bc_57 ?_
          refine r_fV hO dX2_readToken_121 kRX2_35 miX2_endOfRun (zX2_endOfRun _ (h.k hF2) hb2 (by omega) 48 57 rfl rfl (by decide) (by decide)) ⟨Nat.le_of_ble_eq_true rfl, Nat.le_of_ble_eq_true rfl, rfl, Nat.le_of_ble_eq_true rfl⟩ rfl rfl ?_
          refine r_putI hO dX2_readToken_124 fRX2_25 rfl ?_
          refine r_aload_n hO dX2_readToken_127 rfl ?_
          refine r_callV hO dX2_readToken_128 kRX2_39 miX2_readFigures (zX2_readFigures _ (h.k (hF2.tr (FK.put (by omega)))) (by rw [mpn (by omega)]; exact hb2) (by omega) (e := tkR t (tkB t p) 48 57) rfl mpe) ⟨Nat.le_of_ble_eq_true rfl, Nat.le_of_ble_eq_true rfl, rfl, Nat.le_of_ble_eq_true rfl⟩ rfl rfl (fun q M3 hpo => ?_)
          obtain ⟨rfl, G1, g3, g4, g5, g6⟩ := hpo
          have eT : tok t p = (if tkR t (tkB t p) 48 57 - tkB t p ≤ 2 then (2, tkB t p, tkR t (tkB t p) 48 57, dgV ((dgs t (tkB t p)).take 2)) else (4, tkB t p, tkR t (tkB t p) 48 57, 0)) := by unfold tok tok1; rw [hc]; show (if _ then _ else _) = _; rw [if_neg (by rw [h81]; decide)]; exact if_pos h112
          have eTok : TokC M3 (if tkR t (tkB t p) 48 57 - tkB t p ≤ 2 then (2, tkB t p, tkR t (tkB t p) 48 57, dgV ((dgs t (tkB t p)).take 2)) else (4, tkB t p, tkR t (tkB t p) 48 57, 0)) := by
            by_cases q : tkR t (tkB t p) 48 57 - tkB t p ≤ 2
            · rw [if_pos q]; exact ⟨(g5 q).1, g3, g4, fun _ => (g5 q).2⟩
            · rw [if_neg q]; exact ⟨g6 q, g3, g4, fun z => by cases z⟩
          refine r_goto 167 hO dX2_readToken_131 (by decide) ?_
          exact r_return hO hr dX2_readToken_167 ⟨rfl, (hF2.tr (FK.put (by omega))).tr G1, by rw [eT]; exact eTok⟩
      · rw [bI_n0] at h81
        have eT : tok t p = (1, tkB t p, tkR t (tkB t p) 97 122, 0) := by unfold tok tok1; rw [hc]; exact if_pos h81
        refine r_aload_n hO dX2_readToken_84 rfl ?_
        refine r_iconst hO dX2_readToken_85 ic_1 ?_
        refine r_putI hO dX2_readToken_86 fRX2_19 rfl ?_
        refine r_aload_n hO dX2_readToken_89 rfl ?_
        refine r_aload_n hO dX2_readToken_90 rfl ?_
        refine r_bipush hO dX2_readToken_91 bc_97 ?_
        refine r_bipush hO dX2_readToken_93 bc_122 ?_
        refine r_fV hO dX2_readToken_95 kRX2_35 miX2_endOfRun (zX2_endOfRun _ (h.k (hF2.tr (FK.put (by omega)))) (by rw [mpn (by omega)]; exact hb2) (by omega) 97 122 rfl rfl (by decide) (by decide)) ⟨Nat.le_of_ble_eq_true rfl, Nat.le_of_ble_eq_true rfl, rfl, Nat.le_of_ble_eq_true rfl⟩ rfl rfl ?_
        refine r_putI hO dX2_readToken_98 fRX2_25 rfl ?_
        refine r_goto 167 hO dX2_readToken_101 (by decide) ?_
        exact r_return hO hr dX2_readToken_167 ⟨rfl, (hF2.tr (FK.put (by omega))).tr (FK.put (by omega)), by rw [eT]; exact ⟨by rw [mpn (by omega), mpe]; rfl, by rw [mpn (by omega), mpn (by omega)]; exact hb2, by rw [mpe], fun z => by cases z⟩⟩
    · rw [hb2, (h.k hF2).2.1, nI_ltI (by omega) (by omega)] at h62
      have eT : tok t p = (0, tkB t p, tkB t p, 0) := by unfold tok tok1; rw [List.getElem?_eq_none_iff.mpr (by omega)]
      refine r_aload_n hO dX2_readToken_65 rfl ?_
      refine r_iconst hO dX2_readToken_66 ic_0 ?_
      refine r_putI hO dX2_readToken_67 fRX2_19 rfl ?_
      refine r_goto 167 hO dX2_readToken_70 (by decide) ?_
      exact r_return hO hr dX2_readToken_167 ⟨rfl, hF2.tr (FK.put (by omega)), by rw [eT]; exact ⟨by rw [mpe]; rfl, by rw [mpn (by omega)]; exact hb2, by rw [mpn (by omega), mpe], fun z => by cases z⟩⟩
  have loop : ∀ (rest : List Nat) (i : Nat) (M1 : Mm), t.drop i = rest → i ≤ t.length → FK M M1 → M1.1 1 3 = nI i → i + (rest.takeWhile isS).length = tkB t p → Gz X 8 [.ref 1] [] M1 := by
    intro rest
    induction rest with
    | nil =>
      intro i M1 hdr hi2 hF hi1 he
      refine r_aload_n hO dX2_readToken_8 rfl ?_
      refine r_getI hO dX2_readToken_9 fRX2_22 rfl ?_
      refine r_aload_n hO dX2_readToken_12 rfl ?_
      refine r_getI hO dX2_readToken_13 fRX2_15 rfl ?_
      refine r_icmp_ge 46 hO dX2_readToken_16 (by decide) (fun _ => ?_) (fun z => absurd (by rw [hi1, (h.k hF).2.1, dr_n hdr hi2]; exact nI_le (by omega) (by omega)) z)
      exact fin M1 hF (by rw [hi1, ← he]; rfl)
    | cons c rest ih =>
      intro i M1 hdr hi2 hF hi1 he
      obtain ⟨d1, d2, d3⟩ := dr_c hdr
      obtain ⟨a1, a2, a3⟩ := (h.k hF).at d1
      refine r_aload_n hO dX2_readToken_8 rfl ?_
      refine r_getI hO dX2_readToken_9 fRX2_22 rfl ?_
      refine r_aload_n hO dX2_readToken_12 rfl ?_
      refine r_getI hO dX2_readToken_13 fRX2_15 rfl ?_
      refine r_icmp_ge 46 hO dX2_readToken_16 (by decide) (fun z => absurd z (by rw [hi1, (h.k hF).2.1]; exact nI_ge (by omega) (by omega))) (fun _ => ?_)
      refine r_aload_n hO dX2_readToken_19 rfl ?_
      refine r_getR 2 hO dX2_readToken_20 fRX2_9 rfl ?_
      refine r_aload_n hO dX2_readToken_23 rfl ?_
      refine r_getI hO dX2_readToken_24 fRX2_22 rfl ?_
      refine s_bald 160 hO dX2_readToken_27 rfl (Nat.le_of_ble_eq_true rfl) i hi1 a3 ?_
      refine r_bipush hO dX2_readToken_28 bc_32 ?_
      refine r_icmp_ne 46 hO dX2_readToken_30 (by decide) (fun h30 => ?_) (fun h30 => ?_)
      · rw [a1, show (32 : Int32) = nI 32 from rfl, nI_eq (by omega) (by omega)] at h30
        exact fin M1 hF (by rw [hi1, ← he, List.takeWhile_cons, show isS c = false from decide_eq_false h30, if_neg (by decide)]; rfl)
      · rw [a1, show (32 : Int32) = nI 32 from rfl, nI_eq (by omega) (by omega)] at h30
        refine r_aload_n hO dX2_readToken_33 rfl ?_
        refine r_dup hO dX2_readToken_34 rfl ?_
        refine r_getI hO dX2_readToken_35 fRX2_22 rfl ?_
        refine r_iconst hO dX2_readToken_38 ic_1 ?_
        refine r_iadd hO dX2_readToken_39 ?_
        refine r_putI hO dX2_readToken_40 fRX2_22 rfl ?_
        refine r_goto 8 hO dX2_readToken_43 (by decide) ?_
        rw [hi1, nI_1]
        exact ih (i + 1) _ d2 (by omega) (hF.tr (FK.put (by omega))) mpe (by rw [← he, List.takeWhile_cons, show isS c = true from decide_eq_true h30, if_pos rfl, List.length_cons]; omega)
  exact loop _ p _ rfl hp2 (FK.put (by omega)) (by rw [mpe]; exact hp) rfl
