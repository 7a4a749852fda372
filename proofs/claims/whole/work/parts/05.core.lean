/-! the mini machine: a flat memory over a world of 45 cells that both systems share; contracts over it; a row an instruction -/
/-- the words that move over calls -/
def tb : List Cond := lw_tbl.filter goodWord
theorem tb_good : GoodIn tb tb := fun _ h => ⟨h, good_of_word (List.mem_filter.mp h).2⟩
theorem tb_of {w : Cond} (i : Nat) (h : lw_tbl[i]? = some w) (hg : goodWord w = true) : w ∈ tb := List.mem_filter.mpr ⟨List.mem_of_getElem? h, hg⟩
def isNs : Cond → Bool
  | .fieldLinkNest .. => true
  | .methodLinkNest .. => true
  | _ => false
def nw : List Cond := lw_tbl.filter isNs
theorem nw_of {w : Cond} (i : Nat) (h : lw_tbl[i]? = some w) (hg : isNs w = true) : w ∈ nw := List.mem_filter.mpr ⟨List.mem_of_getElem? h, hg⟩
def NW (U : State) : Prop := ∀ w ∈ nw, va_Nw w U
theorem isNs_on {w : Cond} (h : isNs w = true) : w.onTables = true := by cases w <;> first | rfl | (simp [isNs] at h)
theorem NW.warm {s U : State} (hW : s.WarmedH U.vm) (h : NW s) : NW U := by
  intro w hw
  have h1 := (List.mem_filter.mp hw).2
  have h2 := h w hw
  cases w <;> first
    | exact va_Nw.warmF hW h2
    | exact va_Nw.warmM hW h2
    | (simp [isNs] at h1)
theorem NW.same {u U : State} (hv : u.vm = U.vm) (h : NW u) : NW U := fun w hw => va_Nw.same (isNs_on (List.mem_filter.mp hw).2) hv (h w hw)
theorem NW.of {args : Array Value} {s : State} (h : ∀ w ∈ lw_tbl, w.before args s = true) : NW s := fun w hw => va_Nw.of (isNs_on (List.mem_filter.mp hw).2) (h w (List.mem_filter.mp hw).1)
theorem NW.use {args : Array Value} {s : State} (h : NW s) {w : Cond} (hw : w ∈ nw) : w.before args s = true := va_Nw.use (isNs_on (List.mem_filter.mp hw).2) (h w hw)
/-- the classes: 0 Nut, 1 Sheet, 2 Tape, 3 Teller, 4 WalnutHouses, 5 WalnutHousesModel -/
abbrev cls6 : List vw_C := [(RX0, TX0, 8), (RX1, TX1, 3), (RX2, TX2, 6), (RX3, TX3, 2), (RX4, TX4, 11), (RX5, TX5, 27)]
/-- memory: ints and longs, by place and index -/
abbrev Mm : Type := (Nat → Nat → Int32) × (Nat → Nat → Int64)
/-- the shape of the world. An object: its class, its slots (0 int, 1 long, t + 2: the cell at place t). 10, 11, 12: an array of ints, bytes, booleans, its length; 13, 14: of Nuts, of Sheets, their places -/
def shz : List (Nat × List Nat) := [
  (4, [3, 5, 6, 10, 14, 15, 16, 17, 34, 0, 0]),
  (2, [4, 0, 0, 0, 0, 0]), (11, [160]),
  (3, [0, 0]),
  (0, [7, 8, 9, 0, 0, 0, 0, 0]), (10, [24]), (10, [6]), (10, [6]),
  (0, [11, 12, 13, 0, 0, 0, 0, 0]), (10, [24]), (10, [6]), (10, [6]),
  (13, [16, 20]), (12, [2]), (14, [24, 26, 28, 30]), (10, [21]),
  (0, [19, 20, 21, 0, 0, 0, 0, 0]), (10, [24]), (10, [6]), (10, [6]),
  (0, [23, 24, 25, 0, 0, 0, 0, 0]), (10, [24]), (10, [6]), (10, [6]),
  (1, [27, 0, 0]), (10, [40]), (1, [29, 0, 0]), (10, [40]), (1, [31, 0, 0]), (10, [40]), (1, [33, 0, 0]), (10, [40]),
  (10, [441]),
  (5, [36, 37, 38, 39, 0, 40, 0, 0, 0, 0, 0, 0, 0, 0, 0, 0, 0, 1, 1, 1, 41, 42, 43, 44, 45, 0, 46]),
  (10, [123]), (10, [41]), (12, [2]), (10, [41]), (10, [160]), (10, [21]), (10, [441]), (10, [4]), (10, [4]), (10, [160]), (10, [41])]
def sltV (ad : Nat → Nat) (M : Mm) (p k c : Nat) : Value := match c with
  | 0 => .int (M.1 p k)
  | 1 => .long (M.2 p k)
  | t + 2 => .ref (ad t)
def celE (ad : Nat → Nat) (cT : Nat → ClassId) (M : Mm) (p : Nat) (e : Nat × List Nat) : va_E :=
  if e.1 < 10 then .inr (e.1, e.2.mapIdx (fun k c => sltV ad M p k c))
  else if e.1 < 13 then .inl (cT e.1, e.2.headD 0, .inl (M.1 p))
  else .inl (cT e.1, e.2.length, .inr (.inr (.inr (.inr (fun i => (e.2[i]?).map ad)))))
def wlz (ad : Nat → Nat) (cT : Nat → ClassId) (M : Mm) : va_W := shz.mapIdx (fun p e => (ad p, celE ad cT M p e))
abbrev tyz (cT : Nat → ClassId) : List (ClassId × FieldType) := [(cT 10, .int), (cT 11, .byte), (cT 12, .boolean), (cT 13, .object "WalnutHouses$Nut"), (cT 14, .object "WalnutHouses$Sheet")]
theorem wlz_at {ad : Nat → Nat} {cT : Nat → ClassId} {M : Mm} {p : Nat} {e : Nat × List Nat} (h : shz[p]? = some e) : (wlz ad cT M)[p]? = some (ad p, celE ad cT M p e) := by
  unfold wlz
  rw [List.getElem?_mapIdx, h]
  rfl
/-- what the shape says of a place -/
def fI (p ci k : Nat) : Bool := match shz[p]? with
  | some e => e.1 == ci && decide (e.1 < 10) && e.2[k]? == some 0
  | none => false
def fL (p ci k : Nat) : Bool := match shz[p]? with
  | some e => e.1 == ci && decide (e.1 < 10) && e.2[k]? == some 1
  | none => false
def fR (p ci k t : Nat) : Bool := match shz[p]? with
  | some e => e.1 == ci && decide (e.1 < 10) && e.2[k]? == some (t + 2)
  | none => false
def oC (p ci : Nat) : Bool := match shz[p]? with
  | some e => e.1 == ci && decide (e.1 < 10)
  | none => false
/-- an array of type tag ty (10, 11, 12), length n -/
def aI (ty p n : Nat) : Bool := match shz[p]? with
  | some e => e.1 == ty && (decide (10 ≤ e.1) && decide (e.1 < 13)) && e.2 == [n]
  | none => false
/-- an array of references, length n; at j the place t -/
def aR (ty p n j t : Nat) : Bool := match shz[p]? with
  | some e => e.1 == ty && (e.1 == 13 || e.1 == 14) && e.2.length == n && e.2[j]? == some t
  | none => false
theorem fI_sp {p ci k : Nat} (h : fI p ci k = true) : ∃ ds, shz[p]? = some (ci, ds) ∧ ci < 10 ∧ ds[k]? = some 0 := by
  unfold fI at h
  cases hs : shz[p]? with
  | none => rw [hs] at h; cases h
  | some e =>
    rw [hs] at h
    simp only [Bool.and_eq_true, beq_iff_eq, decide_eq_true_eq] at h
    obtain ⟨⟨h1, h2⟩, h3⟩ := h
    subst h1
    exact ⟨e.2, rfl, h2, h3⟩
theorem fL_sp {p ci k : Nat} (h : fL p ci k = true) : ∃ ds, shz[p]? = some (ci, ds) ∧ ci < 10 ∧ ds[k]? = some 1 := by
  unfold fL at h
  cases hs : shz[p]? with
  | none => rw [hs] at h; cases h
  | some e =>
    rw [hs] at h
    simp only [Bool.and_eq_true, beq_iff_eq, decide_eq_true_eq] at h
    obtain ⟨⟨h1, h2⟩, h3⟩ := h
    subst h1
    exact ⟨e.2, rfl, h2, h3⟩
theorem fR_sp {p ci k t : Nat} (h : fR p ci k t = true) : ∃ ds, shz[p]? = some (ci, ds) ∧ ci < 10 ∧ ds[k]? = some (t + 2) := by
  unfold fR at h
  cases hs : shz[p]? with
  | none => rw [hs] at h; cases h
  | some e =>
    rw [hs] at h
    simp only [Bool.and_eq_true, beq_iff_eq, decide_eq_true_eq] at h
    obtain ⟨⟨h1, h2⟩, h3⟩ := h
    subst h1
    exact ⟨e.2, rfl, h2, h3⟩
theorem oC_sp {p ci : Nat} (h : oC p ci = true) : ∃ ds, shz[p]? = some (ci, ds) ∧ ci < 10 := by
  unfold oC at h
  cases hs : shz[p]? with
  | none => rw [hs] at h; cases h
  | some e =>
    rw [hs] at h
    simp only [Bool.and_eq_true, beq_iff_eq, decide_eq_true_eq] at h
    obtain ⟨h1, h2⟩ := h
    subst h1
    exact ⟨e.2, rfl, h2⟩
theorem aI_sp {ty p n : Nat} (h : aI ty p n = true) : shz[p]? = some (ty, [n]) ∧ 10 ≤ ty ∧ ty < 13 := by
  unfold aI at h
  cases hs : shz[p]? with
  | none => rw [hs] at h; cases h
  | some e =>
    rw [hs] at h
    simp only [Bool.and_eq_true, beq_iff_eq, decide_eq_true_eq] at h
    obtain ⟨⟨h1, h2, h3⟩, h4⟩ := h
    subst h1
    exact ⟨by rw [← h4], h2, h3⟩
theorem aR_sp {ty p n j t : Nat} (h : aR ty p n j t = true) : ∃ ds, shz[p]? = some (ty, ds) ∧ (ty = 13 ∨ ty = 14) ∧ ds.length = n ∧ ds[j]? = some t := by
  unfold aR at h
  cases hs : shz[p]? with
  | none => rw [hs] at h; cases h
  | some e =>
    rw [hs] at h
    simp only [Bool.and_eq_true, Bool.or_eq_true, beq_iff_eq] at h
    obtain ⟨⟨⟨h1, h2⟩, h3⟩, h4⟩ := h
    subst h1
    exact ⟨e.2, rfl, h2, h3, h4⟩
/-- writing -/
def mput (M : Mm) (p k : Nat) (x : Int32) : Mm := (fun a => if a = p then upd (M.1 p) k x else M.1 a, M.2)
def mputL (M : Mm) (p k : Nat) (x : Int64) : Mm := (M.1, fun a => if a = p then vp_updL (M.2 p) k x else M.2 a)
def mset (M : Mm) (p : Nat) (f : Nat → Int32) : Mm := (fun a => if a = p then f else M.1 a, M.2)
theorem celE_obj {ad : Nat → Nat} {cT : Nat → ClassId} {M : Mm} {p ci : Nat} {ds : List Nat} (h : ci < 10) : celE ad cT M p (ci, ds) = .inr (ci, ds.mapIdx (fun k c => sltV ad M p k c)) := by
  unfold celE; rw [if_pos h]
theorem celE_arr {ad : Nat → Nat} {cT : Nat → ClassId} {M : Mm} {p ty n : Nat} (h1 : 10 ≤ ty) (h2 : ty < 13) : celE ad cT M p (ty, [n]) = .inl (cT ty, n, .inl (M.1 p)) := by
  unfold celE; rw [if_neg (Nat.not_lt.mpr h1), if_pos h2]; rfl
theorem celE_ra {ad : Nat → Nat} {cT : Nat → ClassId} {M : Mm} {p ty : Nat} {ds : List Nat} (h : ty = 13 ∨ ty = 14) : celE ad cT M p (ty, ds) = .inl (cT ty, ds.length, .inr (.inr (.inr (.inr (fun i => (ds[i]?).map ad))))) := by
  unfold celE
  rw [if_neg (show ¬ ty < 10 by omega), if_neg (show ¬ ty < 13 by omega)]
theorem celE_ne {ad : Nat → Nat} {cT : Nat → ClassId} {M M' : Mm} {p : Nat} {e : Nat × List Nat} (h1 : M'.1 p = M.1 p) (h2 : M'.2 p = M.2 p) : celE ad cT M' p e = celE ad cT M p e := by
  have hs : ∀ k c, sltV ad M' p k c = sltV ad M p k c := by
    intro k c
    unfold sltV
    match c with
    | 0 => rw [h1]
    | 1 => rw [h2]
    | t + 2 => rfl
  unfold celE
  simp only [hs, h1]
theorem wlz_set {ad : Nat → Nat} {cT : Nat → ClassId} {M M' : Mm} {p : Nat} {e : Nat × List Nat} {x : va_E} (h : shz[p]? = some e) (h0 : celE ad cT M' p e = x) (h1 : ∀ q, q ≠ p → M'.1 q = M.1 q) (h2 : ∀ q, q ≠ p → M'.2 q = M.2 q) : (wlz ad cT M).set p (ad p, x) = wlz ad cT M' := by
  apply List.ext_getElem?
  intro k
  by_cases hk : k = p
  · subst hk
    rw [wlz_at h, h0]
    have hl : k < (wlz ad cT M).length := (List.getElem?_eq_some_iff.mp (wlz_at (ad := ad) (cT := cT) (M := M) h)).1
    rw [List.getElem?_set_self hl]
  · rw [List.getElem?_set_ne (Ne.symm hk)]
    unfold wlz
    rw [List.getElem?_mapIdx, List.getElem?_mapIdx]
    cases hs : shz[k]? with
    | none => rfl
    | some e => simp only [Option.map_some]; rw [celE_ne (h1 k hk) (h2 k hk)]
theorem wlz_len {ad : Nat → Nat} {cT : Nat → ClassId} {M : Mm} : (wlz ad cT M).length = 45 := by unfold wlz; rw [List.length_mapIdx]; rfl
theorem wlz_adr {ad : Nat → Nat} {cT : Nat → ClassId} {M : Mm} {k : Nat} {q : Nat × va_E} (h : (wlz ad cT M)[k]? = some q) : q.1 = ad k ∧ k < 45 := by
  have hl := (List.getElem?_eq_some_iff.mp h).1
  rw [wlz_len] at hl
  unfold wlz at h
  rw [List.getElem?_mapIdx] at h
  cases hs : shz[k]? with
  | none => rw [hs] at h; cases h
  | some e => rw [hs] at h; cases h; exact ⟨rfl, hl⟩
theorem wlz_some {ad : Nat → Nat} {cT : Nat → ClassId} (M : Mm) {k : Nat} (h : k < 45) : ∃ x, (wlz ad cT M)[k]? = some (ad k, x) := by
  have hl : k < (wlz ad cT M).length := by rw [wlz_len]; exact h
  have h1 := List.getElem?_eq_getElem hl
  have h2 := wlz_adr h1
  refine ⟨((wlz ad cT M)[k]).2, ?_⟩
  rw [h1, ← h2.1]
theorem wlz_D {A : Nat → Prop} {ad : Nat → Nat} {cT : Nat → ClassId} {M M' : Mm} (h : va_D A (wlz ad cT M)) : va_D A (wlz ad cT M') := by
  refine ⟨fun i j p q hi hj hpq => ?_, fun k q hk => ?_⟩
  · obtain ⟨a1, b1⟩ := wlz_adr hi
    obtain ⟨a2, b2⟩ := wlz_adr hj
    obtain ⟨x, hx⟩ := wlz_some (ad := ad) (cT := cT) M b1
    obtain ⟨y, hy⟩ := wlz_some (ad := ad) (cT := cT) M b2
    exact h.1 i j _ _ hx hy (by show ad i = ad j; rw [← a1, ← a2]; exact hpq)
  · obtain ⟨a1, b1⟩ := wlz_adr hk
    obtain ⟨x, hx⟩ := wlz_some (ad := ad) (cT := cT) M b1
    rw [a1]
    exact h.2 k _ hx
/-- what a method may change -/
def AAz (ad : Nat → Nat) (sz : Nat) : Nat → Prop := fun q => (∃ k, k < 45 ∧ q = ad k) ∨ sz ≤ q
theorem wlz_DA {ad : Nat → Nat} {cT : Nat → ClassId} {M : Mm} {A : Nat → Prop} {sz : Nat} (h : va_D A (wlz ad cT M)) : va_D (AAz ad sz) (wlz ad cT M) :=
  ⟨h.1, fun _ _ hk => Or.inl ⟨_, (wlz_adr hk).2, (wlz_adr hk).1⟩⟩
/-- values with places for addresses -/
def cvz (ad : Nat → Nat) : Value → Value
  | .ref a => .ref (ad a)
  | v => v
theorem cvz_cat (ad : Nat → Nat) (v : Value) : (cvz ad v).category = v.category := by cases v <;> rfl
def cvq (ad : Nat → Nat) (q : Nat × Value) : Nat × Value := (q.1, cvz ad q.2)
theorem cvz_args (ad : Nat → Nat) : ∀ (vs : List Value) (n : Nat), lv_args n (vs.map (cvz ad)) = (lv_args n vs).map (cvq ad) := by
  intro vs
  induction vs with
  | nil => intro n; rfl
  | cons v vs ih => intro n; simp only [List.map_cons, lv_args, ih, cvz_cat]; rfl
/-- the constants: TOP_OF at 50, TIRES at 51, five texts at 60 .. 64, their bytes at 70 .. 74 -/
def topz (j : Nat) : Int32 := [3, 1, 20, 20, 20].getD j 0
def tirz (j : Nat) : Int32 := [1, 0, 2, 3].getD j 0
def lenz : List Nat := [5, 4, 7, 6, 6]
def bytz : List (List Int32) := [[112, 108, 97, 105, 110], [119, 104, 105, 112], [100, 111, 117, 98, 116, 101, 114], [109, 97, 103, 103, 111, 116], [109, 111, 116, 105, 111, 110]]
/-- what the JDK holds for its messages: nothing, or some object (place 99) -/
def ZQz (t : Nat) (A : Nat → Prop) (U : State) (H : Heap) : Prop := va_Z "jdk/internal/util/Preconditions" "SIOOBE_FORMATTER" "Ljava/util/function/BiFunction;" .null A U H ∨ va_Z "jdk/internal/util/Preconditions" "SIOOBE_FORMATTER" "Ljava/util/function/BiFunction;" (.ref t) A U H
theorem ZQz.moved {t : Nat} {A : Nat → Prop} {u U : State} {H : Heap} (hvm : u.vm.Alike U.vm) (h : ZQz t A u H) : ZQz t A U H := h.elim (fun z => Or.inl (z.moved hvm)) (fun z => Or.inr (z.moved hvm))
theorem ZQz.kept {t : Nat} {A : Nat → Prop} {U : State} {H H1 : Heap} (h : ZQz t A U H) (hq : ∀ a : Nat, a < H.size → ¬ A a → H1[a]? = H[a]?) : ZQz t A U H1 := h.elim (fun z => Or.inl (z.kept hq)) (fun z => Or.inr (z.kept hq))
theorem ZQz.narrow {t : Nat} {A B : Nat → Prop} {U : State} {H : Heap} (h : ZQz t A U H) (hAB : ∀ q, B q → A q) : ZQz t B U H := h.elim (fun z => Or.inl (z.narrow hAB)) (fun z => Or.inr (z.narrow hAB))
def ZSz (ad : Nat → Nat) (A : Nat → Prop) (U : State) (H : Heap) : Prop :=
  va_Z "WalnutHouses" "TOP_OF" "[I" (.ref (ad 50)) A U H ∧ va_T .int (ad 50) 5 (fun j => .int (topz j)) A U H ∧
  va_Z "WalnutHouses" "TIRES" "[I" (.ref (ad 51)) A U H ∧ va_T .int (ad 51) 4 (fun j => .int (tirz j)) A U H ∧
  va_Z "java/lang/String" "COMPACT_STRINGS" "Z" (.int 1) A U H ∧ ZQz (ad 99) A U H ∧
  vk_S 5 lenz bytz (fun i => ad (60 + i)) (fun i => ad (70 + i)) A U H
theorem ZSz.moved {ad : Nat → Nat} {A : Nat → Prop} {u U : State} {H : Heap} (hvm : u.vm.Alike U.vm) (h : ZSz ad A u H) : ZSz ad A U H := by
  obtain ⟨h1, h2, h3, h4, h5, h6, h7⟩ := h
  exact ⟨h1.moved hvm, h2.moved hvm, h3.moved hvm, h4.moved hvm, h5.moved hvm, h6.moved hvm, h7.moved hvm⟩
theorem ZSz.kept {ad : Nat → Nat} {A : Nat → Prop} {U : State} {H H1 : Heap} (h : ZSz ad A U H) (hq : ∀ a : Nat, a < H.size → ¬ A a → H1[a]? = H[a]?) : ZSz ad A U H1 := by
  obtain ⟨h1, h2, h3, h4, h5, h6, h7⟩ := h
  exact ⟨h1.kept hq, h2.kept hq, h3.kept hq, h4.kept hq, h5.kept hq, h6.kept hq, h7.kept hq⟩
theorem ZSz.narrow {ad : Nat → Nat} {A B : Nat → Prop} {U : State} {H : Heap} (h : ZSz ad A U H) (hAB : ∀ q, B q → A q) : ZSz ad B U H := by
  obtain ⟨h1, h2, h3, h4, h5, h6, h7⟩ := h
  exact ⟨h1.narrow hAB, h2.narrow hAB, h3.narrow hAB, h4.narrow hAB, h5.narrow hAB, h6.narrow hAB, h7.narrow hAB⟩
/-- the texts' own links -/
def RSz (ad : Nat → Nat) (U : State) : Prop :=
  vk_R RX3 57 "plain" (ad 60) U ∧ vk_R RX3 63 "whip" (ad 61) U ∧ vk_R RX3 65 "doubter" (ad 62) U ∧ vk_R RX3 67 "maggot" (ad 63) U ∧ vk_R RX3 69 "motion" (ad 64) U
theorem RSz.same {ad : Nat → Nat} {u U : State} (hv : U.vm = u.vm) (h : RSz ad u) : RSz ad U := ⟨h.1.same hv, h.2.1.same hv, h.2.2.1.same hv, h.2.2.2.1.same hv, h.2.2.2.2.same hv⟩
theorem RSz.warm {ad : Nat → Nat} {s U : State} (hW : s.WarmedH U.vm) (h : RSz ad s) : RSz ad U := ⟨h.1.warm hW, h.2.1.warm hW, h.2.2.1.warm hW, h.2.2.2.1.warm hW, h.2.2.2.2.warm hW⟩
