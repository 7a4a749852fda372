/-! the judgement over the mini machine, contracts, rows -/
abbrev Cxz : Type := Program × Launch × Env × Room × State × MethodId × Array Value × List Frame × Method × Code × Nat × Nat × (State → Prop) × va_G × (Nat → ClassId) × (Nat → Nat) × Nat
/-- the locals: a list by index; null: not known -/
def nnz : Value → Bool
  | .null => false
  | _ => true
theorem nnz_sp {v : Value} : nnz v = true ↔ v ≠ .null := by cases v <;> simp [nnz]
def lvK (ad : Nat → Nat) (lv : List Value) : List (Nat × Value) := (List.range lv.length).filterMap (fun j => (lv[j]?).bind (fun v => if nnz v = true then some (j, cvz ad v) else none))
theorem lvK_mem {ad : Nat → Nat} {lv : List Value} {q : Nat × Value} : q ∈ lvK ad lv ↔ ∃ v, lv[q.1]? = some v ∧ v ≠ .null ∧ q.2 = cvz ad v := by
  unfold lvK
  rw [List.mem_filterMap]
  constructor
  · rintro ⟨j, hj, h⟩
    cases hv : lv[j]? with
    | none => rw [hv] at h; cases h
    | some v =>
      rw [hv, Option.bind_some] at h
      by_cases hn : nnz v = true
      · rw [if_pos hn] at h
        cases h
        exact ⟨v, hv, nnz_sp.mp hn, rfl⟩
      · rw [if_neg hn] at h; cases h
  · rintro ⟨v, h1, h2, h3⟩
    refine ⟨q.1, List.mem_range.mpr (List.getElem?_eq_some_iff.mp h1).1, ?_⟩
    rw [h1, Option.bind_some, if_pos (nnz_sp.mpr h2), ← h3]
def Gz (X : Cxz) (pc : Nat) (lv : List Value) (st : List Value) (M : Mm) : Prop := match X with
  | (p, l, e, R, s, m, args, below, meth, c, cells, slots, Q, D, cT, ad, nL) => ∀ (H : Heap) (locs : List Loc) (ls : Array Slot), lv_has ls nL (lvK ad lv) → va_P D cls6 (wlz ad cT M) H → va_D (AAz ad s.heap.size) (wlz ad cT M) → va_S (AAz ad s.heap.size) s.heap H locs → W p l e R s m args below meth c H locs cells slots Q (F0 m pc ls (st.map (cvz ad)))
def Okz (X : Cxz) (cc : ByteArray) (own : String) (d : Nat) : Prop := match X with
  | (p, l, e, R, s, m, args, below, meth, c, cells, slots, Q, D, cT, ad, nL) => p.tables.exec = Jvm.exec ∧ c.code = cc ∧ c.maxLocals = nL ∧ s.vm.findClass own = some m.cls ∧ (∀ w ∈ tb, w.before args s = true) ∧ NW s ∧ RSz ad s ∧ va_K D cls6 (tyz cT) s ∧ ZSz ad (AAz ad s.heap.size) s s.heap ∧ (cells ≤ R.cells ∧ slots ≤ R.slots ∧ d ≤ R.frames ∧ 36 * d ≤ R.locals)
def CQz (D : va_G) (cT : Nat → ClassId) (ad : Nat → Nat) (A : Nat → Prop) (Po : Option Value → Mm → Prop) : Array Value → State → Outcome → State → Prop := fun _ st oc t =>
  (∃ r, oc = .returned r ∧ ∃ (r0 : Option Value) (M' : Mm), r = r0.map (cvz ad) ∧ Po r0 M' ∧ va_P D cls6 (wlz ad cT M') t.heap) ∧ va_F A st t
def Rtz (X : Cxz) (ret : Option FieldType) (Po : Option Value → Mm → Prop) : Prop := match X with
  | (p, l, e, R, s, m, args, below, meth, c, cells, slots, Q, D, cT, ad, nL) => meth.sig.returnType = ret ∧ meth.locks = false ∧ Q = MQ below (CQz D cT ad (AAz ad s.heap.size) Po) args s cells slots (AAz ad s.heap.size)
def rmz (d : Nat) : Room := { frames := d, cells := 0, slots := 0, locals := 36 * d }
def CPz (D : va_G) (cT : Nat → ClassId) (ad : Nat → Nat) (sz : Nat) (M : Mm) (U : State) : Prop :=
  U.heap.size = sz ∧ va_P D cls6 (wlz ad cT M) U.heap ∧ va_K D cls6 (tyz cT) U ∧ va_D (fun _ => True) (wlz ad cT M) ∧ NW U ∧ RSz ad U ∧ ZSz ad (AAz ad sz) U U.heap
/-- a contract: called with these arguments at this memory, y returns with Po -/
def Clz (l : Launch) (d : Nat) (y : MethodName) (bytes : ByteArray) (maxL : Nat) (ret : Option FieldType) (av : List Value) (M : Mm) (Po : Option Value → Mm → Prop) : Prop :=
  ∀ (D : va_G) (cT : Nat → ClassId) (ad : Nat → Nat) (sz : Nat), Met l y (.code y bytes maxL ret :: tb) (rmz d) (va_Pc (av.map (cvz ad)) (CPz D cT ad sz M)) (CQz D cT ad (AAz ad sz) Po) 0 0 (AAz ad sz)
def lvA (av : List Value) (n : Nat) : List Value := (av.flatMap fun v => if v.category = 2 then [v, .null] else [v]) ++ List.replicate (n - (av.flatMap fun v => if v.category = 2 then [v, Value.null] else [v]).length) .null
theorem lvA_args : ∀ (av : List Value) (i : Nat) (pre : List Value) (n j : Nat) (v : Value), pre.length = i → (pre ++ ((av.flatMap fun v => if v.category = 2 then [v, .null] else [v]) ++ List.replicate n Value.null))[j]? = some v → v ≠ .null → i ≤ j → (j, v) ∈ lv_args i av := by
  intro av
  induction av with
  | nil =>
    intro i pre n j v hi hj hn hij
    exfalso
    rw [List.flatMap_nil, List.nil_append, List.getElem?_append_right (by omega)] at hj
    have := List.getElem?_eq_some_iff.mp hj
    obtain ⟨h1, h2⟩ := this
    rw [List.getElem_replicate] at h2
    exact hn h2.symm
  | cons a av ih =>
    intro i pre n j v hi hj hn hij
    unfold lv_args
    rw [List.flatMap_cons] at hj
    by_cases hji : j = i
    · subst hji
      rw [List.getElem?_append_right (by omega), hi, Nat.sub_self] at hj
      by_cases hc : a.category = 2
      · rw [if_pos hc] at hj
        simp at hj
        rw [hj]; exact List.mem_cons_self
      · rw [if_neg hc] at hj
        simp at hj
        rw [hj]; exact List.mem_cons_self
    · refine List.mem_cons_of_mem _ ?_
      by_cases hc : a.category = 2
      · rw [if_pos hc] at hj ⊢
        by_cases hj2 : j = i + 1
        · exfalso
          rw [List.getElem?_append_right (by omega), hi, hj2, Nat.add_sub_cancel_left] at hj
          simp at hj
          exact hn hj.symm
        · exact ih (i + 2) (pre ++ [a, .null]) n j v (by simp; omega) (by rw [List.append_assoc]; rw [List.append_assoc] at hj; exact hj) hn (by omega)
      · rw [if_neg hc] at hj ⊢
        exact ih (i + 1) (pre ++ [a]) n j v (by simp; omega) (by rw [List.append_assoc]; rw [List.append_assoc] at hj; exact hj) hn (by omega)
theorem lg_sl_cv (ad : Nat → Nat) : ∀ av : List Value, (lg_sl (av.map (cvz ad))).length = (av.flatMap fun v => if v.category = 2 then [v, Value.null] else [v]).length := by
  intro av
  unfold lg_sl
  induction av with
  | nil => rfl
  | cons v av ih =>
    rw [List.map_cons, List.flatMap_cons, List.flatMap_cons, List.length_append, List.length_append, ih, cvz_cat]
    by_cases h : v.category = 2
    · rw [if_pos h, if_pos h]; rfl
    · rw [if_neg h, if_neg h]; rfl
theorem Clz.of {l : Launch} {d : Nat} {y : MethodName} {bytes : ByteArray} {maxL : Nat} {ret : Option FieldType} {av : List Value} {M : Mm} {Po : Option Value → Mm → Prop} (own : String) (ho : y.cls = own) (hy : plainName y.cls = true) (hm : (av.flatMap fun v => if v.category = 2 then [v, Value.null] else [v]).length ≤ maxL)
    (body : ∀ X : Cxz, X.2.1 = l → Okz X bytes own d → Rtz X ret Po → Gz X 0 (lvA av maxL) [] M) : Clz l d y bytes maxL ret av M Po := by
  intro D cT ad sz
  subst ho
  refine Met.ofW (cc := bytes) (maxL := maxL) (ret := ret) hy rfl ?_
  intro p e s m args below meth c s₁ B hml hv
  obtain ⟨rfl, hsz, hP, hK, hD0, hN, hR, hZ⟩ := hv
  subst hsz
  have hts := atoms_spec (ws := Cond.code y bytes maxL ret :: tb) B.pre
  have b := body (p, l, e, (headSpec (Cond.code y bytes maxL ret :: tb) (rmz d)).room, s, m, (av.map (cvz ad)).toArray, below, meth, c, 0, 0, MQ below (CQz D cT ad (AAz ad s.heap.size) Po) (av.map (cvz ad)).toArray s 0 0 (AAz ad s.heap.size), D, cT, ad, maxL) rfl
    ⟨B.exec, B.bytes, hml, findClass_of_methodNamed B.named, fun w hw => hts w (List.mem_cons_of_mem _ hw), hN, hR, hK, hZ, Nat.zero_le _, Nat.zero_le _, Nat.le_refl _, Nat.le_refl _⟩ ⟨B.returns, B.notSynchronized, rfl⟩
  rw [lg_entry_eq]
  have hl := lv_entry (av.map (cvz ad)) (n := maxL) (by rw [lg_sl_cv]; exact hm)
  refine b s.heap [] _ ⟨hl.1, hl.2.1, fun q hq => ?_⟩ hP (wlz_DA hD0) va_S.rf
  obtain ⟨v, h1, h2, h3⟩ := lvK_mem.mp hq
  refine hl.2.2 q ?_
  rw [cvz_args]
  refine List.mem_map.mpr ⟨(q.1, v), lvA_args av 0 [] _ q.1 v rfl h1 h2 (Nat.zero_le _), ?_⟩
  show (q.1, cvz ad v) = q
  rw [← h3]
/-- storing a local -/
def isLg : Option Value → Bool
  | some (.long _) => true
  | _ => false
def lvS (lv : List Value) (i : Nat) (v : Value) : List Value := match i with
  | 0 => lv.set 0 v
  | j + 1 => (bif isLg (lv[j]?) then lv.set j .null else lv).set (j + 1) v
def lvS2 (lv : List Value) (i : Nat) (v : Value) : List Value := (lvS lv i v).set (i + 1) .null
theorem lvS_get {lv : List Value} {i j : Nat} {v w : Value} (hd : ∀ (k : Nat) x, lv[k]? ≠ some (.double x)) (h : (lvS lv i v)[j]? = some w) (hn : w ≠ .null) : (j = i ∧ w = v) ∨ (j ≠ i ∧ lv[j]? = some w ∧ ¬ (j + 1 = i ∧ w.category = 2)) := by
  have key : ∀ (n : Nat) (lv' : List Value), (lv'.set n v)[j]? = some w → (j = n ∧ w = v) ∨ (j ≠ n ∧ lv'[j]? = some w) := by
    intro n lv' h
    by_cases hj : j = n
    · subst hj
      left
      refine ⟨rfl, ?_⟩
      have hl := (List.getElem?_eq_some_iff.mp h).1
      rw [List.getElem?_set_self (by rw [List.length_set] at hl; exact hl)] at h
      exact (Option.some.inj h).symm
    · right
      rw [List.getElem?_set_ne (Ne.symm hj)] at h
      exact ⟨hj, h⟩
  cases i with
  | zero =>
    rcases key 0 lv h with h1 | ⟨h1, h2⟩
    · exact Or.inl h1
    · exact Or.inr ⟨h1, h2, fun z => by omega⟩
  | succ k =>
    rcases key (k + 1) _ h with h1 | ⟨h1, h2⟩
    · exact Or.inl h1
    · right
      cases hL : isLg (lv[k]?) with
      | true =>
        rw [hL, cond_true] at h2
        by_cases hjk : j = k
        · subst hjk
          have hl := (List.getElem?_eq_some_iff.mp h2).1
          rw [List.getElem?_set_self (by rw [List.length_set] at hl; exact hl)] at h2
          exact absurd (Option.some.inj h2).symm hn
        · rw [List.getElem?_set_ne (Ne.symm hjk)] at h2
          exact ⟨h1, h2, fun z => by omega⟩
      | false =>
        rw [hL, cond_false] at h2
        refine ⟨h1, h2, fun z => ?_⟩
        have hjk : j = k := by omega
        subst hjk
        rw [h2] at hL
        cases w with
        | long x => simp [isLg] at hL
        | double x => exact hd _ _ h2
        | _ => exact absurd z.2 (by simp [Value.category])
/-- no double among the locals -/
def ndz (lv : List Value) : Bool := lv.all (fun v => match v with
  | .double _ => false
  | _ => true)
theorem ndz_sp {lv : List Value} (h : ndz lv = true) : ∀ (k : Nat) x, lv[k]? ≠ some (.double x) := by
  intro k x hk
  have := List.all_eq_true.mp h _ (List.mem_of_getElem? hk)
  simp at this
theorem lvS_has {ad : Nat → Nat} {ls' : Array Slot} {nL i : Nat} {lv : List Value} {v : Value} (hd : ndz lv = true) (hv : v ≠ .null) (h : lv_has ls' nL ((i, cvz ad v) :: (lvK ad lv).filter (fun q => !(q.1 == i) && !(q.1 + 1 == i && q.2.category == 2)))) : lv_has ls' nL (lvK ad (lvS lv i v)) := by
  refine ⟨h.1, h.2.1, fun q hq => h.2.2 q ?_⟩
  obtain ⟨w, h1, h2, h3⟩ := lvK_mem.mp hq
  rcases lvS_get (ndz_sp hd) h1 h2 with ⟨h4, h5⟩ | ⟨h4, h5, h6⟩
  · have : q = (i, cvz ad v) := by rw [← h4, ← h5, ← h3]
    rw [this]; exact List.mem_cons_self
  · refine List.mem_cons_of_mem _ (List.mem_filter.mpr ⟨lvK_mem.mpr ⟨w, h5, h2, h3⟩, ?_⟩)
    rw [h3, cvz_cat]
    simp only [Bool.and_eq_true, Bool.not_eq_true', beq_eq_false_iff_ne, ne_eq, Bool.and_eq_false_imp, beq_iff_eq]
    exact ⟨h4, fun a b => h6 ⟨a, b⟩⟩
theorem lvS2_has {ad : Nat → Nat} {ls' : Array Slot} {nL i : Nat} {lv : List Value} {v : Value} (hd : ndz lv = true) (hv : v ≠ .null) (h : lv_has ls' nL ((i, cvz ad v) :: (lvK ad lv).filter (fun q => !(q.1 == i) && (!(q.1 == i + 1) && !(q.1 + 1 == i && q.2.category == 2))))) : lv_has ls' nL (lvK ad (lvS2 lv i v)) := by
  refine ⟨h.1, h.2.1, fun q hq => h.2.2 q ?_⟩
  obtain ⟨w, h1, h2, h3⟩ := lvK_mem.mp hq
  unfold lvS2 at h1
  by_cases hq1 : q.1 = i + 1
  · rw [hq1] at h1
    have hl := (List.getElem?_eq_some_iff.mp h1).1
    rw [List.getElem?_set_self (by rw [List.length_set] at hl; exact hl)] at h1
    exact absurd (Option.some.inj h1).symm h2
  · rw [List.getElem?_set_ne (Ne.symm hq1)] at h1
    rcases lvS_get (ndz_sp hd) h1 h2 with ⟨h4, h5⟩ | ⟨h4, h5, h6⟩
    · have : q = (i, cvz ad v) := by rw [← h4, ← h5, ← h3]
      rw [this]; exact List.mem_cons_self
    · refine List.mem_cons_of_mem _ (List.mem_filter.mpr ⟨lvK_mem.mpr ⟨w, h5, h2, h3⟩, ?_⟩)
      rw [h3, cvz_cat]
      simp only [Bool.and_eq_true, Bool.not_eq_true', beq_eq_false_iff_ne, ne_eq, Bool.and_eq_false_imp, beq_iff_eq]
      exact ⟨h4, hq1, fun a b => h6 ⟨a, b⟩⟩
theorem lvK_at {ad : Nat → Nat} {ls : Array Slot} {nL : Nat} {lv : List Value} (h : lv_has ls nL (lvK ad lv)) {i : Nat} {v : Value} (hv : lv[i]? = some v) (hn : v ≠ .null) : ls[i]? = some (.val (cvz ad v)) := h.2.2 (i, cvz ad v) (lvK_mem.mpr ⟨v, hv, hn, rfl⟩)
section RW
variable {X : Cxz} {cc : ByteArray} {own : String} {d pc : Nat} {lv st : List Value} {M : Mm}
theorem r_iadd {x y : Int32} (h : Okz X cc own d) (hd : decode cc pc = .ok (.iadd, 1)) (k : Gz X (pc + 1) lv (.int (x + y) :: st) M) : Gz X pc lv (.int y :: .int x :: st) M := by
  obtain ⟨p, l, e, R, s, m, args, below, meth, c, cells, slots, Q, D, cT, ad, nL⟩ := X
  intro H locs ls hl hP hD hS
  exact lv_iadd (x := x) (y := y) (rest := st.map (cvz ad)) h.1 h.2.1 hd (k H locs ls hl hP hD hS)
theorem r_isub {x y : Int32} (h : Okz X cc own d) (hd : decode cc pc = .ok (.isub, 1)) (k : Gz X (pc + 1) lv (.int (x - y) :: st) M) : Gz X pc lv (.int y :: .int x :: st) M := by
  obtain ⟨p, l, e, R, s, m, args, below, meth, c, cells, slots, Q, D, cT, ad, nL⟩ := X
  intro H locs ls hl hP hD hS
  exact lv_isub (x := x) (y := y) (rest := st.map (cvz ad)) h.1 h.2.1 hd (k H locs ls hl hP hD hS)
theorem r_imul {x y : Int32} (h : Okz X cc own d) (hd : decode cc pc = .ok (.imul, 1)) (k : Gz X (pc + 1) lv (.int (x * y) :: st) M) : Gz X pc lv (.int y :: .int x :: st) M := by
  obtain ⟨p, l, e, R, s, m, args, below, meth, c, cells, slots, Q, D, cT, ad, nL⟩ := X
  intro H locs ls hl hP hD hS
  exact lv_imul (x := x) (y := y) (rest := st.map (cvz ad)) h.1 h.2.1 hd (k H locs ls hl hP hD hS)
theorem r_iand {x y : Int32} (h : Okz X cc own d) (hd : decode cc pc = .ok (.iand, 1)) (k : Gz X (pc + 1) lv (.int (x &&& y) :: st) M) : Gz X pc lv (.int y :: .int x :: st) M := by
  obtain ⟨p, l, e, R, s, m, args, below, meth, c, cells, slots, Q, D, cT, ad, nL⟩ := X
  intro H locs ls hl hP hD hS
  exact lv_iand (x := x) (y := y) (rest := st.map (cvz ad)) h.1 h.2.1 hd (k H locs ls hl hP hD hS)
theorem r_ior {x y : Int32} (h : Okz X cc own d) (hd : decode cc pc = .ok (.ior, 1)) (k : Gz X (pc + 1) lv (.int (x ||| y) :: st) M) : Gz X pc lv (.int y :: .int x :: st) M := by
  obtain ⟨p, l, e, R, s, m, args, below, meth, c, cells, slots, Q, D, cT, ad, nL⟩ := X
  intro H locs ls hl hP hD hS
  exact lv_ior (x := x) (y := y) (rest := st.map (cvz ad)) h.1 h.2.1 hd (k H locs ls hl hP hD hS)
theorem r_ixor {x y : Int32} (h : Okz X cc own d) (hd : decode cc pc = .ok (.ixor, 1)) (k : Gz X (pc + 1) lv (.int (x ^^^ y) :: st) M) : Gz X pc lv (.int y :: .int x :: st) M := by
  obtain ⟨p, l, e, R, s, m, args, below, meth, c, cells, slots, Q, D, cT, ad, nL⟩ := X
  intro H locs ls hl hP hD hS
  exact lv_ixor (x := x) (y := y) (rest := st.map (cvz ad)) h.1 h.2.1 hd (k H locs ls hl hP hD hS)
theorem r_ishl {x y : Int32} (h : Okz X cc own d) (hd : decode cc pc = .ok (.ishl, 1)) (k : Gz X (pc + 1) lv (.int (x <<< (y &&& 31)) :: st) M) : Gz X pc lv (.int y :: .int x :: st) M := by
  obtain ⟨p, l, e, R, s, m, args, below, meth, c, cells, slots, Q, D, cT, ad, nL⟩ := X
  intro H locs ls hl hP hD hS
  exact lv_ishl (x := x) (y := y) (rest := st.map (cvz ad)) h.1 h.2.1 hd (k H locs ls hl hP hD hS)
theorem r_ishr {x y : Int32} (h : Okz X cc own d) (hd : decode cc pc = .ok (.ishr, 1)) (k : Gz X (pc + 1) lv (.int (x >>> (y &&& 31)) :: st) M) : Gz X pc lv (.int y :: .int x :: st) M := by
  obtain ⟨p, l, e, R, s, m, args, below, meth, c, cells, slots, Q, D, cT, ad, nL⟩ := X
  intro H locs ls hl hP hD hS
  exact lv_ishr (x := x) (y := y) (rest := st.map (cvz ad)) h.1 h.2.1 hd (k H locs ls hl hP hD hS)
theorem r_iushr {x y : Int32} (h : Okz X cc own d) (hd : decode cc pc = .ok (.iushr, 1)) (k : Gz X (pc + 1) lv (.int ((x.toUInt32 >>> (y.toUInt32 &&& Int32.toUInt32 31)).toInt32) :: st) M) : Gz X pc lv (.int y :: .int x :: st) M := by
  obtain ⟨p, l, e, R, s, m, args, below, meth, c, cells, slots, Q, D, cT, ad, nL⟩ := X
  intro H locs ls hl hP hD hS
  exact lv_iushr (x := x) (y := y) (rest := st.map (cvz ad)) h.1 h.2.1 hd rfl (k H locs ls hl hP hD hS)
theorem r_idiv {x y : Int32} (h : Okz X cc own d) (hd : decode cc pc = .ok (.idiv, 1)) (hne : ¬ y = 0) (k : Gz X (pc + 1) lv (.int (x / y) :: st) M) : Gz X pc lv (.int y :: .int x :: st) M := by
  obtain ⟨p, l, e, R, s, m, args, below, meth, c, cells, slots, Q, D, cT, ad, nL⟩ := X
  intro H locs ls hl hP hD hS
  exact lv_idiv (x := x) (y := y) (rest := st.map (cvz ad)) h.1 h.2.1 hd hne (k H locs ls hl hP hD hS)
theorem r_irem {x y : Int32} (h : Okz X cc own d) (hd : decode cc pc = .ok (.irem, 1)) (hne : ¬ y = 0) (k : Gz X (pc + 1) lv (.int (x - x / y * y) :: st) M) : Gz X pc lv (.int y :: .int x :: st) M := by
  obtain ⟨p, l, e, R, s, m, args, below, meth, c, cells, slots, Q, D, cT, ad, nL⟩ := X
  intro H locs ls hl hP hD hS
  exact lv_irem (x := x) (y := y) (rest := st.map (cvz ad)) h.1 h.2.1 hd hne (k H locs ls hl hP hD hS)
theorem r_ineg {x : Int32} (h : Okz X cc own d) (hd : decode cc pc = .ok (.ineg, 1)) (k : Gz X (pc + 1) lv (.int (-x) :: st) M) : Gz X pc lv (.int x :: st) M := by
  obtain ⟨p, l, e, R, s, m, args, below, meth, c, cells, slots, Q, D, cT, ad, nL⟩ := X
  intro H locs ls hl hP hD hS
  exact lv_ineg (x := x) (rest := st.map (cvz ad)) h.1 h.2.1 hd (k H locs ls hl hP hD hS)
theorem r_ladd {x y : Int64} (h : Okz X cc own d) (hd : decode cc pc = .ok (.ladd, 1)) (k : Gz X (pc + 1) lv (.long (x + y) :: st) M) : Gz X pc lv (.long y :: .long x :: st) M := by
  obtain ⟨p, l, e, R, s, m, args, below, meth, c, cells, slots, Q, D, cT, ad, nL⟩ := X
  intro H locs ls hl hP hD hS
  exact lv_ladd (x := x) (y := y) (rest := st.map (cvz ad)) h.1 h.2.1 hd (k H locs ls hl hP hD hS)
theorem r_lsub {x y : Int64} (h : Okz X cc own d) (hd : decode cc pc = .ok (.lsub, 1)) (k : Gz X (pc + 1) lv (.long (x - y) :: st) M) : Gz X pc lv (.long y :: .long x :: st) M := by
  obtain ⟨p, l, e, R, s, m, args, below, meth, c, cells, slots, Q, D, cT, ad, nL⟩ := X
  intro H locs ls hl hP hD hS
  exact lv_lsub (x := x) (y := y) (rest := st.map (cvz ad)) h.1 h.2.1 hd (k H locs ls hl hP hD hS)
theorem r_lmul {x y : Int64} (h : Okz X cc own d) (hd : decode cc pc = .ok (.lmul, 1)) (k : Gz X (pc + 1) lv (.long (x * y) :: st) M) : Gz X pc lv (.long y :: .long x :: st) M := by
  obtain ⟨p, l, e, R, s, m, args, below, meth, c, cells, slots, Q, D, cT, ad, nL⟩ := X
  intro H locs ls hl hP hD hS
  exact lv_lmul (x := x) (y := y) (rest := st.map (cvz ad)) h.1 h.2.1 hd (k H locs ls hl hP hD hS)
theorem r_ldiv {x y : Int64} (h : Okz X cc own d) (hd : decode cc pc = .ok (.ldiv, 1)) (hne : ¬ y = 0) (k : Gz X (pc + 1) lv (.long (x / y) :: st) M) : Gz X pc lv (.long y :: .long x :: st) M := by
  obtain ⟨p, l, e, R, s, m, args, below, meth, c, cells, slots, Q, D, cT, ad, nL⟩ := X
  intro H locs ls hl hP hD hS
  exact lv_ldiv (x := x) (y := y) (rest := st.map (cvz ad)) h.1 h.2.1 hd hne (k H locs ls hl hP hD hS)
theorem r_lrem {x y : Int64} (h : Okz X cc own d) (hd : decode cc pc = .ok (.lrem, 1)) (hne : ¬ y = 0) (k : Gz X (pc + 1) lv (.long (x - x / y * y) :: st) M) : Gz X pc lv (.long y :: .long x :: st) M := by
  obtain ⟨p, l, e, R, s, m, args, below, meth, c, cells, slots, Q, D, cT, ad, nL⟩ := X
  intro H locs ls hl hP hD hS
  exact lv_lrem (x := x) (y := y) (rest := st.map (cvz ad)) h.1 h.2.1 hd hne (k H locs ls hl hP hD hS)
theorem r_lcmp {x y : Int64} (h : Okz X cc own d) (hd : decode cc pc = .ok (.lcmp, 1)) (k : Gz X (pc + 1) lv (.int (lg_cmp x y) :: st) M) : Gz X pc lv (.long y :: .long x :: st) M := by
  obtain ⟨p, l, e, R, s, m, args, below, meth, c, cells, slots, Q, D, cT, ad, nL⟩ := X
  intro H locs ls hl hP hD hS
  exact W.lcmp (x := x) (y := y) (rest := st.map (cvz ad)) h.1 h.2.1 hd (k H locs ls hl hP hD hS)
theorem r_i2l {x : Int32} (h : Okz X cc own d) (hd : decode cc pc = .ok (.i2l, 1)) (k : Gz X (pc + 1) lv (.long (x.toInt64) :: st) M) : Gz X pc lv (.int x :: st) M := by
  obtain ⟨p, l, e, R, s, m, args, below, meth, c, cells, slots, Q, D, cT, ad, nL⟩ := X
  intro H locs ls hl hP hD hS
  exact lv_i2l (x := x) (rest := st.map (cvz ad)) h.1 h.2.1 hd rfl (k H locs ls hl hP hD hS)
theorem r_l2i {x : Int64} (h : Okz X cc own d) (hd : decode cc pc = .ok (.l2i, 1)) (k : Gz X (pc + 1) lv (.int (x.toInt32) :: st) M) : Gz X pc lv (.long x :: st) M := by
  obtain ⟨p, l, e, R, s, m, args, below, meth, c, cells, slots, Q, D, cT, ad, nL⟩ := X
  intro H locs ls hl hP hD hS
  exact lv_l2i (x := x) (rest := st.map (cvz ad)) h.1 h.2.1 hd rfl (k H locs ls hl hP hD hS)
theorem r_i2b {x : Int32} (h : Okz X cc own d) (hd : decode cc pc = .ok (.i2b, 1)) (k : Gz X (pc + 1) lv (.int (x.toInt8.toInt32) :: st) M) : Gz X pc lv (.int x :: st) M := by
  obtain ⟨p, l, e, R, s, m, args, below, meth, c, cells, slots, Q, D, cT, ad, nL⟩ := X
  intro H locs ls hl hP hD hS
  exact lv_i2b (x := x) (rest := st.map (cvz ad)) h.1 h.2.1 hd rfl (k H locs ls hl hP hD hS)
theorem r_i2s {x : Int32} (h : Okz X cc own d) (hd : decode cc pc = .ok (.i2s, 1)) (k : Gz X (pc + 1) lv (.int (x.toInt16.toInt32) :: st) M) : Gz X pc lv (.int x :: st) M := by
  obtain ⟨p, l, e, R, s, m, args, below, meth, c, cells, slots, Q, D, cT, ad, nL⟩ := X
  intro H locs ls hl hP hD hS
  exact lv_i2s (x := x) (rest := st.map (cvz ad)) h.1 h.2.1 hd rfl (k H locs ls hl hP hD hS)
theorem r_i2c {x : Int32} (h : Okz X cc own d) (hd : decode cc pc = .ok (.i2c, 1)) (k : Gz X (pc + 1) lv (.int ((x.toUInt32 % 65536).toInt32) :: st) M) : Gz X pc lv (.int x :: st) M := by
  obtain ⟨p, l, e, R, s, m, args, below, meth, c, cells, slots, Q, D, cT, ad, nL⟩ := X
  intro H locs ls hl hP hD hS
  exact lv_i2c (x := x) (rest := st.map (cvz ad)) h.1 h.2.1 hd rfl (k H locs ls hl hP hD hS)
theorem r_iconst {n : Int} {v : Int32} (h : Okz X cc own d) (hd : decode cc pc = .ok (.iconst n, 1)) (hv : Int32.ofInt n = v) (k : Gz X (pc + 1) lv (.int v :: st) M) : Gz X pc lv (st) M := by
  obtain ⟨p, l, e, R, s, m, args, below, meth, c, cells, slots, Q, D, cT, ad, nL⟩ := X
  intro H locs ls hl hP hD hS
  exact lv_iconst (rest := st.map (cvz ad)) h.1 h.2.1 hd hv (k H locs ls hl hP hD hS)
theorem r_bipush {n : Int} {v : Int32} (h : Okz X cc own d) (hd : decode cc pc = .ok (.bipush n, 2)) (hv : (Int8.ofInt n).toInt32 = v) (k : Gz X (pc + 2) lv (.int v :: st) M) : Gz X pc lv (st) M := by
  obtain ⟨p, l, e, R, s, m, args, below, meth, c, cells, slots, Q, D, cT, ad, nL⟩ := X
  intro H locs ls hl hP hD hS
  exact lv_bipush (rest := st.map (cvz ad)) h.1 h.2.1 hd hv (k H locs ls hl hP hD hS)
theorem r_sipush {n : Int} {v : Int32} (h : Okz X cc own d) (hd : decode cc pc = .ok (.sipush n, 3)) (hv : (Int16.ofInt n).toInt32 = v) (k : Gz X (pc + 3) lv (.int v :: st) M) : Gz X pc lv (st) M := by
  obtain ⟨p, l, e, R, s, m, args, below, meth, c, cells, slots, Q, D, cT, ad, nL⟩ := X
  intro H locs ls hl hP hD hS
  exact lv_sipush (rest := st.map (cvz ad)) h.1 h.2.1 hd hv (k H locs ls hl hP hD hS)
theorem r_lconst {n : Fin 2} {v : Int64} (h : Okz X cc own d) (hd : decode cc pc = .ok (.lconst n, 1)) (hv : Int64.ofNat (n : Nat) = v) (k : Gz X (pc + 1) lv (.long v :: st) M) : Gz X pc lv (st) M := by
  obtain ⟨p, l, e, R, s, m, args, below, meth, c, cells, slots, Q, D, cT, ad, nL⟩ := X
  intro H locs ls hl hP hD hS
  exact lv_lconst (rest := st.map (cvz ad)) h.1 h.2.1 hd hv (k H locs ls hl hP hD hS)
theorem r_ldc {i : Nat} {v : Int32} (h : Okz X cc own d) (hd : decode cc pc = .ok (.ldc i, 2)) (hw : Cond.constant own i v ∈ tb) (k : Gz X (pc + 2) lv (.int v :: st) M) : Gz X pc lv (st) M := by
  obtain ⟨p, l, e, R, s, m, args, below, meth, c, cells, slots, Q, D, cT, ad, nL⟩ := X
  intro H locs ls hl hP hD hS
  exact lv_ldc (rest := st.map (cvz ad)) h.1 h.2.1 h.2.2.2.1 (h.2.2.2.2.1 _ hw) hd (k H locs ls hl hP hD hS)
theorem r_ldcw {i : Nat} {v : Int32} (h : Okz X cc own d) (hd : decode cc pc = .ok (.ldc_w i, 3)) (hw : Cond.constant own i v ∈ tb) (k : Gz X (pc + 3) lv (.int v :: st) M) : Gz X pc lv (st) M := by
  obtain ⟨p, l, e, R, s, m, args, below, meth, c, cells, slots, Q, D, cT, ad, nL⟩ := X
  intro H locs ls hl hP hD hS
  exact lv_ldcw (rest := st.map (cvz ad)) h.1 h.2.1 h.2.2.2.1 (h.2.2.2.2.1 _ hw) hd (k H locs ls hl hP hD hS)
theorem r_ldc2 {i : Nat} {v : Int64} (h : Okz X cc own d) (hd : decode cc pc = .ok (.ldc2_w i, 3)) (hw : Cond.constantLong own i v ∈ tb) (k : Gz X (pc + 3) lv (.long v :: st) M) : Gz X pc lv (st) M := by
  obtain ⟨p, l, e, R, s, m, args, below, meth, c, cells, slots, Q, D, cT, ad, nL⟩ := X
  intro H locs ls hl hP hD hS
  exact lv_ldc2 (rest := st.map (cvz ad)) h.1 h.2.1 h.2.2.2.1 (h.2.2.2.2.1 _ hw) hd (k H locs ls hl hP hD hS)
theorem r_iload_n {i : Fin 4} {x : Int32} (h : Okz X cc own d) (hd : decode cc pc = .ok (.iload_n i, 1)) (hv : lv[i.val]? = some (.int x)) (k : Gz X (pc + 1) lv (.int x :: st) M) : Gz X pc lv (st) M := by
  obtain ⟨p, l, e, R, s, m, args, below, meth, c, cells, slots, Q, D, cT, ad, nL⟩ := X
  intro H locs ls hl hP hD hS
  exact lv_iload_n (rest := st.map (cvz ad)) h.1 h.2.1 hd rfl (lvK_at hl hv (fun z => by cases z)) (k H locs ls hl hP hD hS)
theorem r_iload {i : Nat} {x : Int32} (h : Okz X cc own d) (hd : decode cc pc = .ok (.iload i, 2)) (hv : lv[i]? = some (.int x)) (k : Gz X (pc + 2) lv (.int x :: st) M) : Gz X pc lv (st) M := by
  obtain ⟨p, l, e, R, s, m, args, below, meth, c, cells, slots, Q, D, cT, ad, nL⟩ := X
  intro H locs ls hl hP hD hS
  exact lv_iload (rest := st.map (cvz ad)) h.1 h.2.1 hd (lvK_at hl hv (fun z => by cases z)) (k H locs ls hl hP hD hS)
theorem r_istore_n {i : Fin 4} {x : Int32} (h : Okz X cc own d) (hd : decode cc pc = .ok (.istore_n i, 1)) (hn : i.val < X.2.2.2.2.2.2.2.2.2.2.2.2.2.2.2.2) (hnd : ndz lv = true) (k : Gz X (pc + 1) (lvS lv i.val (.int x)) st M) : Gz X pc lv (.int x :: st) M := by
  obtain ⟨p, l, e, R, s, m, args, below, meth, c, cells, slots, Q, D, cT, ad, nL⟩ := X
  intro H locs ls hl hP hD hS
  exact lv_istore_n (rest := st.map (cvz ad)) h.1 h.2.1 hd rfl hl hn rfl (fun ls' hl' => k H locs ls' (lvS_has hnd (fun z => by cases z) hl') hP hD hS)
theorem r_istore {i : Nat} {x : Int32} (h : Okz X cc own d) (hd : decode cc pc = .ok (.istore i, 2)) (hn : i < X.2.2.2.2.2.2.2.2.2.2.2.2.2.2.2.2) (hnd : ndz lv = true) (k : Gz X (pc + 2) (lvS lv i (.int x)) st M) : Gz X pc lv (.int x :: st) M := by
  obtain ⟨p, l, e, R, s, m, args, below, meth, c, cells, slots, Q, D, cT, ad, nL⟩ := X
  intro H locs ls hl hP hD hS
  exact lv_istore (rest := st.map (cvz ad)) h.1 h.2.1 hd hl hn rfl (fun ls' hl' => k H locs ls' (lvS_has hnd (fun z => by cases z) hl') hP hD hS)
theorem r_lload_n {i : Fin 4} {x : Int64} (h : Okz X cc own d) (hd : decode cc pc = .ok (.lload_n i, 1)) (hv : lv[i.val]? = some (.long x)) (k : Gz X (pc + 1) lv (.long x :: st) M) : Gz X pc lv (st) M := by
  obtain ⟨p, l, e, R, s, m, args, below, meth, c, cells, slots, Q, D, cT, ad, nL⟩ := X
  intro H locs ls hl hP hD hS
  exact lv_lload_n (rest := st.map (cvz ad)) h.1 h.2.1 hd rfl (lvK_at hl hv (fun z => by cases z)) (k H locs ls hl hP hD hS)
theorem r_lload {i : Nat} {x : Int64} (h : Okz X cc own d) (hd : decode cc pc = .ok (.lload i, 2)) (hv : lv[i]? = some (.long x)) (k : Gz X (pc + 2) lv (.long x :: st) M) : Gz X pc lv (st) M := by
  obtain ⟨p, l, e, R, s, m, args, below, meth, c, cells, slots, Q, D, cT, ad, nL⟩ := X
  intro H locs ls hl hP hD hS
  exact lv_lload (rest := st.map (cvz ad)) h.1 h.2.1 hd (lvK_at hl hv (fun z => by cases z)) (k H locs ls hl hP hD hS)
theorem r_lstore_n {i : Fin 4} {x : Int64} (h : Okz X cc own d) (hd : decode cc pc = .ok (.lstore_n i, 1)) (hn : i.val + 1 < X.2.2.2.2.2.2.2.2.2.2.2.2.2.2.2.2) (hnd : ndz lv = true) (k : Gz X (pc + 1) (lvS2 lv i.val (.long x)) st M) : Gz X pc lv (.long x :: st) M := by
  obtain ⟨p, l, e, R, s, m, args, below, meth, c, cells, slots, Q, D, cT, ad, nL⟩ := X
  intro H locs ls hl hP hD hS
  exact lv_lstore_n (rest := st.map (cvz ad)) h.1 h.2.1 hd rfl hl hn rfl (fun ls' hl' => k H locs ls' (lvS2_has hnd (fun z => by cases z) hl') hP hD hS)
theorem r_lstore {i : Nat} {x : Int64} (h : Okz X cc own d) (hd : decode cc pc = .ok (.lstore i, 2)) (hn : i + 1 < X.2.2.2.2.2.2.2.2.2.2.2.2.2.2.2.2) (hnd : ndz lv = true) (k : Gz X (pc + 2) (lvS2 lv i (.long x)) st M) : Gz X pc lv (.long x :: st) M := by
  obtain ⟨p, l, e, R, s, m, args, below, meth, c, cells, slots, Q, D, cT, ad, nL⟩ := X
  intro H locs ls hl hP hD hS
  exact lv_lstore (rest := st.map (cvz ad)) h.1 h.2.1 hd hl hn rfl (fun ls' hl' => k H locs ls' (lvS2_has hnd (fun z => by cases z) hl') hP hD hS)
theorem r_aload_n {i : Fin 4} {x : Nat} (h : Okz X cc own d) (hd : decode cc pc = .ok (.aload_n i, 1)) (hv : lv[i.val]? = some (.ref x)) (k : Gz X (pc + 1) lv (.ref x :: st) M) : Gz X pc lv (st) M := by
  obtain ⟨p, l, e, R, s, m, args, below, meth, c, cells, slots, Q, D, cT, ad, nL⟩ := X
  intro H locs ls hl hP hD hS
  exact lv_aload_n (rest := st.map (cvz ad)) h.1 h.2.1 hd rfl (lvK_at hl hv (fun z => by cases z)) (k H locs ls hl hP hD hS)
theorem r_aload {i : Nat} {x : Nat} (h : Okz X cc own d) (hd : decode cc pc = .ok (.aload i, 2)) (hv : lv[i]? = some (.ref x)) (k : Gz X (pc + 2) lv (.ref x :: st) M) : Gz X pc lv (st) M := by
  obtain ⟨p, l, e, R, s, m, args, below, meth, c, cells, slots, Q, D, cT, ad, nL⟩ := X
  intro H locs ls hl hP hD hS
  exact lv_aload (rest := st.map (cvz ad)) h.1 h.2.1 hd (lvK_at hl hv (fun z => by cases z)) (k H locs ls hl hP hD hS)
theorem r_astore_n {i : Fin 4} {x : Nat} (h : Okz X cc own d) (hd : decode cc pc = .ok (.astore_n i, 1)) (hn : i.val < X.2.2.2.2.2.2.2.2.2.2.2.2.2.2.2.2) (hnd : ndz lv = true) (k : Gz X (pc + 1) (lvS lv i.val (.ref x)) st M) : Gz X pc lv (.ref x :: st) M := by
  obtain ⟨p, l, e, R, s, m, args, below, meth, c, cells, slots, Q, D, cT, ad, nL⟩ := X
  intro H locs ls hl hP hD hS
  exact lv_astore_n (rest := st.map (cvz ad)) h.1 h.2.1 hd rfl hl hn rfl (fun ls' hl' => k H locs ls' (lvS_has hnd (fun z => by cases z) hl') hP hD hS)
theorem r_astore {i : Nat} {x : Nat} (h : Okz X cc own d) (hd : decode cc pc = .ok (.astore i, 2)) (hn : i < X.2.2.2.2.2.2.2.2.2.2.2.2.2.2.2.2) (hnd : ndz lv = true) (k : Gz X (pc + 2) (lvS lv i (.ref x)) st M) : Gz X pc lv (.ref x :: st) M := by
  obtain ⟨p, l, e, R, s, m, args, below, meth, c, cells, slots, Q, D, cT, ad, nL⟩ := X
  intro H locs ls hl hP hD hS
  exact lv_astore (rest := st.map (cvz ad)) h.1 h.2.1 hd hl hn rfl (fun ls' hl' => k H locs ls' (lvS_has hnd (fun z => by cases z) hl') hP hD hS)
theorem r_iinc {i : Nat} {n : Int} {x v : Int32} (h : Okz X cc own d) (hd : decode cc pc = .ok (.iinc i n, 3)) (hv : lv[i]? = some (.int x)) (he : x + Int32.ofInt n = v) (hn : i < X.2.2.2.2.2.2.2.2.2.2.2.2.2.2.2.2) (hnd : ndz lv = true) (k : Gz X (pc + 3) (lvS lv i (.int v)) st M) : Gz X pc lv st M := by
  obtain ⟨p, l, e, R, s, m, args, below, meth, c, cells, slots, Q, D, cT, ad, nL⟩ := X
  intro H locs ls hl hP hD hS
  obtain ⟨j, hj⟩ := List.getElem?_of_mem (lvK_mem (ad := ad) (lv := lv) (q := (i, .int x)) |>.mpr ⟨.int x, hv, (fun z => by cases z), rfl⟩)
  exact lv_iinc (rest := st.map (cvz ad)) h.1 h.2.1 hd hl hj he hn rfl (fun ls' hl' => k H locs ls' (lvS_has hnd (fun z => by cases z) hl') hP hD hS)
theorem r_if_eq {x : Int32} {off : Int} (tgt : Nat) (h : Okz X cc own d) (hd : decode cc pc = .ok (.ifCond .eq off, 3)) (ht : (pc : Int) + off = (tgt : Int)) (kt : x = 0 → Gz X tgt lv st M) (kf : ¬ x = 0 → Gz X (pc + 3) lv st M) : Gz X pc lv (.int x :: st) M := by
  obtain ⟨p, l, e, R, s, m, args, below, meth, c, cells, slots, Q, D, cT, ad, nL⟩ := X
  intro H locs ls hl hP hD hS
  exact lv_if_eq (rest := st.map (cvz ad)) h.1 h.2.1 hd ht (fun q => kt q H locs ls hl hP hD hS) (fun q => kf q H locs ls hl hP hD hS)
theorem r_icmp_eq {x y : Int32} {off : Int} (tgt : Nat) (h : Okz X cc own d) (hd : decode cc pc = .ok (.if_icmp .eq off, 3)) (ht : (pc : Int) + off = (tgt : Int)) (kt : x = y → Gz X tgt lv st M) (kf : ¬ x = y → Gz X (pc + 3) lv st M) : Gz X pc lv (.int y :: .int x :: st) M := by
  obtain ⟨p, l, e, R, s, m, args, below, meth, c, cells, slots, Q, D, cT, ad, nL⟩ := X
  intro H locs ls hl hP hD hS
  exact lv_icmp_eq (rest := st.map (cvz ad)) h.1 h.2.1 hd ht (fun q => kt q H locs ls hl hP hD hS) (fun q => kf q H locs ls hl hP hD hS)
theorem r_if_ne {x : Int32} {off : Int} (tgt : Nat) (h : Okz X cc own d) (hd : decode cc pc = .ok (.ifCond .ne off, 3)) (ht : (pc : Int) + off = (tgt : Int)) (kt : ¬ x = 0 → Gz X tgt lv st M) (kf : x = 0 → Gz X (pc + 3) lv st M) : Gz X pc lv (.int x :: st) M := by
  obtain ⟨p, l, e, R, s, m, args, below, meth, c, cells, slots, Q, D, cT, ad, nL⟩ := X
  intro H locs ls hl hP hD hS
  exact lv_if_ne (rest := st.map (cvz ad)) h.1 h.2.1 hd ht (fun q => kt q H locs ls hl hP hD hS) (fun q => kf q H locs ls hl hP hD hS)
theorem r_icmp_ne {x y : Int32} {off : Int} (tgt : Nat) (h : Okz X cc own d) (hd : decode cc pc = .ok (.if_icmp .ne off, 3)) (ht : (pc : Int) + off = (tgt : Int)) (kt : ¬ x = y → Gz X tgt lv st M) (kf : x = y → Gz X (pc + 3) lv st M) : Gz X pc lv (.int y :: .int x :: st) M := by
  obtain ⟨p, l, e, R, s, m, args, below, meth, c, cells, slots, Q, D, cT, ad, nL⟩ := X
  intro H locs ls hl hP hD hS
  exact lv_icmp_ne (rest := st.map (cvz ad)) h.1 h.2.1 hd ht (fun q => kt q H locs ls hl hP hD hS) (fun q => kf q H locs ls hl hP hD hS)
theorem r_if_lt {x : Int32} {off : Int} (tgt : Nat) (h : Okz X cc own d) (hd : decode cc pc = .ok (.ifCond .lt off, 3)) (ht : (pc : Int) + off = (tgt : Int)) (kt : x < 0 → Gz X tgt lv st M) (kf : ¬ x < 0 → Gz X (pc + 3) lv st M) : Gz X pc lv (.int x :: st) M := by
  obtain ⟨p, l, e, R, s, m, args, below, meth, c, cells, slots, Q, D, cT, ad, nL⟩ := X
  intro H locs ls hl hP hD hS
  exact lv_if_lt (rest := st.map (cvz ad)) h.1 h.2.1 hd ht (fun q => kt q H locs ls hl hP hD hS) (fun q => kf q H locs ls hl hP hD hS)
theorem r_icmp_lt {x y : Int32} {off : Int} (tgt : Nat) (h : Okz X cc own d) (hd : decode cc pc = .ok (.if_icmp .lt off, 3)) (ht : (pc : Int) + off = (tgt : Int)) (kt : x < y → Gz X tgt lv st M) (kf : ¬ x < y → Gz X (pc + 3) lv st M) : Gz X pc lv (.int y :: .int x :: st) M := by
  obtain ⟨p, l, e, R, s, m, args, below, meth, c, cells, slots, Q, D, cT, ad, nL⟩ := X
  intro H locs ls hl hP hD hS
  exact lv_icmp_lt (rest := st.map (cvz ad)) h.1 h.2.1 hd ht (fun q => kt q H locs ls hl hP hD hS) (fun q => kf q H locs ls hl hP hD hS)
theorem r_if_ge {x : Int32} {off : Int} (tgt : Nat) (h : Okz X cc own d) (hd : decode cc pc = .ok (.ifCond .ge off, 3)) (ht : (pc : Int) + off = (tgt : Int)) (kt : 0 ≤ x → Gz X tgt lv st M) (kf : ¬ 0 ≤ x → Gz X (pc + 3) lv st M) : Gz X pc lv (.int x :: st) M := by
  obtain ⟨p, l, e, R, s, m, args, below, meth, c, cells, slots, Q, D, cT, ad, nL⟩ := X
  intro H locs ls hl hP hD hS
  exact lv_if_ge (rest := st.map (cvz ad)) h.1 h.2.1 hd ht (fun q => kt q H locs ls hl hP hD hS) (fun q => kf q H locs ls hl hP hD hS)
theorem r_icmp_ge {x y : Int32} {off : Int} (tgt : Nat) (h : Okz X cc own d) (hd : decode cc pc = .ok (.if_icmp .ge off, 3)) (ht : (pc : Int) + off = (tgt : Int)) (kt : y ≤ x → Gz X tgt lv st M) (kf : ¬ y ≤ x → Gz X (pc + 3) lv st M) : Gz X pc lv (.int y :: .int x :: st) M := by
  obtain ⟨p, l, e, R, s, m, args, below, meth, c, cells, slots, Q, D, cT, ad, nL⟩ := X
  intro H locs ls hl hP hD hS
  exact lv_icmp_ge (rest := st.map (cvz ad)) h.1 h.2.1 hd ht (fun q => kt q H locs ls hl hP hD hS) (fun q => kf q H locs ls hl hP hD hS)
theorem r_if_gt {x : Int32} {off : Int} (tgt : Nat) (h : Okz X cc own d) (hd : decode cc pc = .ok (.ifCond .gt off, 3)) (ht : (pc : Int) + off = (tgt : Int)) (kt : 0 < x → Gz X tgt lv st M) (kf : ¬ 0 < x → Gz X (pc + 3) lv st M) : Gz X pc lv (.int x :: st) M := by
  obtain ⟨p, l, e, R, s, m, args, below, meth, c, cells, slots, Q, D, cT, ad, nL⟩ := X
  intro H locs ls hl hP hD hS
  exact lv_if_gt (rest := st.map (cvz ad)) h.1 h.2.1 hd ht (fun q => kt q H locs ls hl hP hD hS) (fun q => kf q H locs ls hl hP hD hS)
theorem r_icmp_gt {x y : Int32} {off : Int} (tgt : Nat) (h : Okz X cc own d) (hd : decode cc pc = .ok (.if_icmp .gt off, 3)) (ht : (pc : Int) + off = (tgt : Int)) (kt : y < x → Gz X tgt lv st M) (kf : ¬ y < x → Gz X (pc + 3) lv st M) : Gz X pc lv (.int y :: .int x :: st) M := by
  obtain ⟨p, l, e, R, s, m, args, below, meth, c, cells, slots, Q, D, cT, ad, nL⟩ := X
  intro H locs ls hl hP hD hS
  exact lv_icmp_gt (rest := st.map (cvz ad)) h.1 h.2.1 hd ht (fun q => kt q H locs ls hl hP hD hS) (fun q => kf q H locs ls hl hP hD hS)
theorem r_if_le {x : Int32} {off : Int} (tgt : Nat) (h : Okz X cc own d) (hd : decode cc pc = .ok (.ifCond .le off, 3)) (ht : (pc : Int) + off = (tgt : Int)) (kt : x ≤ 0 → Gz X tgt lv st M) (kf : ¬ x ≤ 0 → Gz X (pc + 3) lv st M) : Gz X pc lv (.int x :: st) M := by
  obtain ⟨p, l, e, R, s, m, args, below, meth, c, cells, slots, Q, D, cT, ad, nL⟩ := X
  intro H locs ls hl hP hD hS
  exact lv_if_le (rest := st.map (cvz ad)) h.1 h.2.1 hd ht (fun q => kt q H locs ls hl hP hD hS) (fun q => kf q H locs ls hl hP hD hS)
theorem r_icmp_le {x y : Int32} {off : Int} (tgt : Nat) (h : Okz X cc own d) (hd : decode cc pc = .ok (.if_icmp .le off, 3)) (ht : (pc : Int) + off = (tgt : Int)) (kt : x ≤ y → Gz X tgt lv st M) (kf : ¬ x ≤ y → Gz X (pc + 3) lv st M) : Gz X pc lv (.int y :: .int x :: st) M := by
  obtain ⟨p, l, e, R, s, m, args, below, meth, c, cells, slots, Q, D, cT, ad, nL⟩ := X
  intro H locs ls hl hP hD hS
  exact lv_icmp_le (rest := st.map (cvz ad)) h.1 h.2.1 hd ht (fun q => kt q H locs ls hl hP hD hS) (fun q => kf q H locs ls hl hP hD hS)
theorem r_goto {off : Int} (tgt : Nat) (h : Okz X cc own d) (hd : decode cc pc = .ok (.goto off, 3)) (ht : (pc : Int) + off = (tgt : Int)) (k : Gz X tgt lv st M) : Gz X pc lv st M := by
  obtain ⟨p, l, e, R, s, m, args, below, meth, c, cells, slots, Q, D, cT, ad, nL⟩ := X
  intro H locs ls hl hP hD hS
  exact lv_goto h.1 h.2.1 hd ht (k H locs ls hl hP hD hS)
theorem r_tabIn {dflt lo hi : Int} {offs : Array Int} {len : Nat} {x : Int32} {off : Int} (tgt : Nat) (h : Okz X cc own d) (hd : decode cc pc = .ok (.tableswitch dflt lo hi offs, len)) (h1 : ¬ x.toInt < lo) (h2 : ¬ hi < x.toInt) (ho : offs[(x.toInt - lo).toNat]? = some off) (ht : (pc : Int) + off = (tgt : Int)) (k : Gz X tgt lv st M) : Gz X pc lv (.int x :: st) M := by
  obtain ⟨p, l, e, R, s, m, args, below, meth, c, cells, slots, Q, D, cT, ad, nL⟩ := X
  intro H locs ls hl hP hD hS
  exact lv_tableIn (rest := st.map (cvz ad)) h.1 h.2.1 hd h1 h2 ho ht (k H locs ls hl hP hD hS)
theorem r_tabOut {dflt lo hi : Int} {offs : Array Int} {len : Nat} {x : Int32} (tgt : Nat) (h : Okz X cc own d) (hd : decode cc pc = .ok (.tableswitch dflt lo hi offs, len)) (h1 : x.toInt < lo ∨ hi < x.toInt) (ht : (pc : Int) + dflt = (tgt : Int)) (k : Gz X tgt lv st M) : Gz X pc lv (.int x :: st) M := by
  obtain ⟨p, l, e, R, s, m, args, below, meth, c, cells, slots, Q, D, cT, ad, nL⟩ := X
  intro H locs ls hl hP hD hS
  exact lv_tableOut (rest := st.map (cvz ad)) h.1 h.2.1 hd h1 ht (k H locs ls hl hP hD hS)
theorem r_dup {v : Value} (h : Okz X cc own d) (hd : decode cc pc = .ok (.dup, 1)) (hc : v.category = 1) (k : Gz X (pc + 1) lv (v :: v :: st) M) : Gz X pc lv (v :: st) M := by
  obtain ⟨p, l, e, R, s, m, args, below, meth, c, cells, slots, Q, D, cT, ad, nL⟩ := X
  intro H locs ls hl hP hD hS
  exact lv_dup (rest := st.map (cvz ad)) h.1 h.2.1 hd (by rw [cvz_cat]; exact hc) (k H locs ls hl hP hD hS)
theorem r_pop {v : Value} (h : Okz X cc own d) (hd : decode cc pc = .ok (.pop, 1)) (hc : v.category = 1) (k : Gz X (pc + 1) lv (st) M) : Gz X pc lv (v :: st) M := by
  obtain ⟨p, l, e, R, s, m, args, below, meth, c, cells, slots, Q, D, cT, ad, nL⟩ := X
  intro H locs ls hl hP hD hS
  exact lv_pop (rest := st.map (cvz ad)) h.1 h.2.1 hd (by rw [cvz_cat]; exact hc) (k H locs ls hl hP hD hS)
theorem r_dup2 {v w : Value} (h : Okz X cc own d) (hd : decode cc pc = .ok (.dup2, 1)) (hc : v.category = 1) (hc2 : w.category = 1) (k : Gz X (pc + 1) lv (v :: w :: v :: w :: st) M) : Gz X pc lv (v :: w :: st) M := by
  obtain ⟨p, l, e, R, s, m, args, below, meth, c, cells, slots, Q, D, cT, ad, nL⟩ := X
  intro H locs ls hl hP hD hS
  exact lv_dup2_11 (rest := st.map (cvz ad)) h.1 h.2.1 hd (by rw [cvz_cat]; exact hc) (by rw [cvz_cat]; exact hc2) (k H locs ls hl hP hD hS)
theorem r_dup2l {v : Value} (h : Okz X cc own d) (hd : decode cc pc = .ok (.dup2, 1)) (hc : v.category = 2) (k : Gz X (pc + 1) lv (v :: v :: st) M) : Gz X pc lv (v :: st) M := by
  obtain ⟨p, l, e, R, s, m, args, below, meth, c, cells, slots, Q, D, cT, ad, nL⟩ := X
  intro H locs ls hl hP hD hS
  exact lv_dup2_2 (rest := st.map (cvz ad)) h.1 h.2.1 hd (by rw [cvz_cat]; exact hc) (k H locs ls hl hP hD hS)
end RW
