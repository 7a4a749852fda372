/-! rows of fields, arrays, calls, ends -/
def CKz (ci : Nat) (C : String) (T : u_T) (N : Nat) : Prop := cls6[ci]? = some (C, T, N) ∧ (∀ w ∈ u_ws C T N, w ∈ tb) ∧ (∃ ty0 : Nat → FieldType, ∀ k, k < N → parseFieldDescriptor (T k).2.2.1 = some (ty0 k)) ∧ (∀ a, a < N → ∀ b, b < N → a ≠ b → (T a).2.1 ≠ (T b).2.1)
def FLz (own : String) (idx ci k : Nat) (ty : FieldType) (fin : Bool) : Prop := ∃ (C : String) (T : u_T) (N : Nat), CKz ci C T N ∧ k < N ∧ parseFieldDescriptor (T k).2.2.1 = some ty ∧ (T k).2.2.2 = fin ∧ (Cond.fieldLink own idx (T k).1 (T k).2.1 (T k).2.2.1 ∈ tb ∨ ∃ host, Cond.fieldLinkNest own idx (T k).1 (T k).2.1 (T k).2.2.1 host ∈ nw)
theorem ck_of {ci N : Nat} {C : String} {T : u_T} (ps : List Nat) (h1 : cls6[ci]? = some (C, T, N)) (h2 : ∀ k, k < N → lw_tbl[ps.getD k 0]? = some (u_lay C T k) ∧ goodWord (u_lay C T k) = true) (ty0 : Nat → FieldType) (h3 : ∀ k, k < N → parseFieldDescriptor (T k).2.2.1 = some (ty0 k)) (h4 : ∀ a, a < N → ∀ b, b < N → a ≠ b → (T a).2.1 ≠ (T b).2.1) : CKz ci C T N := by
  refine ⟨h1, fun w hw => ?_, ⟨ty0, h3⟩, h4⟩
  obtain ⟨k, hk, rfl⟩ := List.mem_map.mp hw
  have := h2 k (List.mem_range.mp hk)
  exact tb_of _ this.1 this.2
theorem slt_put {ad : Nat → Nat} {M : Mm} {q k : Nat} {x : Int32} {ds : List Nat} (hk : ds[k]? = some 0) : ds.mapIdx (fun j c => sltV ad (mput M q k x) q j c) = (ds.mapIdx (fun j c => sltV ad M q j c)).set k (.int x) := by
  apply List.ext_getElem?
  intro j
  rw [List.getElem?_mapIdx]
  by_cases hj : j = k
  · subst hj
    have hl := (List.getElem?_eq_some_iff.mp hk).1
    rw [List.getElem?_set_self (by rw [List.length_mapIdx]; exact hl), hk]
    simp [sltV, mput, upd]
  · rw [List.getElem?_set_ne (Ne.symm hj), List.getElem?_mapIdx]
    cases hs : ds[j]? with
    | none => rfl
    | some c =>
      simp only [Option.map_some]
      congr 1
      match c with
      | 0 => simp [sltV, mput, upd, hj]
      | 1 => rfl
      | t + 2 => rfl
theorem slt_putL {ad : Nat → Nat} {M : Mm} {q k : Nat} {x : Int64} {ds : List Nat} (hk : ds[k]? = some 1) : ds.mapIdx (fun j c => sltV ad (mputL M q k x) q j c) = (ds.mapIdx (fun j c => sltV ad M q j c)).set k (.long x) := by
  apply List.ext_getElem?
  intro j
  rw [List.getElem?_mapIdx]
  by_cases hj : j = k
  · subst hj
    have hl := (List.getElem?_eq_some_iff.mp hk).1
    rw [List.getElem?_set_self (by rw [List.length_mapIdx]; exact hl), hk]
    simp [sltV, mputL, vp_updL]
  · rw [List.getElem?_set_ne (Ne.symm hj), List.getElem?_mapIdx]
    cases hs : ds[j]? with
    | none => rfl
    | some c =>
      simp only [Option.map_some]
      congr 1
      match c with
      | 0 => rfl
      | 1 => simp [sltV, mputL, vp_updL, hj]
      | t + 2 => rfl
theorem mput_ne {M : Mm} {q k : Nat} {x : Int32} : ∀ a, a ≠ q → (mput M q k x).1 a = M.1 a := fun a h => if_neg h
theorem mputL_ne {M : Mm} {q k : Nat} {x : Int64} : ∀ a, a ≠ q → (mputL M q k x).2 a = M.2 a := fun a h => if_neg h
theorem mset_ne {M : Mm} {q : Nat} {f : Nat → Int32} : ∀ a, a ≠ q → (mset M q f).1 a = M.1 a := fun a h => if_neg h
theorem mput_at (M : Mm) (q k : Nat) (x : Int32) : (mput M q k x).1 q = upd (M.1 q) k x := if_pos rfl
theorem mset_at (M : Mm) (q : Nat) (f : Nat → Int32) : (mset M q f).1 q = f := if_pos rfl
section RH
variable {X : Cxz} {cc : ByteArray} {own : String} {d pc : Nat} {lv st : List Value} {M : Mm}
theorem r_getI {idx ci k q : Nat} {ty : FieldType} {fin : Bool} (h : Okz X cc own d) (hd : decode cc pc = .ok (.getfield idx, 3)) (fl : FLz own idx ci k ty fin) (hf : fI q ci k = true) (kk : Gz X (pc + 3) lv (.int (M.1 q k) :: st) M) : Gz X pc lv (.ref q :: st) M := by
  obtain ⟨p, l, e, R, s, m, args, below, meth, c, cells, slots, Q, D, cT, ad, nL⟩ := X
  intro H locs ls hl hP hD hS
  obtain ⟨ds, h1, h2, h3⟩ := fI_sp hf
  obtain ⟨C, T, N, ⟨c1, c2, c3, c4⟩, hk, -, -, hlk⟩ := fl
  have he := wlz_at (ad := ad) (cT := cT) (M := M) h1
  rw [celE_obj h2] at he
  have hv : (ds.mapIdx (fun k c => sltV ad M q k c))[k]? = some (.int (M.1 q k)) := by rw [List.getElem?_mapIdx, h3]; rfl
  rcases hlk with hlk | ⟨host, hlk⟩
  · exact va_get (rest := st.map (cvz ad)) h.1 h.2.1 h.2.2.2.2.1 c2 h.2.2.2.1 h.2.2.2.2.2.2.2.1 hP q he c1 k hk (h.2.2.2.2.1 _ hlk) (fun _ z => z) hv hd (kk H locs ls hl hP hD hS)
  · exact va_getN (rest := st.map (cvz ad)) h.1 h.2.1 h.2.2.2.2.1 c2 h.2.2.2.1 h.2.2.2.2.2.2.2.1 hP q he c1 k hk (h.2.2.2.2.2.1.use hlk) (fun _ z => z) hv hd (kk H locs ls hl hP hD hS)
theorem r_getL {idx ci k q : Nat} {ty : FieldType} {fin : Bool} (h : Okz X cc own d) (hd : decode cc pc = .ok (.getfield idx, 3)) (fl : FLz own idx ci k ty fin) (hf : fL q ci k = true) (kk : Gz X (pc + 3) lv (.long (M.2 q k) :: st) M) : Gz X pc lv (.ref q :: st) M := by
  obtain ⟨p, l, e, R, s, m, args, below, meth, c, cells, slots, Q, D, cT, ad, nL⟩ := X
  intro H locs ls hl hP hD hS
  obtain ⟨ds, h1, h2, h3⟩ := fL_sp hf
  obtain ⟨C, T, N, ⟨c1, c2, c3, c4⟩, hk, -, -, hlk⟩ := fl
  have he := wlz_at (ad := ad) (cT := cT) (M := M) h1
  rw [celE_obj h2] at he
  have hv : (ds.mapIdx (fun k c => sltV ad M q k c))[k]? = some (.long (M.2 q k)) := by rw [List.getElem?_mapIdx, h3]; rfl
  rcases hlk with hlk | ⟨host, hlk⟩
  · exact va_get (rest := st.map (cvz ad)) h.1 h.2.1 h.2.2.2.2.1 c2 h.2.2.2.1 h.2.2.2.2.2.2.2.1 hP q he c1 k hk (h.2.2.2.2.1 _ hlk) (fun _ z => z) hv hd (kk H locs ls hl hP hD hS)
  · exact va_getN (rest := st.map (cvz ad)) h.1 h.2.1 h.2.2.2.2.1 c2 h.2.2.2.1 h.2.2.2.2.2.2.2.1 hP q he c1 k hk (h.2.2.2.2.2.1.use hlk) (fun _ z => z) hv hd (kk H locs ls hl hP hD hS)
theorem r_getR {idx ci k q : Nat} (t : Nat) {ty : FieldType} {fin : Bool} (h : Okz X cc own d) (hd : decode cc pc = .ok (.getfield idx, 3)) (fl : FLz own idx ci k ty fin) (hf : fR q ci k t = true) (kk : Gz X (pc + 3) lv (.ref t :: st) M) : Gz X pc lv (.ref q :: st) M := by
  obtain ⟨p, l, e, R, s, m, args, below, meth, c, cells, slots, Q, D, cT, ad, nL⟩ := X
  intro H locs ls hl hP hD hS
  obtain ⟨ds, h1, h2, h3⟩ := fR_sp hf
  obtain ⟨C, T, N, ⟨c1, c2, c3, c4⟩, hk, -, -, hlk⟩ := fl
  have he := wlz_at (ad := ad) (cT := cT) (M := M) h1
  rw [celE_obj h2] at he
  have hv : (ds.mapIdx (fun k c => sltV ad M q k c))[k]? = some (.ref (ad t)) := by rw [List.getElem?_mapIdx, h3]; rfl
  rcases hlk with hlk | ⟨host, hlk⟩
  · exact va_get (rest := st.map (cvz ad)) h.1 h.2.1 h.2.2.2.2.1 c2 h.2.2.2.1 h.2.2.2.2.2.2.2.1 hP q he c1 k hk (h.2.2.2.2.1 _ hlk) (fun _ z => z) hv hd (kk H locs ls hl hP hD hS)
  · exact va_getN (rest := st.map (cvz ad)) h.1 h.2.1 h.2.2.2.2.1 c2 h.2.2.2.1 h.2.2.2.2.2.2.2.1 hP q he c1 k hk (h.2.2.2.2.2.1.use hlk) (fun _ z => z) hv hd (kk H locs ls hl hP hD hS)
theorem r_putT {idx ci k q : Nat} {x : Int32} {ty : FieldType} (h : Okz X cc own d) (hd : decode cc pc = .ok (.putfield idx, 3)) (fl : FLz own idx ci k ty false) (hf : fI q ci k = true) (hn : narrow ty (.int x) = .int x) (hft : fits ty (.int x) = true) (kk : Gz X (pc + 3) lv st (mput M q k x)) : Gz X pc lv (.int x :: .ref q :: st) M := by
  obtain ⟨p, l, e, R, s, m, args, below, meth, c, cells, slots, Q, D, cT, ad, nL⟩ := X
  intro H locs ls hl hP hD hS
  obtain ⟨ds, h1, h2, h3⟩ := fI_sp hf
  obtain ⟨C, T, N, ⟨c1, c2, ⟨ty0, c3⟩, c4⟩, hk, hty, hfin, hlk⟩ := fl
  have he := wlz_at (ad := ad) (cT := cT) (M := M) h1
  rw [celE_obj h2] at he
  have hlen : k < (ds.mapIdx (fun k c => sltV ad M q k c)).length := by rw [List.length_mapIdx]; exact (List.getElem?_eq_some_iff.mp h3).1
  have hw : (wlz ad cT M).set q (ad q, .inr (ci, (ds.mapIdx (fun k c => sltV ad M q k c)).set k (.int x))) = wlz ad cT (mput M q k x) := wlz_set h1 (by rw [celE_obj h2, slt_put h3]) mput_ne (fun _ _ => rfl)
  rcases hlk with hlk | ⟨host, hlk⟩
  · exact va_put (rest := st.map (cvz ad)) h.1 h.2.1 h.2.2.2.2.1 c2 ty0 c3 c4 h.2.2.2.1 h.2.2.2.2.2.2.2.1 hP hD hS q he c1 k hk (h.2.2.2.2.1 _ hlk) (fun _ z => z) hfin hty hn hft hlen hd (fun H1 locs1 a1 a2 a3 => kk H1 locs1 ls hl (by rw [← hw]; exact a1) (wlz_D hD) a3)
  · exact va_putN (rest := st.map (cvz ad)) h.1 h.2.1 h.2.2.2.2.1 c2 ty0 c3 c4 h.2.2.2.1 h.2.2.2.2.2.2.2.1 hP hD hS q he c1 k hk (h.2.2.2.2.2.1.use hlk) (fun _ z => z) hfin hty hn hft hlen hd (fun H1 locs1 a1 a2 a3 => kk H1 locs1 ls hl (by rw [← hw]; exact a1) (wlz_D hD) a3)
theorem r_putI {idx ci k q : Nat} {x : Int32} (h : Okz X cc own d) (hd : decode cc pc = .ok (.putfield idx, 3)) (fl : FLz own idx ci k .int false) (hf : fI q ci k = true) (kk : Gz X (pc + 3) lv st (mput M q k x)) : Gz X pc lv (.int x :: .ref q :: st) M := r_putT h hd fl hf rfl rfl kk
theorem r_putL {idx ci k q : Nat} {x : Int64} (h : Okz X cc own d) (hd : decode cc pc = .ok (.putfield idx, 3)) (fl : FLz own idx ci k .long false) (hf : fL q ci k = true) (kk : Gz X (pc + 3) lv st (mputL M q k x)) : Gz X pc lv (.long x :: .ref q :: st) M := by
  obtain ⟨p, l, e, R, s, m, args, below, meth, c, cells, slots, Q, D, cT, ad, nL⟩ := X
  intro H locs ls hl hP hD hS
  obtain ⟨ds, h1, h2, h3⟩ := fL_sp hf
  obtain ⟨C, T, N, ⟨c1, c2, ⟨ty0, c3⟩, c4⟩, hk, hty, hfin, hlk⟩ := fl
  have he := wlz_at (ad := ad) (cT := cT) (M := M) h1
  rw [celE_obj h2] at he
  have hlen : k < (ds.mapIdx (fun k c => sltV ad M q k c)).length := by rw [List.length_mapIdx]; exact (List.getElem?_eq_some_iff.mp h3).1
  have hw : (wlz ad cT M).set q (ad q, .inr (ci, (ds.mapIdx (fun k c => sltV ad M q k c)).set k (.long x))) = wlz ad cT (mputL M q k x) := wlz_set h1 (by rw [celE_obj h2, slt_putL h3]) (fun _ _ => rfl) mputL_ne
  rcases hlk with hlk | ⟨host, hlk⟩
  · exact va_put (rest := st.map (cvz ad)) h.1 h.2.1 h.2.2.2.2.1 c2 ty0 c3 c4 h.2.2.2.1 h.2.2.2.2.2.2.2.1 hP hD hS q he c1 k hk (h.2.2.2.2.1 _ hlk) (fun _ z => z) hfin hty rfl rfl hlen hd (fun H1 locs1 a1 a2 a3 => kk H1 locs1 ls hl (by rw [← hw]; exact a1) (wlz_D hD) a3)
  · exact va_putN (rest := st.map (cvz ad)) h.1 h.2.1 h.2.2.2.2.1 c2 ty0 c3 c4 h.2.2.2.1 h.2.2.2.2.2.2.2.1 hP hD hS q he c1 k hk (h.2.2.2.2.2.1.use hlk) (fun _ z => z) hfin hty rfl rfl hlen hd (fun H1 locs1 a1 a2 a3 => kk H1 locs1 ls hl (by rw [← hw]; exact a1) (wlz_D hD) a3)
theorem r_iald (n : Nat) {q : Nat} {i : Int32} (h : Okz X cc own d) (hd : decode cc pc = .ok (.iaload, 1)) (ha : aI 10 q n = true) (hin : vp_in i n) (kk : Gz X (pc + 1) lv (.int (M.1 q i.toNatClampNeg) :: st) M) : Gz X pc lv (.int i :: .ref q :: st) M := by
  obtain ⟨p, l, e, R, s, m, args, below, meth, c, cells, slots, Q, D, cT, ad, nL⟩ := X
  intro H locs ls hl hP hD hS
  obtain ⟨h1, h2, h3⟩ := aI_sp ha
  have he := wlz_at (ad := ad) (cT := cT) (M := M) h1
  rw [celE_arr h2 h3] at he
  exact va_iald (rest := st.map (cvz ad)) h.1 h.2.1 h.2.2.2.2.2.2.2.1 hP q 0 he rfl hin hd (kk H locs ls hl hP hD hS)
theorem r_bald (n : Nat) {q : Nat} {i : Int32} (h : Okz X cc own d) (hd : decode cc pc = .ok (.baload, 1)) (ha : aI 11 q n = true) (hin : vp_in i n) (kk : Gz X (pc + 1) lv (.int (M.1 q i.toNatClampNeg) :: st) M) : Gz X pc lv (.int i :: .ref q :: st) M := by
  obtain ⟨p, l, e, R, s, m, args, below, meth, c, cells, slots, Q, D, cT, ad, nL⟩ := X
  intro H locs ls hl hP hD hS
  obtain ⟨h1, h2, h3⟩ := aI_sp ha
  have he := wlz_at (ad := ad) (cT := cT) (M := M) h1
  rw [celE_arr h2 h3] at he
  exact va_bald (rest := st.map (cvz ad)) h.1 h.2.1 h.2.2.2.2.2.2.2.1 hP q 1 he rfl hin hd (kk H locs ls hl hP hD hS)
theorem r_zald (n : Nat) {q : Nat} {i : Int32} (h : Okz X cc own d) (hd : decode cc pc = .ok (.baload, 1)) (ha : aI 12 q n = true) (hin : vp_in i n) (kk : Gz X (pc + 1) lv (.int (M.1 q i.toNatClampNeg) :: st) M) : Gz X pc lv (.int i :: .ref q :: st) M := by
  obtain ⟨p, l, e, R, s, m, args, below, meth, c, cells, slots, Q, D, cT, ad, nL⟩ := X
  intro H locs ls hl hP hD hS
  obtain ⟨h1, h2, h3⟩ := aI_sp ha
  have he := wlz_at (ad := ad) (cT := cT) (M := M) h1
  rw [celE_arr h2 h3] at he
  exact va_zald (rest := st.map (cvz ad)) h.1 h.2.1 h.2.2.2.2.2.2.2.1 hP q 2 he rfl hin hd (kk H locs ls hl hP hD hS)
theorem r_iast (n : Nat) {q : Nat} {i x : Int32} (h : Okz X cc own d) (hd : decode cc pc = .ok (.iastore, 1)) (ha : aI 10 q n = true) (hin : vp_in i n) (kk : Gz X (pc + 1) lv st (mput M q i.toNatClampNeg x)) : Gz X pc lv (.int x :: .int i :: .ref q :: st) M := by
  obtain ⟨p, l, e, R, s, m, args, below, meth, c, cells, slots, Q, D, cT, ad, nL⟩ := X
  intro H locs ls hl hP hD hS
  obtain ⟨h1, h2, h3⟩ := aI_sp ha
  have he := wlz_at (ad := ad) (cT := cT) (M := M) h1
  rw [celE_arr h2 h3] at he
  have hw : (wlz ad cT M).set q (ad q, .inl (cT 10, n, .inl (upd (M.1 q) i.toNatClampNeg x))) = wlz ad cT (mput M q i.toNatClampNeg x) := wlz_set h1 (by rw [celE_arr h2 h3, mput_at]) mput_ne (fun _ _ => rfl)
  exact va_iast (rest := st.map (cvz ad)) h.1 h.2.1 h.2.2.2.2.2.2.2.1 hP hD hS q 0 he rfl hin hd (fun H1 locs1 a1 a2 a3 => kk H1 locs1 ls hl (by rw [← hw]; exact a1) (wlz_D hD) a3)
theorem r_bast (n : Nat) {q : Nat} {i x : Int32} (h : Okz X cc own d) (hd : decode cc pc = .ok (.bastore, 1)) (ha : aI 11 q n = true) (hin : vp_in i n) (kk : Gz X (pc + 1) lv st (mput M q i.toNatClampNeg (vp_nar .byte x))) : Gz X pc lv (.int x :: .int i :: .ref q :: st) M := by
  obtain ⟨p, l, e, R, s, m, args, below, meth, c, cells, slots, Q, D, cT, ad, nL⟩ := X
  intro H locs ls hl hP hD hS
  obtain ⟨h1, h2, h3⟩ := aI_sp ha
  have he := wlz_at (ad := ad) (cT := cT) (M := M) h1
  rw [celE_arr h2 h3] at he
  have hw : (wlz ad cT M).set q (ad q, .inl (cT 11, n, .inl (upd (M.1 q) i.toNatClampNeg (vp_nar .byte x)))) = wlz ad cT (mput M q i.toNatClampNeg (vp_nar .byte x)) := wlz_set h1 (by rw [celE_arr h2 h3, mput_at]) mput_ne (fun _ _ => rfl)
  exact va_bast (rest := st.map (cvz ad)) h.1 h.2.1 h.2.2.2.2.2.2.2.1 hP hD hS q 1 he rfl hin hd (fun H1 locs1 a1 a2 a3 => kk H1 locs1 ls hl (by rw [← hw]; exact a1) (wlz_D hD) a3)
theorem r_zast (n : Nat) {q : Nat} {i x : Int32} (h : Okz X cc own d) (hd : decode cc pc = .ok (.bastore, 1)) (ha : aI 12 q n = true) (hin : vp_in i n) (kk : Gz X (pc + 1) lv st (mput M q i.toNatClampNeg (vp_nar .boolean x))) : Gz X pc lv (.int x :: .int i :: .ref q :: st) M := by
  obtain ⟨p, l, e, R, s, m, args, below, meth, c, cells, slots, Q, D, cT, ad, nL⟩ := X
  intro H locs ls hl hP hD hS
  obtain ⟨h1, h2, h3⟩ := aI_sp ha
  have he := wlz_at (ad := ad) (cT := cT) (M := M) h1
  rw [celE_arr h2 h3] at he
  have hw : (wlz ad cT M).set q (ad q, .inl (cT 12, n, .inl (upd (M.1 q) i.toNatClampNeg (vp_nar .boolean x)))) = wlz ad cT (mput M q i.toNatClampNeg (vp_nar .boolean x)) := wlz_set h1 (by rw [celE_arr h2 h3, mput_at]) mput_ne (fun _ _ => rfl)
  exact va_zast (rest := st.map (cvz ad)) h.1 h.2.1 h.2.2.2.2.2.2.2.1 hP hD hS q 2 he rfl hin hd (fun H1 locs1 a1 a2 a3 => kk H1 locs1 ls hl (by rw [← hw]; exact a1) (wlz_D hD) a3)
theorem r_alen (ty n : Nat) {q : Nat} {v : Int32} (h : Okz X cc own d) (hd : decode cc pc = .ok (.arraylength, 1)) (ha : aI ty q n = true) (hv : Int32.ofNat n = v) (kk : Gz X (pc + 1) lv (.int v :: st) M) : Gz X pc lv (.ref q :: st) M := by
  obtain ⟨p, l, e, R, s, m, args, below, meth, c, cells, slots, Q, D, cT, ad, nL⟩ := X
  intro H locs ls hl hP hD hS
  obtain ⟨h1, h2, h3⟩ := aI_sp ha
  have he := wlz_at (ad := ad) (cT := cT) (M := M) h1
  rw [celE_arr h2 h3] at he
  rcases (show ty = 10 ∨ ty = 11 ∨ ty = 12 by omega) with rfl | rfl | rfl
  · exact va_alen (rest := st.map (cvz ad)) h.1 h.2.1 h.2.2.2.2.2.2.2.1 hP q 0 he (ty := .int) rfl hv hd (kk H locs ls hl hP hD hS)
  · exact va_alen (rest := st.map (cvz ad)) h.1 h.2.1 h.2.2.2.2.2.2.2.1 hP q 1 he (ty := .byte) rfl hv hd (kk H locs ls hl hP hD hS)
  · exact va_alen (rest := st.map (cvz ad)) h.1 h.2.1 h.2.2.2.2.2.2.2.1 hP q 2 he (ty := .boolean) rfl hv hd (kk H locs ls hl hP hD hS)
theorem r_aald (ty n t : Nat) {q : Nat} {i : Int32} (h : Okz X cc own d) (hd : decode cc pc = .ok (.aaload, 1)) (ha : aR ty q n i.toNatClampNeg t = true) (hin : vp_in i n) (kk : Gz X (pc + 1) lv (.ref t :: st) M) : Gz X pc lv (.int i :: .ref q :: st) M := by
  obtain ⟨p, l, e, R, s, m, args, below, meth, c, cells, slots, Q, D, cT, ad, nL⟩ := X
  intro H locs ls hl hP hD hS
  obtain ⟨ds, h1, h2, h3, h4⟩ := aR_sp ha
  have he := wlz_at (ad := ad) (cT := cT) (M := M) h1
  rw [celE_ra h2] at he
  have hv : va_rf ((ds[i.toNatClampNeg]?).map ad) = .ref (ad t) := by rw [h4]; rfl
  have key := kk H locs ls hl hP hD hS
  rw [List.map_cons, show cvz ad (.ref t) = va_rf ((ds[i.toNatClampNeg]?).map ad) from hv.symm] at key
  subst h3
  rcases h2 with rfl | rfl
  · exact va_aldq (rest := st.map (cvz ad)) h.1 h.2.1 h.2.2.2.2.2.2.2.1 hP q 3 he rfl hin hd key
  · exact va_aldq (rest := st.map (cvz ad)) h.1 h.2.1 h.2.2.2.2.2.2.2.1 hP q 4 he rfl hin hd key
/-- constants -/
def SLz (own : String) (idx : Nat) (nm : String) : Prop := Cond.fieldLink own idx "WalnutHouses" nm "[I" ∈ tb ∨ ∃ host, Cond.fieldLinkNest own idx "WalnutHouses" nm "[I" host ∈ nw
theorem r_getTop {idx : Nat} (h : Okz X cc own d) (hd : decode cc pc = .ok (.getstatic idx, 3)) (sl : SLz own idx "TOP_OF") (kk : Gz X (pc + 3) lv (.ref 50 :: st) M) : Gz X pc lv st M := by
  obtain ⟨p, l, e, R, s, m, args, below, meth, c, cells, slots, Q, D, cT, ad, nL⟩ := X
  intro H locs ls hl hP hD hS
  rcases sl with hlk | ⟨host, hlk⟩
  · exact va_gets (rest := st.map (cvz ad)) h.1 h.2.1 h.2.2.2.2.2.2.2.2.1.1 hS h.2.2.2.1 (h.2.2.2.2.1 _ hlk) (fun _ z => z) hd (kk H locs ls hl hP hD hS)
  · exact va_getsN (rest := st.map (cvz ad)) h.1 h.2.1 h.2.2.2.2.2.2.2.2.1.1 hS h.2.2.2.1 (h.2.2.2.2.2.1.use hlk) (fun _ z => z) hd (kk H locs ls hl hP hD hS)
theorem r_getTir {idx : Nat} (h : Okz X cc own d) (hd : decode cc pc = .ok (.getstatic idx, 3)) (sl : SLz own idx "TIRES") (kk : Gz X (pc + 3) lv (.ref 51 :: st) M) : Gz X pc lv st M := by
  obtain ⟨p, l, e, R, s, m, args, below, meth, c, cells, slots, Q, D, cT, ad, nL⟩ := X
  intro H locs ls hl hP hD hS
  rcases sl with hlk | ⟨host, hlk⟩
  · exact va_gets (rest := st.map (cvz ad)) h.1 h.2.1 h.2.2.2.2.2.2.2.2.1.2.2.1 hS h.2.2.2.1 (h.2.2.2.2.1 _ hlk) (fun _ z => z) hd (kk H locs ls hl hP hD hS)
  · exact va_getsN (rest := st.map (cvz ad)) h.1 h.2.1 h.2.2.2.2.2.2.2.2.1.2.2.1 hS h.2.2.2.1 (h.2.2.2.2.2.1.use hlk) (fun _ z => z) hd (kk H locs ls hl hP hD hS)
theorem r_topld {i : Int32} (h : Okz X cc own d) (hd : decode cc pc = .ok (.iaload, 1)) (hin : vp_in i 5) (kk : Gz X (pc + 1) lv (.int (topz i.toNatClampNeg) :: st) M) : Gz X pc lv (.int i :: .ref 50 :: st) M := by
  obtain ⟨p, l, e, R, s, m, args, below, meth, c, cells, slots, Q, D, cT, ad, nL⟩ := X
  intro H locs ls hl hP hD hS
  exact va_ti (rest := st.map (cvz ad)) h.1 h.2.1 h.2.2.2.2.2.2.2.2.1.2.1 hS hin rfl hd (kk H locs ls hl hP hD hS)
theorem r_tirld {i : Int32} (h : Okz X cc own d) (hd : decode cc pc = .ok (.iaload, 1)) (hin : vp_in i 4) (kk : Gz X (pc + 1) lv (.int (tirz i.toNatClampNeg) :: st) M) : Gz X pc lv (.int i :: .ref 51 :: st) M := by
  obtain ⟨p, l, e, R, s, m, args, below, meth, c, cells, slots, Q, D, cT, ad, nL⟩ := X
  intro H locs ls hl hP hD hS
  exact va_ti (rest := st.map (cvz ad)) h.1 h.2.1 h.2.2.2.2.2.2.2.2.1.2.2.2.1 hS hin rfl hd (kk H locs ls hl hP hD hS)
theorem cat_le (v : Value) : v.category ≤ 2 := by rcases lv_cat v with h | h <;> omega
theorem cat_sum : ∀ st : List Value, (st.map fun v => v.category).sum ≤ 2 * st.length := by
  intro st
  induction st with
  | nil => simp
  | cons v st ih => have := cat_le v; simp only [List.map_cons, List.sum_cons, List.length_cons]; omega
/-- Math -/
def MXz (own : String) (idx : Nat) (y : MethodName) (code : ByteArray) (n : Nat) : Prop := Cond.methodLink own idx y ∈ tb ∧ Cond.static y ∈ tb ∧ Cond.initialized "java/lang/Math" ∈ tb ∧ Cond.code y code n (some .int) ∈ tb
theorem r_mmax {idx : Nat} {x y : Int32} (h : Okz X cc own d) (hd : decode cc pc = .ok (.invokestatic idx, 3)) (mx : MXz own idx Lib.Math.max.name Lib.Math.max.code 2) (h1 : 1 ≤ d) (h2 : st.length ≤ 4) (kk : Gz X (pc + 3) lv (.int (if x < y then y else x) :: st) M) : Gz X pc lv (.int y :: .int x :: st) M := by
  obtain ⟨p, l, e, R, s, m, args, below, meth, c, cells, slots, Q, D, cT, ad, nL⟩ := X
  intro H locs ls hl hP hD hS
  obtain ⟨g1, g2, g3, g4⟩ := h.2.2.2.2.2.2.2.2.2
  have hs := cat_sum (st.map (cvz ad))
  rw [List.length_map] at hs
  exact va_mmax (rest := st.map (cvz ad)) h.1 h.2.1 (h.2.2.1.trans hl.1.symm) h.2.2.2.1 (h.2.2.2.2.1 _ mx.1) (h.2.2.2.2.1 _ mx.2.1) (h.2.2.2.2.1 _ mx.2.2.1) (h.2.2.2.2.1 _ mx.2.2.2) (by omega) (by omega) g1 g2 hd (kk H locs ls hl hP hD hS)
theorem r_mmin {idx : Nat} {x y : Int32} (h : Okz X cc own d) (hd : decode cc pc = .ok (.invokestatic idx, 3)) (mx : MXz own idx Lib.Math.min.name Lib.Math.min.code 2) (h1 : 1 ≤ d) (h2 : st.length ≤ 4) (kk : Gz X (pc + 3) lv (.int (if y < x then y else x) :: st) M) : Gz X pc lv (.int y :: .int x :: st) M := by
  obtain ⟨p, l, e, R, s, m, args, below, meth, c, cells, slots, Q, D, cT, ad, nL⟩ := X
  intro H locs ls hl hP hD hS
  obtain ⟨g1, g2, g3, g4⟩ := h.2.2.2.2.2.2.2.2.2
  have hs := cat_sum (st.map (cvz ad))
  rw [List.length_map] at hs
  exact va_mmin (rest := st.map (cvz ad)) h.1 h.2.1 (h.2.2.1.trans hl.1.symm) h.2.2.2.1 (h.2.2.2.2.1 _ mx.1) (h.2.2.2.2.1 _ mx.2.1) (h.2.2.2.2.1 _ mx.2.2.1) (h.2.2.2.2.1 _ mx.2.2.2) (by omega) (by omega) g1 g2 hd (kk H locs ls hl hP hD hS)
theorem r_mabs {idx : Nat} {x : Int32} (h : Okz X cc own d) (hd : decode cc pc = .ok (.invokestatic idx, 3)) (mx : MXz own idx Lib.Math.abs.name Lib.Math.abs.code 1) (h1 : 1 ≤ d) (h2 : st.length ≤ 4) (kk : Gz X (pc + 3) lv (.int (if 0 ≤ x then x else 0 - x) :: st) M) : Gz X pc lv (.int x :: st) M := by
  obtain ⟨p, l, e, R, s, m, args, below, meth, c, cells, slots, Q, D, cT, ad, nL⟩ := X
  intro H locs ls hl hP hD hS
  obtain ⟨g1, g2, g3, g4⟩ := h.2.2.2.2.2.2.2.2.2
  have hs := cat_sum (st.map (cvz ad))
  rw [List.length_map] at hs
  exact va_mabs (rest := st.map (cvz ad)) h.1 h.2.1 (h.2.2.1.trans hl.1.symm) h.2.2.2.1 (h.2.2.2.2.1 _ mx.1) (h.2.2.2.2.1 _ mx.2.1) (h.2.2.2.2.1 _ mx.2.2.1) (h.2.2.2.2.1 _ mx.2.2.2) (by omega) (by omega) g1 g2 hd (kk H locs ls hl hP hD hS)
/-- arraycopy of ints -/
def MCz (own : String) (idx : Nat) : Prop := Cond.methodLink own idx arraycopyName ∈ tb ∧ Cond.native arraycopyName ∈ tb ∧ Cond.static arraycopyName ∈ tb ∧ Cond.initialized "java/lang/System" ∈ tb
theorem r_copy {idx : Nat} (n0 n1 : Nat) {q0 q1 : Nat} {sp dp n : Int32} (h : Okz X cc own d) (hd : decode cc pc = .ok (.invokestatic idx, 3)) (mx : MCz own idx) (hd1 : 1 ≤ d) (hst : st.length ≤ 4) (ha0 : aI 10 q0 n0 = true) (ha1 : aI 10 q1 n1 = true) (h1 : ¬ sp < 0) (h2 : ¬ dp < 0) (h3 : ¬ n < 0) (h4 : sp.toNatClampNeg + n.toNatClampNeg ≤ n0) (h5 : dp.toNatClampNeg + n.toNatClampNeg ≤ n1)
    (kk : Gz X (pc + 3) lv st (mset M q1 (va_cpy (M.1 q0) (M.1 q1) sp.toNatClampNeg dp.toNatClampNeg n.toNatClampNeg))) : Gz X pc lv (.int n :: .int dp :: .ref q1 :: .int sp :: .ref q0 :: st) M := by
  obtain ⟨p, l, e, R, s, m, args, below, meth, c, cells, slots, Q, D, cT, ad, nL⟩ := X
  intro H locs ls hl hP hD hS
  obtain ⟨g1, g2, g3, g4⟩ := h.2.2.2.2.2.2.2.2.2
  have hs := cat_sum (st.map (cvz ad))
  rw [List.length_map] at hs
  obtain ⟨a1, a2, a3⟩ := aI_sp ha0
  obtain ⟨b1, b2, b3⟩ := aI_sp ha1
  have he0 := wlz_at (ad := ad) (cT := cT) (M := M) a1
  rw [celE_arr a2 a3] at he0
  have he1 := wlz_at (ad := ad) (cT := cT) (M := M) b1
  rw [celE_arr b2 b3] at he1
  have hw : (wlz ad cT M).set q1 (ad q1, .inl (cT 10, n1, .inl (va_cpy (M.1 q0) (M.1 q1) sp.toNatClampNeg dp.toNatClampNeg n.toNatClampNeg))) = wlz ad cT (mset M q1 (va_cpy (M.1 q0) (M.1 q1) sp.toNatClampNeg dp.toNatClampNeg n.toNatClampNeg)) := wlz_set b1 (by rw [celE_arr b2 b3, mset_at]) mset_ne (fun _ _ => rfl)
  have hnf : nativeFrameWords "java/lang/System" "arraycopy" 5 ≤ 16 := by decide +kernel
  exact va_copyi (rest := st.map (cvz ad)) h.1 h.2.1 (h.2.2.1.trans hl.1.symm) h.2.2.2.1 (h.2.2.2.2.1 _ mx.1) (h.2.2.2.2.1 _ mx.2.1) (h.2.2.2.2.1 _ mx.2.2.1) (h.2.2.2.2.1 _ mx.2.2.2) h.2.2.2.2.2.2.2.1 hP hD hS q0 q1 0 0 (ty := .int) he0 he1 rfl rfl rfl h1 h2 h3 h4 h5 (fun _ _ => rfl) (by omega) (by omega) hd (fun H1 locs1 z1 z2 z3 => kk H1 locs1 ls hl (by rw [← hw]; exact z1) (wlz_D hD) z3)
/-- ends -/
theorem r_ireturn {ty : FieldType} {v : Int32} {Po : Option Value → Mm → Prop} (h : Okz X cc own d) (hr : Rtz X (some ty) Po) (hd : decode cc pc = .ok (.ireturn, 1)) (hn : narrow ty (.int v) = .int v) (hp : Po (some (.int v)) M) : Gz X pc lv [.int v] M := by
  obtain ⟨p, l, e, R, s, m, args, below, meth, c, cells, slots, Q, D, cT, ad, nL⟩ := X
  intro H locs ls hl hP hD hS
  obtain ⟨h1, h2, h3⟩ := hr
  subst h3
  exact W.zret h.1 h.2.1 h1 hn (fun t ht hW => ⟨⟨_, rfl, some (.int v), M, rfl, hp, by rw [ht]; exact hP⟩, hS.F ht⟩) hS.2.2 hd h2
theorem r_lreturn {v : Int64} {Po : Option Value → Mm → Prop} (h : Okz X cc own d) (hr : Rtz X (some .long) Po) (hd : decode cc pc = .ok (.lreturn, 1)) (hp : Po (some (.long v)) M) : Gz X pc lv [.long v] M := by
  obtain ⟨p, l, e, R, s, m, args, below, meth, c, cells, slots, Q, D, cT, ad, nL⟩ := X
  intro H locs ls hl hP hD hS
  obtain ⟨h1, h2, h3⟩ := hr
  subst h3
  exact W.lret h.1 h.2.1 h1 (fun t ht hW => ⟨⟨_, rfl, some (.long v), M, rfl, hp, by rw [ht]; exact hP⟩, hS.F ht⟩) hS.2.2 hd h2
theorem r_return {Po : Option Value → Mm → Prop} (h : Okz X cc own d) (hr : Rtz X none Po) (hd : decode cc pc = .ok (.return_, 1)) (hp : Po none M) : Gz X pc lv [] M := by
  obtain ⟨p, l, e, R, s, m, args, below, meth, c, cells, slots, Q, D, cT, ad, nL⟩ := X
  intro H locs ls hl hP hD hS
  obtain ⟨h1, h2, h3⟩ := hr
  subst h3
  exact W.vret h.1 h.2.1 h1 (fun t ht hW => ⟨⟨_, rfl, none, M, rfl, hp, by rw [ht]; exact hP⟩, hS.F ht⟩) hS.2.2 hd h2
end RH
section MMC
variable {p : Program} {l : Launch} {e : Env} {R : Room} {s : State} {m : MethodId} {args : Array Value} {below : List Frame} {meth : Method} {c : Code} {H : Heap} {locs : List Loc} {cells slots : Nat} {Q : State → Prop}
variable {pc : Nat} {ls : Array Slot} {rest st0 : List Value} {A0 A1 : Nat → Prop} {H0 : Heap} {mc ms : Nat} {free : Addr → Prop}
theorem mm_call {post : Option Value → State → Prop} (hr : va_Run p l e R s m args below meth c H locs cells slots mc ms (F0 m pc ls st0) rest (fun st oc t => (∃ r, oc = .returned r ∧ post r t) ∧ va_F A1 st t) free) (hS : va_S A0 H0 H locs) (hA : ∀ q, q < H.size → A1 q → A0 q) (hf : ∀ q, free q → A0 q)
    (kk : ∀ (r : Option Value) (t : State) (H1 : Heap) (locs1 : List Loc), t.heap = H1 → post r t → va_S A0 H0 H1 locs1 → W p l e R s m args below meth c H1 locs1 (cells + mc) (slots + ms) Q (F0 m (pc + 3) ls (r.toList ++ rest))) : W p l e R s m args below meth c H locs cells slots Q (F0 m pc ls st0) := by
  intro T hT X
  obtain ⟨v, st₀, t, T', L, h0, X', hL, e1, e2, ⟨⟨r, hv, hp⟩, hz, hk⟩, st⟩ := hr T hT X
  cases hv
  rw [h0] at hz hk
  obtain ⟨t2, a1, b1⟩ := kk v t T'.heap (locs ++ L) e1.symm hp
    ⟨Nat.le_trans hS.1 (by rw [e1]; exact hz), fun q h1 h2 => by rw [e1, hk q (Nat.lt_of_lt_of_le h1 hS.1) (fun z => h2 (hA q (Nat.lt_of_lt_of_le h1 hS.1) z))]; exact hS.2.1 q h1 h2, fun q hq => by
      rcases List.mem_append.mp hq with h | h
      · exact hS.2.2 q h
      · exact hf _ (hL q h)⟩ T' rfl X'
  exact ⟨t2, st t2 a1, b1⟩
end MMC
/-- the callee's facts -/
def NMz (y : MethodName) (n : Nat) : Prop := y.cls ≠ "java/lang/invoke/MethodHandle" ∧ y.cls ≠ "java/lang/invoke/VarHandle" ∧ (parseMethodDescriptor y.desc).map (fun d => d.parameters.length) = some n
def MIz (ci : Nat) (y : MethodName) (bytes : ByteArray) (maxL : Nat) (ret : Option FieldType) (n : Nat) : Prop := (∃ (T : u_T) (N : Nat), cls6[ci]? = some (y.cls, T, N)) ∧ NMz y n ∧ Cond.instanceMethod y ∈ tb ∧ Cond.selects y.cls y y ∈ tb ∧ Cond.initialized y.cls ∈ tb ∧ Cond.code y bytes maxL ret ∈ tb
def MSz (y : MethodName) (bytes : ByteArray) (maxL : Nat) (ret : Option FieldType) (n : Nat) : Prop := NMz y n ∧ Cond.static y ∈ tb ∧ Cond.initialized y.cls ∈ tb ∧ Cond.code y bytes maxL ret ∈ tb
def LKz (own : String) (idx : Nat) (y : MethodName) : Prop := Cond.methodLink own idx y ∈ tb ∨ ∃ host, Cond.methodLinkNest own idx y host ∈ nw
theorem good_cons {w : Cond} (h : w ∈ tb) : GoodIn tb (w :: tb) := fun _ hv => (List.mem_cons.mp hv).elim (fun e => by rw [e]; exact tb_good _ h) (fun z => tb_good _ z)
theorem CPz_blind {av : List Value} {D : va_G} {cT : Nat → ClassId} {ad : Nat → Nat} {sz : Nat} {M : Mm} : FrameBlind (va_Pc av (CPz D cT ad sz M)) := by
  intro a U g mk q
  obtain ⟨q0, q1, q2, q3, q4, q5, q6, q7⟩ := q
  exact ⟨q0, q1, q2, va_K.moved (u := U) (U := U.calling g mk a) (Vm.Alike.refl U.vm) q3, q4, NW.same (u := U) (U := U.calling g mk a) rfl q5, RSz.same (u := U) (U := U.calling g mk a) rfl q6, ZSz.moved (u := U) (U := U.calling g mk a) (Vm.Alike.refl U.vm) q7⟩
theorem CPz_at {av : List Value} {D : va_G} {cT : Nat → ClassId} {ad : Nat → Nat} {M : Mm} {s : State} {H : Heap} {locs : List Loc} {B : Nat → Prop} (hP : va_P D cls6 (wlz ad cT M) H) (hD : va_D B (wlz ad cT M)) (hS : va_S (AAz ad s.heap.size) s.heap H locs) (hN : NW s) (hR : RSz ad s) (hK : va_K D cls6 (tyz cT) s) (hZ : ZSz ad (AAz ad s.heap.size) s s.heap) : ∀ U : State, U.heap = H → s.WarmedH U.vm → va_Pc av (CPz D cT ad H.size M) av.toArray U := by
  intro U hU hW
  refine ⟨rfl, by rw [hU], by rw [hU]; exact hP, va_K.moved hW.alike hK, hD.weaken (fun _ _ _ _ => trivial), hN.warm hW, hR.warm hW, ?_⟩
  rw [hU]
  refine ZSz.moved hW.alike ((hZ.kept hS.2.1).narrow (fun q hq => ?_))
  rcases hq with h | h
  · exact Or.inl h
  · exact Or.inr (Nat.le_trans hS.1 h)
section RC
variable {X : Cxz} {cc : ByteArray} {own : String} {d pc : Nat} {lv st : List Value} {M : Mm}
theorem r_callV {idx ci d' maxL n b : Nat} {y : MethodName} {bytes : ByteArray} {ret : Option FieldType} {av rest : List Value} {Po : Option Value → Mm → Prop} (h : Okz X cc own d) (hd : decode cc pc = .ok (.invokevirtual idx, 3)) (lk : LKz own idx y) (mi : MIz ci y bytes maxL ret n) (hc : Clz X.2.1 d' y bytes maxL ret (.ref b :: av) M Po) (hR : d' < d ∧ maxL ≤ 17 ∧ av.length = n ∧ (rest.map fun v => v.category).sum ≤ 8) (ho : oC b ci = true) (hst : st = av.reverse ++ .ref b :: rest)
    (kk : ∀ (r : Option Value) (M' : Mm), Po r M' → Gz X (pc + 3) lv (r.toList ++ rest) M') : Gz X pc lv st M := by
  obtain ⟨p, l, e, R, s, m, args, below, meth, c, cells, slots, Q, D, cT, ad, nL⟩ := X
  intro H locs ls hl hP hD hS
  subst hst
  obtain ⟨⟨T, N, hci⟩, ⟨m1, m2, m3⟩, m4, m5, m6, m7⟩ := mi
  obtain ⟨hx, hb, hml, hown, hts, hN, hRS, hK, hZ, g1, g2, g3, g4⟩ := h
  obtain ⟨r1, r2, r3, r4⟩ := hR
  obtain ⟨ds, o1, o2⟩ := oC_sp ho
  have he := wlz_at (ad := ad) (cT := cT) (M := M) o1
  rw [celE_obj o2] at he
  have hM := hc D cT ad H.size
  have hp : PreV s H y.cls (ad b) (va_Pc ((Value.ref b :: av).map (cvz ad)) (CPz D cT ad H.size M)) (av.map (cvz ad)) := ⟨CPz_blind, va_recv hK hP hci he, CPz_at hP hD hS hN hRS hK hZ⟩
  have hrm : (rmz d').frames + 1 ≤ R.frames ∧ 8 + (maxL + 11) + (rmz d').locals ≤ R.locals := ⟨by show d' + 1 ≤ _; omega, by show 8 + (maxL + 11) + 36 * d' ≤ _; omega⟩
  have hsum : ((rest.map (cvz ad)).map fun v => v.category).sum ≤ 8 := by
    rw [List.map_map, show ((fun v : Value => v.category) ∘ cvz ad) = (fun v => v.category) from funext (fun v => cvz_cat ad v)]
    exact r4
  have hstk : (F0 m pc ls ((av.reverse ++ Value.ref b :: rest).map (cvz ad))).stack = (av.map (cvz ad)).reverse ++ .ref (ad b) :: rest.map (cvz ad) := by
    show (av.reverse ++ Value.ref b :: rest).map (cvz ad) = _
    rw [List.map_append, List.map_reverse]; rfl
  have fin : ∀ q, AAz ad H.size q → AAz ad s.heap.size q := fun q hq => hq.elim Or.inl (fun z => Or.inr (Nat.le_trans hS.1 z))
  have run : va_Run p l e R s m args below meth c H locs cells slots 0 0 (F0 m pc ls ((av.reverse ++ Value.ref b :: rest).map (cvz ad))) (rest.map (cvz ad)) (CQz D cT ad (AAz ad H.size) Po (Value.ref (ad b) :: av.map (cvz ad)).toArray) (AAz ad H.size) := by
    rcases lk with lk | ⟨host, lk⟩
    · exact va_runV ⟨hx, hb, hml, hown, hts⟩ hM ⟨callB_of n hts (good_cons m7) rfl rfl rfl (hts _ m6) (hts _ lk) ⟨m1, m2, m3⟩ hrm, hts _ m4, hts _ m5⟩ hp rfl (by rw [List.length_map]; exact r3) hl.1 hstk (lv_room hsum) hd ⟨g1, g2⟩
    · exact va_runVN ⟨hx, hb, hml, hown, hts⟩ hM ⟨va_cnB n hts (good_cons m7) rfl rfl rfl (hN _ lk) (hts _ m6) ⟨m1, m2, m3⟩ hrm, hts _ m4, hts _ m5⟩ hp rfl (by rw [List.length_map]; exact r3) hl.1 hstk (lv_room hsum) hd ⟨g1, g2⟩
  refine mm_call run hS (fun q _ hq => fin q hq) fin (fun r t H1 locs1 ht hpost hS1 => ?_)
  obtain ⟨r0, M', e1, e2, e3⟩ := hpost
  have key := kk r0 M' e2 H1 locs1 ls hl (by rw [← ht]; exact e3) (wlz_D hD) hS1
  rw [List.map_append] at key
  subst e1
  cases r0 with
  | none => exact key
  | some v => exact key
theorem r_callS {idx d' maxL n : Nat} {y : MethodName} {bytes : ByteArray} {ret : Option FieldType} {av rest : List Value} {Po : Option Value → Mm → Prop} (h : Okz X cc own d) (hd : decode cc pc = .ok (.invokestatic idx, 3)) (lk : LKz own idx y) (mi : MSz y bytes maxL ret n) (hc : Clz X.2.1 d' y bytes maxL ret av M Po) (hR : d' < d ∧ maxL ≤ 17 ∧ av.length = n ∧ (rest.map fun v => v.category).sum ≤ 8) (hst : st = av.reverse ++ rest)
    (kk : ∀ (r : Option Value) (M' : Mm), Po r M' → Gz X (pc + 3) lv (r.toList ++ rest) M') : Gz X pc lv st M := by
  obtain ⟨p, l, e, R, s, m, args, below, meth, c, cells, slots, Q, D, cT, ad, nL⟩ := X
  intro H locs ls hl hP hD hS
  subst hst
  obtain ⟨⟨m1, m2, m3⟩, m4, m6, m7⟩ := mi
  obtain ⟨hx, hb, hml, hown, hts, hN, hRS, hK, hZ, g1, g2, g3, g4⟩ := h
  obtain ⟨r1, r2, r3, r4⟩ := hR
  have hM := hc D cT ad H.size
  have hp : PreS s H (va_Pc (av.map (cvz ad)) (CPz D cT ad H.size M)) (av.map (cvz ad)) := ⟨CPz_blind, CPz_at hP hD hS hN hRS hK hZ⟩
  have hrm : (rmz d').frames + 1 ≤ R.frames ∧ 8 + (maxL + 11) + (rmz d').locals ≤ R.locals := ⟨by show d' + 1 ≤ _; omega, by show 8 + (maxL + 11) + 36 * d' ≤ _; omega⟩
  have hsum : ((rest.map (cvz ad)).map fun v => v.category).sum ≤ 8 := by
    rw [List.map_map, show ((fun v : Value => v.category) ∘ cvz ad) = (fun v => v.category) from funext (fun v => cvz_cat ad v)]
    exact r4
  have hstk : (F0 m pc ls ((av.reverse ++ rest).map (cvz ad))).stack = (av.map (cvz ad)).reverse ++ rest.map (cvz ad) := by
    show (av.reverse ++ rest).map (cvz ad) = _
    rw [List.map_append, List.map_reverse]
  have fin : ∀ q, AAz ad H.size q → AAz ad s.heap.size q := fun q hq => hq.elim Or.inl (fun z => Or.inr (Nat.le_trans hS.1 z))
  have run : va_Run p l e R s m args below meth c H locs cells slots 0 0 (F0 m pc ls ((av.reverse ++ rest).map (cvz ad))) (rest.map (cvz ad)) (CQz D cT ad (AAz ad H.size) Po (av.map (cvz ad)).toArray) (AAz ad H.size) := by
    rcases lk with lk | ⟨host, lk⟩
    · exact va_runS ⟨hx, hb, hml, hown, hts⟩ hM ⟨callB_of n hts (good_cons m7) rfl rfl rfl (hts _ m6) (hts _ lk) ⟨m1, m2, m3⟩ hrm, hts _ m4⟩ hp rfl (by rw [List.length_map]; exact r3) hl.1 hstk (lv_room hsum) hd ⟨g1, g2⟩
    · exact va_runSN ⟨hx, hb, hml, hown, hts⟩ hM ⟨va_cnB n hts (good_cons m7) rfl rfl rfl (hN _ lk) (hts _ m6) ⟨m1, m2, m3⟩ hrm, hts _ m4, trivial⟩ hp rfl (by rw [List.length_map]; exact r3) hl.1 hstk (lv_room hsum) hd ⟨g1, g2⟩
  refine mm_call run hS (fun q _ hq => fin q hq) fin (fun r t H1 locs1 ht hpost hS1 => ?_)
  obtain ⟨r0, M', e1, e2, e3⟩ := hpost
  have key := kk r0 M' e2 H1 locs1 ls hl (by rw [← ht]; exact e3) (wlz_D hD) hS1
  rw [List.map_append] at key
  subst e1
  cases r0 with
  | none => exact key
  | some v => exact key
/-- a contract with one answer and one memory -/
abbrev CFz (l : Launch) (d : Nat) (y : MethodName) (bytes : ByteArray) (maxL : Nat) (ret : Option FieldType) (av : List Value) (M : Mm) (r : Option Value) (M' : Mm) : Prop := Clz l d y bytes maxL ret av M (fun r1 M1 => r1 = r ∧ M1 = M')
theorem r_fV {idx ci d' maxL n b : Nat} {y : MethodName} {bytes : ByteArray} {ret : Option FieldType} {av rest : List Value} {r : Option Value} {M' : Mm} (h : Okz X cc own d) (hd : decode cc pc = .ok (.invokevirtual idx, 3)) (lk : LKz own idx y) (mi : MIz ci y bytes maxL ret n) (hc : CFz X.2.1 d' y bytes maxL ret (.ref b :: av) M r M') (hR : d' < d ∧ maxL ≤ 17 ∧ av.length = n ∧ (rest.map fun v => v.category).sum ≤ 8) (ho : oC b ci = true) (hst : st = av.reverse ++ .ref b :: rest)
    (kk : Gz X (pc + 3) lv (r.toList ++ rest) M') : Gz X pc lv st M := r_callV h hd lk mi hc hR ho hst (fun _ _ q => by rw [q.1, q.2]; exact kk)
theorem r_fS {idx d' maxL n : Nat} {y : MethodName} {bytes : ByteArray} {ret : Option FieldType} {av rest : List Value} {r : Option Value} {M' : Mm} (h : Okz X cc own d) (hd : decode cc pc = .ok (.invokestatic idx, 3)) (lk : LKz own idx y) (mi : MSz y bytes maxL ret n) (hc : CFz X.2.1 d' y bytes maxL ret av M r M') (hR : d' < d ∧ maxL ≤ 17 ∧ av.length = n ∧ (rest.map fun v => v.category).sum ≤ 8) (hst : st = av.reverse ++ rest)
    (kk : Gz X (pc + 3) lv (r.toList ++ rest) M') : Gz X pc lv st M := r_callS h hd lk mi hc hR hst (fun _ _ q => by rw [q.1, q.2]; exact kk)
end RC
