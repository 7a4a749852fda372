/-! the making of the world: rows over a world that grows -/
abbrev Kxz : Type := Program × Launch × Env × Room × State × MethodId × Array Value × List Frame × Method × Code × (State → Prop)
def Kz (X : Kxz) (D : va_G) (cT : Nat → ClassId) (A : Nat → Prop) (N : Nat) (pc : Nat) (lv : List (Nat × Value)) (st : List Value) (ws : va_W) (cells slots : Nat) : Prop := match X with
  | (p, l, e, R, s, m, args, below, meth, c, Q) => ∀ (H : Heap) (locs : List Loc) (ls : Array Slot), lv_has ls N lv → va_P D cls6 ws H → va_D A ws → va_S A s.heap H locs → W p l e R s m args below meth c H locs cells slots Q (F0 m pc ls st)
def OkK (X : Kxz) (D : va_G) (cT : Nat → ClassId) (A : Nat → Prop) (N sz : Nat) (cc : ByteArray) (own : String) (d kc ks : Nat) : Prop := match X with
  | (p, l, e, R, s, m, args, below, meth, c, Q) => p.tables.exec = Jvm.exec ∧ c.code = cc ∧ c.maxLocals = N ∧ s.vm.findClass own = some m.cls ∧ (∀ w ∈ tb, w.before args s = true) ∧ NW s ∧ va_K D cls6 (tyz cT) s ∧ (∀ q, s.heap.size ≤ q → A q) ∧ s.heap.size = sz ∧ kc ≤ R.cells ∧ ks ≤ R.slots ∧ d ≤ R.frames ∧ 36 * d ≤ R.locals
def KI (X : Kxz) : Prop := match X with
  | (_, _, _, _, _, _, _, _, meth, _, _) => meth.name = "<init>"
def RtK (X : Kxz) (D : va_G) (A : Nat → Prop) (S : Type) (post : S → Prop) (w1 : S → va_W) (mc ms : Nat) : Prop := match X with
  | (p, l, e, R, s, m, args, below, meth, c, Q) => meth.sig.returnType = none ∧ meth.locks = false ∧ Q = MQ below (va_Qv post (fun u t => va_P D cls6 (w1 u) t.heap ∧ va_D A (w1 u)) A) args s mc ms A
def rmk (d mc ms : Nat) : Room := { frames := d, cells := mc, slots := ms, locals := 36 * d }
/-- a constructor's contract: the cells wc become the cells w1 u -/
def KC (l : Launch) (d mc ms : Nat) (y : MethodName) (bytes : ByteArray) (maxL : Nat) (D : va_G) (cT : Nat → ClassId) (h0 : Nat) (wc : va_W) (Ex : Nat → State → Prop) (S : Type) (post : S → Prop) (w1 : S → va_W) : Prop :=
  ∀ sz : Nat, Met l y (.code y bytes maxL none :: tb) (rmk d mc ms) (va_Pc [.ref h0] (fun U => U.heap.size = sz ∧ va_P D cls6 wc U.heap ∧ va_K D cls6 (tyz cT) U ∧ va_D (fun _ => True) wc ∧ NW U ∧ Ex sz U)) (va_Qv post (fun u t => va_P D cls6 (w1 u) t.heap ∧ va_D (va_A wc sz) (w1 u)) (va_A wc sz)) mc ms (va_A wc sz)
theorem KC.of {l : Launch} {d mc ms : Nat} {y : MethodName} {bytes : ByteArray} {maxL : Nat} {D : va_G} {cT : Nat → ClassId} {h0 : Nat} {wc : va_W} {Ex : Nat → State → Prop} {S : Type} {post : S → Prop} {w1 : S → va_W} (own : String) (ho : y.cls = own) (hy : plainName y.cls = true) (hn : y.name = "<init>") (hm : 1 ≤ maxL)
    (body : ∀ (X : Kxz) (A : Nat → Prop) (sz : Nat), X.2.1 = l → A = va_A wc sz → OkK X D cT A maxL sz bytes own d mc ms → KI X → Ex sz X.2.2.2.2.1 → RtK X D A S post w1 mc ms → Kz X D cT A maxL 0 [(0, .ref h0)] [] wc 0 0) : KC l d mc ms y bytes maxL D cT h0 wc Ex S post w1 := by
  intro sz
  subst ho
  refine Met.ofW (cc := bytes) (maxL := maxL) (ret := none) hy rfl ?_
  intro p e s m args below meth c s₁ B hml hv
  obtain ⟨rfl, hsz, hP, hK, hD0, hN, hE⟩ := hv
  subst hsz
  have hts := atoms_spec (ws := Cond.code y bytes maxL none :: tb) B.pre
  have hin : meth.name = "<init>" := by rw [(name_of_methodNamed B.named B.method).1]; exact hn
  have b := body (p, l, e, (headSpec (Cond.code y bytes maxL none :: tb) (rmk d mc ms)).room, s, m, #[Value.ref h0], below, meth, c, MQ below (va_Qv post (fun u t => va_P D cls6 (w1 u) t.heap ∧ va_D (va_A wc s.heap.size) (w1 u)) (va_A wc s.heap.size)) #[Value.ref h0] s mc ms (va_A wc s.heap.size)) (va_A wc s.heap.size) s.heap.size rfl rfl
    ⟨B.exec, B.bytes, hml, findClass_of_methodNamed B.named, fun w hw => hts w (List.mem_cons_of_mem _ hw), hN, hK, fun q h => Or.inr h, rfl, Nat.le_refl _, Nat.le_refl _, Nat.le_refl _, Nat.le_refl _⟩ hin hE ⟨B.returns, B.notSynchronized, rfl⟩
  rw [lg_entry_eq]
  have hl := lv_entry ([Value.ref h0]) (n := maxL) hm
  exact b s.heap [] _ hl hP (hD0.self (sz := s.heap.size)) va_S.rf
section KR
variable {X : Kxz} {D : va_G} {cT : Nat → ClassId} {A : Nat → Prop} {N sz : Nat} {cc : ByteArray} {own : String} {d kc ks pc : Nat} {lv : List (Nat × Value)} {st : List Value} {ws : va_W} {cells slots : Nat}
theorem k_aload_n (k : Nat) {i : Fin 4} {x : Nat} (h : OkK X D cT A N sz cc own d kc ks) (hd : decode cc pc = .ok (.aload_n i, 1)) (hv : lv[k]? = some (i.val, .ref x)) (kk : Kz X D cT A N (pc + 1) lv (.ref x :: st) ws cells slots) : Kz X D cT A N pc lv st ws cells slots := by
  obtain ⟨p, l, e, R, s, m, args, below, meth, c, Q⟩ := X
  intro H locs ls hl hP hD hS
  exact lv_aload_n h.1 h.2.1 hd rfl (lv_at hl k hv) (kk H locs ls hl hP hD hS)
theorem k_iload_n (k : Nat) {i : Fin 4} {x : Int32} (h : OkK X D cT A N sz cc own d kc ks) (hd : decode cc pc = .ok (.iload_n i, 1)) (hv : lv[k]? = some (i.val, .int x)) (kk : Kz X D cT A N (pc + 1) lv (.int x :: st) ws cells slots) : Kz X D cT A N pc lv st ws cells slots := by
  obtain ⟨p, l, e, R, s, m, args, below, meth, c, Q⟩ := X
  intro H locs ls hl hP hD hS
  exact lv_iload_n h.1 h.2.1 hd rfl (lv_at hl k hv) (kk H locs ls hl hP hD hS)
theorem k_iconst {n : Int} {v : Int32} (h : OkK X D cT A N sz cc own d kc ks) (hd : decode cc pc = .ok (.iconst n, 1)) (hv : Int32.ofInt n = v) (kk : Kz X D cT A N (pc + 1) lv (.int v :: st) ws cells slots) : Kz X D cT A N pc lv st ws cells slots := by
  obtain ⟨p, l, e, R, s, m, args, below, meth, c, Q⟩ := X
  intro H locs ls hl hP hD hS
  exact lv_iconst h.1 h.2.1 hd hv (kk H locs ls hl hP hD hS)
theorem k_bipush {n : Int} {v : Int32} (h : OkK X D cT A N sz cc own d kc ks) (hd : decode cc pc = .ok (.bipush n, 2)) (hv : (Int8.ofInt n).toInt32 = v) (kk : Kz X D cT A N (pc + 2) lv (.int v :: st) ws cells slots) : Kz X D cT A N pc lv st ws cells slots := by
  obtain ⟨p, l, e, R, s, m, args, below, meth, c, Q⟩ := X
  intro H locs ls hl hP hD hS
  exact lv_bipush h.1 h.2.1 hd hv (kk H locs ls hl hP hD hS)
theorem k_sipush {n : Int} {v : Int32} (h : OkK X D cT A N sz cc own d kc ks) (hd : decode cc pc = .ok (.sipush n, 3)) (hv : (Int16.ofInt n).toInt32 = v) (kk : Kz X D cT A N (pc + 3) lv (.int v :: st) ws cells slots) : Kz X D cT A N pc lv st ws cells slots := by
  obtain ⟨p, l, e, R, s, m, args, below, meth, c, Q⟩ := X
  intro H locs ls hl hP hD hS
  exact lv_sipush h.1 h.2.1 hd hv (kk H locs ls hl hP hD hS)
theorem k_dup {v : Value} (h : OkK X D cT A N sz cc own d kc ks) (hd : decode cc pc = .ok (.dup, 1)) (hc : v.category = 1) (kk : Kz X D cT A N (pc + 1) lv (v :: v :: st) ws cells slots) : Kz X D cT A N pc lv (v :: st) ws cells slots := by
  obtain ⟨p, l, e, R, s, m, args, below, meth, c, Q⟩ := X
  intro H locs ls hl hP hD hS
  exact lv_dup h.1 h.2.1 hd hc (kk H locs ls hl hP hD hS)
theorem k_istore_n {i : Fin 4} {x : Int32} (lv' : List (Nat × Value)) (h : OkK X D cT A N sz cc own d kc ks) (hd : decode cc pc = .ok (.istore_n i, 1)) (hn : i.val < N) (he : (i.val, Value.int x) :: lv.filter (fun q => !(q.1 == i.val) && !(q.1 + 1 == i.val && q.2.category == 2)) = lv') (kk : Kz X D cT A N (pc + 1) lv' st ws cells slots) : Kz X D cT A N pc lv (.int x :: st) ws cells slots := by
  obtain ⟨p, l, e, R, s, m, args, below, meth, c, Q⟩ := X
  intro H locs ls hl hP hD hS
  exact lv_istore_n h.1 h.2.1 hd rfl hl hn he (fun ls' hl' => kk H locs ls' hl' hP hD hS)
theorem k_astore_n {i : Fin 4} {x : Nat} (lv' : List (Nat × Value)) (h : OkK X D cT A N sz cc own d kc ks) (hd : decode cc pc = .ok (.astore_n i, 1)) (hn : i.val < N) (he : (i.val, Value.ref x) :: lv.filter (fun q => !(q.1 == i.val) && !(q.1 + 1 == i.val && q.2.category == 2)) = lv') (kk : Kz X D cT A N (pc + 1) lv' st ws cells slots) : Kz X D cT A N pc lv (.ref x :: st) ws cells slots := by
  obtain ⟨p, l, e, R, s, m, args, below, meth, c, Q⟩ := X
  intro H locs ls hl hP hD hS
  exact lv_astore_n h.1 h.2.1 hd rfl hl hn he (fun ls' hl' => kk H locs ls' hl' hP hD hS)
theorem k_iinc {i k : Nat} {n : Int} {x v : Int32} (lv' : List (Nat × Value)) (h : OkK X D cT A N sz cc own d kc ks) (hd : decode cc pc = .ok (.iinc i n, 3)) (hv : lv[k]? = some (i, .int x)) (hw : x + Int32.ofInt n = v) (hn : i < N) (he : (i, Value.int v) :: lv.filter (fun q => !(q.1 == i) && !(q.1 + 1 == i && q.2.category == 2)) = lv') (kk : Kz X D cT A N (pc + 3) lv' st ws cells slots) : Kz X D cT A N pc lv st ws cells slots := by
  obtain ⟨p, l, e, R, s, m, args, below, meth, c, Q⟩ := X
  intro H locs ls hl hP hD hS
  exact lv_iinc h.1 h.2.1 hd hl hv hw hn he (fun ls' hl' => kk H locs ls' hl' hP hD hS)
theorem k_geT {x y : Int32} {off : Int} (tgt : Nat) (h : OkK X D cT A N sz cc own d kc ks) (hd : decode cc pc = .ok (.if_icmp .ge off, 3)) (ht : (pc : Int) + off = (tgt : Int)) (hc : y ≤ x) (kk : Kz X D cT A N tgt lv st ws cells slots) : Kz X D cT A N pc lv (.int y :: .int x :: st) ws cells slots := by
  obtain ⟨p, l, e, R, s, m, args, below, meth, c, Q⟩ := X
  intro H locs ls hl hP hD hS
  exact lv_icmp_ge h.1 h.2.1 hd ht (fun _ => kk H locs ls hl hP hD hS) (fun q => absurd hc q)
theorem k_geF {x y : Int32} {off : Int} (tgt : Nat) (h : OkK X D cT A N sz cc own d kc ks) (hd : decode cc pc = .ok (.if_icmp .ge off, 3)) (ht : (pc : Int) + off = (tgt : Int)) (hc : ¬ y ≤ x) (kk : Kz X D cT A N (pc + 3) lv st ws cells slots) : Kz X D cT A N pc lv (.int y :: .int x :: st) ws cells slots := by
  obtain ⟨p, l, e, R, s, m, args, below, meth, c, Q⟩ := X
  intro H locs ls hl hP hD hS
  exact lv_icmp_ge h.1 h.2.1 hd ht (fun q => absurd q hc) (fun _ => kk H locs ls hl hP hD hS)
theorem k_goto {off : Int} (tgt : Nat) (h : OkK X D cT A N sz cc own d kc ks) (hd : decode cc pc = .ok (.goto off, 3)) (ht : (pc : Int) + off = (tgt : Int)) (kk : Kz X D cT A N tgt lv st ws cells slots) : Kz X D cT A N pc lv st ws cells slots := by
  obtain ⟨p, l, e, R, s, m, args, below, meth, c, Q⟩ := X
  intro H locs ls hl hP hD hS
  exact lv_goto h.1 h.2.1 hd ht (kk H locs ls hl hP hD hS)
theorem k_obj {idx : Nat} {a : Nat} (h : OkK X D cT A N sz cc own d kc ks) (hd : decode cc pc = .ok (.invokespecial idx, 3)) (hw : Cond.methodLink own idx Lib.objectInit ∈ tb) (h1 : Cond.instanceMethod Lib.objectInit ∈ tb) (h2 : Cond.code Lib.objectInit ⟨#[0xb1]⟩ 1 none ∈ tb) (hd1 : 1 ≤ d) (hst : st.length ≤ 4) (kk : Kz X D cT A N (pc + 3) lv st ws cells slots) : Kz X D cT A N pc lv (.ref a :: st) ws cells slots := by
  obtain ⟨p, l, e, R, s, m, args, below, meth, c, Q⟩ := X
  intro H locs ls hl hP hD hS
  obtain ⟨hx, hb, hml, hown, hts, hNW, hK, hA, hsz, r1, r2, r3, r4⟩ := h
  have hcs := cat_sum st
  have hroom : 2 * (F0 m pc ls (Value.ref a :: st)).monitorRoom + (st.map fun v => v.category).sum ≤ 8 := lv_room (by omega)
  exact W.objInit hx hb hown (hts _ hw) (hts _ h1) (hts _ h2) rfl (by rw [hml]; exact hl.1) rfl hd (by omega) (by omega) (kk H locs ls hl hP hD hS)
theorem k_newa {atype : ArrayType} {ty : FieldType} (t0 tag : Nat) {n : Int32} (K : Nat) (h : OkK X D cT A N sz cc own d kc ks) (hd : decode cc pc = .ok (.newarray atype, 2)) (hty : newarray.typeOf atype = ty) (hw : Cond.arrayClass ty ∈ tb) (ht : (tyz cT)[t0]? = some (cT tag, ty)) (hra : ∀ (U : State) (cA : ClassId), va_RA U cA ty → U.vm.findClass ("[" ++ ty.toString) = some cA) (hdf : defaultValue ty = .int 0) (hn : ¬ n < 0) (hK1 : n.toNatClampNeg = K) (hby : K * componentBytes ty ≤ 536870912) (hc : cells + 1 ≤ kc) (hs : slots + K ≤ ks)
    (kk : ∀ q : Nat, sz ≤ q → Kz X D cT A N (pc + 2) lv (.ref q :: st) (ws ++ [(q, .inl (cT tag, K, .inl (fun _ => 0)))]) (cells + 1) (slots + K)) : Kz X D cT A N pc lv (.int n :: st) ws cells slots := by
  obtain ⟨p, l, e, R, s, m, args, below, meth, c, Q⟩ := X
  intro H locs ls hl hP hD hS
  obtain ⟨hx, hb, hml, hown, hts, hNW, hK, hA, hsz, r1, r2, r3, r4⟩ := h
  subst hty
  refine va_newaK hx hb (hts _ hw) rfl hd rfl hn hK1 hby (by omega) (by omega) rfl (fun H1 cA e1 z1 o1 hAr hNm => ?_)
  have hcA : cA = cT tag := Option.some.inj (hNm.symm.trans (hra s _ (hK.2 t0 _ ht).2))
  subst hcA
  have hk : ∀ (k : Nat) (x : Nat × va_E), ws[k]? = some x → H1[x.1]? = H[x.1]? := fun k x hx => o1 x.1 ((hP k x hx).lt)
  refine kk H.size (by rw [← hsz]; exact hS.1) H1 locs ls hl ((hP.kept hk).app (fun k x hx => ?_)) (hD.push hP rfl (hA _ hS.1)) ⟨Nat.le_trans hS.1 (by omega), fun x h1 h2 => (o1 x (Nat.lt_of_lt_of_le h1 hS.1)).trans (hS.2.1 x h1 h2), hS.2.2⟩
  have hz : k < 1 := (List.getElem?_eq_some_iff.mp hx).1
  rw [show k = 0 by omega] at hx
  cases hx
  show H1[H.size]? = some (vp_cell _ _)
  rw [hdf] at e1
  exact e1
theorem k_newq {C : String} {idx : Nat} (t0 tag : Nat) {n : Int32} (K : Nat) (h : OkK X D cT A N sz cc own d kc ks) (hd : decode cc pc = .ok (.anewarray idx, 3)) (hw : Cond.classLink own idx C ∈ tb) (hao : va_AO C X.2.2.2.2.1) (ht : (tyz cT)[t0]? = some (cT tag, .object C)) (hn : ¬ n < 0) (hK1 : n.toNatClampNeg = K) (hby : K * 4 ≤ 536870912) (hc : cells + 1 ≤ kc) (hs : slots + K ≤ ks)
    (kk : ∀ q : Nat, sz ≤ q → Kz X D cT A N (pc + 3) lv (.ref q :: st) (ws ++ [(q, .inl (cT tag, K, .inr (.inr (.inr (.inr (fun _ => none))))))]) (cells + 1) (slots + K)) : Kz X D cT A N pc lv (.int n :: st) ws cells slots := by
  obtain ⟨p, l, e, R, s, m, args, below, meth, c, Q⟩ := X
  intro H locs ls hl hP hD hS
  obtain ⟨hx, hb, hml, hown, hts, hNW, hK, hA, hsz, r1, r2, r3, r4⟩ := h
  subst hK1
  refine W.anew hx hb hown (hts _ hw) (va_AO.use hao) rfl hd rfl hn hby (by omega) (by omega) (fun cA kA comp f1 f2 f3 f4 => ?_)
  obtain ⟨kA', comp', -, -, -, hq⟩ := (hK.2 t0 _ ht).2
  have hcA : cA = cT tag := Option.some.inj (f1.symm.trans hq)
  subst hcA
  generalize hH1 : H.push ({ cls := cT tag, slots := Array.replicate n.toNatClampNeg .null, vm := .none } : Cell) = H1
  have z1 : H1.size = H.size + 1 := by rw [← hH1, Array.size_push]
  have e1 : H1[H.size]? = some (arrV (cT tag) n.toNatClampNeg (fun _ => .null)) := by rw [← hH1, Array.getElem?_push_size, ← arrV_new]
  have o1 : ∀ q : Nat, q < H.size → H1[q]? = H[q]? := fun q hq => by rw [← hH1, Array.getElem?_push, if_neg (Nat.ne_of_lt hq)]
  have hk : ∀ (k : Nat) (x : Nat × va_E), ws[k]? = some x → H1[x.1]? = H[x.1]? := fun k x hx => o1 x.1 ((hP k x hx).lt)
  refine kk H.size (by rw [← hsz]; exact hS.1) H1 locs ls hl ((hP.kept hk).app (fun k x hx => ?_)) (hD.push hP rfl (hA _ hS.1)) ⟨Nat.le_trans hS.1 (by omega), fun x h1 h2 => (o1 x (Nat.lt_of_lt_of_le h1 hS.1)).trans (hS.2.1 x h1 h2), hS.2.2⟩
  have hz : k < 1 := (List.getElem?_eq_some_iff.mp hx).1
  rw [show k = 0 by omega] at hx
  cases hx
  show H1[H.size]? = some (vp_cell _ _)
  rw [vp_cell_q]
  exact e1
theorem k_new {C : String} {T : u_T} {K ci idx : Nat} (fs : List Value) (ty : Nat → FieldType) (h : OkK X D cT A N sz cc own d kc ks) (hd : decode cc pc = .ok (.new idx, 3)) (ck : CKz ci C T K) (hty : ∀ k, k < K → parseFieldDescriptor (T k).2.2.1 = some (ty k)) (h1 : Cond.classLink own idx C ∈ tb) (h2 : Cond.instantiable C K ∈ tb) (h3 : Cond.initialized C ∈ tb) (hfs : ∀ j, j < K → defaultValue (ty j) = vp_V fs j) (hc : cells + 1 ≤ kc) (hs : slots + K ≤ ks)
    (kk : ∀ q : Nat, sz ≤ q → Kz X D cT A N (pc + 3) lv (.ref q :: st) (ws ++ [(q, .inr (ci, fs))]) (cells + 1) (slots + K)) : Kz X D cT A N pc lv st ws cells slots := by
  obtain ⟨p, l, e, R, s, m, args, below, meth, c, Q⟩ := X
  intro H locs ls hl hP hD hS
  obtain ⟨hx, hb, hml, hown, hts, hNW, hK, hA, hsz, r1, r2, r3, r4⟩ := h
  obtain ⟨c1, c2, -, -⟩ := ck
  have hKn := hK.1 ci _ c1
  refine W.newcK hx hb hown (hts _ h1) (hts _ h2) (hts _ h3) rfl hd (by omega) (by omega) hKn.2.1 rfl (fun H1 kC hkC e1 z1 o1 => ?_)
  have hk : ∀ (k : Nat) (x : Nat × va_E), ws[k]? = some x → H1[x.1]? = H[x.1]? := fun k x hx => o1 x.1 ((hP k x hx).lt)
  refine kk H.size (by rw [← hsz]; exact hS.1) H1 locs ls hl ((hP.kept hk).app (fun k x hx => ?_)) (hD.push hP rfl (hA _ hS.1)) ⟨Nat.le_trans hS.1 (by omega), fun x h1 h2 => (o1 x (Nat.lt_of_lt_of_le h1 hS.1)).trans (hS.2.1 x h1 h2), hS.2.2⟩
  have hz : k < 1 := (List.getElem?_eq_some_iff.mp hx).1
  rw [show k = 0 by omega] at hx
  cases hx
  exact ⟨_, c1, (u_born ty hts c2 hKn hkC e1 hty).to hfs⟩
theorem k_putF {C : String} {T : u_T} {K idx ci k a : Nat} {ty : FieldType} {v : Value} {fs : List Value} (q0 : Nat) (h : OkK X D cT A N sz cc own d kc ks) (hI : KI X) (hd : decode cc pc = .ok (.putfield idx, 3)) (ck : CKz ci C T K) (hk : k < K) (hty : parseFieldDescriptor (T k).2.2.1 = some ty) (hfin : (T k).2.2.2 = true) (hdecl : (T k).1 = own) (hlk : Cond.fieldLink own idx (T k).1 (T k).2.1 (T k).2.2.1 ∈ tb) (he : ws[q0]? = some (a, .inr (ci, fs))) (hn : narrow ty v = v) (hft : fits ty v = true) (hl : k < fs.length)
    (kk : Kz X D cT A N (pc + 3) lv st (ws.set q0 (a, .inr (ci, fs.set k v))) cells slots) : Kz X D cT A N pc lv (v :: .ref a :: st) ws cells slots := by
  obtain ⟨p, l, e, R, s, m, args, below, meth, c, Q⟩ := X
  intro H locs ls hl' hP hD hS
  obtain ⟨hx, hb, hml, hown, hts, hNW, hK, hA, hsz, r1, r2, r3, r4⟩ := h
  obtain ⟨c1, c2, ⟨ty0, c3⟩, c4⟩ := ck
  exact va_putF hx hb hts c2 ty0 c3 c4 hown hK hP hD hS q0 he c1 k hk (hts _ hlk) (fun _ z => z) hfin hI hdecl hty hn hft hl hd (fun H1 locs1 a1 a2 a3 => kk H1 locs1 ls hl' a1 a2 a3)
theorem k_put {idx ci k a : Nat} {ty : FieldType} {v : Value} {fs : List Value} (q0 : Nat) (h : OkK X D cT A N sz cc own d kc ks) (hd : decode cc pc = .ok (.putfield idx, 3)) (fl : FLz own idx ci k ty false) (he : ws[q0]? = some (a, .inr (ci, fs))) (hn : narrow ty v = v) (hft : fits ty v = true) (hl : k < fs.length)
    (kk : Kz X D cT A N (pc + 3) lv st (ws.set q0 (a, .inr (ci, fs.set k v))) cells slots) : Kz X D cT A N pc lv (v :: .ref a :: st) ws cells slots := by
  obtain ⟨p, l, e, R, s, m, args, below, meth, c, Q⟩ := X
  intro H locs ls hl' hP hD hS
  obtain ⟨hx, hb, hml, hown, hts, hNW, hK, hA, hsz, r1, r2, r3, r4⟩ := h
  obtain ⟨C, T, K, ⟨c1, c2, ⟨ty0, c3⟩, c4⟩, hk, hty, hfin, hlk⟩ := fl
  rcases hlk with hlk | ⟨host, hlk⟩
  · exact va_put hx hb hts c2 ty0 c3 c4 hown hK hP hD hS q0 he c1 k hk (hts _ hlk) (fun _ z => z) hfin hty hn hft hl hd (fun H1 locs1 a1 a2 a3 => kk H1 locs1 ls hl' a1 a2 a3)
  · exact va_putN hx hb hts c2 ty0 c3 c4 hown hK hP hD hS q0 he c1 k hk (hNW.use hlk) (fun _ z => z) hfin hty hn hft hl hd (fun H1 locs1 a1 a2 a3 => kk H1 locs1 ls hl' a1 a2 a3)
theorem k_get {idx ci k a : Nat} {ty : FieldType} {fin : Bool} {v : Value} {fs : List Value} (q0 : Nat) (h : OkK X D cT A N sz cc own d kc ks) (hd : decode cc pc = .ok (.getfield idx, 3)) (fl : FLz own idx ci k ty fin) (he : ws[q0]? = some (a, .inr (ci, fs))) (hv : fs[k]? = some v)
    (kk : Kz X D cT A N (pc + 3) lv (v :: st) ws cells slots) : Kz X D cT A N pc lv (.ref a :: st) ws cells slots := by
  obtain ⟨p, l, e, R, s, m, args, below, meth, c, Q⟩ := X
  intro H locs ls hl' hP hD hS
  obtain ⟨hx, hb, hml, hown, hts, hNW, hK, hA, hsz, r1, r2, r3, r4⟩ := h
  obtain ⟨C, T, K, ⟨c1, c2, -, -⟩, hk, -, -, hlk⟩ := fl
  rcases hlk with hlk | ⟨host, hlk⟩
  · exact va_get hx hb hts c2 hown hK hP q0 he c1 k hk (hts _ hlk) (fun _ z => z) hv hd (kk H locs ls hl' hP hD hS)
  · exact va_getN hx hb hts c2 hown hK hP q0 he c1 k hk (hNW.use hlk) (fun _ z => z) hv hd (kk H locs ls hl' hP hD hS)
theorem k_aast (q0 t0 qk : Nat) {tag ci a n v : Nat} {r : vw_C} {vs : List Value} {f : Nat → Option Nat} {i : Int32} (h : OkK X D cT A N sz cc own d kc ks) (hd : decode cc pc = .ok (.aastore, 1)) (ha : ws[q0]? = some (a, .inl (cT tag, n, .inr (.inr (.inr (.inr f)))))) (ht : (tyz cT)[t0]? = some (cT tag, .object r.1)) (hv : ws[qk]? = some (v, .inr (ci, vs))) (hc : cls6[ci]? = some r) (hin : vp_in i n)
    (kk : Kz X D cT A N (pc + 1) lv st (ws.set q0 (a, .inl (cT tag, n, .inr (.inr (.inr (.inr (va_up f i.toNatClampNeg (some v)))))))) cells slots) : Kz X D cT A N pc lv (.ref v :: .int i :: .ref a :: st) ws cells slots := by
  obtain ⟨p, l, e, R, s, m, args, below, meth, c, Q⟩ := X
  intro H locs ls hl' hP hD hS
  obtain ⟨hx, hb, hml, hown, hts, hNW, hK, hA, hsz, r1, r2, r3, r4⟩ := h
  exact va_astq hx hb hK hP hD hS q0 t0 qk ci ha ht hv hc hin hd (fun H1 locs1 a1 a2 a3 => kk H1 locs1 ls hl' a1 a2 a3)
theorem k_ret {S : Type} {post : S → Prop} {w1 : S → va_W} (u : S) (h : OkK X D cT A N sz cc own d kc ks) (hr : RtK X D A S post w1 kc ks) (hd : decode cc pc = .ok (.return_, 1)) (hp : post u) (hw : w1 u = ws) (hc : cells ≤ kc) (hs : slots ≤ ks) : Kz X D cT A N pc lv [] ws cells slots := by
  obtain ⟨p, l, e, R, s, m, args, below, meth, c, Q⟩ := X
  intro H locs ls hl' hP hD hS
  obtain ⟨hx, hb, hml, hown, hts, hNW, hK, hA, hsz, r1, r2, r3, r4⟩ := h
  obtain ⟨h1, h2, h3⟩ := hr
  subst h3
  subst hw
  exact W.widen hc hs (W.vret hx hb h1 (fun t ht hW => ⟨⟨u, rfl, hp, by rw [ht]; exact hP, hD⟩, hS.F ht⟩) hS.2.2 hd h2)
theorem Kz.to {X : Kxz} {ws' : va_W} {c' s' : Nat} (hw : ws' = ws) (hc : c' = cells) (hs : s' = slots) (kk : Kz X D cT A N pc lv st ws cells slots) : Kz X D cT A N pc lv st ws' c' s' := by
  subst hw; subst hc; subst hs; exact kk
end KR
theorem va_nd_of : ∀ l : List Nat, l.Nodup → va_nd l = true
  | [], _ => rfl
  | a :: l, h => by
    obtain ⟨h1, h2⟩ := List.nodup_cons.mp h
    simp only [va_nd, Bool.and_eq_true, decide_eq_true_eq]
    exact ⟨h1, va_nd_of l h2⟩
theorem rng_l (w1 w2 : va_W) : (List.range w1.length).map (fun i => (w1 ++ w2)[i]?) = w1.map some := by
  apply List.ext_getElem?
  intro k
  rw [List.getElem?_map, List.getElem?_map]
  by_cases hk : k < w1.length
  · rw [List.getElem?_range hk, Option.map_some, List.getElem?_append_left hk, List.getElem?_eq_getElem hk]; rfl
  · rw [List.getElem?_eq_none (by rw [List.length_range]; omega), List.getElem?_eq_none (by omega)]; rfl
theorem rng_r (w1 w2 : va_W) : ((List.range w2.length).map (fun i => w1.length + i)).map (fun i => (w1 ++ w2)[i]?) = w2.map some := by
  apply List.ext_getElem?
  intro k
  rw [List.getElem?_map, List.getElem?_map, List.getElem?_map]
  by_cases hk : k < w2.length
  · rw [List.getElem?_range hk, Option.map_some, Option.map_some, List.getElem?_append_right (by omega), Nat.add_sub_cancel_left, List.getElem?_eq_getElem hk]; rfl
  · rw [List.getElem?_eq_none (by rw [List.length_range]; omega), List.getElem?_eq_none (by omega)]; rfl
section KC
variable {X : Kxz} {D : va_G} {cT : Nat → ClassId} {A : Nat → Prop} {N sz : Nat} {cc : ByteArray} {own : String} {d kc ks pc : Nat} {lv : List (Nat × Value)} {st : List Value} {cells slots : Nat}
theorem k_callI {idx d' mc ms maxL q : Nat} {y : MethodName} {bytes : ByteArray} {wr wc : va_W} {Ex : Nat → State → Prop} {S : Type} {post : S → Prop} {w1 : S → va_W} (hM : KC X.2.1 d' mc ms y bytes maxL D cT q wc Ex S post w1) (h : OkK X D cT A N sz cc own d kc ks) (hd : decode cc pc = .ok (.invokespecial idx, 3)) (lk : LKz own idx y) (hi : Cond.initialized y.cls ∈ tb) (hin : Cond.instanceMethod y ∈ tb) (hco : Cond.code y bytes maxL none ∈ tb) (hnm : NMz y 0) (hy1 : y.name = "<init>") (hR : d' < d ∧ maxL ≤ 17 ∧ st.length ≤ 4) (hc : cells + mc ≤ kc) (hs : slots + ms ≤ ks)
    (hE1 : ∀ (z : Nat) (U V : State), V.vm = U.vm → V.heap = U.heap → Ex z U → Ex z V) (hE2 : ∀ (H : Heap) (locs : List Loc), va_S A X.2.2.2.2.1.heap H locs → ∀ U : State, U.heap = H → X.2.2.2.2.1.WarmedH U.vm → Ex H.size U)
    (kk : ∀ u : S, post u → Kz X D cT A N (pc + 3) lv st (wr ++ w1 u) (cells + mc) (slots + ms)) : Kz X D cT A N pc lv (.ref q :: st) (wr ++ wc) cells slots := by
  obtain ⟨p, l, e, R, s, m, args, below, meth, c, Q⟩ := X
  intro H locs ls hl hP hD hS
  obtain ⟨hx, hb, hml, hown, hts, hNW, hK, hA, hsz, r1, r2, r3, r4⟩ := h
  obtain ⟨g1, g2, g3⟩ := hR
  have hC := rng_r wr wc
  have hRr := rng_l wr wc
  have hnC : va_nd ((List.range wc.length).map (fun i => wr.length + i)) = true := va_nd_of _ (List.Pairwise.map _ (fun a b hab => by omega) List.nodup_range)
  have hnR : va_nd (List.range wr.length) = true := va_nd_of _ List.nodup_range
  have hdis : ∀ i ∈ List.range wr.length, i ∉ (List.range wc.length).map (fun i => wr.length + i) := by
    intro i hi hj
    obtain ⟨j, -, hj⟩ := List.mem_map.mp hj
    have := List.mem_range.mp hi
    omega
  have hPc : va_P D cls6 wc H := fun k x hx => hP (wr.length + k) x (by rw [List.getElem?_append_right (by omega), Nat.add_sub_cancel_left]; exact hx)
  have hDc := hD.sub _ hnC hC
  have hFc := va_free hD hS hA _ hC
  have hrm : (rmk d' mc ms).frames + 1 ≤ R.frames ∧ 8 + (maxL + 11) + (rmk d' mc ms).locals ≤ R.locals := ⟨by show d' + 1 ≤ _; omega, by show 8 + (maxL + 11) + 36 * d' ≤ _; omega⟩
  have hcs := cat_sum st
  have hpre : PreS s H (va_Pc [.ref q] (fun U => U.heap.size = H.size ∧ va_P D cls6 wc U.heap ∧ va_K D cls6 (tyz cT) U ∧ va_D (fun _ => True) wc ∧ NW U ∧ Ex H.size U)) [.ref q] := by
    refine ⟨fun a U g mk z => ?_, fun U hU hW => ?_⟩
    · obtain ⟨q0, q1, q2, q3, q4, q5, q6⟩ := z
      exact ⟨q0, q1, q2, va_K.moved (u := U) (U := U.calling g mk a) (Vm.Alike.refl U.vm) q3, q4, NW.same (u := U) (U := U.calling g mk a) rfl q5, hE1 _ U (U.calling g mk a) rfl rfl q6⟩
    · exact ⟨rfl, by rw [hU], by rw [hU]; exact hPc, va_K.moved hW.alike hK, hDc.weaken (fun _ _ _ _ => trivial), hNW.warm hW, hE2 H locs hS U hU hW⟩
  have run : va_Run p l e R s m args below meth c H locs cells slots mc ms (F0 m pc ls (.ref q :: st)) st (va_Qv post (fun u t => va_P D cls6 (w1 u) t.heap ∧ va_D (va_A wc H.size) (w1 u)) (va_A wc H.size) #[Value.ref q]) (va_A wc H.size) := by
    rcases lk with lk | ⟨host, lk⟩
    · exact va_runI (As := []) (rest := st) ⟨hx, hb, hml, hown, hts⟩ (hM H.size) ⟨callB_of 0 hts (good_cons hco) rfl rfl rfl (hts _ hi) (hts _ lk) hnm hrm, hy1, hts _ hin⟩ hpre rfl rfl hl.1 rfl (lv_room (by omega)) hd ⟨by omega, by omega⟩
    · exact va_runIN (As := []) (rest := st) ⟨hx, hb, hml, hown, hts⟩ (hM H.size) ⟨va_cnB 0 hts (good_cons hco) rfl rfl rfl (hNW _ lk) (hts _ hi) hnm hrm, hy1, hts _ hin⟩ hpre rfl rfl hl.1 rfl (lv_room (by omega)) hd ⟨by omega, by omega⟩
  refine va_callv run hS (fun q _ h => hFc q h) hFc (fun u t H1 locs ht hvm hw hB hz1 hk1 hS => ?_)
  obtain ⟨hP1, hD1⟩ := hB
  rw [ht] at hP1
  obtain ⟨hP, hD⟩ := va_join hP hD _ _ hC hRr hnR hdis hk1 hFc hP1 hD1
  exact kk u hw H1 locs ls hl hP hD hS
end KC
