/-! rows as the programs write them; small facts -/
abbrev nLz (X : Cxz) : Nat := X.2.2.2.2.2.2.2.2.2.2.2.2.2.2.2.2
theorem Clz.on {l : Launch} {d : Nat} {y : MethodName} {bytes : ByteArray} {maxL : Nat} {ret : Option FieldType} {av : List Value} {M : Mm} {Po : Option Value → Mm → Prop} (own : String) (ho : y.cls = own) (hy : plainName y.cls = true) (hm : (av.flatMap fun v => if v.category = 2 then [v, Value.null] else [v]).length ≤ maxL)
    (body : ∀ X : Cxz, nLz X = maxL → Okz X bytes own d → Rtz X ret Po → Gz X 0 (lvA av maxL) [] M) : Clz l d y bytes maxL ret av M Po := by
  intro D cT ad sz
  subst ho
  refine Met.ofW (cc := bytes) (maxL := maxL) (ret := ret) hy rfl ?_
  intro p e s m args below meth c s₁ B hml hv
  obtain ⟨rfl, hsz, hP, hK, hD0, hN, hR, hZ⟩ := hv
  subst hsz
  have hts := atoms_spec (ws := Cond.code y bytes maxL ret :: tb) B.pre
  have b := body (p, l, e, (headSpec (Cond.code y bytes maxL ret :: tb) (rmz d)).room, s, m, (av.map (cvz ad)).toArray, below, meth, c, 0, 0, MQ below (CQz D cT ad (AAz ad s.heap.size) Po) (av.map (cvz ad)).toArray s 0 0 (AAz ad s.heap.size), D, cT, ad, maxL) rfl
    ⟨B.exec, B.bytes, hml, findClass_of_methodNamed B.named, fun w hw => hts w (List.mem_cons_of_mem _ hw), hN, hR, hK, hZ, Nat.zero_le _, Nat.zero_le _, Nat.le_refl _, Nat.le_refl _⟩ ⟨B.returns, B.notSynchronized, rfl⟩
  rw [lg_entry_eq]
  have hl := lv_entry (av.map (cvz ad)) (n := maxL) (by rw [lg_sl_cv]; exact hm)
  refine b s.heap [] _ ⟨hl.1, hl.2.1, fun q hq => ?_⟩ hP (wlz_DA hD0) va_S.rf
  obtain ⟨v, h1, h2, h3⟩ := lvK_mem.mp hq
  refine hl.2.2 q ?_
  rw [cvz_args]
  refine List.mem_map.mpr ⟨(q.1, v), lvA_args av 0 [] _ q.1 v rfl h1 h2 (Nat.zero_le _), ?_⟩
  show (q.1, cvz ad v) = q
  rw [← h3]
/-- a contract that holds for each answer of a weaker one -/
theorem Clz.weak {l : Launch} {d : Nat} {y : MethodName} {bytes : ByteArray} {maxL : Nat} {ret : Option FieldType} {av : List Value} {M : Mm} {Po Po' : Option Value → Mm → Prop} (h : Clz l d y bytes maxL ret av M Po) (hP : ∀ r M', Po r M' → Po' r M') : Clz l d y bytes maxL ret av M Po' := by
  intro D cT ad sz p e ha hc hk s m args below hf happ hPre hT
  obtain ⟨t, o, h1, h2, h3, ⟨⟨r, e1, r0, M', e2, e3, e4⟩, e5⟩, h5⟩ := h D cT ad sz p e ha hc hk s m args below hf happ hPre hT
  exact ⟨t, o, h1, h2, h3, ⟨⟨r, e1, r0, M', e2, hP _ _ e3, e4⟩, e5⟩, h5⟩
section SW
variable {X : Cxz} {cc : ByteArray} {own : String} {d pc N : Nat} {lv st : List Value} {M : Mm}
theorem s_istore_n {i : Fin 4} {x : Int32} (hL : nLz X = N) (h : Okz X cc own d) (hd : decode cc pc = .ok (.istore_n i, 1)) (hn : i.val < N) (hnd : ndz lv = true) (k : Gz X (pc + 1) (lvS lv i.val (.int x)) st M) : Gz X pc lv (.int x :: st) M := r_istore_n h hd (by rw [← hL] at hn; exact hn) hnd k
theorem s_istore {i : Nat} {x : Int32} (hL : nLz X = N) (h : Okz X cc own d) (hd : decode cc pc = .ok (.istore i, 2)) (hn : i < N) (hnd : ndz lv = true) (k : Gz X (pc + 2) (lvS lv i (.int x)) st M) : Gz X pc lv (.int x :: st) M := r_istore h hd (by rw [← hL] at hn; exact hn) hnd k
theorem s_astore_n {i : Fin 4} {x : Nat} (hL : nLz X = N) (h : Okz X cc own d) (hd : decode cc pc = .ok (.astore_n i, 1)) (hn : i.val < N) (hnd : ndz lv = true) (k : Gz X (pc + 1) (lvS lv i.val (.ref x)) st M) : Gz X pc lv (.ref x :: st) M := r_astore_n h hd (by rw [← hL] at hn; exact hn) hnd k
theorem s_astore {i : Nat} {x : Nat} (hL : nLz X = N) (h : Okz X cc own d) (hd : decode cc pc = .ok (.astore i, 2)) (hn : i < N) (hnd : ndz lv = true) (k : Gz X (pc + 2) (lvS lv i (.ref x)) st M) : Gz X pc lv (.ref x :: st) M := r_astore h hd (by rw [← hL] at hn; exact hn) hnd k
theorem s_lstore_n {i : Fin 4} {x : Int64} (hL : nLz X = N) (h : Okz X cc own d) (hd : decode cc pc = .ok (.lstore_n i, 1)) (hn : i.val + 1 < N) (hnd : ndz lv = true) (k : Gz X (pc + 1) (lvS2 lv i.val (.long x)) st M) : Gz X pc lv (.long x :: st) M := r_lstore_n h hd (by rw [← hL] at hn; exact hn) hnd k
theorem s_lstore {i : Nat} {x : Int64} (hL : nLz X = N) (h : Okz X cc own d) (hd : decode cc pc = .ok (.lstore i, 2)) (hn : i + 1 < N) (hnd : ndz lv = true) (k : Gz X (pc + 2) (lvS2 lv i (.long x)) st M) : Gz X pc lv (.long x :: st) M := r_lstore h hd (by rw [← hL] at hn; exact hn) hnd k
theorem s_iinc {i : Nat} {n : Int} {x w : Int32} (hL : nLz X = N) (h : Okz X cc own d) (hd : decode cc pc = .ok (.iinc i n, 3)) (hv : lv[i]? = some (.int x)) (hw : Int32.ofInt n = w) (hn : i < N) (hnd : ndz lv = true) (k : Gz X (pc + 3) (lvS lv i (.int (x + w))) st M) : Gz X pc lv st M := r_iinc h hd hv (by rw [hw]) (by rw [← hL] at hn; exact hn) hnd k
theorem s_iald (n : Nat) {q : Nat} {i : Int32} (h : Okz X cc own d) (hd : decode cc pc = .ok (.iaload, 1)) (ha : aI 10 q n = true) (hn : n ≤ 1000) (j : Nat) (hi : i = nI j) (hj : j < n) (kk : Gz X (pc + 1) lv (.int (M.1 q j) :: st) M) : Gz X pc lv (.int i :: .ref q :: st) M := by
  subst hi
  refine r_iald n h hd ha (vp_in_nI hj (by omega)) ?_
  rw [nI_clamp (by omega)]; exact kk
theorem s_bald (n : Nat) {q : Nat} {i : Int32} (h : Okz X cc own d) (hd : decode cc pc = .ok (.baload, 1)) (ha : aI 11 q n = true) (hn : n ≤ 1000) (j : Nat) (hi : i = nI j) (hj : j < n) (kk : Gz X (pc + 1) lv (.int (M.1 q j) :: st) M) : Gz X pc lv (.int i :: .ref q :: st) M := by
  subst hi
  refine r_bald n h hd ha (vp_in_nI hj (by omega)) ?_
  rw [nI_clamp (by omega)]; exact kk
theorem s_zald (n : Nat) {q : Nat} {i : Int32} (h : Okz X cc own d) (hd : decode cc pc = .ok (.baload, 1)) (ha : aI 12 q n = true) (hn : n ≤ 1000) (j : Nat) (hi : i = nI j) (hj : j < n) (kk : Gz X (pc + 1) lv (.int (M.1 q j) :: st) M) : Gz X pc lv (.int i :: .ref q :: st) M := by
  subst hi
  refine r_zald n h hd ha (vp_in_nI hj (by omega)) ?_
  rw [nI_clamp (by omega)]; exact kk
theorem s_iast (n : Nat) {q : Nat} {i x : Int32} (h : Okz X cc own d) (hd : decode cc pc = .ok (.iastore, 1)) (ha : aI 10 q n = true) (hn : n ≤ 1000) (j : Nat) (hi : i = nI j) (hj : j < n) (kk : Gz X (pc + 1) lv st (mput M q j x)) : Gz X pc lv (.int x :: .int i :: .ref q :: st) M := by
  subst hi
  refine r_iast n h hd ha (vp_in_nI hj (by omega)) ?_
  rw [nI_clamp (by omega)]; exact kk
theorem s_bast (n : Nat) {q : Nat} {i x : Int32} (h : Okz X cc own d) (hd : decode cc pc = .ok (.bastore, 1)) (ha : aI 11 q n = true) (hn : n ≤ 1000) (j : Nat) (hi : i = nI j) (hj : j < n) (kk : Gz X (pc + 1) lv st (mput M q j (vp_nar .byte x))) : Gz X pc lv (.int x :: .int i :: .ref q :: st) M := by
  subst hi
  refine r_bast n h hd ha (vp_in_nI hj (by omega)) ?_
  rw [nI_clamp (by omega)]; exact kk
theorem s_zast (n : Nat) {q : Nat} {i x : Int32} (h : Okz X cc own d) (hd : decode cc pc = .ok (.bastore, 1)) (ha : aI 12 q n = true) (hn : n ≤ 1000) (j : Nat) (hi : i = nI j) (hj : j < n) (kk : Gz X (pc + 1) lv st (mput M q j (vp_nar .boolean x))) : Gz X pc lv (.int x :: .int i :: .ref q :: st) M := by
  subst hi
  refine r_zast n h hd ha (vp_in_nI hj (by omega)) ?_
  rw [nI_clamp (by omega)]; exact kk
theorem s_topld {i : Int32} (h : Okz X cc own d) (hd : decode cc pc = .ok (.iaload, 1)) (j : Nat) (hi : i = nI j) (hj : j < 5) (kk : Gz X (pc + 1) lv (.int (topz j) :: st) M) : Gz X pc lv (.int i :: .ref 50 :: st) M := by
  subst hi
  refine r_topld h hd (vp_in_nI hj (by omega)) ?_
  rw [nI_clamp (by omega)]; exact kk
theorem s_tirld {i : Int32} (h : Okz X cc own d) (hd : decode cc pc = .ok (.iaload, 1)) (j : Nat) (hi : i = nI j) (hj : j < 4) (kk : Gz X (pc + 1) lv (.int (tirz j) :: st) M) : Gz X pc lv (.int i :: .ref 51 :: st) M := by
  subst hi
  refine r_tirld h hd (vp_in_nI hj (by omega)) ?_
  rw [nI_clamp (by omega)]; exact kk
end SW
/-- the four Nuts, the four Sheets -/
def nuP (p : Nat) : Prop := p = 4 ∨ p = 8 ∨ p = 16 ∨ p = 20
def shP (p : Nat) : Prop := p = 24 ∨ p = 26 ∨ p = 28 ∨ p = 30
theorem nu_o {p : Nat} (h : nuP p) : oC p 0 = true := by rcases h with rfl | rfl | rfl | rfl <;> rfl
theorem nu_R0 {p : Nat} (h : nuP p) : fR p 0 0 (p + 1) = true := by rcases h with rfl | rfl | rfl | rfl <;> rfl
theorem nu_R1 {p : Nat} (h : nuP p) : fR p 0 1 (p + 2) = true := by rcases h with rfl | rfl | rfl | rfl <;> rfl
theorem nu_R2 {p : Nat} (h : nuP p) : fR p 0 2 (p + 3) = true := by rcases h with rfl | rfl | rfl | rfl <;> rfl
theorem nu_I3 {p : Nat} (h : nuP p) : fI p 0 3 = true := by rcases h with rfl | rfl | rfl | rfl <;> rfl
theorem nu_I4 {p : Nat} (h : nuP p) : fI p 0 4 = true := by rcases h with rfl | rfl | rfl | rfl <;> rfl
theorem nu_I5 {p : Nat} (h : nuP p) : fI p 0 5 = true := by rcases h with rfl | rfl | rfl | rfl <;> rfl
theorem nu_I6 {p : Nat} (h : nuP p) : fI p 0 6 = true := by rcases h with rfl | rfl | rfl | rfl <;> rfl
theorem nu_I7 {p : Nat} (h : nuP p) : fI p 0 7 = true := by rcases h with rfl | rfl | rfl | rfl <;> rfl
theorem nu_A0 {p : Nat} (h : nuP p) : aI 10 (p + 1) 24 = true := by rcases h with rfl | rfl | rfl | rfl <;> rfl
theorem nu_A1 {p : Nat} (h : nuP p) : aI 10 (p + 2) 6 = true := by rcases h with rfl | rfl | rfl | rfl <;> rfl
theorem nu_A2 {p : Nat} (h : nuP p) : aI 10 (p + 3) 6 = true := by rcases h with rfl | rfl | rfl | rfl <;> rfl
theorem sh_o {p : Nat} (h : shP p) : oC p 1 = true := by rcases h with rfl | rfl | rfl | rfl <;> rfl
theorem sh_R0 {p : Nat} (h : shP p) : fR p 1 0 (p + 1) = true := by rcases h with rfl | rfl | rfl | rfl <;> rfl
theorem sh_I1 {p : Nat} (h : shP p) : fI p 1 1 = true := by rcases h with rfl | rfl | rfl | rfl <;> rfl
theorem sh_I2 {p : Nat} (h : shP p) : fI p 1 2 = true := by rcases h with rfl | rfl | rfl | rfl <;> rfl
theorem sh_A {p : Nat} (h : shP p) : aI 10 (p + 1) 40 = true := by rcases h with rfl | rfl | rfl | rfl <;> rfl
/-- truth as an int -/
def bI (b : Bool) : Int32 := if b = true then 1 else 0
theorem bI_0 {b : Bool} : bI b = 0 ↔ b = false := by cases b <;> decide
theorem bI_n0 {b : Bool} : ¬ bI b = 0 ↔ b = true := by cases b <;> decide
theorem bI_n {b : Bool} : narrow .boolean (.int (bI b)) = .int (bI b) := by cases b <;> rfl
theorem bI_f {b : Bool} : fits .boolean (.int (bI b)) = true := by cases b <;> rfl
theorem bI_nar (b : Bool) : vp_nar .boolean (bI b) = bI b := by cases b <;> decide
theorem i64_le {a b : Int32} : a.toInt64 ≤ b.toInt64 ↔ a ≤ b := by rw [Int64.le_iff_toInt_le, Int32.le_iff_toInt_le, Int32.toInt_toInt64, Int32.toInt_toInt64]
theorem i64_lt {a b : Int32} : a.toInt64 < b.toInt64 ↔ a < b := by rw [Int64.lt_iff_toInt_lt, Int32.lt_iff_toInt_lt, Int32.toInt_toInt64, Int32.toInt_toInt64]
theorem ix4 {x y : Int32} {a b : Nat} (hx : x = nI a) (hy : y = nI b) : 4 * x + y = nI (4 * a + b) := by
  rw [hx, hy, show (4 : Int32) = nI 4 from rfl, pk_mul, nI_add]
theorem xi4 {x y : Int32} {a b : Nat} (hx : x = nI a) (hy : y = nI b) : x * 4 + y = nI (4 * a + b) := by
  rw [hx, hy, show (4 : Int32) = nI 4 from rfl, pk_mul, nI_add, Nat.mul_comm]
theorem sw_1_3 (x : Int32) : x = 1 ∨ x = 2 ∨ x = 3 ∨ (x.toInt < 1 ∨ 3 < x.toInt) := by
  by_cases h1 : x = 1
  · exact Or.inl h1
  · by_cases h2 : x = 2
    · exact Or.inr (Or.inl h2)
    · by_cases h3 : x = 3
      · exact Or.inr (Or.inr (Or.inl h3))
      · have a1 := lv_neT (a := 1) h1 rfl
        have a2 := lv_neT (a := 2) h2 rfl
        have a3 := lv_neT (a := 3) h3 rfl
        right; right; right; omega
