/-! text constants: length(), charAt(k) over places 60 .. 64 -/
variable {X : Cxz} {cc : ByteArray} {own : String} {d pc : Nat} {lv st : List Value} {M : Mm}
theorem r_comp {idx : Nat} (h : Okz X cc own d) (hd : decode cc pc = .ok (.getstatic idx, 3)) (hlk : Cond.fieldLink own idx "java/lang/String" "COMPACT_STRINGS" "Z" ∈ tb) (kk : Gz X (pc + 3) lv (.int 1 :: st) M) : Gz X pc lv st M := by
  obtain ⟨p, l, e, R, s, m, args, below, meth, c, cells, slots, Q, D, cT, ad, nL⟩ := X
  intro H locs ls hl hP hD hS
  exact va_gets (rest := st.map (cvz ad)) h.1 h.2.1 h.2.2.2.2.2.2.2.2.1.2.2.2.2.1 hS h.2.2.2.1 (h.2.2.2.2.1 _ hlk) (fun _ z => z) hd (kk H locs ls hl hP hD hS)
theorem r_form {idx : Nat} (h : Okz X cc own d) (hd : decode cc pc = .ok (.getstatic idx, 3)) (hlk : Cond.fieldLink own idx "jdk/internal/util/Preconditions" "SIOOBE_FORMATTER" "Ljava/util/function/BiFunction;" ∈ tb) (kk : ∀ v, (v = .null ∨ v = .ref 99) → Gz X (pc + 3) lv (v :: st) M) : Gz X pc lv st M := by
  obtain ⟨p, l, e, R, s, m, args, below, meth, c, cells, slots, Q, D, cT, ad, nL⟩ := X
  intro H locs ls hl hP hD hS
  rcases h.2.2.2.2.2.2.2.2.1.2.2.2.2.2.1 with hz | hz
  · exact va_gets (rest := st.map (cvz ad)) h.1 h.2.1 hz hS h.2.2.2.1 (h.2.2.2.2.1 _ hlk) (fun _ z => z) hd (kk .null (Or.inl rfl) H locs ls hl hP hD hS)
  · exact va_gets (rest := st.map (cvz ad)) h.1 h.2.1 hz hS h.2.2.2.1 (h.2.2.2.2.1 _ hlk) (fun _ z => z) hd (kk (.ref 99) (Or.inr rfl) H locs ls hl hP hD hS)
theorem r_sval {idx i : Nat} (hi : i < 5) (h : Okz X cc own d) (hd : decode cc pc = .ok (.getfield idx, 3)) (hlk : Cond.fieldLink own idx "java/lang/String" "value" "[B" ∈ tb) (kk : Gz X (pc + 3) lv (.ref (70 + i) :: st) M) : Gz X pc lv (.ref (60 + i) :: st) M := by
  obtain ⟨p, l, e, R, s, m, args, below, meth, c, cells, slots, Q, D, cT, ad, nL⟩ := X
  intro H locs ls hl hP hD hS
  exact vk_getf (rest := st.map (cvz ad)) h.1 h.2.1 (h.2.2.2.2.2.2.2.2.1.2.2.2.2.2.2.1 i hi).2.2.1 hS h.2.2.2.1 (h.2.2.2.2.1 _ hlk) (fun _ z => z) hd (kk H locs ls hl hP hD hS)
theorem r_scod {idx i : Nat} (hi : i < 5) (h : Okz X cc own d) (hd : decode cc pc = .ok (.getfield idx, 3)) (hlk : Cond.fieldLink own idx "java/lang/String" "coder" "B" ∈ tb) (kk : Gz X (pc + 3) lv (.int 0 :: st) M) : Gz X pc lv (.ref (60 + i) :: st) M := by
  obtain ⟨p, l, e, R, s, m, args, below, meth, c, cells, slots, Q, D, cT, ad, nL⟩ := X
  intro H locs ls hl hP hD hS
  exact vk_getf (rest := st.map (cvz ad)) h.1 h.2.1 (h.2.2.2.2.2.2.2.2.1.2.2.2.2.2.2.1 i hi).2.1 hS h.2.2.2.1 (h.2.2.2.2.1 _ hlk) (fun _ z => z) hd (kk H locs ls hl hP hD hS)
theorem r_slen {i : Nat} (hi : i < 5) (h : Okz X cc own d) (hd : decode cc pc = .ok (.arraylength, 1)) (kk : Gz X (pc + 1) lv (.int (nI (lenz.getD i 0)) :: st) M) : Gz X pc lv (.ref (70 + i) :: st) M := by
  obtain ⟨p, l, e, R, s, m, args, below, meth, c, cells, slots, Q, D, cT, ad, nL⟩ := X
  intro H locs ls hl hP hD hS
  exact va_tlen (rest := st.map (cvz ad)) h.1 h.2.1 (h.2.2.2.2.2.2.2.2.1.2.2.2.2.2.2.1 i hi).2.2.2 hS rfl hd (kk H locs ls hl hP hD hS)
def chz (i k : Nat) : Int32 := (bytz.getD i []).getD k 0
theorem r_schr {i k : Nat} {x : Int32} (hi : i < 5) (hx : x = nI k) (hk : k < lenz.getD i 0) (hk2 : lenz.getD i 0 < 100) (h : Okz X cc own d) (hd : decode cc pc = .ok (.baload, 1)) (kk : Gz X (pc + 1) lv (.int (chz i k) :: st) M) : Gz X pc lv (.int x :: .ref (70 + i) :: st) M := by
  obtain ⟨p, l, e, R, s, m, args, below, meth, c, cells, slots, Q, D, cT, ad, nL⟩ := X
  intro H locs ls hl hP hD hS
  subst hx
  exact va_tb (rest := st.map (cvz ad)) h.1 h.2.1 (h.2.2.2.2.2.2.2.2.1.2.2.2.2.2.2.1 i hi).2.2.2 hS (vp_in_nI hk (by omega)) (by rw [nI_clamp (by omega)]; rfl) hd (kk H locs ls hl hP hD hS)
def MTz (y : MethodName) (bytes : ByteArray) (maxL : Nat) (ret : Option FieldType) (n : Nat) : Prop := y.cls = "java/lang/String" ∧ NMz y n ∧ Cond.instanceMethod y ∈ tb ∧ Cond.selects y.cls y y ∈ tb ∧ Cond.initialized y.cls ∈ tb ∧ Cond.code y bytes maxL ret ∈ tb
theorem r_callT {idx d' maxL n i : Nat} {y : MethodName} {bytes : ByteArray} {ret : Option FieldType} {av rest : List Value} {Po : Option Value → Mm → Prop} (hi : i < 5) (h : Okz X cc own d) (hd : decode cc pc = .ok (.invokevirtual idx, 3)) (lk : Cond.methodLink own idx y ∈ tb) (mi : MTz y bytes maxL ret n) (hc : Clz X.2.1 d' y bytes maxL ret (.ref (60 + i) :: av) M Po) (hR : d' < d ∧ maxL ≤ 17 ∧ av.length = n ∧ (rest.map fun v => v.category).sum ≤ 8) (hst : st = av.reverse ++ .ref (60 + i) :: rest)
    (kk : ∀ (r : Option Value) (M' : Mm), Po r M' → Gz X (pc + 3) lv (r.toList ++ rest) M') : Gz X pc lv st M := by
  obtain ⟨p, l, e, R, s, m, args, below, meth, c, cells, slots, Q, D, cT, ad, nL⟩ := X
  intro H locs ls hl hP hD hS
  subst hst
  obtain ⟨hcs, ⟨m1, m2, m3⟩, m4, m5, m6, m7⟩ := mi
  obtain ⟨hx, hb, hml, hown, hts, hN, hRS, hK, hZ, g1, g2, g3, g4⟩ := h
  obtain ⟨r1, r2, r3, r4⟩ := hR
  have hM := hc D cT ad H.size
  have hp : PreV s H y.cls (ad (60 + i)) (va_Pc ((Value.ref (60 + i) :: av).map (cvz ad)) (CPz D cT ad H.size M)) (av.map (cvz ad)) := ⟨CPz_blind, by rw [hcs]; exact vk_recv (i := i) hZ.2.2.2.2.2.2 hi hS, CPz_at hP hD hS hN hRS hK hZ⟩
  have hrm : (rmz d').frames + 1 ≤ R.frames ∧ 8 + (maxL + 11) + (rmz d').locals ≤ R.locals := ⟨by show d' + 1 ≤ _; omega, by show 8 + (maxL + 11) + 36 * d' ≤ _; omega⟩
  have hsum : ((rest.map (cvz ad)).map fun v => v.category).sum ≤ 8 := by
    rw [List.map_map, show ((fun v : Value => v.category) ∘ cvz ad) = (fun v => v.category) from funext (fun v => cvz_cat ad v)]
    exact r4
  have hstk : (F0 m pc ls ((av.reverse ++ Value.ref (60 + i) :: rest).map (cvz ad))).stack = (av.map (cvz ad)).reverse ++ .ref (ad (60 + i)) :: rest.map (cvz ad) := by
    show (av.reverse ++ Value.ref (60 + i) :: rest).map (cvz ad) = _
    rw [List.map_append, List.map_reverse]; rfl
  have fin : ∀ q, AAz ad H.size q → AAz ad s.heap.size q := fun q hq => hq.elim Or.inl (fun z => Or.inr (Nat.le_trans hS.1 z))
  have run : va_Run p l e R s m args below meth c H locs cells slots 0 0 (F0 m pc ls ((av.reverse ++ Value.ref (60 + i) :: rest).map (cvz ad))) (rest.map (cvz ad)) (CQz D cT ad (AAz ad H.size) Po (Value.ref (ad (60 + i)) :: av.map (cvz ad)).toArray) (AAz ad H.size) :=
    va_runV ⟨hx, hb, hml, hown, hts⟩ hM ⟨callB_of n hts (good_cons m7) rfl rfl rfl (hts _ m6) (hts _ lk) ⟨m1, m2, m3⟩ hrm, hts _ m4, hts _ m5⟩ hp rfl (by rw [List.length_map]; exact r3) hl.1 hstk (lv_room hsum) hd ⟨g1, g2⟩
  refine mm_call run hS (fun q _ hq => fin q hq) fin (fun r t H1 locs1 ht hpost hS1 => ?_)
  obtain ⟨r0, M', e1, e2, e3⟩ := hpost
  have key := kk r0 M' e2 H1 locs1 ls hl (by rw [← ht]; exact e3) (wlz_D hD) hS1
  rw [List.map_append] at key
  subst e1
  cases r0 with
  | none => exact key
  | some v => exact key
theorem r_fT {idx d' maxL n i : Nat} {y : MethodName} {bytes : ByteArray} {ret : Option FieldType} {av rest : List Value} {r : Option Value} {M' : Mm} (hi : i < 5) (h : Okz X cc own d) (hd : decode cc pc = .ok (.invokevirtual idx, 3)) (lk : Cond.methodLink own idx y ∈ tb) (mi : MTz y bytes maxL ret n) (hc : CFz X.2.1 d' y bytes maxL ret (.ref (60 + i) :: av) M r M') (hR : d' < d ∧ maxL ≤ 17 ∧ av.length = n ∧ (rest.map fun v => v.category).sum ≤ 8) (hst : st = av.reverse ++ .ref (60 + i) :: rest)
    (kk : Gz X (pc + 3) lv (r.toList ++ rest) M') : Gz X pc lv st M := r_callT hi h hd lk mi hc hR hst (fun r1 M1 e => by rw [e.1, e.2]; exact kk)
theorem mtJ0_length_8abf5 : MTz yJ0_length_8abf5 cJ0_length_8abf5 1 (some .int) 0 := ⟨rfl, ⟨by decide +kernel, by decide +kernel, by decide +kernel⟩, (tb_of 304 (by decide +kernel) rfl), (tb_of 305 (by decide +kernel) rfl), (tb_of 92 (by decide +kernel) rfl), (tb_of 306 (by decide +kernel) rfl)⟩
theorem mtJ0_charAt_5068e : MTz yJ0_charAt_5068e cJ0_charAt_5068e 2 (some .char) 1 := ⟨rfl, ⟨by decide +kernel, by decide +kernel, by decide +kernel⟩, (tb_of 314 (by decide +kernel) rfl), (tb_of 315 (by decide +kernel) rfl), (tb_of 92 (by decide +kernel) rfl), (tb_of 316 (by decide +kernel) rfl)⟩
theorem mtJ0_coder_7d493 : MTz yJ0_coder_7d493 cJ0_coder_7d493 1 (some .byte) 0 := ⟨rfl, ⟨by decide +kernel, by decide +kernel, by decide +kernel⟩, (tb_of 308 (by decide +kernel) rfl), (tb_of 309 (by decide +kernel) rfl), (tb_of 92 (by decide +kernel) rfl), (tb_of 310 (by decide +kernel) rfl)⟩
theorem mtJ0_isLatin1_aae02 : MTz yJ0_isLatin1_aae02 cJ0_isLatin1_aae02 1 (some .boolean) 0 := ⟨rfl, ⟨by decide +kernel, by decide +kernel, by decide +kernel⟩, (tb_of 318 (by decide +kernel) rfl), (tb_of 319 (by decide +kernel) rfl), (tb_of 92 (by decide +kernel) rfl), (tb_of 320 (by decide +kernel) rfl)⟩
theorem msJ1_charAt_3b067 : MSz yJ1_charAt_3b067 cJ1_charAt_3b067 2 (some .char) 2 := ⟨⟨by decide +kernel, by decide +kernel, by decide +kernel⟩, (tb_of 322 (by decide +kernel) rfl), (tb_of 93 (by decide +kernel) rfl), (tb_of 323 (by decide +kernel) rfl)⟩
theorem msJ0_checkIndex_df160 : MSz yJ0_checkIndex_df160 cJ0_checkIndex_df160 2 none 2 := ⟨⟨by decide +kernel, by decide +kernel, by decide +kernel⟩, (tb_of 325 (by decide +kernel) rfl), (tb_of 92 (by decide +kernel) rfl), (tb_of 326 (by decide +kernel) rfl)⟩
theorem msJ3_checkIndex_8e157 : MSz yJ3_checkIndex_8e157 cJ3_checkIndex_8e157 3 (some .int) 3 := ⟨⟨by decide +kernel, by decide +kernel, by decide +kernel⟩, (tb_of 330 (by decide +kernel) rfl), (tb_of 94 (by decide +kernel) rfl), (tb_of 331 (by decide +kernel) rfl)⟩
theorem len_d : ∀ i, i < 5 → nI (lenz.getD i 0) >>> ((0 : Int32) &&& 31) = nI (lenz.getD i 0) ∧ lenz.getD i 0 < 8 := by decide +kernel
theorem chr_d : ∀ i, i < 5 → ∀ k, k < 8 → ((chz i k &&& 255).toUInt32 % 65536).toInt32 = chz i k ∧ (chz i k).toUInt32.toUInt16.toUInt32.toInt32 = chz i k := by decide +kernel
theorem nar_c {x : Int32} (h : x.toUInt32.toUInt16.toUInt32.toInt32 = x) : narrow .char (.int x) = .int x := by show Value.int _ = _; rw [h]
theorem zJ0_coder_7d493 (l : Launch) {M : Mm} {i : Nat} (hi : i < 5) : CFz l 0 yJ0_coder_7d493 cJ0_coder_7d493 1 (some .byte) [.ref (60 + i)] M (some (.int 0)) M := by
  refine Clz.on RJ0 rfl (by decide +kernel) (Nat.le_of_ble_eq_true rfl) (fun X hL hO hr => ?_)
  show Gz X 0 [.ref (60 + i)] [] M
  refine r_comp hO dJ0_coder_7d493_0 (tb_of 311 (by decide +kernel) rfl) ?_
  refine r_if_eq 13 hO dJ0_coder_7d493_3 (by decide) (fun z => absurd z (by decide)) (fun _ => ?_)
  refine r_aload_n hO dJ0_coder_7d493_6 rfl ?_
  refine r_scod hi hO dJ0_coder_7d493_7 (tb_of 1154 (by decide +kernel) rfl) ?_
  refine r_goto 14 hO dJ0_coder_7d493_10 (by decide) ?_
  exact r_ireturn hO hr dJ0_coder_7d493_14 rfl ⟨rfl, rfl⟩
theorem zJ0_isLatin1_aae02 (l : Launch) {M : Mm} {i : Nat} (hi : i < 5) : CFz l 0 yJ0_isLatin1_aae02 cJ0_isLatin1_aae02 1 (some .boolean) [.ref (60 + i)] M (some (.int 1)) M := by
  refine Clz.on RJ0 rfl (by decide +kernel) (Nat.le_of_ble_eq_true rfl) (fun X hL hO hr => ?_)
  show Gz X 0 [.ref (60 + i)] [] M
  refine r_comp hO dJ0_isLatin1_aae02_0 (tb_of 311 (by decide +kernel) rfl) ?_
  refine r_if_eq 17 hO dJ0_isLatin1_aae02_3 (by decide) (fun z => absurd z (by decide)) (fun _ => ?_)
  refine r_aload_n hO dJ0_isLatin1_aae02_6 rfl ?_
  refine r_scod hi hO dJ0_isLatin1_aae02_7 (tb_of 1154 (by decide +kernel) rfl) ?_
  refine r_if_ne 17 hO dJ0_isLatin1_aae02_10 (by decide) (fun z => absurd rfl z) (fun _ => ?_)
  refine r_iconst hO dJ0_isLatin1_aae02_13 ic_1 ?_
  refine r_goto 18 hO dJ0_isLatin1_aae02_14 (by decide) ?_
  exact r_ireturn hO hr dJ0_isLatin1_aae02_18 rfl ⟨rfl, rfl⟩
theorem zJ0_length_8abf5 (l : Launch) {M : Mm} {i : Nat} (hi : i < 5) : CFz l 1 yJ0_length_8abf5 cJ0_length_8abf5 1 (some .int) [.ref (60 + i)] M (some (.int (nI (lenz.getD i 0)))) M := by
  refine Clz.on RJ0 rfl (by decide +kernel) (Nat.le_of_ble_eq_true rfl) (fun X hL hO hr => ?_)
  show Gz X 0 [.ref (60 + i)] [] M
  refine r_aload_n hO dJ0_length_8abf5_0 rfl ?_
  refine r_sval hi hO dJ0_length_8abf5_1 (tb_of 1153 (by decide +kernel) rfl) ?_
  refine r_slen hi hO dJ0_length_8abf5_4 ?_
  refine r_aload_n hO dJ0_length_8abf5_5 rfl ?_
  refine r_fT hi hO dJ0_length_8abf5_6 (tb_of 307 (by decide +kernel) rfl) mtJ0_coder_7d493 (zJ0_coder_7d493 _ hi) ⟨Nat.le_of_ble_eq_true rfl, Nat.le_of_ble_eq_true rfl, rfl, Nat.le_of_ble_eq_true rfl⟩ rfl ?_
  refine r_ishr hO dJ0_length_8abf5_9 ?_
  exact r_ireturn hO hr dJ0_length_8abf5_10 rfl ⟨sI (len_d i hi).1, rfl⟩
theorem zJ3_checkIndex (l : Launch) {M : Mm} {x y : Int32} {v : Value} (hv : v = .null ∨ v = .ref 99) (a n : Nat) (hx : x = nI a) (hy : y = nI n) (han : a < n) (hn : n < 100) : CFz l 0 yJ3_checkIndex_8e157 cJ3_checkIndex_8e157 3 (some .int) [.int x, .int y, v] M (some (.int x)) M := by
  subst hx hy
  rcases hv with rfl | rfl
  · refine Clz.on RJ3 rfl (by decide +kernel) (Nat.le_of_ble_eq_true rfl) (fun X hL hO hr => ?_)
    show Gz X 0 [.int (nI a), .int (nI n), .null] [] M
    refine r_iload_n hO dJ3_checkIndex_8e157_0 rfl ?_
    refine r_if_lt 9 hO dJ3_checkIndex_8e157_1 (by decide) (fun z => absurd z (nI_pos (by omega))) (fun _ => ?_)
    refine r_iload_n hO dJ3_checkIndex_8e157_4 rfl ?_
    refine r_iload_n hO dJ3_checkIndex_8e157_5 rfl ?_
    refine r_icmp_lt 16 hO dJ3_checkIndex_8e157_6 (by decide) (fun _ => ?_) (fun z => absurd (nI_lt han (by omega)) z)
    refine r_iload_n hO dJ3_checkIndex_8e157_16 rfl ?_
    exact r_ireturn hO hr dJ3_checkIndex_8e157_17 rfl ⟨rfl, rfl⟩
  · refine Clz.on RJ3 rfl (by decide +kernel) (Nat.le_of_ble_eq_true rfl) (fun X hL hO hr => ?_)
    show Gz X 0 [.int (nI a), .int (nI n), .ref 99] [] M
    refine r_iload_n hO dJ3_checkIndex_8e157_0 rfl ?_
    refine r_if_lt 9 hO dJ3_checkIndex_8e157_1 (by decide) (fun z => absurd z (nI_pos (by omega))) (fun _ => ?_)
    refine r_iload_n hO dJ3_checkIndex_8e157_4 rfl ?_
    refine r_iload_n hO dJ3_checkIndex_8e157_5 rfl ?_
    refine r_icmp_lt 16 hO dJ3_checkIndex_8e157_6 (by decide) (fun _ => ?_) (fun z => absurd (nI_lt han (by omega)) z)
    refine r_iload_n hO dJ3_checkIndex_8e157_16 rfl ?_
    exact r_ireturn hO hr dJ3_checkIndex_8e157_17 rfl ⟨rfl, rfl⟩
theorem zJ0_checkIndex_df160 (l : Launch) {M : Mm} {x y : Int32} (a n : Nat) (hx : x = nI a) (hy : y = nI n) (han : a < n) (hn : n < 100) : CFz l 1 yJ0_checkIndex_df160 cJ0_checkIndex_df160 2 none [.int x, .int y] M (none) M := by
  refine Clz.on RJ0 rfl (by decide +kernel) (Nat.le_of_ble_eq_true rfl) (fun X hL hO hr => ?_)
  show Gz X 0 [.int x, .int y] [] M
  refine r_iload_n hO dJ0_checkIndex_df160_0 rfl ?_
  refine r_iload_n hO dJ0_checkIndex_df160_1 rfl ?_
  refine r_form hO dJ0_checkIndex_df160_2 (tb_of 327 (by decide +kernel) rfl) (fun v hv => ?_)
  refine r_fS (rest := []) hO dJ0_checkIndex_df160_5 (Or.inl (tb_of 329 (by decide +kernel) rfl)) msJ3_checkIndex_8e157 (zJ3_checkIndex _ hv a n hx hy han hn) ⟨Nat.le_of_ble_eq_true rfl, Nat.le_of_ble_eq_true rfl, rfl, Nat.le_of_ble_eq_true rfl⟩ rfl ?_
  refine r_pop hO dJ0_checkIndex_df160_8 rfl ?_
  exact r_return hO hr dJ0_checkIndex_df160_9 ⟨rfl, rfl⟩
theorem zJ1_charAt_3b067 (l : Launch) {M : Mm} {i k : Nat} {x : Int32} (hi : i < 5) (hx : x = nI k) (hk : k < lenz.getD i 0) : CFz l 2 yJ1_charAt_3b067 cJ1_charAt_3b067 2 (some .char) [.ref (70 + i), .int x] M (some (.int (chz i k))) M := by
  refine Clz.on RJ1 rfl (by decide +kernel) (Nat.le_of_ble_eq_true rfl) (fun X hL hO hr => ?_)
  show Gz X 0 [.ref (70 + i), .int x] [] M
  have hl := (len_d i hi).2
  refine r_iload_n hO dJ1_charAt_3b067_0 rfl ?_
  refine r_aload_n hO dJ1_charAt_3b067_1 rfl ?_
  refine r_slen hi hO dJ1_charAt_3b067_2 ?_
  refine r_fS (rest := []) hO dJ1_charAt_3b067_3 (Or.inl (tb_of 324 (by decide +kernel) rfl)) msJ0_checkIndex_df160 (zJ0_checkIndex_df160 _ k (lenz.getD i 0) hx rfl hk (by omega)) ⟨Nat.le_of_ble_eq_true rfl, Nat.le_of_ble_eq_true rfl, rfl, Nat.le_of_ble_eq_true rfl⟩ rfl ?_
  refine r_aload_n hO dJ1_charAt_3b067_6 rfl ?_
  refine r_iload_n hO dJ1_charAt_3b067_7 rfl ?_
  refine r_schr hi hx hk (by omega) hO dJ1_charAt_3b067_8 ?_
  refine r_sipush hO dJ1_charAt_3b067_9 (show (Int16.ofInt 255).toInt32 = 255 from by decide) ?_
  refine r_iand hO dJ1_charAt_3b067_12 ?_
  refine r_i2c hO dJ1_charAt_3b067_13 ?_
  rw [(chr_d i hi k (by omega)).1]
  exact r_ireturn hO hr dJ1_charAt_3b067_14 (nar_c (chr_d i hi k (by omega)).2) ⟨rfl, rfl⟩
theorem zJ0_charAt_5068e (l : Launch) {M : Mm} {i k : Nat} {x : Int32} (hi : i < 5) (hx : x = nI k) (hk : k < lenz.getD i 0) : CFz l 4 yJ0_charAt_5068e cJ0_charAt_5068e 2 (some .char) [.ref (60 + i), .int x] M (some (.int (chz i k))) M := by
  refine Clz.on RJ0 rfl (by decide +kernel) (Nat.le_of_ble_eq_true rfl) (fun X hL hO hr => ?_)
  show Gz X 0 [.ref (60 + i), .int x] [] M
  have hl := (len_d i hi).2
  refine r_aload_n hO dJ0_charAt_5068e_0 rfl ?_
  refine r_fT hi hO dJ0_charAt_5068e_1 (tb_of 317 (by decide +kernel) rfl) mtJ0_isLatin1_aae02 (zJ0_isLatin1_aae02 _ hi) ⟨Nat.le_of_ble_eq_true rfl, Nat.le_of_ble_eq_true rfl, rfl, Nat.le_of_ble_eq_true rfl⟩ rfl ?_
  refine r_if_eq 16 hO dJ0_charAt_5068e_4 (by decide) (fun z => absurd z (by decide)) (fun _ => ?_)
  refine r_aload_n hO dJ0_charAt_5068e_7 rfl ?_
  refine r_sval hi hO dJ0_charAt_5068e_8 (tb_of 1153 (by decide +kernel) rfl) ?_
  refine r_iload_n hO dJ0_charAt_5068e_11 rfl ?_
  refine r_fS (rest := []) hO dJ0_charAt_5068e_12 (Or.inl (tb_of 321 (by decide +kernel) rfl)) msJ1_charAt_3b067 (zJ1_charAt_3b067 _ hi hx hk) ⟨Nat.le_of_ble_eq_true rfl, Nat.le_of_ble_eq_true rfl, rfl, Nat.le_of_ble_eq_true rfl⟩ rfl ?_
  exact r_ireturn hO hr dJ0_charAt_5068e_15 (nar_c (chr_d i hi k (by omega)).2) ⟨rfl, rfl⟩
theorem r_ldcT {idx q : Nat} {tx : String} (h : Okz X cc own d) (hd : decode cc pc = .ok (.ldc idx, 2)) (hz : ∀ ad s, RSz ad s → vk_R own idx tx (ad q) s) (kk : Gz X (pc + 2) lv (.ref q :: st) M) : Gz X pc lv st M := by
  obtain ⟨p, l, e, R, s, m, args, below, meth, c, cells, slots, Q, D, cT, ad, nL⟩ := X
  intro H locs ls hl hP hD hS
  exact va_ldcS (rest := st.map (cvz ad)) h.1 h.2.1 h.2.2.2.1 (hz ad s h.2.2.2.2.2.2.1) hd (kk H locs ls hl hP hD hS)
