/-! what is best: the class -/
theorem r_null {X : Cxz} {pc : Nat} {lv st : List Value} {M : Mm} (j : Nat) (k : Gz X pc (lv.set j .null) st M) : Gz X pc lv st M := by
  obtain ⟨p, l, e, R, s, m, args, below, meth, c, cells, slots, Q, D, cT, ad, nL⟩ := X
  intro H locs ls hl hP hD hS
  refine k H locs ls ⟨hl.1, hl.2.1, fun q hq => hl.2.2 q ?_⟩ hP hD hS
  obtain ⟨v, h1, h2, h3⟩ := lvK_mem.mp hq
  refine lvK_mem.mpr ⟨v, ?_, h2, h3⟩
  by_cases hj : q.1 = j
  · rw [hj] at h1
    have hl := (List.getElem?_eq_some_iff.mp h1).1
    rw [List.getElem?_set_self (by rw [List.length_set] at hl; exact hl)] at h1
    exact absurd (Option.some.inj h1).symm h2
  · rw [List.getElem?_set_ne (Ne.symm hj)] at h1
    exact h1
theorem CU.cvMb {M : Mm} {p : Nat} {u : Nu} (h : CU M p u) {i k v : Nat} (hi : i < u.1.length) (hk : k < 4) (hv : v ≤ topN k) : CV (mput M (p + 1) (4 * i + k) (nI v)) p (sMb (nuS u) i k v) :=
  (h.put (b := u.1.getD i (0, 0, 0, 0)) (by rw [List.getD_eq_getElem?_getD, List.getElem?_eq_getElem hi]; rfl) hk hv).cv
theorem CU.cvMo {M : Mm} {p : Nat} {u : Nu} (h : CU M p u) {v : Nat} (hv : v ≤ 20) : CV (mput M p 4 (nI v)) p (sMo (nuS u) v) := by
  obtain ⟨⟨h1, h2, h3, h4, h5, h6⟩, g2, g3, g4, g5⟩ := h
  refine ⟨h1, ?_, by rw [mpg, if_neg (by omega)]; exact h3, ⟨by show (mput M p 4 (nI v)).1 p 4 = nI v; simp [mpg], hv⟩, ⟨by rw [mpg, if_neg (by omega)]; exact h5.1, h5.2⟩, ⟨by rw [mpg, if_neg (by omega)]; exact h6.1, h6.2⟩⟩
  rw [mput_ne _ (by omega)]; exact h2
theorem MbAt.erase {f : Nat → Int32} {ms : List Mb} (h : MbAt f ms) (hl : ms.length ≤ 6) {i : Nat} (hi : i < ms.length) : MbAt (va_cpy f f (4 * (i + 1)) (4 * i) (24 - 4 * (i + 1))) (ms.eraseIdx i) := by
  intro j b hb
  rw [List.getElem?_eraseIdx] at hb
  split at hb
  · rename_i hj
    obtain ⟨h1, h2, h3, h4, h5⟩ := h j b hb
    exact ⟨by rw [pk_cpy_out (by omega)]; exact h1, by rw [pk_cpy_out (by omega)]; exact h2, by rw [pk_cpy_out (by omega)]; exact h3, by rw [pk_cpy_out (by omega)]; exact h4, h5⟩
  · rename_i hj
    have hjl := (List.getElem?_eq_some_iff.mp hb).1
    obtain ⟨h1, h2, h3, h4, h5⟩ := h (j + 1) b hb
    refine ⟨?_, ?_, ?_, ?_, h5⟩
    · rw [pk_cpy_in (by omega) (by omega), show 4 * (i + 1) + (4 * j - 4 * i) = 4 * (j + 1) from by omega]; exact h1
    · rw [pk_cpy_in (by omega) (by omega), show 4 * (i + 1) + (4 * j + 1 - 4 * i) = 4 * (j + 1) + 1 from by omega]; exact h2
    · rw [pk_cpy_in (by omega) (by omega), show 4 * (i + 1) + (4 * j + 2 - 4 * i) = 4 * (j + 1) + 2 from by omega]; exact h3
    · rw [pk_cpy_in (by omega) (by omega), show 4 * (i + 1) + (4 * j + 3 - 4 * i) = 4 * (j + 1) + 3 from by omega]; exact h4
theorem CU.cvOut {M : Mm} {p : Nat} {u : Nu} (h : CU M p u) {i n : Nat} (hi : i < u.1.length) (hn : u.1.length = n + 1) : CV (mput (mset M (p + 1) (va_cpy (M.1 (p + 1)) (M.1 (p + 1)) (4 * (i + 1)) (4 * i) (24 - 4 * (i + 1)))) p 3 (nI n)) p (sOut (nuS u) i) := by
  obtain ⟨⟨h1, h2, h3, h4, h5, h6⟩, g2, g3, g4, g5⟩ := h
  have hlen : (u.1.eraseIdx i).length = n := by rw [List.length_eraseIdx_of_lt hi]; omega
  have far : ∀ j, j ≠ 3 → (mput (mset M (p + 1) (va_cpy (M.1 (p + 1)) (M.1 (p + 1)) (4 * (i + 1)) (4 * i) (24 - 4 * (i + 1)))) p 3 (nI n)).1 p j = M.1 p j := fun j hj => by rw [mpg, if_neg (by omega), msg, if_neg (by omega)]
  refine ⟨by show (u.1.eraseIdx i).length ≤ 6; omega, ?_, by show _ = nI (u.1.eraseIdx i).length; rw [hlen]; simp [mpg], ⟨by rw [far _ (by omega)]; exact h4.1, h4.2⟩, ⟨by rw [far _ (by omega)]; exact h5.1, h5.2⟩, ⟨by rw [far _ (by omega)]; exact h6.1, h6.2⟩⟩
  rw [mput_ne _ (by omega), mset_at]
  exact h2.erase h1 hi
theorem FQ.set {M : Mm} {p : Nat} {f : Nat → Int32} (h : 8 ≤ p ∧ p ≤ 11) : FQ M (mset M p f) := ⟨fun a j h1 h2 h3 => by rw [msg, if_neg (by omega)], rfl⟩
set_option maxHeartbeats 4000000 in
theorem zX4_soonest (l : Launch) {M : Mm} {σ : Sta} (h : RC M σ) {x y w : Int32} (a k n : Nat) (hx : x = nI a) (hy : y = nI k) (ha : a < σ.1.1.length) (hk : k < 4) (hn : topN k = n) : Clz l 5 yX4_soonest cX4_soonest 8 (some .int) [.ref 0, .int x, .int y, .int w] M (fun r M' => r = some (.int (p_soon (fun v => dtS 61 (sMb (nuS σ.1) a k v)) (n + 1) none w)) ∧ RC M' σ ∧ FCr M M') := by
  refine Clz.on RX4 rfl (by decide +kernel) (Nat.le_of_ble_eq_true rfl) (fun X hL hO hr => ?_)
  show Gz X 0 [.ref 0, .int x, .int y, .int w, .null, .null, .null, .null] [] M
  refine r_bipush hO dX4_soonest_0 bc_61 ?_
  refine s_istore hL hO dX4_soonest_2 (Nat.le_of_ble_eq_true rfl) rfl ?_
  refine r_bipush hO dX4_soonest_4 bc_m4 ?_
  refine s_istore hL hO dX4_soonest_6 (Nat.le_of_ble_eq_true rfl) rfl ?_
  refine r_iconst hO dX4_soonest_8 ic_0 ?_
  refine s_istore hL hO dX4_soonest_9 (Nat.le_of_ble_eq_true rfl) rfl ?_
  have htp : topz k = nI n := by rw [topz_n k hk, hn]
  have hn20 : n ≤ 20 := hn ▸ topN_le k
  obtain ⟨acc0, hacc⟩ : ∃ acc0 : Jg, acc0 = (none, none) := ⟨_, rfl⟩
  rw [show p_soon (fun v => dtS 61 (sMb (nuS σ.1) a k v)) (n + 1) none w = jres (jrun (fun v => dtS 61 (sMb (nuS σ.1) a k v)) (n + 1) 0 acc0) w from by rw [hacc]; rfl] at hr
  have loop : ∀ (r j : Nat) (acc : Jg) (M1 : Mm), j + r = (n + 1) → jok acc → FQ M M1 → jrun (fun v => dtS 61 (sMb (nuS σ.1) a k v)) r j acc = jrun (fun v => dtS 61 (sMb (nuS σ.1) a k v)) (n + 1) 0 acc0 → Gz X 11 [.ref 0, .int x, .int y, .int w, .int (bdC acc.2), .int (cdI acc.1), .int (nI j), .null] [] M1 := by
    intro r
    induction r with
    | zero =>
      intro j acc M1 hjr hj hF he
      refine r_iload hO dX4_soonest_11 rfl ?_
      refine r_getTop hO dX4_soonest_13 sRX4_212 ?_
      refine r_iload_n hO dX4_soonest_16 rfl ?_
      refine s_topld hO dX4_soonest_17 k hy (by omega) ?_
      refine r_icmp_gt 73 hO dX4_soonest_18 (by decide) (fun _ => ?_) (fun z => absurd (by rw [htp]; exact nI_lt (by omega) (by omega)) z)
      refine r_iload hO dX4_soonest_73 rfl ?_
      refine r_bipush hO dX4_soonest_75 bc_m4 ?_
      refine r_icmp_ne 83 hO dX4_soonest_77 (by decide) (fun h77 => ?_) (fun h77 => ?_)
      · refine r_iload_n hO dX4_soonest_83 rfl ?_
        refine r_if_ne 92 hO dX4_soonest_84 (by decide) (fun h84 => ?_) (fun h84 => ?_)
        · refine r_iload hO dX4_soonest_92 rfl ?_
          exact r_ireturn hO hr dX4_soonest_94 rfl ⟨sI (by rw [← he]; exact cd_1 h77 h84), h.q hF, hF.fc⟩
        · refine r_iload hO dX4_soonest_87 rfl ?_
          refine r_goto 94 hO dX4_soonest_89 (by decide) ?_
          exact r_ireturn hO hr dX4_soonest_94 rfl ⟨sI (by rw [← he]; exact cd_0 h77 h84), h.q hF, hF.fc⟩
      · refine r_bipush hO dX4_soonest_80 bc_m4 ?_
        exact r_ireturn hO hr dX4_soonest_82 rfl ⟨sI (by rw [← he]; exact cd_n hj h77), h.q hF, hF.fc⟩
    | succ r ih =>
      intro j acc M1 hjr hj hF he
      refine r_iload hO dX4_soonest_11 rfl ?_
      refine r_getTop hO dX4_soonest_13 sRX4_212 ?_
      refine r_iload_n hO dX4_soonest_16 rfl ?_
      refine s_topld hO dX4_soonest_17 k hy (by omega) ?_
      refine r_icmp_gt 73 hO dX4_soonest_18 (by decide) (fun z => absurd z (by rw [htp]; exact nI_nlt (by omega) (by omega))) (fun _ => ?_)
      refine r_aload_n hO dX4_soonest_21 rfl ?_
      refine r_getR 8 hO dX4_soonest_22 fRX4_30 rfl ?_
      refine r_aload_n hO dX4_soonest_25 rfl ?_
      refine r_getR 4 hO dX4_soonest_26 fRX4_26 rfl ?_
      refine r_callV hO dX4_soonest_29 kRX4_80 miX0_become (zX0_become _ (show nuP 8 from Or.inr (Or.inl rfl)) (show nuP 4 from Or.inl rfl) (by decide)) ⟨Nat.le_of_ble_eq_true rfl, Nat.le_of_ble_eq_true rfl, rfl, Nat.le_of_ble_eq_true rfl⟩ rfl rfl (fun q M2 hpo => ?_)
      obtain ⟨rfl, B⟩ := hpo
      refine r_aload_n hO dX4_soonest_32 rfl ?_
      refine r_getR 8 hO dX4_soonest_33 fRX4_30 rfl ?_
      refine r_iload_n hO dX4_soonest_36 rfl ?_
      refine r_iload_n hO dX4_soonest_37 rfl ?_
      refine r_iload hO dX4_soonest_38 rfl ?_
      refine r_fV hO dX4_soonest_40 kRX4_141 miX0_put (zX0_put _ (show nuP 8 from Or.inr (Or.inl rfl)) a k hx hy (by have := h.1.1.1; omega) hk) ⟨Nat.le_of_ble_eq_true rfl, Nat.le_of_ble_eq_true rfl, rfl, Nat.le_of_ble_eq_true rfl⟩ rfl rfl ?_
      refine r_aload_n hO dX4_soonest_43 rfl ?_
      refine r_getR 8 hO dX4_soonest_44 fRX4_30 rfl ?_
      refine r_callV hO dX4_soonest_47 kRX4_154 miX0_daysToCarry (zX0_daysToCarry _ (show nuP 8 from Or.inr (Or.inl rfl)) (((h.q hF).1.bec B).cvMb ha hk (by omega)) (by have := h.1.2.1; show σ.1.2.2.1 ≤ 9000; omega)) ⟨Nat.le_of_ble_eq_true rfl, Nat.le_of_ble_eq_true rfl, rfl, Nat.le_of_ble_eq_true rfl⟩ rfl rfl (fun q M3 hpo => ?_)
      obtain ⟨rfl, F⟩ := hpo
      refine s_istore hL hO dX4_soonest_50 (Nat.le_of_ble_eq_true rfl) rfl ?_
      refine r_iload hO dX4_soonest_52 rfl ?_
      refine r_iload hO dX4_soonest_54 rfl ?_
      refine r_icmp_ge 67 hO dX4_soonest_56 (by decide) (fun h56 => ?_) (fun h56 => ?_)
      · change bdC acc.2 ≤ dtC 0 ((fun v => dtS 61 (sMb (nuS σ.1) a k v)) j) at h56
        refine s_iinc hL hO dX4_soonest_67 rfl ic_1 (Nat.le_of_ble_eq_true rfl) rfl ?_
        refine r_goto 11 hO dX4_soonest_70 (by decide) ?_
        refine r_null 7 ?_
        show Gz X 11 [.ref 0, .int x, .int y, .int w, .int (bdC acc.2), .int (cdI acc.1), .int (nI j + 1), .null] [] M3
        rw [nI_1]
        exact ih (j + 1) acc M3 (by omega) hj (((hF.tr (FQ.bec B)).tr (FQ.put (by omega))).tr (FQ.fn F)) (by rw [← he]; show _ = jrun _ _ _ (jg _ _ _); rw [jc_no hj (dt_ok _) h56])
      · change ¬ (bdC acc.2 ≤ dtC 0 ((fun v => dtS 61 (sMb (nuS σ.1) a k v)) j)) at h56
        refine r_iload hO dX4_soonest_59 rfl ?_
        refine s_istore hL hO dX4_soonest_61 (Nat.le_of_ble_eq_true rfl) rfl ?_
        refine r_iload hO dX4_soonest_63 rfl ?_
        refine s_istore hL hO dX4_soonest_65 (Nat.le_of_ble_eq_true rfl) rfl ?_
        refine s_iinc hL hO dX4_soonest_67 rfl ic_1 (Nat.le_of_ble_eq_true rfl) rfl ?_
        refine r_goto 11 hO dX4_soonest_70 (by decide) ?_
        refine r_null 7 ?_
        show Gz X 11 [.ref 0, .int x, .int y, .int w, .int (dtC 0 ((fun v => dtS 61 (sMb (nuS σ.1) a k v)) j)), .int (nI j), .int (nI j + 1), .null] [] M3
        obtain ⟨e1, e2⟩ := jc_yes (v := j) hj (dt_ok _) h56
        rw [nI_1, ← e1, ← e2]
        exact ih (j + 1) _ M3 (by omega) (jg_ok hj (dt_ok _) (by omega)) (((hF.tr (FQ.bec B)).tr (FQ.put (by omega))).tr (FQ.fn F)) he
  have := loop (n + 1) 0 acc0 M (by omega) (by rw [hacc]; exact jok_0) FQ.rf rfl
  rw [hacc] at this
  exact this
set_option maxHeartbeats 4000000 in
theorem zX4_soonestM (l : Launch) {M : Mm} {σ : Sta} (h : RC M σ) {x w : Int32} : Clz l 5 yX4_soonest cX4_soonest 8 (some .int) [.ref 0, .int x, .int 4, .int w] M (fun r M' => r = some (.int (p_soon (fun v => dtS 61 (sMo (nuS σ.1) v)) 21 none w)) ∧ RC M' σ ∧ FCr M M') := by
  refine Clz.on RX4 rfl (by decide +kernel) (Nat.le_of_ble_eq_true rfl) (fun X hL hO hr => ?_)
  show Gz X 0 [.ref 0, .int x, .int 4, .int w, .null, .null, .null, .null] [] M
  refine r_bipush hO dX4_soonest_0 bc_61 ?_
  refine s_istore hL hO dX4_soonest_2 (Nat.le_of_ble_eq_true rfl) rfl ?_
  refine r_bipush hO dX4_soonest_4 bc_m4 ?_
  refine s_istore hL hO dX4_soonest_6 (Nat.le_of_ble_eq_true rfl) rfl ?_
  refine r_iconst hO dX4_soonest_8 ic_0 ?_
  refine s_istore hL hO dX4_soonest_9 (Nat.le_of_ble_eq_true rfl) rfl ?_
  have htp : topz 4 = nI 20 := by decide
  obtain ⟨acc0, hacc⟩ : ∃ acc0 : Jg, acc0 = (none, none) := ⟨_, rfl⟩
  rw [show p_soon (fun v => dtS 61 (sMo (nuS σ.1) v)) 21 none w = jres (jrun (fun v => dtS 61 (sMo (nuS σ.1) v)) 21 0 acc0) w from by rw [hacc]; rfl] at hr
  have loop : ∀ (r j : Nat) (acc : Jg) (M1 : Mm), j + r = 21 → jok acc → FQ M M1 → jrun (fun v => dtS 61 (sMo (nuS σ.1) v)) r j acc = jrun (fun v => dtS 61 (sMo (nuS σ.1) v)) 21 0 acc0 → Gz X 11 [.ref 0, .int x, .int 4, .int w, .int (bdC acc.2), .int (cdI acc.1), .int (nI j), .null] [] M1 := by
    intro r
    induction r with
    | zero =>
      intro j acc M1 hjr hj hF he
      refine r_iload hO dX4_soonest_11 rfl ?_
      refine r_getTop hO dX4_soonest_13 sRX4_212 ?_
      refine r_iload_n hO dX4_soonest_16 rfl ?_
      refine s_topld hO dX4_soonest_17 4 rfl (by decide) ?_
      refine r_icmp_gt 73 hO dX4_soonest_18 (by decide) (fun _ => ?_) (fun z => absurd (by rw [htp]; exact nI_lt (by omega) (by omega)) z)
      refine r_iload hO dX4_soonest_73 rfl ?_
      refine r_bipush hO dX4_soonest_75 bc_m4 ?_
      refine r_icmp_ne 83 hO dX4_soonest_77 (by decide) (fun h77 => ?_) (fun h77 => ?_)
      · refine r_iload_n hO dX4_soonest_83 rfl ?_
        refine r_if_ne 92 hO dX4_soonest_84 (by decide) (fun h84 => ?_) (fun h84 => ?_)
        · refine r_iload hO dX4_soonest_92 rfl ?_
          exact r_ireturn hO hr dX4_soonest_94 rfl ⟨sI (by rw [← he]; exact cd_1 h77 h84), h.q hF, hF.fc⟩
        · refine r_iload hO dX4_soonest_87 rfl ?_
          refine r_goto 94 hO dX4_soonest_89 (by decide) ?_
          exact r_ireturn hO hr dX4_soonest_94 rfl ⟨sI (by rw [← he]; exact cd_0 h77 h84), h.q hF, hF.fc⟩
      · refine r_bipush hO dX4_soonest_80 bc_m4 ?_
        exact r_ireturn hO hr dX4_soonest_82 rfl ⟨sI (by rw [← he]; exact cd_n hj h77), h.q hF, hF.fc⟩
    | succ r ih =>
      intro j acc M1 hjr hj hF he
      refine r_iload hO dX4_soonest_11 rfl ?_
      refine r_getTop hO dX4_soonest_13 sRX4_212 ?_
      refine r_iload_n hO dX4_soonest_16 rfl ?_
      refine s_topld hO dX4_soonest_17 4 rfl (by decide) ?_
      refine r_icmp_gt 73 hO dX4_soonest_18 (by decide) (fun z => absurd z (by rw [htp]; exact nI_nlt (by omega) (by omega))) (fun _ => ?_)
      refine r_aload_n hO dX4_soonest_21 rfl ?_
      refine r_getR 8 hO dX4_soonest_22 fRX4_30 rfl ?_
      refine r_aload_n hO dX4_soonest_25 rfl ?_
      refine r_getR 4 hO dX4_soonest_26 fRX4_26 rfl ?_
      refine r_callV hO dX4_soonest_29 kRX4_80 miX0_become (zX0_become _ (show nuP 8 from Or.inr (Or.inl rfl)) (show nuP 4 from Or.inl rfl) (by decide)) ⟨Nat.le_of_ble_eq_true rfl, Nat.le_of_ble_eq_true rfl, rfl, Nat.le_of_ble_eq_true rfl⟩ rfl rfl (fun q M2 hpo => ?_)
      obtain ⟨rfl, B⟩ := hpo
      refine r_aload_n hO dX4_soonest_32 rfl ?_
      refine r_getR 8 hO dX4_soonest_33 fRX4_30 rfl ?_
      refine r_iload_n hO dX4_soonest_36 rfl ?_
      refine r_iload_n hO dX4_soonest_37 rfl ?_
      refine r_iload hO dX4_soonest_38 rfl ?_
      refine r_fV hO dX4_soonest_40 kRX4_141 miX0_put (zX0_putM _ (show nuP 8 from Or.inr (Or.inl rfl))) ⟨Nat.le_of_ble_eq_true rfl, Nat.le_of_ble_eq_true rfl, rfl, Nat.le_of_ble_eq_true rfl⟩ rfl rfl ?_
      refine r_aload_n hO dX4_soonest_43 rfl ?_
      refine r_getR 8 hO dX4_soonest_44 fRX4_30 rfl ?_
      refine r_callV hO dX4_soonest_47 kRX4_154 miX0_daysToCarry (zX0_daysToCarry _ (show nuP 8 from Or.inr (Or.inl rfl)) (((h.q hF).1.bec B).cvMo (by omega)) (by have := h.1.2.1; show σ.1.2.2.1 ≤ 9000; omega)) ⟨Nat.le_of_ble_eq_true rfl, Nat.le_of_ble_eq_true rfl, rfl, Nat.le_of_ble_eq_true rfl⟩ rfl rfl (fun q M3 hpo => ?_)
      obtain ⟨rfl, F⟩ := hpo
      refine s_istore hL hO dX4_soonest_50 (Nat.le_of_ble_eq_true rfl) rfl ?_
      refine r_iload hO dX4_soonest_52 rfl ?_
      refine r_iload hO dX4_soonest_54 rfl ?_
      refine r_icmp_ge 67 hO dX4_soonest_56 (by decide) (fun h56 => ?_) (fun h56 => ?_)
      · change bdC acc.2 ≤ dtC 0 ((fun v => dtS 61 (sMo (nuS σ.1) v)) j) at h56
        refine s_iinc hL hO dX4_soonest_67 rfl ic_1 (Nat.le_of_ble_eq_true rfl) rfl ?_
        refine r_goto 11 hO dX4_soonest_70 (by decide) ?_
        refine r_null 7 ?_
        show Gz X 11 [.ref 0, .int x, .int 4, .int w, .int (bdC acc.2), .int (cdI acc.1), .int (nI j + 1), .null] [] M3
        rw [nI_1]
        exact ih (j + 1) acc M3 (by omega) hj (((hF.tr (FQ.bec B)).tr (FQ.put (by omega))).tr (FQ.fn F)) (by rw [← he]; show _ = jrun _ _ _ (jg _ _ _); rw [jc_no hj (dt_ok _) h56])
      · change ¬ (bdC acc.2 ≤ dtC 0 ((fun v => dtS 61 (sMo (nuS σ.1) v)) j)) at h56
        refine r_iload hO dX4_soonest_59 rfl ?_
        refine s_istore hL hO dX4_soonest_61 (Nat.le_of_ble_eq_true rfl) rfl ?_
        refine r_iload hO dX4_soonest_63 rfl ?_
        refine s_istore hL hO dX4_soonest_65 (Nat.le_of_ble_eq_true rfl) rfl ?_
        refine s_iinc hL hO dX4_soonest_67 rfl ic_1 (Nat.le_of_ble_eq_true rfl) rfl ?_
        refine r_goto 11 hO dX4_soonest_70 (by decide) ?_
        refine r_null 7 ?_
        show Gz X 11 [.ref 0, .int x, .int 4, .int w, .int (dtC 0 ((fun v => dtS 61 (sMo (nuS σ.1) v)) j)), .int (nI j), .int (nI j + 1), .null] [] M3
        obtain ⟨e1, e2⟩ := jc_yes (v := j) hj (dt_ok _) h56
        rw [nI_1, ← e1, ← e2]
        exact ih (j + 1) _ M3 (by omega) (jg_ok hj (dt_ok _) (by omega)) (((hF.tr (FQ.bec B)).tr (FQ.put (by omega))).tr (FQ.fn F)) he
  have := loop 21 0 acc0 M (by omega) (by rw [hacc]; exact jok_0) FQ.rf rfl
  rw [hacc] at this
  exact this
set_option maxHeartbeats 4000000 in
theorem zX4_wording (l : Launch) {M : Mm} {σ : Sta} (h : RC M σ) {w : Int32} : Clz l 6 yX4_wording cX4_wording 2 (some .int) [.ref 0, .int w] M (fun r M' => r = some (.int (p_wording σ w)) ∧ RC M' σ ∧ FCr M M') := by
  refine Clz.on RX4 rfl (by decide +kernel) (Nat.le_of_ble_eq_true rfl) (fun X hL hO hr => ?_)
  show Gz X 0 [.ref 0, .int w] [] M
  refine r_iload_n hO dX4_wording_0 rfl ?_
  refine r_iconst hO dX4_wording_1 ic_1 ?_
  refine r_fS hO dX4_wording_2 kRX4_62 msX4_within (zX4_within _) ⟨Nat.le_of_ble_eq_true rfl, Nat.le_of_ble_eq_true rfl, rfl, Nat.le_of_ble_eq_true rfl⟩ rfl ?_
  refine r_if_ne 10 hO dX4_wording_5 (by decide) (fun h5 => ?_) (fun h5 => ?_)
  · rw [bI_n0] at h5
    have h5 : inI w 0 1 = true := h5
    refine r_aload_n hO dX4_wording_10 rfl ?_
    refine r_iconst hO dX4_wording_11 ic_0 ?_
    refine r_iconst hO dX4_wording_12 ic_4 ?_
    refine r_iload_n hO dX4_wording_13 rfl ?_
    refine r_callV hO dX4_wording_14 kRX4_157 miX4_soonest (zX4_soonestM _ h) ⟨Nat.le_of_ble_eq_true rfl, Nat.le_of_ble_eq_true rfl, rfl, Nat.le_of_ble_eq_true rfl⟩ rfl rfl (fun q M2 hpo => ?_)
    obtain ⟨rfl, h2, hF⟩ := hpo
    exact r_ireturn hO hr dX4_wording_17 rfl ⟨sI (by unfold p_wording; rw [if_pos h5]), h2, hF⟩
  · rw [bI_0] at h5
    have h5 : inI w 0 1 = false := h5
    refine r_iconst hO dX4_wording_8 ic_m1 ?_
    exact r_ireturn hO hr dX4_wording_9 rfl ⟨sI (show _ = p_wording σ w from by unfold p_wording; rw [if_neg (by rw [h5]; decide)]), h, FCr.rf⟩
set_option maxHeartbeats 4000000 in
theorem zX4_mind (l : Launch) {M : Mm} {σ : Sta} (h : RC M σ) {i w : Int32} : Clz l 6 yX4_mind cX4_mind 3 (some .int) [.ref 0, .int i, .int w] M (fun r M' => r = some (.int (p_best σ 2 21 i w)) ∧ RC M' σ ∧ FCr M M') := by
  refine Clz.on RX4 rfl (by decide +kernel) (Nat.le_of_ble_eq_true rfl) (fun X hL hO hr => ?_)
  show Gz X 0 [.ref 0, .int i, .int w] [] M
  refine r_aload_n hO dX4_mind_0 rfl ?_
  refine r_iload_n hO dX4_mind_1 rfl ?_
  refine r_fV hO dX4_mind_2 kRX4_112 miX4_isMember (zX4_isMember _ h) ⟨Nat.le_of_ble_eq_true rfl, Nat.le_of_ble_eq_true rfl, rfl, Nat.le_of_ble_eq_true rfl⟩ rfl rfl ?_
  refine r_if_eq 16 hO dX4_mind_5 (by decide) (fun h5 => ?_) (fun h5 => ?_)
  · rw [bI_0] at h5
    refine r_iconst hO dX4_mind_16 ic_m1 ?_
    exact r_ireturn hO hr dX4_mind_17 rfl ⟨sI (show _ = p_best σ 2 21 i w from by unfold p_best; rw [if_neg (ff (Q := True) h5)]), h, FCr.rf⟩
  · rw [bI_n0] at h5
    refine r_iload_n hO dX4_mind_8 rfl ?_
    refine r_iconst hO dX4_mind_9 ic_1 ?_
    refine r_fS hO dX4_mind_10 kRX4_62 msX4_within (zX4_within _) ⟨Nat.le_of_ble_eq_true rfl, Nat.le_of_ble_eq_true rfl, rfl, Nat.le_of_ble_eq_true rfl⟩ rfl ?_
    refine r_if_ne 18 hO dX4_mind_13 (by decide) (fun h13 => ?_) (fun h13 => ?_)
    · rw [bI_n0] at h13
      have h13 : inI w 0 1 = true := h13
      obtain ⟨a, ha, rfl⟩ := inI_mem (by have := h.1.1.1; omega) h5
      refine r_aload_n hO dX4_mind_18 rfl ?_
      refine r_iload_n hO dX4_mind_19 rfl ?_
      refine r_iconst hO dX4_mind_20 ic_2 ?_
      refine r_iload_n hO dX4_mind_21 rfl ?_
      refine r_callV hO dX4_mind_22 kRX4_157 miX4_soonest (zX4_soonest _ h a 2 20 rfl rfl ha (by decide) rfl) ⟨Nat.le_of_ble_eq_true rfl, Nat.le_of_ble_eq_true rfl, rfl, Nat.le_of_ble_eq_true rfl⟩ rfl rfl (fun q M2 hpo => ?_)
      obtain ⟨rfl, h2, hF⟩ := hpo
      exact r_ireturn hO hr dX4_mind_25 rfl ⟨sI (by unfold p_best; rw [if_pos ⟨h5, h13⟩, nI_clamp (by have := h.1.1.1; omega)]), h2, hF⟩
    · rw [bI_0] at h13
      have h13 : inI w 0 1 = false := h13
      refine r_iconst hO dX4_mind_16 ic_m1 ?_
      exact r_ireturn hO hr dX4_mind_17 rfl ⟨sI (show _ = p_best σ 2 21 i w from by unfold p_best; rw [if_neg (ff2 h13)]), h, FCr.rf⟩
set_option maxHeartbeats 4000000 in
theorem zX4_kind (l : Launch) {M : Mm} {σ : Sta} (h : RC M σ) {i w : Int32} : Clz l 6 yX4_kind cX4_kind 3 (some .int) [.ref 0, .int i, .int w] M (fun r M' => r = some (.int (p_best σ 0 4 i w)) ∧ RC M' σ ∧ FCr M M') := by
  refine Clz.on RX4 rfl (by decide +kernel) (Nat.le_of_ble_eq_true rfl) (fun X hL hO hr => ?_)
  show Gz X 0 [.ref 0, .int i, .int w] [] M
  refine r_aload_n hO dX4_kind_0 rfl ?_
  refine r_iload_n hO dX4_kind_1 rfl ?_
  refine r_fV hO dX4_kind_2 kRX4_112 miX4_isMember (zX4_isMember _ h) ⟨Nat.le_of_ble_eq_true rfl, Nat.le_of_ble_eq_true rfl, rfl, Nat.le_of_ble_eq_true rfl⟩ rfl rfl ?_
  refine r_if_eq 16 hO dX4_kind_5 (by decide) (fun h5 => ?_) (fun h5 => ?_)
  · rw [bI_0] at h5
    refine r_iconst hO dX4_kind_16 ic_m1 ?_
    exact r_ireturn hO hr dX4_kind_17 rfl ⟨sI (show _ = p_best σ 0 4 i w from by unfold p_best; rw [if_neg (ff (Q := True) h5)]), h, FCr.rf⟩
  · rw [bI_n0] at h5
    refine r_iload_n hO dX4_kind_8 rfl ?_
    refine r_iconst hO dX4_kind_9 ic_1 ?_
    refine r_fS hO dX4_kind_10 kRX4_62 msX4_within (zX4_within _) ⟨Nat.le_of_ble_eq_true rfl, Nat.le_of_ble_eq_true rfl, rfl, Nat.le_of_ble_eq_true rfl⟩ rfl ?_
    refine r_if_ne 18 hO dX4_kind_13 (by decide) (fun h13 => ?_) (fun h13 => ?_)
    · rw [bI_n0] at h13
      have h13 : inI w 0 1 = true := h13
      obtain ⟨a, ha, rfl⟩ := inI_mem (by have := h.1.1.1; omega) h5
      refine r_aload_n hO dX4_kind_18 rfl ?_
      refine r_iload_n hO dX4_kind_19 rfl ?_
      refine r_iconst hO dX4_kind_20 ic_0 ?_
      refine r_iload_n hO dX4_kind_21 rfl ?_
      refine r_callV hO dX4_kind_22 kRX4_157 miX4_soonest (zX4_soonest _ h a 0 3 rfl rfl ha (by decide) rfl) ⟨Nat.le_of_ble_eq_true rfl, Nat.le_of_ble_eq_true rfl, rfl, Nat.le_of_ble_eq_true rfl⟩ rfl rfl (fun q M2 hpo => ?_)
      obtain ⟨rfl, h2, hF⟩ := hpo
      exact r_ireturn hO hr dX4_kind_25 rfl ⟨sI (by unfold p_best; rw [if_pos ⟨h5, h13⟩, nI_clamp (by have := h.1.1.1; omega)]), h2, hF⟩
    · rw [bI_0] at h13
      have h13 : inI w 0 1 = false := h13
      refine r_iconst hO dX4_kind_16 ic_m1 ?_
      exact r_ireturn hO hr dX4_kind_17 rfl ⟨sI (show _ = p_best σ 0 4 i w from by unfold p_best; rw [if_neg (ff2 h13)]), h, FCr.rf⟩
set_option maxHeartbeats 4000000 in
theorem zX4_soonerLose (l : Launch) {M : Mm} {σ : Sta} (h : RC M σ) {x w : Int32} (hx : x = 1) : Clz l 5 yX4_soonerWith cX4_soonerWith 7 (some .int) [.ref 0, .int x, .int w] M (fun r M' => r = some (.int (p_soon (fun v => dtS 61 (sOut (nuS σ.1) v)) σ.1.1.length (dtS 61 (nuS σ.1)) w)) ∧ RC M' σ ∧ FCr M M') := by
  refine Clz.on RX4 rfl (by decide +kernel) (Nat.le_of_ble_eq_true rfl) (fun X hL hO hr => ?_)
  show Gz X 0 [.ref 0, .int x, .int w, .null, .null, .null, .null] [] M
  refine r_aload_n hO dX4_soonerWith_0 rfl ?_
  refine r_getR 8 hO dX4_soonerWith_1 fRX4_30 rfl ?_
  refine r_aload_n hO dX4_soonerWith_4 rfl ?_
  refine r_getR 4 hO dX4_soonerWith_5 fRX4_26 rfl ?_
  refine r_callV hO dX4_soonerWith_8 kRX4_80 miX0_become (zX0_become _ (show nuP 8 from Or.inr (Or.inl rfl)) (show nuP 4 from Or.inl rfl) (by decide)) ⟨Nat.le_of_ble_eq_true rfl, Nat.le_of_ble_eq_true rfl, rfl, Nat.le_of_ble_eq_true rfl⟩ rfl rfl (fun q M2 hpo => ?_)
  obtain ⟨rfl, B⟩ := hpo
  refine r_aload_n hO dX4_soonerWith_11 rfl ?_
  refine r_getR 8 hO dX4_soonerWith_12 fRX4_30 rfl ?_
  refine r_callV hO dX4_soonerWith_15 kRX4_154 miX0_daysToCarry (zX0_daysToCarry _ (show nuP 8 from Or.inr (Or.inl rfl)) (h.1.bec B).cv (by have := h.1.2.1; show σ.1.2.2.1 ≤ 9000; omega)) ⟨Nat.le_of_ble_eq_true rfl, Nat.le_of_ble_eq_true rfl, rfl, Nat.le_of_ble_eq_true rfl⟩ rfl rfl (fun q M3 hpo => ?_)
  obtain ⟨rfl, F0⟩ := hpo
  refine s_istore_n hL hO dX4_soonerWith_18 (Nat.le_of_ble_eq_true rfl) rfl ?_
  refine r_bipush hO dX4_soonerWith_19 bc_m4 ?_
  refine s_istore hL hO dX4_soonerWith_21 (Nat.le_of_ble_eq_true rfl) rfl ?_
  refine r_iconst hO dX4_soonerWith_23 ic_0 ?_
  refine s_istore hL hO dX4_soonerWith_24 (Nat.le_of_ble_eq_true rfl) rfl ?_
  obtain ⟨acc0, hacc⟩ : ∃ acc0 : Jg, acc0 = (none, dtS 61 (nuS σ.1)) := ⟨_, rfl⟩
  have hl6 := h.1.1.1
  rw [show p_soon (fun v => dtS 61 (sOut (nuS σ.1) v)) σ.1.1.length (dtS 61 (nuS σ.1)) w = jres (jrun (fun v => dtS 61 (sOut (nuS σ.1) v)) σ.1.1.length 0 acc0) w from by rw [hacc]; rfl] at hr
  have loop : ∀ (r j : Nat) (acc : Jg) (M1 : Mm), j + r = σ.1.1.length → jok acc → FQ M M1 → jrun (fun v => dtS 61 (sOut (nuS σ.1) v)) r j acc = jrun (fun v => dtS 61 (sOut (nuS σ.1) v)) σ.1.1.length 0 acc0 → Gz X 26 [.ref 0, .int x, .int w, .int (bdC acc.2), .int (cdI acc.1), .int (nI j), .null] [] M1 := by
    intro r
    induction r with
    | zero =>
      intro j acc M1 hjr hj hF he
      refine r_iload hO dX4_soonerWith_26 rfl ?_
      refine r_aload_n hO dX4_soonerWith_28 rfl ?_
      refine r_getR 4 hO dX4_soonerWith_29 fRX4_26 rfl ?_
      refine r_getI hO dX4_soonerWith_32 fRX4_84 rfl ?_
      refine r_icmp_ge 115 hO dX4_soonerWith_35 (by decide) (fun _ => ?_) (fun z => absurd (by rw [(h.q hF).1.1.2.2.1]; exact nI_le (by omega) (by omega)) z)
      refine r_iload hO dX4_soonerWith_115 rfl ?_
      refine r_bipush hO dX4_soonerWith_117 bc_m4 ?_
      refine r_icmp_ne 125 hO dX4_soonerWith_119 (by decide) (fun h119 => ?_) (fun h119 => ?_)
      · refine r_iload_n hO dX4_soonerWith_125 rfl ?_
        refine r_if_ne 134 hO dX4_soonerWith_126 (by decide) (fun h126 => ?_) (fun h126 => ?_)
        · refine r_iload_n hO dX4_soonerWith_134 rfl ?_
          exact r_ireturn hO hr dX4_soonerWith_135 rfl ⟨sI (by rw [← he]; exact cd_1 h119 h126), h.q hF, hF.fc⟩
        · refine r_iload hO dX4_soonerWith_129 rfl ?_
          refine r_goto 135 hO dX4_soonerWith_131 (by decide) ?_
          exact r_ireturn hO hr dX4_soonerWith_135 rfl ⟨sI (by rw [← he]; exact cd_0 h119 h126), h.q hF, hF.fc⟩
      · refine r_bipush hO dX4_soonerWith_122 bc_m4 ?_
        exact r_ireturn hO hr dX4_soonerWith_124 rfl ⟨sI (by rw [← he]; exact cd_n hj h119), h.q hF, hF.fc⟩
    | succ r ih =>
      intro j acc M1 hjr hj hF he
      have hjl : j < σ.1.1.length := by omega
      refine r_iload hO dX4_soonerWith_26 rfl ?_
      refine r_aload_n hO dX4_soonerWith_28 rfl ?_
      refine r_getR 4 hO dX4_soonerWith_29 fRX4_26 rfl ?_
      refine r_getI hO dX4_soonerWith_32 fRX4_84 rfl ?_
      refine r_icmp_ge 115 hO dX4_soonerWith_35 (by decide) (fun z => absurd z (by rw [(h.q hF).1.1.2.2.1]; exact nI_ge (by omega) (by omega))) (fun _ => ?_)
      refine r_aload_n hO dX4_soonerWith_38 rfl ?_
      refine r_getR 8 hO dX4_soonerWith_39 fRX4_30 rfl ?_
      refine r_aload_n hO dX4_soonerWith_42 rfl ?_
      refine r_getR 4 hO dX4_soonerWith_43 fRX4_26 rfl ?_
      refine r_callV hO dX4_soonerWith_46 kRX4_80 miX0_become (zX0_become _ (show nuP 8 from Or.inr (Or.inl rfl)) (show nuP 4 from Or.inl rfl) (by decide)) ⟨Nat.le_of_ble_eq_true rfl, Nat.le_of_ble_eq_true rfl, rfl, Nat.le_of_ble_eq_true rfl⟩ rfl rfl (fun q M2 hpo => ?_)
      obtain ⟨rfl, B⟩ := hpo
      refine r_iload_n hO dX4_soonerWith_49 rfl ?_
      refine r_if_eq 65 hO dX4_soonerWith_50 (by decide) (fun z => absurd z (by rw [hx]; decide)) (fun _ => ?_)
      refine r_aload_n hO dX4_soonerWith_53 rfl ?_
      refine r_getR 8 hO dX4_soonerWith_54 fRX4_30 rfl ?_
      refine r_iload hO dX4_soonerWith_57 rfl ?_
      obtain ⟨n, hn⟩ : ∃ n, σ.1.1.length = n + 1 := ⟨σ.1.1.length - 1, by omega⟩
      have hu := (h.q hF).1.bec B
      refine r_fV hO dX4_soonerWith_59 kRX4_215 miX0_leaveOut (zX0_leaveOut _ (show nuP 8 from Or.inr (Or.inl rfl)) j n rfl (by omega) (by rw [← hn]; exact hu.1.2.2.1) (by omega)) ⟨Nat.le_of_ble_eq_true rfl, Nat.le_of_ble_eq_true rfl, rfl, Nat.le_of_ble_eq_true rfl⟩ rfl rfl ?_
      refine r_goto 87 hO dX4_soonerWith_62 (by decide) ?_
      refine r_aload_n hO dX4_soonerWith_87 rfl ?_
      refine r_getR 8 hO dX4_soonerWith_88 fRX4_30 rfl ?_
      refine r_callV hO dX4_soonerWith_91 kRX4_154 miX0_daysToCarry (zX0_daysToCarry _ (show nuP 8 from Or.inr (Or.inl rfl)) (hu.cvOut hjl hn) (by have := h.1.2.1; show σ.1.2.2.1 ≤ 9000; omega)) ⟨Nat.le_of_ble_eq_true rfl, Nat.le_of_ble_eq_true rfl, rfl, Nat.le_of_ble_eq_true rfl⟩ rfl rfl (fun q M3 hpo => ?_)
      obtain ⟨rfl, F⟩ := hpo
      refine s_istore hL hO dX4_soonerWith_94 (Nat.le_of_ble_eq_true rfl) rfl ?_
      refine r_iload hO dX4_soonerWith_96 rfl ?_
      refine r_iload_n hO dX4_soonerWith_98 rfl ?_
      refine r_icmp_ge 109 hO dX4_soonerWith_99 (by decide) (fun h99 => ?_) (fun h99 => ?_)
      · change bdC acc.2 ≤ dtC 0 ((fun v => dtS 61 (sOut (nuS σ.1) v)) j) at h99
        refine s_iinc hL hO dX4_soonerWith_109 rfl ic_1 (Nat.le_of_ble_eq_true rfl) rfl ?_
        refine r_goto 26 hO dX4_soonerWith_112 (by decide) ?_
        refine r_null 6 ?_
        show Gz X 26 [.ref 0, .int x, .int w, .int (bdC acc.2), .int (cdI acc.1), .int (nI j + 1), .null] [] M3
        rw [nI_1]
        exact ih (j + 1) acc M3 (by omega) hj (((hF.tr (FQ.bec B)).tr ((FQ.set (by omega)).tr (FQ.put (by omega)))).tr (FQ.fn F)) (by rw [← he]; show _ = jrun _ _ _ (jg _ _ _); rw [jc_no hj (dt_ok _) h99])
      · change ¬ (bdC acc.2 ≤ dtC 0 ((fun v => dtS 61 (sOut (nuS σ.1) v)) j)) at h99
        refine r_iload hO dX4_soonerWith_102 rfl ?_
        refine s_istore_n hL hO dX4_soonerWith_104 (Nat.le_of_ble_eq_true rfl) rfl ?_
        refine r_iload hO dX4_soonerWith_105 rfl ?_
        refine s_istore hL hO dX4_soonerWith_107 (Nat.le_of_ble_eq_true rfl) rfl ?_
        refine s_iinc hL hO dX4_soonerWith_109 rfl ic_1 (Nat.le_of_ble_eq_true rfl) rfl ?_
        refine r_goto 26 hO dX4_soonerWith_112 (by decide) ?_
        refine r_null 6 ?_
        show Gz X 26 [.ref 0, .int x, .int w, .int (dtC 0 ((fun v => dtS 61 (sOut (nuS σ.1) v)) j)), .int (nI j), .int (nI j + 1), .null] [] M3
        obtain ⟨e1, e2⟩ := jc_yes (v := j) hj (dt_ok _) h99
        rw [nI_1, ← e1, ← e2]
        exact ih (j + 1) _ M3 (by omega) (jg_ok hj (dt_ok _) (by omega)) (((hF.tr (FQ.bec B)).tr ((FQ.set (by omega)).tr (FQ.put (by omega)))).tr (FQ.fn F)) he
  have := loop σ.1.1.length 0 acc0 M3 (by omega) (by rw [hacc]; exact jok_1 (dt_ok _)) ((FQ.bec B).tr (FQ.fn F0)) rfl
  rw [hacc] at this
  rw [show dtC 0 (dtS 61 (nuS σ.1)) = bdC (dtS 61 (nuS σ.1)) from by cases dtS 61 (nuS σ.1) with
    | none => rfl
    | some k => show nI (0 + k) = nI k; rw [Nat.zero_add]]
  exact this
set_option maxHeartbeats 4000000 in
theorem zX4_soonerCross (l : Launch) {M : Mm} {σ : Sta} (h : RC M σ) {x w : Int32} (hx : x = 0) : Clz l 5 yX4_soonerWith cX4_soonerWith 7 (some .int) [.ref 0, .int x, .int w] M (fun r M' => r = some (.int (p_soon (fun v => dtS 61 (sMb (nuS σ.1) v 1 (1 - (σ.1.1.getD v (0, 0, 0, 0)).2.1))) σ.1.1.length (dtS 61 (nuS σ.1)) w)) ∧ RC M' σ ∧ FCr M M') := by
  refine Clz.on RX4 rfl (by decide +kernel) (Nat.le_of_ble_eq_true rfl) (fun X hL hO hr => ?_)
  show Gz X 0 [.ref 0, .int x, .int w, .null, .null, .null, .null] [] M
  refine r_aload_n hO dX4_soonerWith_0 rfl ?_
  refine r_getR 8 hO dX4_soonerWith_1 fRX4_30 rfl ?_
  refine r_aload_n hO dX4_soonerWith_4 rfl ?_
  refine r_getR 4 hO dX4_soonerWith_5 fRX4_26 rfl ?_
  refine r_callV hO dX4_soonerWith_8 kRX4_80 miX0_become (zX0_become _ (show nuP 8 from Or.inr (Or.inl rfl)) (show nuP 4 from Or.inl rfl) (by decide)) ⟨Nat.le_of_ble_eq_true rfl, Nat.le_of_ble_eq_true rfl, rfl, Nat.le_of_ble_eq_true rfl⟩ rfl rfl (fun q M2 hpo => ?_)
  obtain ⟨rfl, B⟩ := hpo
  refine r_aload_n hO dX4_soonerWith_11 rfl ?_
  refine r_getR 8 hO dX4_soonerWith_12 fRX4_30 rfl ?_
  refine r_callV hO dX4_soonerWith_15 kRX4_154 miX0_daysToCarry (zX0_daysToCarry _ (show nuP 8 from Or.inr (Or.inl rfl)) (h.1.bec B).cv (by have := h.1.2.1; show σ.1.2.2.1 ≤ 9000; omega)) ⟨Nat.le_of_ble_eq_true rfl, Nat.le_of_ble_eq_true rfl, rfl, Nat.le_of_ble_eq_true rfl⟩ rfl rfl (fun q M3 hpo => ?_)
  obtain ⟨rfl, F0⟩ := hpo
  refine s_istore_n hL hO dX4_soonerWith_18 (Nat.le_of_ble_eq_true rfl) rfl ?_
  refine r_bipush hO dX4_soonerWith_19 bc_m4 ?_
  refine s_istore hL hO dX4_soonerWith_21 (Nat.le_of_ble_eq_true rfl) rfl ?_
  refine r_iconst hO dX4_soonerWith_23 ic_0 ?_
  refine s_istore hL hO dX4_soonerWith_24 (Nat.le_of_ble_eq_true rfl) rfl ?_
  obtain ⟨acc0, hacc⟩ : ∃ acc0 : Jg, acc0 = (none, dtS 61 (nuS σ.1)) := ⟨_, rfl⟩
  have hl6 := h.1.1.1
  rw [show p_soon (fun v => dtS 61 (sMb (nuS σ.1) v 1 (1 - (σ.1.1.getD v (0, 0, 0, 0)).2.1))) σ.1.1.length (dtS 61 (nuS σ.1)) w = jres (jrun (fun v => dtS 61 (sMb (nuS σ.1) v 1 (1 - (σ.1.1.getD v (0, 0, 0, 0)).2.1))) σ.1.1.length 0 acc0) w from by rw [hacc]; rfl] at hr
  have loop : ∀ (r j : Nat) (acc : Jg) (M1 : Mm), j + r = σ.1.1.length → jok acc → FQ M M1 → jrun (fun v => dtS 61 (sMb (nuS σ.1) v 1 (1 - (σ.1.1.getD v (0, 0, 0, 0)).2.1))) r j acc = jrun (fun v => dtS 61 (sMb (nuS σ.1) v 1 (1 - (σ.1.1.getD v (0, 0, 0, 0)).2.1))) σ.1.1.length 0 acc0 → Gz X 26 [.ref 0, .int x, .int w, .int (bdC acc.2), .int (cdI acc.1), .int (nI j), .null] [] M1 := by
    intro r
    induction r with
    | zero =>
      intro j acc M1 hjr hj hF he
      refine r_iload hO dX4_soonerWith_26 rfl ?_
      refine r_aload_n hO dX4_soonerWith_28 rfl ?_
      refine r_getR 4 hO dX4_soonerWith_29 fRX4_26 rfl ?_
      refine r_getI hO dX4_soonerWith_32 fRX4_84 rfl ?_
      refine r_icmp_ge 115 hO dX4_soonerWith_35 (by decide) (fun _ => ?_) (fun z => absurd (by rw [(h.q hF).1.1.2.2.1]; exact nI_le (by omega) (by omega)) z)
      refine r_iload hO dX4_soonerWith_115 rfl ?_
      refine r_bipush hO dX4_soonerWith_117 bc_m4 ?_
      refine r_icmp_ne 125 hO dX4_soonerWith_119 (by decide) (fun h119 => ?_) (fun h119 => ?_)
      · refine r_iload_n hO dX4_soonerWith_125 rfl ?_
        refine r_if_ne 134 hO dX4_soonerWith_126 (by decide) (fun h126 => ?_) (fun h126 => ?_)
        · refine r_iload_n hO dX4_soonerWith_134 rfl ?_
          exact r_ireturn hO hr dX4_soonerWith_135 rfl ⟨sI (by rw [← he]; exact cd_1 h119 h126), h.q hF, hF.fc⟩
        · refine r_iload hO dX4_soonerWith_129 rfl ?_
          refine r_goto 135 hO dX4_soonerWith_131 (by decide) ?_
          exact r_ireturn hO hr dX4_soonerWith_135 rfl ⟨sI (by rw [← he]; exact cd_0 h119 h126), h.q hF, hF.fc⟩
      · refine r_bipush hO dX4_soonerWith_122 bc_m4 ?_
        exact r_ireturn hO hr dX4_soonerWith_124 rfl ⟨sI (by rw [← he]; exact cd_n hj h119), h.q hF, hF.fc⟩
    | succ r ih =>
      intro j acc M1 hjr hj hF he
      have hjl : j < σ.1.1.length := by omega
      refine r_iload hO dX4_soonerWith_26 rfl ?_
      refine r_aload_n hO dX4_soonerWith_28 rfl ?_
      refine r_getR 4 hO dX4_soonerWith_29 fRX4_26 rfl ?_
      refine r_getI hO dX4_soonerWith_32 fRX4_84 rfl ?_
      refine r_icmp_ge 115 hO dX4_soonerWith_35 (by decide) (fun z => absurd z (by rw [(h.q hF).1.1.2.2.1]; exact nI_ge (by omega) (by omega))) (fun _ => ?_)
      refine r_aload_n hO dX4_soonerWith_38 rfl ?_
      refine r_getR 8 hO dX4_soonerWith_39 fRX4_30 rfl ?_
      refine r_aload_n hO dX4_soonerWith_42 rfl ?_
      refine r_getR 4 hO dX4_soonerWith_43 fRX4_26 rfl ?_
      refine r_callV hO dX4_soonerWith_46 kRX4_80 miX0_become (zX0_become _ (show nuP 8 from Or.inr (Or.inl rfl)) (show nuP 4 from Or.inl rfl) (by decide)) ⟨Nat.le_of_ble_eq_true rfl, Nat.le_of_ble_eq_true rfl, rfl, Nat.le_of_ble_eq_true rfl⟩ rfl rfl (fun q M2 hpo => ?_)
      obtain ⟨rfl, B⟩ := hpo
      refine r_iload_n hO dX4_soonerWith_49 rfl ?_
      refine r_if_eq 65 hO dX4_soonerWith_50 (by decide) (fun _ => ?_) (fun z => absurd hx z)
      refine r_aload_n hO dX4_soonerWith_65 rfl ?_
      refine r_getR 8 hO dX4_soonerWith_66 fRX4_30 rfl ?_
      refine r_iload hO dX4_soonerWith_69 rfl ?_
      refine r_iconst hO dX4_soonerWith_71 ic_1 ?_
      refine r_iconst hO dX4_soonerWith_72 ic_1 ?_
      refine r_aload_n hO dX4_soonerWith_73 rfl ?_
      refine r_getR 4 hO dX4_soonerWith_74 fRX4_26 rfl ?_
      refine r_iload hO dX4_soonerWith_77 rfl ?_
      refine r_iconst hO dX4_soonerWith_79 ic_1 ?_
      have hu := (h.q hF).1.bec B
      have hbj : σ.1.1[j]? = some (σ.1.1.getD j (0, 0, 0, 0)) := by rw [List.getD_eq_getElem?_getD, List.getElem?_eq_getElem hjl]; rfl
      have hF2 : FQ M M2 := hF.tr (FQ.bec B)
      refine r_fV hO dX4_soonerWith_80 kRX4_116 miX0_part (zX0_partR _ (show nuP 4 from Or.inl rfl) (h.q hF2).1.1 1 hbj rfl rfl (by decide)) ⟨Nat.le_of_ble_eq_true rfl, Nat.le_of_ble_eq_true rfl, rfl, Nat.le_of_ble_eq_true rfl⟩ rfl rfl ?_
      refine r_isub hO dX4_soonerWith_83 ?_
      rw [show (1 : Int32) - nI (fld 1 (σ.1.1.getD j (0, 0, 0, 0))) = nI (1 - (σ.1.1.getD j (0, 0, 0, 0)).2.1) from by rw [show (1 : Int32) = nI 1 from rfl, show fld 1 (σ.1.1.getD j (0, 0, 0, 0)) = (σ.1.1.getD j (0, 0, 0, 0)).2.1 from rfl, pk_sub (h.1.1.2.1 j _ hbj).2.2.2.2.2.1]]
      refine r_fV hO dX4_soonerWith_84 kRX4_141 miX0_put (zX0_put _ (show nuP 8 from Or.inr (Or.inl rfl)) j 1 rfl rfl (by omega) (by decide)) ⟨Nat.le_of_ble_eq_true rfl, Nat.le_of_ble_eq_true rfl, rfl, Nat.le_of_ble_eq_true rfl⟩ rfl rfl ?_
      refine r_aload_n hO dX4_soonerWith_87 rfl ?_
      refine r_getR 8 hO dX4_soonerWith_88 fRX4_30 rfl ?_
      refine r_callV hO dX4_soonerWith_91 kRX4_154 miX0_daysToCarry (zX0_daysToCarry _ (show nuP 8 from Or.inr (Or.inl rfl)) (hu.cvMb hjl (by decide) (by show _ ≤ 1; omega)) (by have := h.1.2.1; show σ.1.2.2.1 ≤ 9000; omega)) ⟨Nat.le_of_ble_eq_true rfl, Nat.le_of_ble_eq_true rfl, rfl, Nat.le_of_ble_eq_true rfl⟩ rfl rfl (fun q M3 hpo => ?_)
      obtain ⟨rfl, F⟩ := hpo
      refine s_istore hL hO dX4_soonerWith_94 (Nat.le_of_ble_eq_true rfl) rfl ?_
      refine r_iload hO dX4_soonerWith_96 rfl ?_
      refine r_iload_n hO dX4_soonerWith_98 rfl ?_
      refine r_icmp_ge 109 hO dX4_soonerWith_99 (by decide) (fun h99 => ?_) (fun h99 => ?_)
      · change bdC acc.2 ≤ dtC 0 ((fun v => dtS 61 (sMb (nuS σ.1) v 1 (1 - (σ.1.1.getD v (0, 0, 0, 0)).2.1))) j) at h99
        refine s_iinc hL hO dX4_soonerWith_109 rfl ic_1 (Nat.le_of_ble_eq_true rfl) rfl ?_
        refine r_goto 26 hO dX4_soonerWith_112 (by decide) ?_
        refine r_null 6 ?_
        show Gz X 26 [.ref 0, .int x, .int w, .int (bdC acc.2), .int (cdI acc.1), .int (nI j + 1), .null] [] M3
        rw [nI_1]
        exact ih (j + 1) acc M3 (by omega) hj (((hF.tr (FQ.bec B)).tr (FQ.put (by omega))).tr (FQ.fn F)) (by rw [← he]; show _ = jrun _ _ _ (jg _ _ _); rw [jc_no hj (dt_ok _) h99])
      · change ¬ (bdC acc.2 ≤ dtC 0 ((fun v => dtS 61 (sMb (nuS σ.1) v 1 (1 - (σ.1.1.getD v (0, 0, 0, 0)).2.1))) j)) at h99
        refine r_iload hO dX4_soonerWith_102 rfl ?_
        refine s_istore_n hL hO dX4_soonerWith_104 (Nat.le_of_ble_eq_true rfl) rfl ?_
        refine r_iload hO dX4_soonerWith_105 rfl ?_
        refine s_istore hL hO dX4_soonerWith_107 (Nat.le_of_ble_eq_true rfl) rfl ?_
        refine s_iinc hL hO dX4_soonerWith_109 rfl ic_1 (Nat.le_of_ble_eq_true rfl) rfl ?_
        refine r_goto 26 hO dX4_soonerWith_112 (by decide) ?_
        refine r_null 6 ?_
        show Gz X 26 [.ref 0, .int x, .int w, .int (dtC 0 ((fun v => dtS 61 (sMb (nuS σ.1) v 1 (1 - (σ.1.1.getD v (0, 0, 0, 0)).2.1))) j)), .int (nI j), .int (nI j + 1), .null] [] M3
        obtain ⟨e1, e2⟩ := jc_yes (v := j) hj (dt_ok _) h99
        rw [nI_1, ← e1, ← e2]
        exact ih (j + 1) _ M3 (by omega) (jg_ok hj (dt_ok _) (by omega)) (((hF.tr (FQ.bec B)).tr (FQ.put (by omega))).tr (FQ.fn F)) he
  have := loop σ.1.1.length 0 acc0 M3 (by omega) (by rw [hacc]; exact jok_1 (dt_ok _)) ((FQ.bec B).tr (FQ.fn F0)) rfl
  rw [hacc] at this
  rw [show dtC 0 (dtS 61 (nuS σ.1)) = bdC (dtS 61 (nuS σ.1)) from by cases dtS 61 (nuS σ.1) with
    | none => rfl
    | some k => show nI (0 + k) = nI k; rw [Nat.zero_add]]
  exact this
set_option maxHeartbeats 4000000 in
theorem zX4_lose (l : Launch) {M : Mm} {σ : Sta} (h : RC M σ) {w : Int32} : Clz l 6 yX4_lose cX4_lose 2 (some .int) [.ref 0, .int w] M (fun r M' => r = some (.int (p_lose σ w)) ∧ RC M' σ ∧ FCr M M') := by
  refine Clz.on RX4 rfl (by decide +kernel) (Nat.le_of_ble_eq_true rfl) (fun X hL hO hr => ?_)
  show Gz X 0 [.ref 0, .int w] [] M
  refine r_iload_n hO dX4_lose_0 rfl ?_
  refine r_iconst hO dX4_lose_1 ic_1 ?_
  refine r_fS hO dX4_lose_2 kRX4_62 msX4_within (zX4_within _) ⟨Nat.le_of_ble_eq_true rfl, Nat.le_of_ble_eq_true rfl, rfl, Nat.le_of_ble_eq_true rfl⟩ rfl ?_
  refine r_if_ne 10 hO dX4_lose_5 (by decide) (fun h5 => ?_) (fun h5 => ?_)
  · rw [bI_n0] at h5
    have h5 : inI w 0 1 = true := h5
    refine r_aload_n hO dX4_lose_10 rfl ?_
    refine r_iconst hO dX4_lose_11 ic_1 ?_
    refine r_iload_n hO dX4_lose_12 rfl ?_
    refine r_callV hO dX4_lose_13 kRX4_161 miX4_soonerWith (zX4_soonerLose _ h rfl) ⟨Nat.le_of_ble_eq_true rfl, Nat.le_of_ble_eq_true rfl, rfl, Nat.le_of_ble_eq_true rfl⟩ rfl rfl (fun q M2 hpo => ?_)
    obtain ⟨rfl, h2, hF⟩ := hpo
    exact r_ireturn hO hr dX4_lose_16 rfl ⟨sI (by unfold p_lose; rw [if_pos h5]), h2, hF⟩
  · rw [bI_0] at h5
    have h5 : inI w 0 1 = false := h5
    refine r_iconst hO dX4_lose_8 ic_m1 ?_
    exact r_ireturn hO hr dX4_lose_9 rfl ⟨sI (show _ = p_lose σ w from by unfold p_lose; rw [if_neg (by rw [h5]; decide)]), h, FCr.rf⟩
set_option maxHeartbeats 4000000 in
theorem zX4_cross (l : Launch) {M : Mm} {σ : Sta} (h : RC M σ) {w : Int32} : Clz l 6 yX4_cross cX4_cross 2 (some .int) [.ref 0, .int w] M (fun r M' => r = some (.int (p_cross σ w)) ∧ RC M' σ ∧ FCr M M') := by
  refine Clz.on RX4 rfl (by decide +kernel) (Nat.le_of_ble_eq_true rfl) (fun X hL hO hr => ?_)
  show Gz X 0 [.ref 0, .int w] [] M
  refine r_iload_n hO dX4_cross_0 rfl ?_
  refine r_iconst hO dX4_cross_1 ic_1 ?_
  refine r_fS hO dX4_cross_2 kRX4_62 msX4_within (zX4_within _) ⟨Nat.le_of_ble_eq_true rfl, Nat.le_of_ble_eq_true rfl, rfl, Nat.le_of_ble_eq_true rfl⟩ rfl ?_
  refine r_if_ne 10 hO dX4_cross_5 (by decide) (fun h5 => ?_) (fun h5 => ?_)
  · rw [bI_n0] at h5
    have h5 : inI w 0 1 = true := h5
    refine r_aload_n hO dX4_cross_10 rfl ?_
    refine r_iconst hO dX4_cross_11 ic_0 ?_
    refine r_iload_n hO dX4_cross_12 rfl ?_
    refine r_callV hO dX4_cross_13 kRX4_161 miX4_soonerWith (zX4_soonerCross _ h rfl) ⟨Nat.le_of_ble_eq_true rfl, Nat.le_of_ble_eq_true rfl, rfl, Nat.le_of_ble_eq_true rfl⟩ rfl rfl (fun q M2 hpo => ?_)
    obtain ⟨rfl, h2, hF⟩ := hpo
    exact r_ireturn hO hr dX4_cross_16 rfl ⟨sI (by unfold p_cross; rw [if_pos h5]), h2, hF⟩
  · rw [bI_0] at h5
    have h5 : inI w 0 1 = false := h5
    refine r_iconst hO dX4_cross_8 ic_m1 ?_
    exact r_ireturn hO hr dX4_cross_9 rfl ⟨sI (show _ = p_cross σ w from by unfold p_cross; rw [if_neg (by rw [h5]; decide)]), h, FCr.rf⟩
def gvI (f : Nat → Bool) : Nat → Nat → Int32
  | 0, _ => -4
  | r + 1, j => if f j = true then nI j else gvI f r (j + 1)
def p_give (σ : Sta) (i n : Int32) : Int32 := if inI i 0 (nI σ.1.1.length - 1) = true ∧ inI n 0 60 = true then gvI (fun v => car (runS n.toNatClampNeg (sMb (nuS σ.1) i.toNatClampNeg 3 v)).2.1 (runS n.toNatClampNeg (sMb (nuS σ.1) i.toNatClampNeg 3 v)).1) 21 0 else -1
set_option maxHeartbeats 4000000 in
theorem zX4_give (l : Launch) {M : Mm} {σ : Sta} (h : RC M σ) {i n : Int32} : Clz l 5 yX4_give cX4_give 4 (some .int) [.ref 0, .int i, .int n] M (fun r M' => r = some (.int (p_give σ i n)) ∧ RC M' σ ∧ FCr M M') := by
  refine Clz.on RX4 rfl (by decide +kernel) (Nat.le_of_ble_eq_true rfl) (fun X hL hO hr => ?_)
  show Gz X 0 [.ref 0, .int i, .int n, .null] [] M
  refine r_aload_n hO dX4_give_0 rfl ?_
  refine r_iload_n hO dX4_give_1 rfl ?_
  refine r_fV hO dX4_give_2 kRX4_112 miX4_isMember (zX4_isMember _ h) ⟨Nat.le_of_ble_eq_true rfl, Nat.le_of_ble_eq_true rfl, rfl, Nat.le_of_ble_eq_true rfl⟩ rfl rfl ?_
  refine r_if_eq 17 hO dX4_give_5 (by decide) (fun h5 => ?_) (fun h5 => ?_)
  · rw [bI_0] at h5
    refine r_iconst hO dX4_give_17 ic_m1 ?_
    exact r_ireturn hO hr dX4_give_18 rfl ⟨sI (show _ = p_give σ i n from by unfold p_give; rw [if_neg (ff (Q := True) h5)]), h, FCr.rf⟩
  · rw [bI_n0] at h5
    refine r_iload_n hO dX4_give_8 rfl ?_
    refine r_bipush hO dX4_give_9 bc_60 ?_
    refine r_fS hO dX4_give_11 kRX4_62 msX4_within (zX4_within _) ⟨Nat.le_of_ble_eq_true rfl, Nat.le_of_ble_eq_true rfl, rfl, Nat.le_of_ble_eq_true rfl⟩ rfl ?_
    refine r_if_ne 19 hO dX4_give_14 (by decide) (fun h14 => ?_) (fun h14 => ?_)
    · rw [bI_n0] at h14
      have h14 : inI n 0 60 = true := h14
      obtain ⟨b, hb, rfl⟩ := inI_nat (n := 60) (by decide) h14
      obtain ⟨a, ha, rfl⟩ := inI_mem (by have := h.1.1.1; omega) h5
      refine r_iconst hO dX4_give_19 ic_0 ?_
      refine s_istore_n hL hO dX4_give_20 (Nat.le_of_ble_eq_true rfl) rfl ?_
      have e : p_give σ (nI a) (nI b) = gvI (fun v => car (runS b (sMb (nuS σ.1) a 3 v)).2.1 (runS b (sMb (nuS σ.1) a 3 v)).1) 21 0 := by unfold p_give; rw [if_pos ⟨h5, h14⟩, nI_clamp (by omega), nI_clamp (by have := h.1.1.1; omega)]
      have loop : ∀ (r j : Nat) (M1 : Mm), j + r = 21 → FQ M M1 → gvI (fun v => car (runS b (sMb (nuS σ.1) a 3 v)).2.1 (runS b (sMb (nuS σ.1) a 3 v)).1) r j = gvI (fun v => car (runS b (sMb (nuS σ.1) a 3 v)).2.1 (runS b (sMb (nuS σ.1) a 3 v)).1) 21 0 → Gz X 21 [.ref 0, .int (nI a), .int (nI b), .int (nI j)] [] M1 := by
        intro r
        induction r with
        | zero =>
          intro j M1 hjr hF he
          refine r_iload_n hO dX4_give_21 rfl ?_
          refine r_bipush hO dX4_give_22 bc_20 ?_
          refine r_icmp_gt 75 hO dX4_give_24 (by decide) (fun _ => ?_) (fun z => absurd (by rw [show (20 : Int32) = nI 20 from rfl]; exact nI_lt (by omega) (by omega)) z)
          refine r_bipush hO dX4_give_75 bc_m4 ?_
          exact r_ireturn hO hr dX4_give_77 rfl ⟨sI (by rw [e, ← he]; rfl), h.q hF, hF.fc⟩
        | succ r ih =>
          intro j M1 hjr hF he
          refine r_iload_n hO dX4_give_21 rfl ?_
          refine r_bipush hO dX4_give_22 bc_20 ?_
          refine r_icmp_gt 75 hO dX4_give_24 (by decide) (fun z => absurd z (by rw [show (20 : Int32) = nI 20 from rfl]; exact nI_nlt (by omega) (by omega))) (fun _ => ?_)
          refine r_aload_n hO dX4_give_27 rfl ?_
          refine r_getR 8 hO dX4_give_28 fRX4_30 rfl ?_
          refine r_aload_n hO dX4_give_31 rfl ?_
          refine r_getR 4 hO dX4_give_32 fRX4_26 rfl ?_
          refine r_callV hO dX4_give_35 kRX4_80 miX0_become (zX0_become _ (show nuP 8 from Or.inr (Or.inl rfl)) (show nuP 4 from Or.inl rfl) (by decide)) ⟨Nat.le_of_ble_eq_true rfl, Nat.le_of_ble_eq_true rfl, rfl, Nat.le_of_ble_eq_true rfl⟩ rfl rfl (fun q M2 hpo => ?_)
          obtain ⟨rfl, B⟩ := hpo
          refine r_aload_n hO dX4_give_38 rfl ?_
          refine r_getR 8 hO dX4_give_39 fRX4_30 rfl ?_
          refine r_iload_n hO dX4_give_42 rfl ?_
          refine r_iconst hO dX4_give_43 ic_3 ?_
          refine r_iload_n hO dX4_give_44 rfl ?_
          refine r_fV hO dX4_give_45 kRX4_141 miX0_put (zX0_put _ (show nuP 8 from Or.inr (Or.inl rfl)) a 3 rfl rfl (by have := h.1.1.1; omega) (by decide)) ⟨Nat.le_of_ble_eq_true rfl, Nat.le_of_ble_eq_true rfl, rfl, Nat.le_of_ble_eq_true rfl⟩ rfl rfl ?_
          refine r_aload_n hO dX4_give_48 rfl ?_
          refine r_getR 8 hO dX4_give_49 fRX4_30 rfl ?_
          refine r_iload_n hO dX4_give_52 rfl ?_
          refine r_callV hO dX4_give_53 kRX4_148 miX0_passDays (zX0_passDays _ (show nuP 8 from Or.inr (Or.inl rfl)) (((h.q hF).1.bec B).cvMb ha (by decide) (by show _ ≤ 20; omega)) rfl b rfl (by omega) (by have := h.1.2.1; show σ.1.2.2.1 + b ≤ 100000; omega)) ⟨Nat.le_of_ble_eq_true rfl, Nat.le_of_ble_eq_true rfl, rfl, Nat.le_of_ble_eq_true rfl⟩ rfl rfl (fun q M3 hpo => ?_)
          obtain ⟨rfl, F, V⟩ := hpo
          have hF3 : FQ M M3 := ((hF.tr (FQ.bec B)).tr (FQ.put (by omega))).tr (FQ.fn F)
          refine r_pop hO dX4_give_56 rfl ?_
          refine r_aload_n hO dX4_give_57 rfl ?_
          refine r_getR 8 hO dX4_give_58 fRX4_30 rfl ?_
          refine r_fV hO dX4_give_61 kRX4_93 miX0_isCarried (zX0_isCarried _ (show nuP 8 from Or.inr (Or.inl rfl)) V) ⟨Nat.le_of_ble_eq_true rfl, Nat.le_of_ble_eq_true rfl, rfl, Nat.le_of_ble_eq_true rfl⟩ rfl rfl ?_
          refine r_if_eq 69 hO dX4_give_64 (by decide) (fun h64 => ?_) (fun h64 => ?_)
          · rw [bI_0] at h64
            refine s_iinc hL hO dX4_give_69 rfl ic_1 (Nat.le_of_ble_eq_true rfl) rfl ?_
            refine r_goto 21 hO dX4_give_72 (by decide) ?_
            show Gz X 21 [.ref 0, .int (nI a), .int (nI b), .int (nI j + 1)] [] M3
            rw [nI_1]
            exact ih (j + 1) M3 (by omega) hF3 (by rw [← he]; exact (if_neg (fun z => Bool.noConfusion (h64.symm.trans z))).symm)
          · rw [bI_n0] at h64
            refine r_iload_n hO dX4_give_67 rfl ?_
            exact r_ireturn hO hr dX4_give_68 rfl ⟨sI (by rw [e, ← he]; exact (if_pos h64).symm), h.q hF3, hF3.fc⟩
      exact loop 21 0 M (by omega) FQ.rf rfl
    · rw [bI_0] at h14
      have h14 : inI n 0 60 = false := h14
      refine r_iconst hO dX4_give_17 ic_m1 ?_
      exact r_ireturn hO hr dX4_give_18 rfl ⟨sI (show _ = p_give σ i n from by unfold p_give; rw [if_neg (ff2 h14)]), h, FCr.rf⟩
set_option maxHeartbeats 4000000 in
theorem zX5_give (l : Launch) {M : Mm} {σ : Sta} (h : RD M σ) {i n : Int32} : Clz l 8 yX5_give cX5_give 4 (some .int) [.ref 33, .int i, .int n] M (fun r M' => r = some (.int (p_give σ i n)) ∧ RD M' σ ∧ FDr M M') := by
  refine Clz.on RX5 rfl (by decide +kernel) (Nat.le_of_ble_eq_true rfl) (fun X hL hO hr => ?_)
  show Gz X 0 [.ref 33, .int i, .int n, .null] [] M
  refine r_aload_n hO dX5_give_0 rfl ?_
  refine r_iload_n hO dX5_give_1 rfl ?_
  refine r_fV hO dX5_give_2 kRX5_205 miX5_isMember (zX5_isMember _) ⟨Nat.le_of_ble_eq_true rfl, Nat.le_of_ble_eq_true rfl, rfl, Nat.le_of_ble_eq_true rfl⟩ rfl rfl ?_
  refine r_if_eq 15 hO dX5_give_5 (by decide) (fun h5 => ?_) (fun h5 => ?_)
  · rw [bI_0, h.1.2.2.1] at h5
    refine r_iconst hO dX5_give_15 ic_m1 ?_
    exact r_ireturn hO hr dX5_give_16 rfl ⟨sI (show _ = p_give σ i n from by unfold p_give; rw [if_neg (ff (Q := True) h5)]), h, FDr.rf⟩
  · rw [bI_n0, h.1.2.2.1] at h5
    refine r_iload_n hO dX5_give_8 rfl ?_
    refine r_fS hO dX5_give_9 kRX5_225 msX5_isFar (zX5_isFar _) ⟨Nat.le_of_ble_eq_true rfl, Nat.le_of_ble_eq_true rfl, rfl, Nat.le_of_ble_eq_true rfl⟩ rfl ?_
    refine r_if_ne 17 hO dX5_give_12 (by decide) (fun h12 => ?_) (fun h12 => ?_)
    · rw [bI_n0] at h12
      obtain ⟨b, hb, rfl⟩ := inI_nat (n := 60) (by decide) h12
      obtain ⟨a, ha, rfl⟩ := inI_mem (by have := h.1.1; omega) h5
      refine r_iconst hO dX5_give_17 ic_0 ?_
      refine s_istore_n hL hO dX5_give_18 (Nat.le_of_ble_eq_true rfl) rfl ?_
      have e : p_give σ (nI a) (nI b) = gvI (fun v => car (runS b (sMb (nuS σ.1) a 3 v)).2.1 (runS b (sMb (nuS σ.1) a 3 v)).1) 21 0 := by unfold p_give; rw [if_pos ⟨h5, h12⟩, nI_clamp (by omega), nI_clamp (by have := h.1.1; omega)]
      have loop : ∀ (r j : Nat) (M1 : Mm), j + r = 21 → FR M M1 → gvI (fun v => car (runS b (sMb (nuS σ.1) a 3 v)).2.1 (runS b (sMb (nuS σ.1) a 3 v)).1) r j = gvI (fun v => car (runS b (sMb (nuS σ.1) a 3 v)).2.1 (runS b (sMb (nuS σ.1) a 3 v)).1) 21 0 → Gz X 19 [.ref 33, .int (nI a), .int (nI b), .int (nI j)] [] M1 := by
        intro r
        induction r with
        | zero =>
          intro j M1 hjr hF he
          refine r_iload_n hO dX5_give_19 rfl ?_
          refine r_bipush hO dX5_give_20 bc_20 ?_
          refine r_icmp_gt 56 hO dX5_give_22 (by decide) (fun _ => ?_) (fun z => absurd (by rw [show (20 : Int32) = nI 20 from rfl]; exact nI_lt (by omega) (by omega)) z)
          refine r_bipush hO dX5_give_56 bc_m4 ?_
          exact r_ireturn hO hr dX5_give_58 rfl ⟨sI (by rw [e, ← he]; rfl), h.q hF, hF.fd⟩
        | succ r ih =>
          intro j M1 hjr hF he
          refine r_iload_n hO dX5_give_19 rfl ?_
          refine r_bipush hO dX5_give_20 bc_20 ?_
          refine r_icmp_gt 56 hO dX5_give_22 (by decide) (fun z => absurd z (by rw [show (20 : Int32) = nI 20 from rfl]; exact nI_nlt (by omega) (by omega))) (fun _ => ?_)
          refine r_aload_n hO dX5_give_25 rfl ?_
          refine r_callV hO dX5_give_26 kRX5_196 miX5_starts (zX5_starts _) ⟨Nat.le_of_ble_eq_true rfl, Nat.le_of_ble_eq_true rfl, rfl, Nat.le_of_ble_eq_true rfl⟩ rfl rfl (fun q M2 hpo => ?_)
          obtain ⟨rfl, hst⟩ := hpo
          refine r_aload_n hO dX5_give_29 rfl ?_
          refine r_iload_n hO dX5_give_30 rfl ?_
          refine r_iconst hO dX5_give_31 ic_3 ?_
          refine r_iload_n hO dX5_give_32 rfl ?_
          refine r_fV hO dX5_give_33 kRX5_178 miX5_becomesOf (zX5_becomesOf _ a 3 rfl rfl (by have := h.1.1; omega)) ⟨Nat.le_of_ble_eq_true rfl, Nat.le_of_ble_eq_true rfl, rfl, Nat.le_of_ble_eq_true rfl⟩ rfl rfl ?_
          refine r_aload_n hO dX5_give_36 rfl ?_
          refine r_iload_n hO dX5_give_37 rfl ?_
          refine r_callV hO dX5_give_38 kRX5_217 miX5_daysGo (zX5_daysGo _ ((h.q hF).1.rvMb hst ha (by decide) (by show _ ≤ 20; omega)) b rfl (by omega) (by have := h.1.2.2.2.2.1.2; show σ.1.2.2.1 + b ≤ 100000; omega) (by show 0 + b ≤ 100000; omega)) ⟨Nat.le_of_ble_eq_true rfl, Nat.le_of_ble_eq_true rfl, rfl, Nat.le_of_ble_eq_true rfl⟩ rfl rfl (fun q M3 hpo => ?_)
          obtain ⟨rfl, F, V⟩ := hpo
          have hF3 : FR M M3 := ((hF.tr (FR.st hst)).tr (FR.put (Or.inl rfl))).tr (FR.f35 F)
          obtain ⟨R, hl⟩ := V.rn
          refine r_aload_n hO dX5_give_41 rfl ?_
          refine r_fV hO dX5_give_42 kRX5_185 miX5_isCarried (zX5_isCarried _ R) ⟨Nat.le_of_ble_eq_true rfl, Nat.le_of_ble_eq_true rfl, rfl, Nat.le_of_ble_eq_true rfl⟩ rfl rfl ?_
          refine r_if_eq 50 hO dX5_give_45 (by decide) (fun h45 => ?_) (fun h45 => ?_)
          · rw [act_none _ 0 (by have := R.1; omega), bI_0] at h45
            refine s_iinc hL hO dX5_give_50 rfl ic_1 (Nat.le_of_ble_eq_true rfl) rfl ?_
            refine r_goto 19 hO dX5_give_53 (by decide) ?_
            show Gz X 19 [.ref 33, .int (nI a), .int (nI b), .int (nI j + 1)] [] M3
            rw [nI_1]
            exact ih (j + 1) M3 (by omega) hF3 (by rw [← he]; exact (if_neg (fun z => Bool.noConfusion (h45.symm.trans z))).symm)
          · rw [act_none _ 0 (by have := R.1; omega), bI_n0] at h45
            refine r_iload_n hO dX5_give_48 rfl ?_
            exact r_ireturn hO hr dX5_give_49 rfl ⟨sI (by rw [e, ← he]; exact (if_pos h45).symm), h.q hF3, hF3.fd⟩
      exact loop 21 0 M (by omega) FR.rf rfl
    · rw [bI_0] at h12
      refine r_iconst hO dX5_give_15 ic_m1 ?_
      exact r_ireturn hO hr dX5_give_16 rfl ⟨sI (show _ = p_give σ i n from by unfold p_give; rw [if_neg (ff2 h12)]), h, FDr.rf⟩
