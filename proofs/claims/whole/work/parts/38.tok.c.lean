/-! the text, class: numbers, lines, all -/
def FMo (M M' : Mm) : Prop := (∀ a k, (a ≠ 1 ∨ k < 2) → (a ≠ 8 ∨ k ≠ 4) → M'.1 a k = M.1 a k) ∧ M'.2 = M.2
def FMb (n : Nat) (M M' : Mm) : Prop := (∀ a k, (a ≠ 1 ∨ k < 2) → (a ≠ 9 ∨ k < 4 * n + 1 ∨ 4 * n + 3 < k) → M'.1 a k = M.1 a k) ∧ M'.2 = M.2
def FLn (M M' : Mm) : Prop := (∀ a k, (a ≠ 1 ∨ k < 2) → a ≠ 3 → ¬ (8 ≤ a ∧ a ≤ 11) → M'.1 a k = M.1 a k) ∧ M'.2 = M.2
theorem FLn.rf {M : Mm} : FLn M M := ⟨fun _ _ _ _ _ => rfl, rfl⟩
theorem FLn.tr {M M1 M2 : Mm} (h1 : FLn M M1) (h2 : FLn M1 M2) : FLn M M2 := ⟨fun a k x y z => (h2.1 a k x y z).trans (h1.1 a k x y z), h2.2.trans h1.2⟩
theorem FLn.k {M M1 : Mm} (h : FK M M1) : FLn M M1 := ⟨fun a k x _ _ => h.1 a k x, h.2⟩
theorem FLn.put {M : Mm} {p k : Nat} {x : Int32} (h : p = 3 ∨ (8 ≤ p ∧ p ≤ 11) ∨ (p = 1 ∧ 2 ≤ k)) : FLn M (mput M p k x) := ⟨fun a j h1 h2 h3 => by rw [mpg, if_neg (by omega)], rfl⟩
theorem FLn.mo {M M1 : Mm} (h : FMo M M1) : FLn M M1 := ⟨fun a k x _ z => h.1 a k x (by omega), h.2⟩
theorem FLn.mb {n : Nat} {M M1 : Mm} (h : FMb n M M1) : FLn M M1 := ⟨fun a k x _ z => h.1 a k x (by omega), h.2⟩
theorem TpC.n {M M' : Mm} {t : List Nat} (h : TpC M t) (F : FLn M M') : TpC M' t := h.eq (F.1 _ _ (by omega) (by omega) (by omega)) (fun k => F.1 _ _ (by omega) (by omega) (by omega))
theorem FMo.k {M M1 M2 : Mm} (h : FMo M M1) (F : FK M1 M2) : FMo M M2 := ⟨fun a k x y => (F.1 a k x).trans (h.1 a k x y), F.2.trans h.2⟩
theorem FMb.k {n : Nat} {M M1 M2 : Mm} (h : FMb n M M1) (F : FK M1 M2) : FMb n M M2 := ⟨fun a k x y => (F.1 a k x).trans (h.1 a k x y), F.2.trans h.2⟩
theorem FMo.rf {M : Mm} : FMo M M := ⟨fun _ _ _ _ => rfl, rfl⟩
theorem FMb.rf {n : Nat} {M : Mm} : FMb n M M := ⟨fun _ _ _ _ => rfl, rfl⟩
theorem FMo.put {M M1 : Mm} (h : FMo M M1) {x : Int32} : FMo M (mput M1 8 4 x) := ⟨fun a k y z => by rw [mpn (by omega)]; exact h.1 a k y z, h.2⟩
theorem FMb.put {n : Nat} {M M1 : Mm} (h : FMb n M M1) {k : Nat} {x : Int32} (h1 : 4 * n + 1 ≤ k) (h2 : k ≤ 4 * n + 3) : FMb n M (mput M1 9 k x) := ⟨fun a j y z => by rw [mpn (by omega)]; exact h.1 a j y z, h.2⟩
def bad (t : List Nat) (r : Option Value) (M' : Mm) (c : Fb) : Prop := r = some (.int (nI c.1)) ∧ 0 < c.1 ∧ c.1 ≤ 5 ∧ M'.1 1 3 = nI c.2 ∧ c.2 ≤ t.length
theorem top_d : topz 4 = nI 20 ∧ topz 1 = nI 1 ∧ topz 2 = nI 20 ∧ topz 3 = nI 20 := by decide
set_option maxHeartbeats 4000000 in
theorem zX3_numbersMo (l : Launch) {M : Mm} {t : List Nat} (h : TpC M t) (p : Nat) (hp : M.1 1 4 = nI p) (hp2 : p ≤ t.length) : Clz l 3 yX3_faultOfNumbers cX3_faultOfNumbers 7 (some .int) [.ref 1, .ref 8, .int 0, .int 4, .int 4] M (fun r M' => FMo M M' ∧ (mtP t p).elim (bad t r M') (fun y => r = some (.int 0) ∧ M'.1 8 4 = nI y.1 ∧ M'.1 1 4 = nI y.2)) := by
  refine Clz.on RX3 rfl (by decide +kernel) (Nat.le_of_ble_eq_true rfl) (fun X hL hO hr => ?_)
  show Gz X 0 [.ref 1, .ref 8, .int 0, .int 4, .int 4, .null, .null] [] M
  refine r_iload_n hO dX3_faultOfNumbers_0 rfl ?_
  refine s_istore hL hO dX3_faultOfNumbers_1 (Nat.le_of_ble_eq_true rfl) rfl ?_
  refine r_iload hO dX3_faultOfNumbers_3 rfl ?_
  refine r_iload hO dX3_faultOfNumbers_5 rfl ?_
  refine r_icmp_gt 57 hO dX3_faultOfNumbers_7 (by decide) (fun z => absurd z (by decide)) (fun _ => ?_)
  refine r_aload_n hO dX3_faultOfNumbers_10 rfl ?_
  refine r_iconst hO dX3_faultOfNumbers_11 ic_2 ?_
  refine r_callS hO dX3_faultOfNumbers_12 kRX3_71 msX3_faultOfToken (zX3_faultOfToken _ h p hp hp2 2 rfl (by decide)) ⟨Nat.le_of_ble_eq_true rfl, Nat.le_of_ble_eq_true rfl, rfl, Nat.le_of_ble_eq_true rfl⟩ rfl (fun q M1 hpo => ?_)
  obtain ⟨rfl, F1, T1⟩ := hpo
  have k := tok_e hp2
  have hft := ft_le (tok t p).1 2
  refine s_istore hL hO dX3_faultOfNumbers_15 (Nat.le_of_ble_eq_true rfl) rfl ?_
  refine r_iload hO dX3_faultOfNumbers_17 rfl ?_
  refine r_if_eq 25 hO dX3_faultOfNumbers_19 (by decide) (fun h19 => ?_) (fun h19 => ?_)
  · rw [← nI_0, nI_eq (by omega) (by omega)] at h19
    refine r_aload_n hO dX3_faultOfNumbers_25 rfl ?_
    refine r_getI hO dX3_faultOfNumbers_26 fRX3_75 rfl ?_
    refine r_getTop hO dX3_faultOfNumbers_29 sRX3_78 ?_
    refine r_iload hO dX3_faultOfNumbers_32 rfl ?_
    refine s_topld hO dX3_faultOfNumbers_34 4 rfl (by decide) ?_
    refine r_icmp_le 40 hO dX3_faultOfNumbers_35 (by decide) (fun h35 => ?_) (fun h35 => ?_)
    · have v1 := T1.2.2.2 (ft_0 h19).1
      rw [v1, top_d.1, nI_leI (by omega) (by omega)] at h35
      refine r_aload_n hO dX3_faultOfNumbers_40 rfl ?_
      refine r_iload_n hO dX3_faultOfNumbers_41 rfl ?_
      refine r_iload hO dX3_faultOfNumbers_42 rfl ?_
      refine r_aload_n hO dX3_faultOfNumbers_44 rfl ?_
      refine r_getI hO dX3_faultOfNumbers_45 fRX3_75 rfl ?_
      refine r_fV hO dX3_faultOfNumbers_48 kRX3_82 miX0_put (zX0_putM _ (show nuP 8 from Or.inr (Or.inl rfl))) ⟨Nat.le_of_ble_eq_true rfl, Nat.le_of_ble_eq_true rfl, rfl, Nat.le_of_ble_eq_true rfl⟩ rfl rfl ?_
      rw [v1]
      obtain ⟨v, ev⟩ : ∃ v, (tok t p).2.2.2 = v := ⟨_, rfl⟩
      obtain ⟨p1, e1⟩ : ∃ p1, (tok t p).2.2.1 = p1 := ⟨_, rfl⟩
      have N1 := nm_t h19 h35
      rw [ev, e1] at N1
      rw [ev]
      have H1 : TpC (mput M1 8 4 (nI v)) t := (h.k F1).eq (mpn (by omega)) (fun k => mpn (by omega))
      have HP1 : (mput M1 8 4 (nI v)).1 1 4 = nI p1 := by rw [mpn (by omega), ← e1]; exact T1.2.2.1
      have hq2 : p1 ≤ t.length := by omega
      refine r_null 6 ?_
      show Gz X 51 [.ref 1, .ref 8, .int 0, .int 4, .int 4, .int 4, .null] [] (mput M1 8 4 (nI v))
      refine s_iinc hL hO dX3_faultOfNumbers_51 rfl ic_1 (Nat.le_of_ble_eq_true rfl) rfl ?_
      refine r_goto 3 hO dX3_faultOfNumbers_54 (by decide) ?_
      refine r_iload hO dX3_faultOfNumbers_3 rfl ?_
      refine r_iload hO dX3_faultOfNumbers_5 rfl ?_
      refine r_icmp_gt 57 hO dX3_faultOfNumbers_7 (by decide) (fun _ => ?_) (fun z => absurd (by decide) z)
      refine r_aload_n hO dX3_faultOfNumbers_57 rfl ?_
      refine r_iconst hO dX3_faultOfNumbers_58 ic_3 ?_
      refine r_callS hO dX3_faultOfNumbers_59 kRX3_71 msX3_faultOfToken (zX3_faultOfToken _ H1 p1 HP1 hq2 3 rfl (by decide)) ⟨Nat.le_of_ble_eq_true rfl, Nat.le_of_ble_eq_true rfl, rfl, Nat.le_of_ble_eq_true rfl⟩ rfl (fun q M2 hpo => ?_)
      obtain ⟨rfl, F2, T2⟩ := hpo
      have k2 := tok_e hq2
      have hft2 := ft_le (tok t p1).1 3
      exact r_ireturn hO hr dX3_faultOfNumbers_62 rfl ⟨((FMo.rf.k F1).put).k F2, by
  by_cases hz : ftN (tok t p1).1 3 = 0
  · rw [show mtP t p = .inr (v, (tok t p1).2.2.1) from by unfold mtP; rw [N1]; show Sum.elim _ _ (smP t p1) = _; rw [sm_t hz]; rfl, hz]; exact ⟨rfl, by rw [F2.1 _ _ (by omega), mpe], T2.2.2.1⟩
  · rw [show mtP t p = .inl (ftN (tok t p1).1 3, (tok t p1).2.1) from by unfold mtP; rw [N1]; show Sum.elim _ _ (smP t p1) = _; rw [sm_f hz]; rfl]; exact ⟨rfl, by show 0 < ftN _ _; omega, by show ftN _ _ ≤ 5; omega, T2.2.1, by show (tok t p1).2.1 ≤ _; omega⟩⟩
    · have v1 := T1.2.2.2 (ft_0 h19).1
      rw [v1, top_d.1, nI_leI (by omega) (by omega)] at h35
      refine r_iconst hO dX3_faultOfNumbers_38 ic_3 ?_
      exact r_ireturn hO hr dX3_faultOfNumbers_39 rfl ⟨FMo.rf.k F1, by rw [show mtP t p = .inl (3, (tok t p).2.1) from by unfold mtP; rw [nm_3 h19 h35]; rfl]; exact ⟨rfl, by show 0 < 3; omega, by show 3 ≤ 5; omega, T1.2.1, by show (tok t p).2.1 ≤ _; omega⟩⟩
  · rw [← nI_0, nI_eq (by omega) (by omega)] at h19
    refine r_iload hO dX3_faultOfNumbers_22 rfl ?_
    exact r_ireturn hO hr dX3_faultOfNumbers_24 rfl ⟨FMo.rf.k F1, by rw [show mtP t p = .inl (ftN (tok t p).1 2, (tok t p).2.1) from by unfold mtP; rw [nm_f h19]; rfl]; exact ⟨rfl, by show 0 < ftN _ _; omega, by show ftN _ _ ≤ 5; omega, T1.2.1, by show (tok t p).2.1 ≤ _; omega⟩⟩
set_option maxHeartbeats 4000000 in
theorem zX3_numbersMb (l : Launch) {M : Mm} {t : List Nat} (h : TpC M t) (p : Nat) (hp : M.1 1 4 = nI p) (hp2 : p ≤ t.length) {x : Int32} (n : Nat) (hx : x = nI n) (hn : n < 6) : Clz l 3 yX3_faultOfNumbers cX3_faultOfNumbers 7 (some .int) [.ref 1, .ref 8, .int x, .int 1, .int 3] M (fun r M' => FMb n M M' ∧ (mbP t p).elim (bad t r M') (fun y => r = some (.int 0) ∧ M'.1 9 (4 * n + 1) = nI y.1 ∧ M'.1 9 (4 * n + 2) = nI y.2.1 ∧ M'.1 9 (4 * n + 3) = nI y.2.2.1 ∧ M'.1 1 4 = nI y.2.2.2)) := by
  refine Clz.on RX3 rfl (by decide +kernel) (Nat.le_of_ble_eq_true rfl) (fun X hL hO hr => ?_)
  show Gz X 0 [.ref 1, .ref 8, .int x, .int 1, .int 3, .null, .null] [] M
  refine r_iload_n hO dX3_faultOfNumbers_0 rfl ?_
  refine s_istore hL hO dX3_faultOfNumbers_1 (Nat.le_of_ble_eq_true rfl) rfl ?_
  refine r_iload hO dX3_faultOfNumbers_3 rfl ?_
  refine r_iload hO dX3_faultOfNumbers_5 rfl ?_
  refine r_icmp_gt 57 hO dX3_faultOfNumbers_7 (by decide) (fun z => absurd z (by decide)) (fun _ => ?_)
  refine r_aload_n hO dX3_faultOfNumbers_10 rfl ?_
  refine r_iconst hO dX3_faultOfNumbers_11 ic_2 ?_
  refine r_callS hO dX3_faultOfNumbers_12 kRX3_71 msX3_faultOfToken (zX3_faultOfToken _ h p hp hp2 2 rfl (by decide)) ⟨Nat.le_of_ble_eq_true rfl, Nat.le_of_ble_eq_true rfl, rfl, Nat.le_of_ble_eq_true rfl⟩ rfl (fun q M1 hpo => ?_)
  obtain ⟨rfl, F1, T1⟩ := hpo
  have k1 := tok_e hp2
  have hft1 := ft_le (tok t p).1 2
  refine s_istore hL hO dX3_faultOfNumbers_15 (Nat.le_of_ble_eq_true rfl) rfl ?_
  refine r_iload hO dX3_faultOfNumbers_17 rfl ?_
  refine r_if_eq 25 hO dX3_faultOfNumbers_19 (by decide) (fun h19 => ?_) (fun h19 => ?_)
  · rw [← nI_0, nI_eq (by omega) (by omega)] at h19
    refine r_aload_n hO dX3_faultOfNumbers_25 rfl ?_
    refine r_getI hO dX3_faultOfNumbers_26 fRX3_75 rfl ?_
    refine r_getTop hO dX3_faultOfNumbers_29 sRX3_78 ?_
    refine r_iload hO dX3_faultOfNumbers_32 rfl ?_
    refine s_topld hO dX3_faultOfNumbers_34 1 (by decide) (by decide) ?_
    refine r_icmp_le 40 hO dX3_faultOfNumbers_35 (by decide) (fun h35 => ?_) (fun h35 => ?_)
    · have vv := T1.2.2.2 (ft_0 h19).1
      rw [vv, top_d.2.1, nI_leI (by omega) (by omega)] at h35
      refine r_aload_n hO dX3_faultOfNumbers_40 rfl ?_
      refine r_iload_n hO dX3_faultOfNumbers_41 rfl ?_
      refine r_iload hO dX3_faultOfNumbers_42 rfl ?_
      refine r_aload_n hO dX3_faultOfNumbers_44 rfl ?_
      refine r_getI hO dX3_faultOfNumbers_45 fRX3_75 rfl ?_
      refine r_fV hO dX3_faultOfNumbers_48 kRX3_82 miX0_put (zX0_put _ (show nuP 8 from Or.inr (Or.inl rfl)) n 1 hx (by decide) (by omega) (by decide)) ⟨Nat.le_of_ble_eq_true rfl, Nat.le_of_ble_eq_true rfl, rfl, Nat.le_of_ble_eq_true rfl⟩ rfl rfl ?_
      rw [vv]
      obtain ⟨v1, ev1⟩ : ∃ v, (tok t p).2.2.2 = v := ⟨_, rfl⟩
      obtain ⟨p1, e1⟩ : ∃ pp, (tok t p).2.2.1 = pp := ⟨_, rfl⟩
      have N1 := nm_t h19 h35
      rw [ev1, e1] at N1
      rw [ev1]
      have G1 : FMb n M (mput M1 9 (4 * n + 1) (nI v1)) := ((FMb.rf.k F1)).put (by omega) (by omega)
      have H1 : TpC (mput M1 9 (4 * n + 1) (nI v1)) t := h.n (FLn.mb G1)
      have HP1 : (mput M1 9 (4 * n + 1) (nI v1)).1 1 4 = nI p1 := by rw [mpn (by omega), ← e1]; exact T1.2.2.1
      have hq1 : p1 ≤ t.length := by omega
      have V11 : (mput M1 9 (4 * n + 1) (nI v1)).1 9 (4 * n + 1) = nI v1 := mpe
      refine r_null 6 ?_
      show Gz X 51 [.ref 1, .ref 8, .int x, .int 1, .int 3, .int (1), .null] [] (mput M1 9 (4 * n + 1) (nI v1))
      refine s_iinc hL hO dX3_faultOfNumbers_51 rfl ic_1 (Nat.le_of_ble_eq_true rfl) rfl ?_
      refine r_goto 3 hO dX3_faultOfNumbers_54 (by decide) ?_
      refine r_iload hO dX3_faultOfNumbers_3 rfl ?_
      refine r_iload hO dX3_faultOfNumbers_5 rfl ?_
      refine r_icmp_gt 57 hO dX3_faultOfNumbers_7 (by decide) (fun z => absurd z (by decide)) (fun _ => ?_)
      refine r_aload_n hO dX3_faultOfNumbers_10 rfl ?_
      refine r_iconst hO dX3_faultOfNumbers_11 ic_2 ?_
      refine r_callS hO dX3_faultOfNumbers_12 kRX3_71 msX3_faultOfToken (zX3_faultOfToken _ H1 p1 HP1 hq1 2 rfl (by decide)) ⟨Nat.le_of_ble_eq_true rfl, Nat.le_of_ble_eq_true rfl, rfl, Nat.le_of_ble_eq_true rfl⟩ rfl (fun q M2 hpo => ?_)
      obtain ⟨rfl, F2, T2⟩ := hpo
      have k2 := tok_e hq1
      have hft2 := ft_le (tok t p1).1 2
      refine s_istore hL hO dX3_faultOfNumbers_15 (Nat.le_of_ble_eq_true rfl) rfl ?_
      refine r_iload hO dX3_faultOfNumbers_17 rfl ?_
      refine r_if_eq 25 hO dX3_faultOfNumbers_19 (by decide) (fun h19 => ?_) (fun h19 => ?_)
      · rw [← nI_0, nI_eq (by omega) (by omega)] at h19
        refine r_aload_n hO dX3_faultOfNumbers_25 rfl ?_
        refine r_getI hO dX3_faultOfNumbers_26 fRX3_75 rfl ?_
        refine r_getTop hO dX3_faultOfNumbers_29 sRX3_78 ?_
        refine r_iload hO dX3_faultOfNumbers_32 rfl ?_
        refine s_topld hO dX3_faultOfNumbers_34 2 (by decide) (by decide) ?_
        refine r_icmp_le 40 hO dX3_faultOfNumbers_35 (by decide) (fun h35 => ?_) (fun h35 => ?_)
        · have vv := T2.2.2.2 (ft_0 h19).1
          rw [vv, top_d.2.2.1, nI_leI (by omega) (by omega)] at h35
          refine r_aload_n hO dX3_faultOfNumbers_40 rfl ?_
          refine r_iload_n hO dX3_faultOfNumbers_41 rfl ?_
          refine r_iload hO dX3_faultOfNumbers_42 rfl ?_
          refine r_aload_n hO dX3_faultOfNumbers_44 rfl ?_
          refine r_getI hO dX3_faultOfNumbers_45 fRX3_75 rfl ?_
          refine r_fV hO dX3_faultOfNumbers_48 kRX3_82 miX0_put (zX0_put _ (show nuP 8 from Or.inr (Or.inl rfl)) n 2 hx (by decide) (by omega) (by decide)) ⟨Nat.le_of_ble_eq_true rfl, Nat.le_of_ble_eq_true rfl, rfl, Nat.le_of_ble_eq_true rfl⟩ rfl rfl ?_
          rw [vv]
          obtain ⟨v2, ev2⟩ : ∃ v, (tok t p1).2.2.2 = v := ⟨_, rfl⟩
          obtain ⟨p2, e2⟩ : ∃ pp, (tok t p1).2.2.1 = pp := ⟨_, rfl⟩
          have N2 := nm_t h19 h35
          rw [ev2, e2] at N2
          rw [ev2]
          have G2 : FMb n M (mput M2 9 (4 * n + 2) (nI v2)) := (((G1).k F2)).put (by omega) (by omega)
          have H2 : TpC (mput M2 9 (4 * n + 2) (nI v2)) t := h.n (FLn.mb G2)
          have HP2 : (mput M2 9 (4 * n + 2) (nI v2)).1 1 4 = nI p2 := by rw [mpn (by omega), ← e2]; exact T2.2.2.1
          have hq2 : p2 ≤ t.length := by omega
          have V22 : (mput M2 9 (4 * n + 2) (nI v2)).1 9 (4 * n + 2) = nI v2 := mpe
          have V12 : (mput M2 9 (4 * n + 2) (nI v2)).1 9 (4 * n + 1) = nI v1 := by rw [mpn (by omega), F2.1 _ _ (by omega)]; exact V11
          refine r_null 6 ?_
          show Gz X 51 [.ref 1, .ref 8, .int x, .int 1, .int 3, .int (1 + 1), .null] [] (mput M2 9 (4 * n + 2) (nI v2))
          refine s_iinc hL hO dX3_faultOfNumbers_51 rfl ic_1 (Nat.le_of_ble_eq_true rfl) rfl ?_
          refine r_goto 3 hO dX3_faultOfNumbers_54 (by decide) ?_
          refine r_iload hO dX3_faultOfNumbers_3 rfl ?_
          refine r_iload hO dX3_faultOfNumbers_5 rfl ?_
          refine r_icmp_gt 57 hO dX3_faultOfNumbers_7 (by decide) (fun z => absurd z (by decide)) (fun _ => ?_)
          refine r_aload_n hO dX3_faultOfNumbers_10 rfl ?_
          refine r_iconst hO dX3_faultOfNumbers_11 ic_2 ?_
          refine r_callS hO dX3_faultOfNumbers_12 kRX3_71 msX3_faultOfToken (zX3_faultOfToken _ H2 p2 HP2 hq2 2 rfl (by decide)) ⟨Nat.le_of_ble_eq_true rfl, Nat.le_of_ble_eq_true rfl, rfl, Nat.le_of_ble_eq_true rfl⟩ rfl (fun q M3 hpo => ?_)
          obtain ⟨rfl, F3, T3⟩ := hpo
          have k3 := tok_e hq2
          have hft3 := ft_le (tok t p2).1 2
          refine s_istore hL hO dX3_faultOfNumbers_15 (Nat.le_of_ble_eq_true rfl) rfl ?_
          refine r_iload hO dX3_faultOfNumbers_17 rfl ?_
          refine r_if_eq 25 hO dX3_faultOfNumbers_19 (by decide) (fun h19 => ?_) (fun h19 => ?_)
          · rw [← nI_0, nI_eq (by omega) (by omega)] at h19
            refine r_aload_n hO dX3_faultOfNumbers_25 rfl ?_
            refine r_getI hO dX3_faultOfNumbers_26 fRX3_75 rfl ?_
            refine r_getTop hO dX3_faultOfNumbers_29 sRX3_78 ?_
            refine r_iload hO dX3_faultOfNumbers_32 rfl ?_
            refine s_topld hO dX3_faultOfNumbers_34 3 (by decide) (by decide) ?_
            refine r_icmp_le 40 hO dX3_faultOfNumbers_35 (by decide) (fun h35 => ?_) (fun h35 => ?_)
            · have vv := T3.2.2.2 (ft_0 h19).1
              rw [vv, top_d.2.2.2, nI_leI (by omega) (by omega)] at h35
              refine r_aload_n hO dX3_faultOfNumbers_40 rfl ?_
              refine r_iload_n hO dX3_faultOfNumbers_41 rfl ?_
              refine r_iload hO dX3_faultOfNumbers_42 rfl ?_
              refine r_aload_n hO dX3_faultOfNumbers_44 rfl ?_
              refine r_getI hO dX3_faultOfNumbers_45 fRX3_75 rfl ?_
              refine r_fV hO dX3_faultOfNumbers_48 kRX3_82 miX0_put (zX0_put _ (show nuP 8 from Or.inr (Or.inl rfl)) n 3 hx (by decide) (by omega) (by decide)) ⟨Nat.le_of_ble_eq_true rfl, Nat.le_of_ble_eq_true rfl, rfl, Nat.le_of_ble_eq_true rfl⟩ rfl rfl ?_
              rw [vv]
              obtain ⟨v3, ev3⟩ : ∃ v, (tok t p2).2.2.2 = v := ⟨_, rfl⟩
              obtain ⟨p3, e3⟩ : ∃ pp, (tok t p2).2.2.1 = pp := ⟨_, rfl⟩
              have N3 := nm_t h19 h35
              rw [ev3, e3] at N3
              rw [ev3]
              have G3 : FMb n M (mput M3 9 (4 * n + 3) (nI v3)) := (((G2).k F3)).put (by omega) (by omega)
              have H3 : TpC (mput M3 9 (4 * n + 3) (nI v3)) t := h.n (FLn.mb G3)
              have HP3 : (mput M3 9 (4 * n + 3) (nI v3)).1 1 4 = nI p3 := by rw [mpn (by omega), ← e3]; exact T3.2.2.1
              have hq3 : p3 ≤ t.length := by omega
              have V33 : (mput M3 9 (4 * n + 3) (nI v3)).1 9 (4 * n + 3) = nI v3 := mpe
              have V13 : (mput M3 9 (4 * n + 3) (nI v3)).1 9 (4 * n + 1) = nI v1 := by rw [mpn (by omega), F3.1 _ _ (by omega)]; exact V12
              have V23 : (mput M3 9 (4 * n + 3) (nI v3)).1 9 (4 * n + 2) = nI v2 := by rw [mpn (by omega), F3.1 _ _ (by omega)]; exact V22
              refine r_null 6 ?_
              show Gz X 51 [.ref 1, .ref 8, .int x, .int 1, .int 3, .int (1 + 1 + 1), .null] [] (mput M3 9 (4 * n + 3) (nI v3))
              refine s_iinc hL hO dX3_faultOfNumbers_51 rfl ic_1 (Nat.le_of_ble_eq_true rfl) rfl ?_
              refine r_goto 3 hO dX3_faultOfNumbers_54 (by decide) ?_
              refine r_iload hO dX3_faultOfNumbers_3 rfl ?_
              refine r_iload hO dX3_faultOfNumbers_5 rfl ?_
              refine r_icmp_gt 57 hO dX3_faultOfNumbers_7 (by decide) (fun _ => ?_) (fun z => absurd (by decide) z)
              refine r_aload_n hO dX3_faultOfNumbers_57 rfl ?_
              refine r_iconst hO dX3_faultOfNumbers_58 ic_3 ?_
              refine r_callS hO dX3_faultOfNumbers_59 kRX3_71 msX3_faultOfToken (zX3_faultOfToken _ H3 p3 HP3 hq3 3 rfl (by decide)) ⟨Nat.le_of_ble_eq_true rfl, Nat.le_of_ble_eq_true rfl, rfl, Nat.le_of_ble_eq_true rfl⟩ rfl (fun q M4 hpo => ?_)
              obtain ⟨rfl, F4, T4⟩ := hpo
              have k4 := tok_e hq3
              have hft4 := ft_le (tok t p3).1 3
              exact r_ireturn hO hr dX3_faultOfNumbers_62 rfl ⟨G3.k F4, by
  by_cases hz : ftN (tok t p3).1 3 = 0
  · rw [show mbP t p = .inr (v1, v2, v3, (tok t p3).2.2.1) from by unfold mbP; rw [N1]; show Sum.elim _ _ (nmP t p1 20) = _; rw [N2]; show Sum.elim _ _ (nmP t p2 20) = _; rw [N3]; show Sum.elim _ _ (smP t p3) = _; rw [sm_t hz]; rfl, hz]; exact ⟨rfl, by rw [F4.1 _ _ (by omega)]; exact V13, by rw [F4.1 _ _ (by omega)]; exact V23, by rw [F4.1 _ _ (by omega)]; exact V33, T4.2.2.1⟩
  · rw [show mbP t p = .inl (ftN (tok t p3).1 3, (tok t p3).2.1) from by unfold mbP; rw [N1]; show Sum.elim _ _ (nmP t p1 20) = _; rw [N2]; show Sum.elim _ _ (nmP t p2 20) = _; rw [N3]; show Sum.elim _ _ (smP t p3) = _; rw [sm_f hz]; rfl]; exact ⟨rfl, by show 0 < ftN _ _; omega, by show ftN _ _ ≤ 5; omega, T4.2.1, by show (tok t p3).2.1 ≤ _; omega⟩⟩
            · have vv := T3.2.2.2 (ft_0 h19).1
              rw [vv, top_d.2.2.2, nI_leI (by omega) (by omega)] at h35
              refine r_iconst hO dX3_faultOfNumbers_38 ic_3 ?_
              exact r_ireturn hO hr dX3_faultOfNumbers_39 rfl ⟨((G2).k F3), by rw [show mbP t p = .inl (3, (tok t p2).2.1) from by unfold mbP; rw [N1]; show Sum.elim _ _ (nmP t p1 20) = _; rw [N2]; show Sum.elim _ _ (nmP t p2 20) = _; rw [nm_3 h19 h35]; rfl]; exact ⟨rfl, by show 0 < 3; omega, by show 3 ≤ 5; omega, T3.2.1, by show (tok t p2).2.1 ≤ _; omega⟩⟩
          · rw [← nI_0, nI_eq (by omega) (by omega)] at h19
            refine r_iload hO dX3_faultOfNumbers_22 rfl ?_
            exact r_ireturn hO hr dX3_faultOfNumbers_24 rfl ⟨((G2).k F3), by rw [show mbP t p = .inl (ftN (tok t p2).1 2, (tok t p2).2.1) from by unfold mbP; rw [N1]; show Sum.elim _ _ (nmP t p1 20) = _; rw [N2]; show Sum.elim _ _ (nmP t p2 20) = _; rw [nm_f h19]; rfl]; exact ⟨rfl, by show 0 < ftN _ _; omega, by show ftN _ _ ≤ 5; omega, T3.2.1, by show (tok t p2).2.1 ≤ _; omega⟩⟩
        · have vv := T2.2.2.2 (ft_0 h19).1
          rw [vv, top_d.2.2.1, nI_leI (by omega) (by omega)] at h35
          refine r_iconst hO dX3_faultOfNumbers_38 ic_3 ?_
          exact r_ireturn hO hr dX3_faultOfNumbers_39 rfl ⟨((G1).k F2), by rw [show mbP t p = .inl (3, (tok t p1).2.1) from by unfold mbP; rw [N1]; show Sum.elim _ _ (nmP t p1 20) = _; rw [nm_3 h19 h35]; rfl]; exact ⟨rfl, by show 0 < 3; omega, by show 3 ≤ 5; omega, T2.2.1, by show (tok t p1).2.1 ≤ _; omega⟩⟩
      · rw [← nI_0, nI_eq (by omega) (by omega)] at h19
        refine r_iload hO dX3_faultOfNumbers_22 rfl ?_
        exact r_ireturn hO hr dX3_faultOfNumbers_24 rfl ⟨((G1).k F2), by rw [show mbP t p = .inl (ftN (tok t p1).1 2, (tok t p1).2.1) from by unfold mbP; rw [N1]; show Sum.elim _ _ (nmP t p1 20) = _; rw [nm_f h19]; rfl]; exact ⟨rfl, by show 0 < ftN _ _; omega, by show ftN _ _ ≤ 5; omega, T2.2.1, by show (tok t p1).2.1 ≤ _; omega⟩⟩
    · have vv := T1.2.2.2 (ft_0 h19).1
      rw [vv, top_d.2.1, nI_leI (by omega) (by omega)] at h35
      refine r_iconst hO dX3_faultOfNumbers_38 ic_3 ?_
      exact r_ireturn hO hr dX3_faultOfNumbers_39 rfl ⟨(FMb.rf.k F1), by rw [show mbP t p = .inl (3, (tok t p).2.1) from by unfold mbP; rw [nm_3 h19 h35]; rfl]; exact ⟨rfl, by show 0 < 3; omega, by show 3 ≤ 5; omega, T1.2.1, by show (tok t p).2.1 ≤ _; omega⟩⟩
  · rw [← nI_0, nI_eq (by omega) (by omega)] at h19
    refine r_iload hO dX3_faultOfNumbers_22 rfl ?_
    exact r_ireturn hO hr dX3_faultOfNumbers_24 rfl ⟨(FMb.rf.k F1), by rw [show mbP t p = .inl (ftN (tok t p).1 2, (tok t p).2.1) from by unfold mbP; rw [nm_f h19]; rfl]; exact ⟨rfl, by show 0 < ftN _ _; omega, by show ftN _ _ ≤ 5; omega, T1.2.1, by show (tok t p).2.1 ≤ _; omega⟩⟩
def TrS (M : Mm) (ms : List Mb) (mo : Nat) : Prop := CN M 8 ms mo 0 0 ∧ M.1 8 7 = 0
theorem TrS.k {M M' : Mm} {ms : List Mb} {mo : Nat} (h : TrS M ms mo) (e : ∀ a k, 8 ≤ a → a ≤ 9 → M'.1 a k = M.1 a k) : TrS M' ms mo := ⟨h.1.eq (fun k _ _ => e _ _ (by omega) (by omega)) (fun k _ => e _ _ (by omega) (by omega)), by rw [e _ _ (by omega) (by omega)]; exact h.2⟩
theorem TrS.mo {M M' : Mm} {ms : List Mb} {mo v : Nat} (h : TrS M ms mo) (e : ∀ a k, 8 ≤ a → a ≤ 9 → (a ≠ 8 ∨ k ≠ 4) → M'.1 a k = M.1 a k) (hv : M'.1 8 4 = nI v) (hv2 : v ≤ 20) : TrS M' ms v := by
  obtain ⟨⟨h1, h2, h3, h4, h5, h6⟩, h7⟩ := h
  exact ⟨⟨h1, h2.eq h1 (fun k _ => e _ _ (by omega) (by omega) (by omega)), by rw [e _ _ (by omega) (by omega) (by omega)]; exact h3, ⟨hv, hv2⟩, by rw [e _ _ (by omega) (by omega) (by omega)]; exact h5, by rw [e _ _ (by omega) (by omega) (by omega)]; exact h6⟩, by rw [e _ _ (by omega) (by omega) (by omega)]; exact h7⟩
theorem TrS.add {M M' : Mm} {ms : List Mb} {mo : Nat} {b : Mb} (h : TrS M ms mo) (hl : ms.length < 6) (hb : okB b) (e : ∀ a k, 8 ≤ a → a ≤ 9 → (a ≠ 8 ∨ k ≠ 3) → (a ≠ 9 ∨ k < 4 * ms.length ∨ 4 * ms.length + 3 < k) → M'.1 a k = M.1 a k) (h3' : M'.1 8 3 = nI (ms.length + 1)) (b0 : M'.1 9 (4 * ms.length) = nI b.1) (b1 : M'.1 9 (4 * ms.length + 1) = nI b.2.1) (b2 : M'.1 9 (4 * ms.length + 2) = nI b.2.2.1) (b3 : M'.1 9 (4 * ms.length + 3) = nI b.2.2.2) : TrS M' (ms ++ [b]) mo := by
  obtain ⟨⟨h1, h2, h3, h4, h5, h6⟩, h7⟩ := h
  have hl2 : (ms ++ [b]).length = ms.length + 1 := by simp
  refine ⟨⟨by omega, MbAt.push ?_ hb b0 b1 b2 b3, by rw [hl2]; exact h3', by rw [e _ _ (by omega) (by omega) (by omega) (by omega)]; exact h4, by rw [e _ _ (by omega) (by omega) (by omega) (by omega)]; exact h5, by rw [e _ _ (by omega) (by omega) (by omega) (by omega)]; exact h6⟩, by rw [e _ _ (by omega) (by omega) (by omega) (by omega)]; exact h7⟩
  intro i c hc
  have hi := (List.getElem?_eq_some_iff.mp hc).1
  obtain ⟨q0, q1, q2, q3, q4⟩ := h2 i c hc
  exact ⟨by rw [e _ _ (by omega) (by omega) (by omega) (by omega)]; exact q0, by rw [e _ _ (by omega) (by omega) (by omega) (by omega)]; exact q1, by rw [e _ _ (by omega) (by omega) (by omega) (by omega)]; exact q2, by rw [e _ _ (by omega) (by omega) (by omega) (by omega)]; exact q3, q4⟩
theorem mt_ok {t : List Nat} {p : Nat} {y : Nat × Nat} (hp : p ≤ t.length) (h : mtP t p = .inr y) : y.1 ≤ 20 ∧ p < y.2 ∧ y.2 ≤ t.length := by
  unfold mtP at h
  cases h1 : nmP t p 20 with
  | inl x => rw [h1] at h; cases h
  | inr a =>
    rw [h1] at h
    have k1 := nm_ok hp h1
    have h : Sum.elim Sum.inl (fun q => Sum.inr (a.1, q)) (smP t a.2) = (Sum.inr y : Fb ⊕ (Nat × Nat)) := h
    cases h2 : smP t a.2 with
    | inl x => rw [h2] at h; cases h
    | inr q =>
      rw [h2] at h
      cases h
      have k2 := sm_ok k1.2.2 h2
      exact ⟨k1.1, by show p < q; omega, k2.2⟩
theorem mb_ok {t : List Nat} {p : Nat} {y : Nat × Nat × Nat × Nat} (hp : p ≤ t.length) (h : mbP t p = .inr y) : y.1 ≤ 1 ∧ y.2.1 ≤ 20 ∧ y.2.2.1 ≤ 20 ∧ p < y.2.2.2 ∧ y.2.2.2 ≤ t.length := by
  unfold mbP at h
  cases h1 : nmP t p 1 with
  | inl x => rw [h1] at h; cases h
  | inr a =>
    rw [h1] at h
    have k1 := nm_ok hp h1
    have h : Sum.elim Sum.inl (fun b => (nmP t b.2 20).elim .inl (fun c => (smP t c.2).elim .inl (fun q => .inr (a.1, b.1, c.1, q)))) (nmP t a.2 20) = (Sum.inr y : Fb ⊕ (Nat × Nat × Nat × Nat)) := h
    cases h2 : nmP t a.2 20 with
    | inl x => rw [h2] at h; cases h
    | inr b =>
      rw [h2] at h
      have k2 := nm_ok k1.2.2 h2
      have h : Sum.elim Sum.inl (fun c => (smP t c.2).elim .inl (fun q => .inr (a.1, b.1, c.1, q))) (nmP t b.2 20) = (Sum.inr y : Fb ⊕ (Nat × Nat × Nat × Nat)) := h
      cases h3 : nmP t b.2 20 with
      | inl x => rw [h3] at h; cases h
      | inr c =>
        rw [h3] at h
        have k3 := nm_ok k2.2.2 h3
        have h : Sum.elim Sum.inl (fun q => .inr (a.1, b.1, c.1, q)) (smP t c.2) = (Sum.inr y : Fb ⊕ (Nat × Nat × Nat × Nat)) := h
        cases h4 : smP t c.2 with
        | inl x => rw [h4] at h; cases h
        | inr q =>
          rw [h4] at h
          cases h
          have k4 := sm_ok k3.2.2 h4
          exact ⟨k1.1, k2.1, k3.1, by show p < q; omega, k4.2⟩
theorem wdI_m {w : Nat} (h : w ≤ 5) : wdI w = -1 ↔ w = 5 := by
  rcases (show w = 0 ∨ w = 1 ∨ w = 2 ∨ w = 3 ∨ w = 4 ∨ w = 5 by omega) with rfl | rfl | rfl | rfl | rfl | rfl <;> decide
theorem wdI_4 {w : Nat} (h : w ≤ 5) : wdI w = 4 ↔ w = 4 := by
  rcases (show w = 0 ∨ w = 1 ∨ w = 2 ∨ w = 3 ∨ w = 4 ∨ w = 5 by omega) with rfl | rfl | rfl | rfl | rfl | rfl <;> decide
