/-! the text, class: a line, all lines, text() -/
set_option maxHeartbeats 4000000 in
theorem zX3_faultOfLine (l : Launch) {M : Mm} {t : List Nat} (h : TpC M t) {T : Tk} (hT : TokC M T) (hT4 : T.1 ≤ 4) (hbe : T.2.1 ≤ T.2.2.1) (het : T.2.2.1 ≤ t.length) {ms : List Mb} {mo : Nat} {told : Bool} (hS : TrS M ms mo) (hd : M.1 3 1 = bI told) : Clz l 7 yX3_faultOfLine cX3_faultOfLine 4 (some .int) [.ref 3, .ref 1, .ref 8] M (fun r M' => FLn M M' ∧ M'.1 3 0 = M.1 3 0 ∧ (lineP t T ms mo told).elim (bad t r M') (fun y => r = some (.int 0) ∧ TrS M' y.1 y.2.1 ∧ M'.1 3 1 = bI y.2.2.1 ∧ M'.1 1 4 = nI y.2.2.2)) := by
  refine Clz.on RX3 rfl (by decide +kernel) (Nat.le_of_ble_eq_true rfl) (fun X hL hO hr => ?_)
  show Gz X 0 [.ref 3, .ref 1, .ref 8, .null] [] M
  refine r_aload_n hO dX3_faultOfLine_0 rfl ?_
  refine r_getI hO dX3_faultOfLine_1 fRX3_32 rfl ?_
  refine r_iconst hO dX3_faultOfLine_4 ic_4 ?_
  refine r_icmp_ne 10 hO dX3_faultOfLine_5 (by decide) (fun h5 => ?_) (fun h5 => ?_)
  · rw [hT.1, show (4 : Int32) = nI 4 from rfl, nI_eq (by omega) (by omega)] at h5
    refine r_aload_n hO dX3_faultOfLine_10 rfl ?_
    refine r_fS hO dX3_faultOfLine_11 kRX3_42 msX3_wordOf (zX3_wordOf _ h hT hT4 hbe het) ⟨Nat.le_of_ble_eq_true rfl, Nat.le_of_ble_eq_true rfl, rfl, Nat.le_of_ble_eq_true rfl⟩ rfl ?_
    have hw5 := wd_le t T
    refine s_istore_n hL hO dX3_faultOfLine_14 (Nat.le_of_ble_eq_true rfl) rfl ?_
    refine r_iload_n hO dX3_faultOfLine_15 rfl ?_
    refine r_iconst hO dX3_faultOfLine_16 ic_m1 ?_
    refine r_icmp_ne 22 hO dX3_faultOfLine_17 (by decide) (fun h17 => ?_) (fun h17 => ?_)
    · rw [wdI_m hw5] at h17
      refine r_iload_n hO dX3_faultOfLine_22 rfl ?_
      refine r_iconst hO dX3_faultOfLine_23 ic_4 ?_
      refine r_icmp_ne 50 hO dX3_faultOfLine_24 (by decide) (fun h24 => ?_) (fun h24 => ?_)
      · rw [wdI_4 hw5] at h24
        refine r_aload_n hO dX3_faultOfLine_50 rfl ?_
        refine r_getI hO dX3_faultOfLine_51 fRX3_50 rfl ?_
        refine r_bipush hO dX3_faultOfLine_54 bc_6 ?_
        refine r_icmp_lt 61 hO dX3_faultOfLine_56 (by decide) (fun h56 => ?_) (fun h56 => ?_)
        · rw [hS.1.2.2.1, show (6 : Int32) = nI 6 from rfl, nI_ltI (by have := hS.1.1; omega) (by omega)] at h56
          refine r_aload_n hO dX3_faultOfLine_61 rfl ?_
          refine r_aload_n hO dX3_faultOfLine_62 rfl ?_
          refine r_aload_n hO dX3_faultOfLine_63 rfl ?_
          refine r_iload_n hO dX3_faultOfLine_64 rfl ?_
          refine r_fV hO dX3_faultOfLine_65 kRX3_53 miX0_addMember (zX0_addMember _ (show nuP 8 from Or.inr (Or.inl rfl)) ms.length hS.1.2.2.1 h56) ⟨Nat.le_of_ble_eq_true rfl, Nat.le_of_ble_eq_true rfl, rfl, Nat.le_of_ble_eq_true rfl⟩ rfl rfl ?_
          have ga : FLn M (mput (mput (mput (mput (mput M 8 3 (nI (ms.length + 1))) 9 (4 * ms.length + 0) (wdI (wdT t T))) 9 (4 * ms.length + 1) 0) 9 (4 * ms.length + 2) 0) 9 (4 * ms.length + 3) 0) := ((((FLn.put (by omega)).tr (FLn.put (by omega))).tr (FLn.put (by omega))).tr (FLn.put (by omega))).tr (FLn.put (by omega))
          refine r_iconst hO dX3_faultOfLine_68 ic_1 ?_
          refine r_iconst hO dX3_faultOfLine_69 ic_3 ?_
          refine r_callS hO dX3_faultOfLine_70 kRX3_46 msX3_faultOfNumbers (zX3_numbersMb _ (h.n ga) T.2.2.1 (by rw [mpn (by omega), mpn (by omega), mpn (by omega), mpn (by omega), mpn (by omega)]; exact hT.2.2.1) het ms.length rfl h56) ⟨Nat.le_of_ble_eq_true rfl, Nat.le_of_ble_eq_true rfl, rfl, Nat.le_of_ble_eq_true rfl⟩ rfl (fun q M1 hpo => ?_)
          obtain ⟨F, E⟩ := hpo
          have eL : lineP t T ms mo told = (mbP t T.2.2.1).elim .inl (fun y => .inr (ms ++ [(wdT t T, y.1, y.2.1, y.2.2.1)], mo, told, y.2.2.2)) := by unfold lineP; rw [if_neg h5, if_neg h17, if_neg h24, if_neg (by omega)]
          have FF : FLn M M1 := ga.tr (FLn.mb F)
          obtain ⟨rv, hrv⟩ : ∃ rv, q = some (.int rv) := by
            cases hm : mbP t T.2.2.1 with
            | inl c => rw [hm] at E; exact ⟨_, E.1⟩
            | inr y => rw [hm] at E; exact ⟨_, E.1⟩
          subst hrv
          exact r_ireturn hO hr dX3_faultOfLine_73 rfl ⟨FF, by rw [F.1 _ _ (by omega) (by omega), mpn (by omega), mpn (by omega), mpn (by omega), mpn (by omega), mpn (by omega)], by
  rw [eL]
  cases hm : mbP t T.2.2.1 with
  | inl c => rw [hm] at E; exact E
  | inr y =>
    rw [hm] at E
    obtain ⟨E1, E2, E3, E4, E5⟩ := E
    have kk := mb_ok het hm
    exact ⟨E1, hS.add h56 (b := (wdT t T, y.1, y.2.1, y.2.2.1)) ⟨by show wdT t T ≤ 3; omega, kk.1, kk.2.1, kk.2.2.1⟩ (fun a k h1 h2 h3 h4 => by rw [F.1 a k (by omega) (by omega), mpn (by omega), mpn (by omega), mpn (by omega), mpn (by omega), mpn (by omega)]) (by rw [F.1 _ _ (by omega) (by omega), mpn (by omega), mpn (by omega), mpn (by omega), mpn (by omega), mpe]) (by rw [F.1 _ _ (by omega) (by omega), mpn (by omega), mpn (by omega), mpn (by omega)]; show (mput _ 9 (4 * ms.length + 0) _).1 9 (4 * ms.length + 0) = _; rw [mpe]; unfold wdI; rw [if_neg h17]) E2 E3 E4, by rw [F.1 _ _ (by omega) (by omega), mpn (by omega), mpn (by omega), mpn (by omega), mpn (by omega), mpn (by omega)]; exact hd, E5⟩⟩
        · rw [hS.1.2.2.1, show (6 : Int32) = nI 6 from rfl, nI_ltI (by have := hS.1.1; omega) (by omega)] at h56
          refine r_iconst hO dX3_faultOfLine_59 ic_5 ?_
          exact r_ireturn hO hr dX3_faultOfLine_60 rfl ⟨FLn.rf, rfl, by rw [show lineP t T ms mo told = .inl (5, T.2.1) from by unfold lineP; rw [if_neg h5, if_neg h17, if_neg h24, if_pos (by have := hS.1.1; omega)]]; exact ⟨rfl, by show 0 < 5; omega, by show 5 ≤ 5; omega, hT.2.1, by show T.2.1 ≤ _; omega⟩⟩
      · rw [wdI_4 hw5] at h24
        refine r_aload_n hO dX3_faultOfLine_27 rfl ?_
        refine r_getI hO dX3_faultOfLine_28 fRX3_15 rfl ?_
        refine r_if_eq 36 hO dX3_faultOfLine_31 (by decide) (fun h31 => ?_) (fun h31 => ?_)
        · rw [hd, bI_0] at h31
          refine r_aload_n hO dX3_faultOfLine_36 rfl ?_
          refine r_iconst hO dX3_faultOfLine_37 ic_1 ?_
          refine r_putT hO dX3_faultOfLine_38 fRX3_15 rfl rfl rfl ?_
          refine r_aload_n hO dX3_faultOfLine_41 rfl ?_
          refine r_aload_n hO dX3_faultOfLine_42 rfl ?_
          refine r_iconst hO dX3_faultOfLine_43 ic_0 ?_
          refine r_iconst hO dX3_faultOfLine_44 ic_4 ?_
          refine r_iconst hO dX3_faultOfLine_45 ic_4 ?_
          refine r_callS hO dX3_faultOfLine_46 kRX3_46 msX3_faultOfNumbers (zX3_numbersMo _ (h.n (FLn.put (Or.inl rfl))) T.2.2.1 (by rw [mpn (by omega)]; exact hT.2.2.1) het) ⟨Nat.le_of_ble_eq_true rfl, Nat.le_of_ble_eq_true rfl, rfl, Nat.le_of_ble_eq_true rfl⟩ rfl (fun q M1 hpo => ?_)
          obtain ⟨F, E⟩ := hpo
          have eL : lineP t T ms mo told = (mtP t T.2.2.1).elim .inl (fun y => .inr (ms, y.1, true, y.2)) := by unfold lineP; rw [if_neg h5, if_neg h17, if_pos h24, if_neg (by rw [h31]; decide)]
          have FF : FLn M M1 := (FLn.put (Or.inl rfl)).tr (FLn.mo F)
          obtain ⟨rv, hrv⟩ : ∃ rv, q = some (.int rv) := by
            cases hm : mtP t T.2.2.1 with
            | inl c => rw [hm] at E; exact ⟨_, E.1⟩
            | inr y => rw [hm] at E; exact ⟨_, E.1⟩
          subst hrv
          exact r_ireturn hO hr dX3_faultOfLine_49 rfl ⟨FF, by rw [F.1 _ _ (by omega) (by omega), mpn (by omega)], by
  rw [eL]
  cases hm : mtP t T.2.2.1 with
  | inl c => rw [hm] at E; exact E
  | inr y =>
    rw [hm] at E
    obtain ⟨E1, E2, E3⟩ := E
    exact ⟨E1, hS.mo (fun a k h1 h2 h3 => by rw [F.1 a k (by omega) h3, mpn (by omega)]) E2 (mt_ok het hm).1, by rw [F.1 _ _ (by omega) (by omega), mpe]; rfl, E3⟩⟩
        · rw [hd, bI_n0] at h31
          refine r_iconst hO dX3_faultOfLine_34 ic_4 ?_
          exact r_ireturn hO hr dX3_faultOfLine_35 rfl ⟨FLn.rf, rfl, by rw [show lineP t T ms mo told = .inl (4, T.2.1) from by unfold lineP; rw [if_neg h5, if_neg h17, if_pos h24, if_pos h31]]; exact ⟨rfl, by show 0 < 4; omega, by show 4 ≤ 5; omega, hT.2.1, by show T.2.1 ≤ _; omega⟩⟩
    · rw [wdI_m hw5] at h17
      refine r_iconst hO dX3_faultOfLine_20 ic_2 ?_
      exact r_ireturn hO hr dX3_faultOfLine_21 rfl ⟨FLn.rf, rfl, by rw [show lineP t T ms mo told = .inl (2, T.2.1) from by unfold lineP; rw [if_neg h5, if_pos h17]]; exact ⟨rfl, by show 0 < 2; omega, by show 2 ≤ 5; omega, hT.2.1, by show T.2.1 ≤ _; omega⟩⟩
  · rw [hT.1, show (4 : Int32) = nI 4 from rfl, nI_eq (by omega) (by omega)] at h5
    refine r_iconst hO dX3_faultOfLine_8 ic_1 ?_
    exact r_ireturn hO hr dX3_faultOfLine_9 rfl ⟨FLn.rf, rfl, by rw [show lineP t T ms mo told = .inl (1, T.2.1) from by unfold lineP; rw [if_pos h5]]; exact ⟨rfl, by show 0 < 1; omega, by show 1 ≤ 5; omega, hT.2.1, by show T.2.1 ≤ _; omega⟩⟩
theorem tx_0 {t : List Nat} {f p n : Nat} {ms : List Mb} {mo : Nat} {told : Bool} (h : (tok t p).1 = 0) : textP t f p n ms mo told = .inr (n, ms, mo) := by
  cases f with
  | zero => rfl
  | succ f => exact if_pos h
theorem tx_s {t : List Nat} {f p n : Nat} {ms : List Mb} {mo : Nat} {told : Bool} (h : ¬ (tok t p).1 = 0) : textP t (f + 1) p n ms mo told = (lineP t (tok t p) ms mo told).elim .inl (fun y => textP t f y.2.2.2 (n + 1) y.1 y.2.1 y.2.2.1) := if_neg h
theorem ln_ok {t : List Nat} {p : Nat} {ms : List Mb} {mo : Nat} {told : Bool} {y : Ln} (hp : p ≤ t.length) (h : lineP t (tok t p) ms mo told = .inr y) : p < y.2.2.2 ∧ y.2.2.2 ≤ t.length := by
  have k := tok_e hp
  unfold lineP at h
  split at h
  · cases h
  · split at h
    · cases h
    · split at h
      · split at h
        · cases h
        · cases hm : mtP t (tok t p).2.2.1 with
          | inl c => rw [hm] at h; cases h
          | inr z => rw [hm] at h; cases h; have := mt_ok k.2.2.1 hm; show p < z.2 ∧ z.2 ≤ _; omega
      · split at h
        · cases h
        · cases hm : mbP t (tok t p).2.2.1 with
          | inl c => rw [hm] at h; cases h
          | inr z => rw [hm] at h; cases h; have := mb_ok k.2.2.1 hm; show p < z.2.2.2 ∧ z.2.2.2 ≤ _; omega
set_option maxHeartbeats 4000000 in
theorem zX3_tell (l : Launch) {M : Mm} {t : List Nat} (hTp : TpC M t) : Clz l 8 yX3_tell cX3_tell 4 (some .int) [.ref 3, .ref 1, .ref 8] M (fun r M' => FLn M M' ∧ (textP t t.length 0 0 [] 10 false).elim (fun c => r = some (.int (-10 - nI c.2)) ∧ M'.1 3 0 = nI c.1 ∧ 0 < c.1 ∧ c.1 ≤ 5) (fun y => r = some (.int (nI y.1)) ∧ M'.1 3 0 = 0 ∧ TrS M' y.2.1 y.2.2)) := by
  refine Clz.on RX3 rfl (by decide +kernel) (Nat.le_of_ble_eq_true rfl) (fun X hL hO hr => ?_)
  show Gz X 0 [.ref 3, .ref 1, .ref 8, .null] [] M
  refine r_aload_n hO dX3_tell_0 rfl ?_
  refine r_fV hO dX3_tell_1 kRX3_19 miX0_beginAnew (zX0_beginAnew _ (show nuP 8 from Or.inr (Or.inl rfl))) ⟨Nat.le_of_ble_eq_true rfl, Nat.le_of_ble_eq_true rfl, rfl, Nat.le_of_ble_eq_true rfl⟩ rfl rfl ?_
  refine r_aload_n hO dX3_tell_4 rfl ?_
  refine r_fV hO dX3_tell_5 kRX3_24 miX2_rewind (zX2_rewind _) ⟨Nat.le_of_ble_eq_true rfl, Nat.le_of_ble_eq_true rfl, rfl, Nat.le_of_ble_eq_true rfl⟩ rfl rfl ?_
  refine r_aload_n hO dX3_tell_8 rfl ?_
  refine r_iconst hO dX3_tell_9 ic_0 ?_
  refine r_putI hO dX3_tell_10 fRX3_9 rfl ?_
  refine r_aload_n hO dX3_tell_13 rfl ?_
  refine r_iconst hO dX3_tell_14 ic_0 ?_
  refine r_putT hO dX3_tell_15 fRX3_15 rfl rfl rfl ?_
  obtain ⟨M0, hM0⟩ : ∃ M0, M0 = mput (mput (mput (mput (mput (mput (mput (mput M 8 3 0) 8 4 10) 8 5 0) 8 6 0) 8 7 0) 1 4 0) 3 0 0) 3 1 0 := ⟨_, rfl⟩
  have hF0 : FLn M M0 := by rw [hM0]; exact ((((((((FLn.put (by omega)).tr (FLn.put (by omega))).tr (FLn.put (by omega))).tr (FLn.put (by omega))).tr (FLn.put (by omega))).tr (FLn.put (by omega))).tr (FLn.put (by omega))).tr (FLn.put (by omega)))
  show Gz X 18 [.ref 3, .ref 1, .ref 8, .null] [] (mput (mput (mput (mput (mput (mput (mput (mput M 8 3 0) 8 4 10) 8 5 0) 8 6 0) 8 7 0) 1 4 0) 3 0 0) 3 1 0)
  rw [← hM0]
  refine r_iconst hO dX3_tell_18 ic_0 ?_
  refine s_istore_n hL hO dX3_tell_19 (Nat.le_of_ble_eq_true rfl) rfl ?_
  refine r_aload_n hO dX3_tell_20 rfl ?_
  refine r_callV hO dX3_tell_21 kRX3_29 miX2_readToken (zX2_readToken _ (hTp.n hF0) 0 (by rw [hM0, mpn (by omega), mpn (by omega), mpe]; rfl) (Nat.zero_le _)) ⟨Nat.le_of_ble_eq_true rfl, Nat.le_of_ble_eq_true rfl, rfl, Nat.le_of_ble_eq_true rfl⟩ rfl rfl (fun o M9 hpo => ?_)
  obtain ⟨rfl, F9, T9⟩ := hpo
  have hl160 := hTp.1
  have loop : ∀ (f p n : Nat) (ms : List Mb) (mo : Nat) (told : Bool) (M1 : Mm), TokC M1 (tok t p) → p ≤ t.length → t.length ≤ p + f → n ≤ p → TrS M1 ms mo → M1.1 3 1 = bI told → M1.1 3 0 = 0 → FLn M M1 → textP t f p n ms mo told = textP t t.length 0 0 [] 10 false → Gz X 24 [.ref 3, .ref 1, .ref 8, .int (nI n)] [] M1 := by
    intro f
    induction f with
    | zero =>
      intro p n ms mo told M1 hT hpt hpf hnp hS hd h30 hF he
      have kk := tok_e hpt
      refine r_iload_n hO dX3_tell_24 rfl ?_
      refine r_sipush hO dX3_tell_25 sc_160 ?_
      refine r_icmp_ge 73 hO dX3_tell_28 (by decide) (fun h28 => ?_) (fun h28 => ?_)
      · have hz : (tok t p).1 = 0 := kk.2.2.2.2.2.2 (by omega)
        refine r_iload_n hO dX3_tell_73 rfl ?_
        exact r_ireturn hO hr dX3_tell_74 rfl ⟨hF, by rw [← he, tx_0 hz]; exact ⟨rfl, h30, hS⟩⟩
      · have hz : (tok t p).1 = 0 := kk.2.2.2.2.2.2 (by omega)
        refine r_aload_n hO dX3_tell_31 rfl ?_
        refine r_getI hO dX3_tell_32 fRX3_32 rfl ?_
        refine r_if_eq 73 hO dX3_tell_35 (by decide) (fun _ => ?_) (fun z => absurd (by rw [hT.1, hz]; rfl) z)
        refine r_iload_n hO dX3_tell_73 rfl ?_
        exact r_ireturn hO hr dX3_tell_74 rfl ⟨hF, by rw [← he, tx_0 hz]; exact ⟨rfl, h30, hS⟩⟩
    | succ f ih =>
      intro p n ms mo told M1 hT hpt hpf hnp hS hd h30 hF he
      have kk := tok_e hpt
      refine r_iload_n hO dX3_tell_24 rfl ?_
      refine r_sipush hO dX3_tell_25 sc_160 ?_
      refine r_icmp_ge 73 hO dX3_tell_28 (by decide) (fun h28 => ?_) (fun h28 => ?_)
      · rw [show (160 : Int32) = nI 160 from rfl, nI_leI (by omega) (by omega)] at h28
        have hz : (tok t p).1 = 0 := kk.2.2.2.2.2.2 (by omega)
        refine r_iload_n hO dX3_tell_73 rfl ?_
        exact r_ireturn hO hr dX3_tell_74 rfl ⟨hF, by rw [← he, tx_0 hz]; exact ⟨rfl, h30, hS⟩⟩
      · rw [show (160 : Int32) = nI 160 from rfl, nI_leI (by omega) (by omega)] at h28
        refine r_aload_n hO dX3_tell_31 rfl ?_
        refine r_getI hO dX3_tell_32 fRX3_32 rfl ?_
        refine r_if_eq 73 hO dX3_tell_35 (by decide) (fun h35 => ?_) (fun h35 => ?_)
        · rw [hT.1, ← nI_0, nI_eq (by omega) (by omega)] at h35
          have hz := h35
          refine r_iload_n hO dX3_tell_73 rfl ?_
          exact r_ireturn hO hr dX3_tell_74 rfl ⟨hF, by rw [← he, tx_0 hz]; exact ⟨rfl, h30, hS⟩⟩
        · rw [hT.1, ← nI_0, nI_eq (by omega) (by omega)] at h35
          refine r_aload_n hO dX3_tell_38 rfl ?_
          refine r_aload_n hO dX3_tell_39 rfl ?_
          refine r_aload_n hO dX3_tell_40 rfl ?_
          refine r_aload_n hO dX3_tell_41 rfl ?_
          refine r_callV hO dX3_tell_42 kRX3_35 miX3_faultOfLine (zX3_faultOfLine _ (hTp.n hF) hT kk.2.2.2.2.1 kk.2.1 kk.2.2.1 hS hd) ⟨Nat.le_of_ble_eq_true rfl, Nat.le_of_ble_eq_true rfl, rfl, Nat.le_of_ble_eq_true rfl⟩ rfl rfl (fun q M2 hpo => ?_)
          obtain ⟨F, E0, E⟩ := hpo
          obtain ⟨rv, hrv⟩ : ∃ rv, q = some (.int rv) := by
            cases hm : lineP t (tok t p) ms mo told with
            | inl c => rw [hm] at E; exact ⟨_, E.1⟩
            | inr y => rw [hm] at E; exact ⟨_, E.1⟩
          subst hrv
          refine r_putI hO dX3_tell_45 fRX3_9 rfl ?_
          refine r_aload_n hO dX3_tell_48 rfl ?_
          refine r_getI hO dX3_tell_49 fRX3_9 rfl ?_
          refine r_if_eq 63 hO dX3_tell_52 (by decide) (fun h52 => ?_) (fun h52 => ?_)
          · rw [mpe] at h52
            obtain ⟨y, hy⟩ : ∃ y, lineP t (tok t p) ms mo told = .inr y := by
              cases hm : lineP t (tok t p) ms mo told with
              | inr y => exact ⟨y, rfl⟩
              | inl c =>
                rw [hm] at E
                obtain ⟨E1, E2, E3, E4, E5⟩ := E
                have h52 : nI c.1 = 0 := (Value.int.inj (Option.some.inj E1)).symm.trans h52
                rw [← nI_0, nI_eq (by omega) (by omega)] at h52
                omega
            rw [hy] at E
            obtain ⟨E1, E2, E3, E4⟩ := E
            have ky := ln_ok hpt hy
            have hF3 : FLn M (mput M2 3 0 rv) := (hF.tr F).tr (FLn.put (Or.inl rfl))
            refine s_iinc hL hO dX3_tell_63 rfl ic_1 (Nat.le_of_ble_eq_true rfl) rfl ?_
            refine r_aload_n hO dX3_tell_66 rfl ?_
            refine r_callV hO dX3_tell_67 kRX3_29 miX2_readToken (zX2_readToken _ (hTp.n hF3) y.2.2.2 (by rw [mpn (by omega)]; exact E4) ky.2) ⟨Nat.le_of_ble_eq_true rfl, Nat.le_of_ble_eq_true rfl, rfl, Nat.le_of_ble_eq_true rfl⟩ rfl rfl (fun o M3 hpo => ?_)
            obtain ⟨rfl, F3, T3⟩ := hpo
            refine r_goto 24 hO dX3_tell_70 (by decide) ?_
            show Gz X 24 [.ref 3, .ref 1, .ref 8, .int (nI n + 1)] [] M3
            rw [nI_1]
            exact ih y.2.2.2 (n + 1) y.1 y.2.1 y.2.2.1 M3 T3 ky.2 (by omega) (by omega) (E2.k (fun a k h1 h2 => by rw [F3.1 _ _ (by omega), mpn (by omega)])) (by rw [F3.1 _ _ (by omega), mpn (by omega)]; exact E3) (by rw [F3.1 _ _ (by omega), mpe]; exact h52) (hF3.tr (FLn.k F3)) (by rw [← he, tx_s h35, hy]; rfl)
          · rw [mpe] at h52
            refine r_bipush hO dX3_tell_55 bc_m10 ?_
            refine r_aload_n hO dX3_tell_57 rfl ?_
            refine r_getI hO dX3_tell_58 fRX3_39 rfl ?_
            refine r_isub hO dX3_tell_61 ?_
            exact r_ireturn hO hr dX3_tell_62 rfl ⟨(hF.tr F).tr (FLn.put (Or.inl rfl)), by
    rw [← he, tx_s h35]
    cases hm : lineP t (tok t p) ms mo told with
    | inr y => rw [hm] at E; exact absurd (Value.int.inj (Option.some.inj E.1)) h52
    | inl c =>
      rw [hm] at E
      obtain ⟨E1, E2, E3, E4, E5⟩ := E
      exact ⟨by rw [mpn (by omega), E4], by rw [mpe]; exact Value.int.inj (Option.some.inj E1), E2, E3⟩⟩
  have e8 : ∀ a k, a ≠ 1 → M9.1 a k = M0.1 a k := fun a k ha => F9.1 a k (Or.inl ha)
  refine loop t.length 0 0 [] 10 false M9 T9 (Nat.zero_le _) (by omega) (Nat.le_refl _) ⟨⟨by show 0 ≤ 6; omega, fun i b hb => (by cases hb), ?_, ⟨?_, by omega⟩, ⟨?_, by omega⟩, ⟨?_, by omega⟩⟩, ?_⟩ ?_ ?_ (hF0.tr (FLn.k F9)) rfl
  all_goals (rw [e8 _ _ (by omega), hM0]; simp [mpg]; try rfl)
def p_text (σ : Sta) : Int32 × Sta := (textP σ.2.2.1 σ.2.2.1.length 0 0 [] 10 false).elim (fun c => (-10 - nI c.2, σ.1, σ.2.1, [], c.1, σ.2.2.2.2)) (fun y => (nI y.1, (y.2.1, y.2.2, 0, 0, []), (fun k => (false, (σ.2.1 k).2)), [], 0, σ.2.2.2.2))
theorem TpC.nil {M : Mm} (h : M.1 1 1 = 0) : TpC M [] := ⟨by show 0 ≤ 160; omega, h, fun i b hb => by cases hb⟩
theorem TpD.nil {M : Mm} (h : M.1 33 6 = 0) : TpD M [] := ⟨by show 0 ≤ 160; omega, h, fun i b hb => by cases hb⟩
set_option maxHeartbeats 4000000 in
theorem zX4_text (l : Launch) {M : Mm} {σ : Sta} (h : RC M σ)  : Clz l 9 yX4_text cX4_text 3 (some .int) [.ref 0] M (fun r M' => r = some (.int (p_text σ).1) ∧ RC M' (p_text σ).2 ∧ FCr M M') := by
  refine Clz.on RX4 rfl (by decide +kernel) (Nat.le_of_ble_eq_true rfl) (fun X hL hO hr => ?_)
  show Gz X 0 [.ref 0, .null, .null] [] M
  refine r_aload_n hO dX4_text_0 rfl ?_
  refine r_getR 3 hO dX4_text_1 fRX4_19 rfl ?_
  refine r_aload_n hO dX4_text_4 rfl ?_
  refine r_getR 1 hO dX4_text_5 fRX4_12 rfl ?_
  refine r_aload_n hO dX4_text_8 rfl ?_
  refine r_getR 8 hO dX4_text_9 fRX4_30 rfl ?_
  refine r_callV hO dX4_text_12 kRX4_73 miX3_tell (zX3_tell _ h.2.2.1) ⟨Nat.le_of_ble_eq_true rfl, Nat.le_of_ble_eq_true rfl, rfl, Nat.le_of_ble_eq_true rfl⟩ rfl rfl (fun q M1 hpo => ?_)
  obtain ⟨F, E⟩ := hpo
  obtain ⟨rv, hrv⟩ : ∃ rv, q = some (.int rv) := by
    cases hm : textP σ.2.2.1 σ.2.2.1.length 0 0 [] 10 false with
    | inl c => rw [hm] at E; exact ⟨_, E.1⟩
    | inr y => rw [hm] at E; exact ⟨_, E.1⟩
  subst hrv
  refine s_istore_n hL hO dX4_text_15 (Nat.le_of_ble_eq_true rfl) rfl ?_
  refine r_aload_n hO dX4_text_16 rfl ?_
  refine r_getR 1 hO dX4_text_17 fRX4_12 rfl ?_
  refine r_iconst hO dX4_text_20 ic_0 ?_
  refine r_putI hO dX4_text_21 fRX4_66 rfl ?_
  refine r_aload_n hO dX4_text_24 rfl ?_
  refine r_aload_n hO dX4_text_25 rfl ?_
  refine r_getR 3 hO dX4_text_26 fRX4_19 rfl ?_
  refine r_getI hO dX4_text_29 fRX4_77 rfl ?_
  refine r_putI hO dX4_text_32 fRX4_54 rfl ?_
  show Gz X 35 [.ref 0, .int rv, .null] [] (mput (mput M1 1 1 0) 0 9 ((mput M1 1 1 0).1 3 0))
  rw [mpn (by omega)]
  refine r_aload_n hO dX4_text_35 rfl ?_
  refine r_getI hO dX4_text_36 fRX4_54 rfl ?_
  refine r_if_ne 73 hO dX4_text_39 (by decide) (fun h39 => ?_) (fun h39 => ?_)
  · rw [mpe] at h39
    obtain ⟨c, hc⟩ : ∃ c, textP σ.2.2.1 σ.2.2.1.length 0 0 [] 10 false = .inl c := by
      cases hm : textP σ.2.2.1 σ.2.2.1.length 0 0 [] 10 false with
      | inl c => exact ⟨c, rfl⟩
      | inr y => rw [hm] at E; exact absurd E.2.1 h39
    rw [hc] at E
    obtain ⟨E1, E2, E3, E4⟩ := E
    have e : p_text σ = (-10 - nI c.2, σ.1, σ.2.1, [], c.1, σ.2.2.2.2) := by unfold p_text; rw [hc]; rfl
    refine r_iload_n hO dX4_text_73 rfl ?_
    exact r_ireturn hO hr dX4_text_74 rfl ⟨by rw [e]; exact E1, by
  rw [e]
  obtain ⟨g1, g2, g3, g4, g5, g6⟩ := h
  refine ⟨g1.eq (fun a k _ _ => ?_), fun k hk => ⟨?_, fun z => ((g2 k hk).2 z).eq (fun a j _ _ => ?_)⟩, TpC.nil ?_, ?_, ?_, fun k hk => (g6 k hk).eq (fun a j ha => ?_)⟩
  · rw [mpn (by omega), mpn (by omega), F.1 _ _ (by omega) (by omega) (by omega)]
  · rw [mpn (by omega), mpn (by omega), F.1 _ _ (by omega) (by omega) (by omega)]; exact (g2 k hk).1
  · rw [mpn (by omega), mpn (by omega), F.1 _ _ (by omega) (by omega) (by omega)]
  · rw [mpn (by omega), mpe]
  · rw [mpe]; exact E2
  · rw [mpn (by omega), mpn (by omega), F.1 _ _ (by omega) (by omega) (by omega)]; exact g5
  · rw [mpn (by omega), mpn (by omega), F.1 _ _ (by omega) (by omega) (by omega)], ⟨fun a k ha => by rw [mpn (by omega), mpn (by omega), F.1 _ _ (by omega) (by omega) (by omega)], F.2⟩⟩
  · rw [mpe] at h39
    obtain ⟨y, hc⟩ : ∃ y, textP σ.2.2.1 σ.2.2.1.length 0 0 [] 10 false = .inr y := by
      cases hm : textP σ.2.2.1 σ.2.2.1.length 0 0 [] 10 false with
      | inr y => exact ⟨y, rfl⟩
      | inl c =>
        rw [hm] at E
        obtain ⟨E1, E2, E3, E4⟩ := E
        rw [E2, ← nI_0, nI_eq (by omega) (by omega)] at h39
        omega
    rw [hc] at E
    obtain ⟨E1, E2, E3⟩ := E
    have e : p_text σ = (nI y.1, (y.2.1, y.2.2, 0, 0, []), (fun k => (false, (σ.2.1 k).2)), [], 0, σ.2.2.2.2) := by unfold p_text; rw [hc]; rfl
    refine r_aload_n hO dX4_text_42 rfl ?_
    refine r_getR 4 hO dX4_text_43 fRX4_26 rfl ?_
    refine r_aload_n hO dX4_text_46 rfl ?_
    refine r_getR 8 hO dX4_text_47 fRX4_30 rfl ?_
    refine r_callV hO dX4_text_50 kRX4_80 miX0_become (zX0_become _ (show nuP 4 from Or.inl rfl) (show nuP 8 from Or.inr (Or.inl rfl)) (by decide)) ⟨Nat.le_of_ble_eq_true rfl, Nat.le_of_ble_eq_true rfl, rfl, Nat.le_of_ble_eq_true rfl⟩ rfl rfl (fun o M2 hpo => ?_)
    obtain ⟨rfl, B⟩ := hpo
    refine r_iconst hO dX4_text_53 ic_0 ?_
    refine s_istore_n hL hO dX4_text_54 (Nat.le_of_ble_eq_true rfl) rfl ?_
    refine r_iload_n hO dX4_text_55 rfl ?_
    refine r_iconst hO dX4_text_56 ic_2 ?_
    refine r_icmp_ge 73 hO dX4_text_57 (by decide) (fun z => absurd z (by decide)) (fun _ => ?_)
    refine r_aload_n hO dX4_text_60 rfl ?_
    refine r_getR 13 hO dX4_text_61 fRX4_37 rfl ?_
    refine r_iload_n hO dX4_text_64 rfl ?_
    refine r_iconst hO dX4_text_65 ic_0 ?_
    refine s_zast 2 hO dX4_text_66 rfl (Nat.le_of_ble_eq_true rfl) 0 (by decide) (by decide) ?_
    refine s_iinc hL hO dX4_text_67 rfl ic_1 (Nat.le_of_ble_eq_true rfl) rfl ?_
    refine r_goto 55 hO dX4_text_70 (by decide) ?_
    refine r_iload_n hO dX4_text_55 rfl ?_
    refine r_iconst hO dX4_text_56 ic_2 ?_
    refine r_icmp_ge 73 hO dX4_text_57 (by decide) (fun z => absurd z (by decide)) (fun _ => ?_)
    refine r_aload_n hO dX4_text_60 rfl ?_
    refine r_getR 13 hO dX4_text_61 fRX4_37 rfl ?_
    refine r_iload_n hO dX4_text_64 rfl ?_
    refine r_iconst hO dX4_text_65 ic_0 ?_
    refine s_zast 2 hO dX4_text_66 rfl (Nat.le_of_ble_eq_true rfl) 1 (by decide) (by decide) ?_
    refine s_iinc hL hO dX4_text_67 rfl ic_1 (Nat.le_of_ble_eq_true rfl) rfl ?_
    refine r_goto 55 hO dX4_text_70 (by decide) ?_
    refine r_iload_n hO dX4_text_55 rfl ?_
    refine r_iconst hO dX4_text_56 ic_2 ?_
    refine r_icmp_ge 73 hO dX4_text_57 (by decide) (fun _ => ?_) (fun z => absurd (by decide) z)
    refine r_iload_n hO dX4_text_73 rfl ?_
    exact r_ireturn hO hr dX4_text_74 rfl ⟨by rw [e]; exact E1, by
  rw [e]
  obtain ⟨g1, g2, g3, g4, g5, g6⟩ := h
  have q4 : ∀ a k, ¬ (4 ≤ a ∧ a ≤ 7) → a ≠ 13 → (mput (mput M2 13 0 (vp_nar .boolean 0)) 13 1 (vp_nar .boolean 0)).1 a k = (mput (mput M1 1 1 0) 0 9 (M1.1 3 0)).1 a k := fun a k h1 h2 => by rw [mpn (by omega), mpn (by omega), B.1 a k (by omega)]
  have c4 : CU (mput (mput M2 13 0 (vp_nar .boolean 0)) 13 1 (vp_nar .boolean 0)) 4 (y.2.1, y.2.2, 0, 0, []) := by
    have c8 : CU (mput (mput M1 1 1 0) 0 9 (M1.1 3 0)) 8 (y.2.1, y.2.2, 0, 0, []) := ⟨E3.1.eq (fun k _ _ => by rw [mpn (by omega), mpn (by omega)]) (fun k _ => by rw [mpn (by omega), mpn (by omega)]), by show 0 ≤ 999; omega, by rw [mpn (by omega), mpn (by omega)]; exact E3.2, by show 0 ≤ 6; omega, fun i b hb => by cases hb⟩
    exact (c8.bec B).eq (fun a k _ _ => by rw [mpn (by omega), mpn (by omega)])
  refine ⟨c4, fun k hk => ⟨?_, fun z => by cases z⟩, TpC.nil ?_, ?_, ?_, fun k hk => (g6 k hk).eq (fun a j ha => ?_)⟩
  · rcases (show k = 0 ∨ k = 1 by omega) with rfl | rfl
    · rw [mpn (by omega), mpe]; show vp_nar .boolean 0 = bI false; decide
    · rw [mpe]; show vp_nar .boolean 0 = bI false; decide
  · rw [q4 _ _ (by omega) (by omega), mpn (by omega), mpe]
  · rw [q4 _ _ (by omega) (by omega), mpe]; exact E2
  · rw [q4 _ _ (by omega) (by omega), mpn (by omega), mpn (by omega), F.1 _ _ (by omega) (by omega) (by omega)]; exact g5
  · rw [q4 _ _ (by omega) (by omega), mpn (by omega), mpn (by omega), F.1 _ _ (by omega) (by omega) (by omega)], ⟨fun a k ha => by rw [mpn (by omega), mpn (by omega), B.1 a k (by omega), mpn (by omega), mpn (by omega), F.1 _ _ (by omega) (by omega) (by omega)], (show M2.2 = M.2 from B.2.1.trans F.2)⟩⟩
