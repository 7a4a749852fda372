/-! the text, reference: a line, all lines, text() -/
set_option maxHeartbeats 4000000 in
theorem zX5_readLine (l : Launch) {M : Mm} {t : List Nat} (h : TpD M t) (p : Nat) (hp2 : p ≤ t.length) (hT : TokD M (tok t p)) (q4 : ¬ (tok t p).1 = 4) {ms : List Mb} {mo : Nat} {told : Bool} (hS : DrS M ms mo) (hd : M.1 33 4 = bI told) : Clz l 4 yX5_readLine cX5_readLine 2 none [.ref 33] M (fun r M' => r = none ∧ FRl M M' ∧ (lineP t (tok t p) ms mo told).elim (FaD M') (fun y => (TokD M' (tok t y.2.2.2) ∧ y.2.2.2 ≤ t.length) ∧ DrS M' y.1 y.2.1 ∧ M'.1 33 4 = bI y.2.2.1)) := by
  refine Clz.on RX5 rfl (by decide +kernel) (Nat.le_of_ble_eq_true rfl) (fun X hL hO hr => ?_)
  show Gz X 0 [.ref 33, .null] [] M
  have kk := tok_e hp2
  have g := hT.g q4
  have hl160 := h.1
  have hw6 := wd_le t (tok t p)
  have hn66 := hS.1
  have tail : ∀ (x : Fb ⊕ Nat) (M1 : Mm) (kI : Int32), SD t M1 x → TpD M1 t → (∀ M', FKd M1 M' → ((x.elim .inl (smP t)).elim (FaD M') (fun q => TokD M' (tok t q) ∧ q ≤ t.length)) → FRl M M' ∧ (lineP t (tok t p) ms mo told).elim (FaD M') (fun y => (TokD M' (tok t y.2.2.2) ∧ y.2.2.2 ≤ t.length) ∧ DrS M' y.1 y.2.1 ∧ M'.1 33 4 = bI y.2.2.1)) → Gz X 142 [.ref 33, .int kI] [] M1 := by
    intro x M1 kI hS1 hTp fin
    have bad : ∀ c, FaD M1 c → x.elim .inl (smP t) = .inl c → Gz X 142 [.ref 33, .int kI] [] M1 := by
      intro c hf hx
      refine r_aload_n hO dX5_readLine_142 rfl ?_
      refine r_getI hO dX5_readLine_143 fRX5_64 rfl ?_
      refine r_if_ne 167 hO dX5_readLine_146 (by decide) (fun _ => ?_) (fun z => absurd z hf.ne)
      refine r_aload_n hO dX5_readLine_167 rfl ?_
      refine r_fV hO dX5_readLine_168 kRX5_106 miX5_reads (zX5_readsF _ hf) ⟨Nat.le_of_ble_eq_true rfl, Nat.le_of_ble_eq_true rfl, rfl, Nat.le_of_ble_eq_true rfl⟩ rfl rfl ?_
      exact r_return hO hr dX5_readLine_171 ⟨rfl, fin M1 FKd.rf (by rw [hx]; exact hf)⟩
    cases x with
    | inl c => exact bad c hS1 rfl
    | inr q =>
      obtain ⟨hT1, hq⟩ := hS1
      by_cases q4' : (tok t q).1 = 4
      · exact bad _ (hT1.b q4') (by show smP t q = _; rw [sm_f (by unfold ftN; rw [if_pos q4']; decide)]; unfold ftN; rw [if_pos q4'])
      · have g' := hT1.g q4'
        have k' := tok_e hq
        refine r_aload_n hO dX5_readLine_142 rfl ?_
        refine r_getI hO dX5_readLine_143 fRX5_64 rfl ?_
        refine r_if_ne 167 hO dX5_readLine_146 (by decide) (fun z => absurd g'.1 z) (fun _ => ?_)
        refine r_aload_n hO dX5_readLine_149 rfl ?_
        refine r_aload_n hO dX5_readLine_150 rfl ?_
        refine r_getI hO dX5_readLine_151 fRX5_88 rfl ?_
        refine r_iconst hO dX5_readLine_154 ic_3 ?_
        refine r_icmp_ne 162 hO dX5_readLine_155 (by decide) (fun h155 => ?_) (fun h155 => ?_)
        · rw [g'.2.2.1, show (3 : Int32) = nI 3 from rfl, nI_eq (by omega) (by omega)] at h155
          refine r_iconst hO dX5_readLine_162 ic_0 ?_
          refine r_iconst hO dX5_readLine_163 ic_2 ?_
          refine r_fV hO dX5_readLine_164 kRX5_102 miX5_requires (zX5_requires _) ⟨Nat.le_of_ble_eq_true rfl, Nat.le_of_ble_eq_true rfl, rfl, Nat.le_of_ble_eq_true rfl⟩ rfl rfl ?_
          rw [if_pos ⟨rfl, g'.1⟩]
          have hf2 : FaD (mput (mput M1 33 11 2) 33 12 (M1.1 33 8)) (2, (tok t q).2.1) := ⟨by rw [mpn (by omega), mpe]; rfl, by rw [mpe]; exact hT1.1, by show 0 < 2; omega, by show 2 ≤ 5; omega⟩
          refine r_aload_n hO dX5_readLine_167 rfl ?_
          refine r_fV hO dX5_readLine_168 kRX5_106 miX5_reads (zX5_readsF _ hf2) ⟨Nat.le_of_ble_eq_true rfl, Nat.le_of_ble_eq_true rfl, rfl, Nat.le_of_ble_eq_true rfl⟩ rfl rfl ?_
          exact r_return hO hr dX5_readLine_171 ⟨rfl, fin _ ((FKd.put (by omega) (by omega)).tr (FKd.put (by omega) (by omega))) (by rw [show Sum.elim Sum.inl (smP t) (.inr q) = (.inl (2, (tok t q).2.1) : Fb ⊕ Nat) from by show smP t q = _; rw [sm_f (by unfold ftN; rw [if_neg q4', if_neg h155]; decide)]; unfold ftN; rw [if_neg q4', if_neg h155]]; exact hf2)⟩
        · rw [g'.2.2.1, show (3 : Int32) = nI 3 from rfl, nI_eq (by omega) (by omega)] at h155
          refine r_iconst hO dX5_readLine_158 ic_1 ?_
          refine r_goto 163 hO dX5_readLine_159 (by decide) ?_
          refine r_iconst hO dX5_readLine_163 ic_2 ?_
          refine r_fV hO dX5_readLine_164 kRX5_102 miX5_requires (zX5_requires _) ⟨Nat.le_of_ble_eq_true rfl, Nat.le_of_ble_eq_true rfl, rfl, Nat.le_of_ble_eq_true rfl⟩ rfl rfl ?_
          rw [if_neg (fun z => absurd z.1 (by decide))]
          refine r_aload_n hO dX5_readLine_167 rfl ?_
          refine r_callV hO dX5_readLine_168 kRX5_106 miX5_reads (zX5_reads _ hTp (tok t q).2.2.1 g'.2.1 k'.2.2.1 g'.1) ⟨Nat.le_of_ble_eq_true rfl, Nat.le_of_ble_eq_true rfl, rfl, Nat.le_of_ble_eq_true rfl⟩ rfl rfl (fun o M9 hpo => ?_)
          obtain ⟨rfl, K9, T9⟩ := hpo
          exact r_return hO hr dX5_readLine_171 ⟨rfl, fin _ K9 (by rw [show Sum.elim Sum.inl (smP t) (.inr q) = (.inr (tok t q).2.2.1 : Fb ⊕ Nat) from by show smP t q = _; rw [sm_t (by unfold ftN; rw [if_neg q4', if_pos h155])]]; exact ⟨T9, k'.2.2.1⟩)⟩
  by_cases hw : wdT t (tok t p) = 5
  · skip
    refine r_aload_n hO dX5_readLine_0 rfl ?_
    refine r_getI hO dX5_readLine_1 fRX5_88 rfl ?_
    refine r_iconst hO dX5_readLine_4 ic_1 ?_
    refine r_icmp_ne 15 hO dX5_readLine_5 (by decide) (fun h5 => ?_) (fun h5 => ?_)
    · rw [g.2.2.1, show (1 : Int32) = nI 1 from rfl, nI_eq (by omega) (by omega)] at h5
      refine r_bipush hO dX5_readLine_15 bc_m4 ?_
      refine s_istore_n hL hO dX5_readLine_17 (Nat.le_of_ble_eq_true rfl) rfl ?_
      show Gz X 18 [.ref 33, .int (-4)] [] M
      refine r_aload_n hO dX5_readLine_18 rfl ?_
      refine r_iload_n hO dX5_readLine_19 rfl ?_
      refine r_bipush hO dX5_readLine_20 bc_m4 ?_
      refine r_icmp_eq 29 hO dX5_readLine_22 (by decide) (fun _ => ?_) (fun z => absurd rfl z)
      refine r_iconst hO dX5_readLine_29 ic_0 ?_
      refine r_iconst hO dX5_readLine_30 ic_2 ?_
      refine r_fV hO dX5_readLine_31 kRX5_102 miX5_requires (zX5_requires _) ⟨Nat.le_of_ble_eq_true rfl, Nat.le_of_ble_eq_true rfl, rfl, Nat.le_of_ble_eq_true rfl⟩ rfl rfl ?_
      rw [if_pos ⟨rfl, g.1⟩]
      have hfa : FaD (mput (mput M 33 11 2) 33 12 (M.1 33 8)) (2, (tok t p).2.1) := ⟨by rw [mpn (by omega), mpe]; rfl, by rw [mpe]; exact hT.1, by show 0 < 2; omega, by show 2 ≤ 5; omega⟩
      have hfb : ∀ c, FaD (mput (mput (mput M 33 11 2) 33 12 (M.1 33 8)) 33 4 c) (2, (tok t p).2.1) := fun c => hfa.eq (fun k _ _ => mpn (by omega))
      refine r_aload_n hO dX5_readLine_34 rfl ?_
      refine r_iload_n hO dX5_readLine_35 rfl ?_
      refine r_iconst hO dX5_readLine_36 ic_4 ?_
      refine r_icmp_ge 52 hO dX5_readLine_37 (by decide) (fun z => absurd z (by decide)) (fun _ => ?_)
      refine r_aload_n hO dX5_readLine_40 rfl ?_
      refine r_getR 37 hO dX5_readLine_41 fRX5_20 rfl ?_
      refine r_bipush hO dX5_readLine_44 bc_24 ?_
      refine s_iald 41 hO dX5_readLine_46 rfl (Nat.le_of_ble_eq_true rfl) 24 (by decide) (by decide) ?_
      refine r_bipush hO dX5_readLine_47 bc_6 ?_
      refine r_icmp_ge 56 hO dX5_readLine_49 (by decide) (fun h49 => ?_) (fun h49 => ?_)
      · refine r_iconst hO dX5_readLine_56 ic_0 ?_
        refine r_iconst hO dX5_readLine_57 ic_5 ?_
        refine r_fV hO dX5_readLine_58 kRX5_102 miX5_requires (zX5_requires _) ⟨Nat.le_of_ble_eq_true rfl, Nat.le_of_ble_eq_true rfl, rfl, Nat.le_of_ble_eq_true rfl⟩ rfl rfl ?_
        rw [if_neg (fun z => hfa.ne z.2)]
        refine r_aload_n hO dX5_readLine_61 rfl ?_
        refine r_iload_n hO dX5_readLine_62 rfl ?_
        refine r_iconst hO dX5_readLine_63 ic_4 ?_
        refine r_icmp_ne 74 hO dX5_readLine_64 (by decide) (fun _ => ?_) (fun z => absurd z (by decide))
        refine r_iconst hO dX5_readLine_74 ic_1 ?_
        refine r_goto 79 hO dX5_readLine_75 (by decide) ?_
        refine r_iconst hO dX5_readLine_79 ic_4 ?_
        refine r_fV hO dX5_readLine_80 kRX5_102 miX5_requires (zX5_requires _) ⟨Nat.le_of_ble_eq_true rfl, Nat.le_of_ble_eq_true rfl, rfl, Nat.le_of_ble_eq_true rfl⟩ rfl rfl ?_
        rw [if_neg (fun z => hfa.ne z.2)]
        refine r_aload_n hO dX5_readLine_83 rfl ?_
        refine r_aload_n hO dX5_readLine_84 rfl ?_
        refine r_getI hO dX5_readLine_85 fRX5_50 rfl ?_
        refine r_if_ne 96 hO dX5_readLine_88 (by decide) (fun h88 => ?_) (fun h88 => ?_)
        · refine r_iconst hO dX5_readLine_96 ic_1 ?_
          refine r_goto 101 hO dX5_readLine_97 (by decide) ?_
          refine r_putT hO dX5_readLine_101 fRX5_50 rfl rfl rfl ?_
          refine r_aload_n hO dX5_readLine_104 rfl ?_
          refine r_fV hO dX5_readLine_105 kRX5_106 miX5_reads (zX5_readsF _ (hfb _)) ⟨Nat.le_of_ble_eq_true rfl, Nat.le_of_ble_eq_true rfl, rfl, Nat.le_of_ble_eq_true rfl⟩ rfl rfl ?_
          refine r_aload_n hO dX5_readLine_108 rfl ?_
          refine r_getI hO dX5_readLine_109 fRX5_64 rfl ?_
          refine r_if_le 116 hO dX5_readLine_112 (by decide) (fun z => absurd z (by rw [(hfb _).1]; exact nI_nle (hfb 0).2.2.1 (by have := (hfb 0).2.2.2; omega))) (fun _ => ?_)
          exact r_return hO hr dX5_readLine_115 ⟨rfl, ((FRl.put (by omega)).tr (FRl.put (by omega))).tr (FRl.put (by omega)), by rw [show lineP t (tok t p) ms mo told = .inl (2, (tok t p).2.1) from by unfold lineP; rw [if_neg q4, if_pos hw]]; exact hfb _⟩
        · refine r_iload_n hO dX5_readLine_91 rfl ?_
          refine r_iconst hO dX5_readLine_92 ic_4 ?_
          refine r_icmp_ne 100 hO dX5_readLine_93 (by decide) (fun _ => ?_) (fun z => absurd z (by decide))
          refine r_iconst hO dX5_readLine_100 ic_0 ?_
          refine r_putT hO dX5_readLine_101 fRX5_50 rfl rfl rfl ?_
          refine r_aload_n hO dX5_readLine_104 rfl ?_
          refine r_fV hO dX5_readLine_105 kRX5_106 miX5_reads (zX5_readsF _ (hfb _)) ⟨Nat.le_of_ble_eq_true rfl, Nat.le_of_ble_eq_true rfl, rfl, Nat.le_of_ble_eq_true rfl⟩ rfl rfl ?_
          refine r_aload_n hO dX5_readLine_108 rfl ?_
          refine r_getI hO dX5_readLine_109 fRX5_64 rfl ?_
          refine r_if_le 116 hO dX5_readLine_112 (by decide) (fun z => absurd z (by rw [(hfb _).1]; exact nI_nle (hfb 0).2.2.1 (by have := (hfb 0).2.2.2; omega))) (fun _ => ?_)
          exact r_return hO hr dX5_readLine_115 ⟨rfl, ((FRl.put (by omega)).tr (FRl.put (by omega))).tr (FRl.put (by omega)), by rw [show lineP t (tok t p) ms mo told = .inl (2, (tok t p).2.1) from by unfold lineP; rw [if_neg q4, if_pos hw]]; exact hfb _⟩
      · refine r_iconst hO dX5_readLine_52 ic_1 ?_
        refine r_goto 57 hO dX5_readLine_53 (by decide) ?_
        refine r_iconst hO dX5_readLine_57 ic_5 ?_
        refine r_fV hO dX5_readLine_58 kRX5_102 miX5_requires (zX5_requires _) ⟨Nat.le_of_ble_eq_true rfl, Nat.le_of_ble_eq_true rfl, rfl, Nat.le_of_ble_eq_true rfl⟩ rfl rfl ?_
        rw [if_neg (fun z => hfa.ne z.2)]
        refine r_aload_n hO dX5_readLine_61 rfl ?_
        refine r_iload_n hO dX5_readLine_62 rfl ?_
        refine r_iconst hO dX5_readLine_63 ic_4 ?_
        refine r_icmp_ne 74 hO dX5_readLine_64 (by decide) (fun _ => ?_) (fun z => absurd z (by decide))
        refine r_iconst hO dX5_readLine_74 ic_1 ?_
        refine r_goto 79 hO dX5_readLine_75 (by decide) ?_
        refine r_iconst hO dX5_readLine_79 ic_4 ?_
        refine r_fV hO dX5_readLine_80 kRX5_102 miX5_requires (zX5_requires _) ⟨Nat.le_of_ble_eq_true rfl, Nat.le_of_ble_eq_true rfl, rfl, Nat.le_of_ble_eq_true rfl⟩ rfl rfl ?_
        rw [if_neg (fun z => hfa.ne z.2)]
        refine r_aload_n hO dX5_readLine_83 rfl ?_
        refine r_aload_n hO dX5_readLine_84 rfl ?_
        refine r_getI hO dX5_readLine_85 fRX5_50 rfl ?_
        refine r_if_ne 96 hO dX5_readLine_88 (by decide) (fun h88 => ?_) (fun h88 => ?_)
        · refine r_iconst hO dX5_readLine_96 ic_1 ?_
          refine r_goto 101 hO dX5_readLine_97 (by decide) ?_
          refine r_putT hO dX5_readLine_101 fRX5_50 rfl rfl rfl ?_
          refine r_aload_n hO dX5_readLine_104 rfl ?_
          refine r_fV hO dX5_readLine_105 kRX5_106 miX5_reads (zX5_readsF _ (hfb _)) ⟨Nat.le_of_ble_eq_true rfl, Nat.le_of_ble_eq_true rfl, rfl, Nat.le_of_ble_eq_true rfl⟩ rfl rfl ?_
          refine r_aload_n hO dX5_readLine_108 rfl ?_
          refine r_getI hO dX5_readLine_109 fRX5_64 rfl ?_
          refine r_if_le 116 hO dX5_readLine_112 (by decide) (fun z => absurd z (by rw [(hfb _).1]; exact nI_nle (hfb 0).2.2.1 (by have := (hfb 0).2.2.2; omega))) (fun _ => ?_)
          exact r_return hO hr dX5_readLine_115 ⟨rfl, ((FRl.put (by omega)).tr (FRl.put (by omega))).tr (FRl.put (by omega)), by rw [show lineP t (tok t p) ms mo told = .inl (2, (tok t p).2.1) from by unfold lineP; rw [if_neg q4, if_pos hw]]; exact hfb _⟩
        · refine r_iload_n hO dX5_readLine_91 rfl ?_
          refine r_iconst hO dX5_readLine_92 ic_4 ?_
          refine r_icmp_ne 100 hO dX5_readLine_93 (by decide) (fun _ => ?_) (fun z => absurd z (by decide))
          refine r_iconst hO dX5_readLine_100 ic_0 ?_
          refine r_putT hO dX5_readLine_101 fRX5_50 rfl rfl rfl ?_
          refine r_aload_n hO dX5_readLine_104 rfl ?_
          refine r_fV hO dX5_readLine_105 kRX5_106 miX5_reads (zX5_readsF _ (hfb _)) ⟨Nat.le_of_ble_eq_true rfl, Nat.le_of_ble_eq_true rfl, rfl, Nat.le_of_ble_eq_true rfl⟩ rfl rfl ?_
          refine r_aload_n hO dX5_readLine_108 rfl ?_
          refine r_getI hO dX5_readLine_109 fRX5_64 rfl ?_
          refine r_if_le 116 hO dX5_readLine_112 (by decide) (fun z => absurd z (by rw [(hfb _).1]; exact nI_nle (hfb 0).2.2.1 (by have := (hfb 0).2.2.2; omega))) (fun _ => ?_)
          exact r_return hO hr dX5_readLine_115 ⟨rfl, ((FRl.put (by omega)).tr (FRl.put (by omega))).tr (FRl.put (by omega)), by rw [show lineP t (tok t p) ms mo told = .inl (2, (tok t p).2.1) from by unfold lineP; rw [if_neg q4, if_pos hw]]; exact hfb _⟩
    · rw [g.2.2.1, show (1 : Int32) = nI 1 from rfl, nI_eq (by omega) (by omega)] at h5
      have hK1 := h5
      refine r_aload_n hO dX5_readLine_8 rfl ?_
      refine r_fV hO dX5_readLine_9 kRX5_112 miX5_lineNow (zX5_lineNow _ h hK1 rfl rfl hT.1 g.2.1 kk.2.1 kk.2.2.1) ⟨Nat.le_of_ble_eq_true rfl, Nat.le_of_ble_eq_true rfl, rfl, Nat.le_of_ble_eq_true rfl⟩ rfl rfl ?_
      refine r_goto 17 hO dX5_readLine_12 (by decide) ?_
      refine s_istore_n hL hO dX5_readLine_17 (Nat.le_of_ble_eq_true rfl) rfl ?_
      rw [show wdR (wdT t (tok t p)) = -4 from by rw [hw]; rfl]
      show Gz X 18 [.ref 33, .int (-4)] [] M
      refine r_aload_n hO dX5_readLine_18 rfl ?_
      refine r_iload_n hO dX5_readLine_19 rfl ?_
      refine r_bipush hO dX5_readLine_20 bc_m4 ?_
      refine r_icmp_eq 29 hO dX5_readLine_22 (by decide) (fun _ => ?_) (fun z => absurd rfl z)
      refine r_iconst hO dX5_readLine_29 ic_0 ?_
      refine r_iconst hO dX5_readLine_30 ic_2 ?_
      refine r_fV hO dX5_readLine_31 kRX5_102 miX5_requires (zX5_requires _) ⟨Nat.le_of_ble_eq_true rfl, Nat.le_of_ble_eq_true rfl, rfl, Nat.le_of_ble_eq_true rfl⟩ rfl rfl ?_
      rw [if_pos ⟨rfl, g.1⟩]
      have hfa : FaD (mput (mput M 33 11 2) 33 12 (M.1 33 8)) (2, (tok t p).2.1) := ⟨by rw [mpn (by omega), mpe]; rfl, by rw [mpe]; exact hT.1, by show 0 < 2; omega, by show 2 ≤ 5; omega⟩
      have hfb : ∀ c, FaD (mput (mput (mput M 33 11 2) 33 12 (M.1 33 8)) 33 4 c) (2, (tok t p).2.1) := fun c => hfa.eq (fun k _ _ => mpn (by omega))
      refine r_aload_n hO dX5_readLine_34 rfl ?_
      refine r_iload_n hO dX5_readLine_35 rfl ?_
      refine r_iconst hO dX5_readLine_36 ic_4 ?_
      refine r_icmp_ge 52 hO dX5_readLine_37 (by decide) (fun z => absurd z (by decide)) (fun _ => ?_)
      refine r_aload_n hO dX5_readLine_40 rfl ?_
      refine r_getR 37 hO dX5_readLine_41 fRX5_20 rfl ?_
      refine r_bipush hO dX5_readLine_44 bc_24 ?_
      refine s_iald 41 hO dX5_readLine_46 rfl (Nat.le_of_ble_eq_true rfl) 24 (by decide) (by decide) ?_
      refine r_bipush hO dX5_readLine_47 bc_6 ?_
      refine r_icmp_ge 56 hO dX5_readLine_49 (by decide) (fun h49 => ?_) (fun h49 => ?_)
      · refine r_iconst hO dX5_readLine_56 ic_0 ?_
        refine r_iconst hO dX5_readLine_57 ic_5 ?_
        refine r_fV hO dX5_readLine_58 kRX5_102 miX5_requires (zX5_requires _) ⟨Nat.le_of_ble_eq_true rfl, Nat.le_of_ble_eq_true rfl, rfl, Nat.le_of_ble_eq_true rfl⟩ rfl rfl ?_
        rw [if_neg (fun z => hfa.ne z.2)]
        refine r_aload_n hO dX5_readLine_61 rfl ?_
        refine r_iload_n hO dX5_readLine_62 rfl ?_
        refine r_iconst hO dX5_readLine_63 ic_4 ?_
        refine r_icmp_ne 74 hO dX5_readLine_64 (by decide) (fun _ => ?_) (fun z => absurd z (by decide))
        refine r_iconst hO dX5_readLine_74 ic_1 ?_
        refine r_goto 79 hO dX5_readLine_75 (by decide) ?_
        refine r_iconst hO dX5_readLine_79 ic_4 ?_
        refine r_fV hO dX5_readLine_80 kRX5_102 miX5_requires (zX5_requires _) ⟨Nat.le_of_ble_eq_true rfl, Nat.le_of_ble_eq_true rfl, rfl, Nat.le_of_ble_eq_true rfl⟩ rfl rfl ?_
        rw [if_neg (fun z => hfa.ne z.2)]
        refine r_aload_n hO dX5_readLine_83 rfl ?_
        refine r_aload_n hO dX5_readLine_84 rfl ?_
        refine r_getI hO dX5_readLine_85 fRX5_50 rfl ?_
        refine r_if_ne 96 hO dX5_readLine_88 (by decide) (fun h88 => ?_) (fun h88 => ?_)
        · refine r_iconst hO dX5_readLine_96 ic_1 ?_
          refine r_goto 101 hO dX5_readLine_97 (by decide) ?_
          refine r_putT hO dX5_readLine_101 fRX5_50 rfl rfl rfl ?_
          refine r_aload_n hO dX5_readLine_104 rfl ?_
          refine r_fV hO dX5_readLine_105 kRX5_106 miX5_reads (zX5_readsF _ (hfb _)) ⟨Nat.le_of_ble_eq_true rfl, Nat.le_of_ble_eq_true rfl, rfl, Nat.le_of_ble_eq_true rfl⟩ rfl rfl ?_
          refine r_aload_n hO dX5_readLine_108 rfl ?_
          refine r_getI hO dX5_readLine_109 fRX5_64 rfl ?_
          refine r_if_le 116 hO dX5_readLine_112 (by decide) (fun z => absurd z (by rw [(hfb _).1]; exact nI_nle (hfb 0).2.2.1 (by have := (hfb 0).2.2.2; omega))) (fun _ => ?_)
          exact r_return hO hr dX5_readLine_115 ⟨rfl, ((FRl.put (by omega)).tr (FRl.put (by omega))).tr (FRl.put (by omega)), by rw [show lineP t (tok t p) ms mo told = .inl (2, (tok t p).2.1) from by unfold lineP; rw [if_neg q4, if_pos hw]]; exact hfb _⟩
        · refine r_iload_n hO dX5_readLine_91 rfl ?_
          refine r_iconst hO dX5_readLine_92 ic_4 ?_
          refine r_icmp_ne 100 hO dX5_readLine_93 (by decide) (fun _ => ?_) (fun z => absurd z (by decide))
          refine r_iconst hO dX5_readLine_100 ic_0 ?_
          refine r_putT hO dX5_readLine_101 fRX5_50 rfl rfl rfl ?_
          refine r_aload_n hO dX5_readLine_104 rfl ?_
          refine r_fV hO dX5_readLine_105 kRX5_106 miX5_reads (zX5_readsF _ (hfb _)) ⟨Nat.le_of_ble_eq_true rfl, Nat.le_of_ble_eq_true rfl, rfl, Nat.le_of_ble_eq_true rfl⟩ rfl rfl ?_
          refine r_aload_n hO dX5_readLine_108 rfl ?_
          refine r_getI hO dX5_readLine_109 fRX5_64 rfl ?_
          refine r_if_le 116 hO dX5_readLine_112 (by decide) (fun z => absurd z (by rw [(hfb _).1]; exact nI_nle (hfb 0).2.2.1 (by have := (hfb 0).2.2.2; omega))) (fun _ => ?_)
          exact r_return hO hr dX5_readLine_115 ⟨rfl, ((FRl.put (by omega)).tr (FRl.put (by omega))).tr (FRl.put (by omega)), by rw [show lineP t (tok t p) ms mo told = .inl (2, (tok t p).2.1) from by unfold lineP; rw [if_neg q4, if_pos hw]]; exact hfb _⟩
      · refine r_iconst hO dX5_readLine_52 ic_1 ?_
        refine r_goto 57 hO dX5_readLine_53 (by decide) ?_
        refine r_iconst hO dX5_readLine_57 ic_5 ?_
        refine r_fV hO dX5_readLine_58 kRX5_102 miX5_requires (zX5_requires _) ⟨Nat.le_of_ble_eq_true rfl, Nat.le_of_ble_eq_true rfl, rfl, Nat.le_of_ble_eq_true rfl⟩ rfl rfl ?_
        rw [if_neg (fun z => hfa.ne z.2)]
        refine r_aload_n hO dX5_readLine_61 rfl ?_
        refine r_iload_n hO dX5_readLine_62 rfl ?_
        refine r_iconst hO dX5_readLine_63 ic_4 ?_
        refine r_icmp_ne 74 hO dX5_readLine_64 (by decide) (fun _ => ?_) (fun z => absurd z (by decide))
        refine r_iconst hO dX5_readLine_74 ic_1 ?_
        refine r_goto 79 hO dX5_readLine_75 (by decide) ?_
        refine r_iconst hO dX5_readLine_79 ic_4 ?_
        refine r_fV hO dX5_readLine_80 kRX5_102 miX5_requires (zX5_requires _) ⟨Nat.le_of_ble_eq_true rfl, Nat.le_of_ble_eq_true rfl, rfl, Nat.le_of_ble_eq_true rfl⟩ rfl rfl ?_
        rw [if_neg (fun z => hfa.ne z.2)]
        refine r_aload_n hO dX5_readLine_83 rfl ?_
        refine r_aload_n hO dX5_readLine_84 rfl ?_
        refine r_getI hO dX5_readLine_85 fRX5_50 rfl ?_
        refine r_if_ne 96 hO dX5_readLine_88 (by decide) (fun h88 => ?_) (fun h88 => ?_)
        · refine r_iconst hO dX5_readLine_96 ic_1 ?_
          refine r_goto 101 hO dX5_readLine_97 (by decide) ?_
          refine r_putT hO dX5_readLine_101 fRX5_50 rfl rfl rfl ?_
          refine r_aload_n hO dX5_readLine_104 rfl ?_
          refine r_fV hO dX5_readLine_105 kRX5_106 miX5_reads (zX5_readsF _ (hfb _)) ⟨Nat.le_of_ble_eq_true rfl, Nat.le_of_ble_eq_true rfl, rfl, Nat.le_of_ble_eq_true rfl⟩ rfl rfl ?_
          refine r_aload_n hO dX5_readLine_108 rfl ?_
          refine r_getI hO dX5_readLine_109 fRX5_64 rfl ?_
          refine r_if_le 116 hO dX5_readLine_112 (by decide) (fun z => absurd z (by rw [(hfb _).1]; exact nI_nle (hfb 0).2.2.1 (by have := (hfb 0).2.2.2; omega))) (fun _ => ?_)
          exact r_return hO hr dX5_readLine_115 ⟨rfl, ((FRl.put (by omega)).tr (FRl.put (by omega))).tr (FRl.put (by omega)), by rw [show lineP t (tok t p) ms mo told = .inl (2, (tok t p).2.1) from by unfold lineP; rw [if_neg q4, if_pos hw]]; exact hfb _⟩
        · refine r_iload_n hO dX5_readLine_91 rfl ?_
          refine r_iconst hO dX5_readLine_92 ic_4 ?_
          refine r_icmp_ne 100 hO dX5_readLine_93 (by decide) (fun _ => ?_) (fun z => absurd z (by decide))
          refine r_iconst hO dX5_readLine_100 ic_0 ?_
          refine r_putT hO dX5_readLine_101 fRX5_50 rfl rfl rfl ?_
          refine r_aload_n hO dX5_readLine_104 rfl ?_
          refine r_fV hO dX5_readLine_105 kRX5_106 miX5_reads (zX5_readsF _ (hfb _)) ⟨Nat.le_of_ble_eq_true rfl, Nat.le_of_ble_eq_true rfl, rfl, Nat.le_of_ble_eq_true rfl⟩ rfl rfl ?_
          refine r_aload_n hO dX5_readLine_108 rfl ?_
          refine r_getI hO dX5_readLine_109 fRX5_64 rfl ?_
          refine r_if_le 116 hO dX5_readLine_112 (by decide) (fun z => absurd z (by rw [(hfb _).1]; exact nI_nle (hfb 0).2.2.1 (by have := (hfb 0).2.2.2; omega))) (fun _ => ?_)
          exact r_return hO hr dX5_readLine_115 ⟨rfl, ((FRl.put (by omega)).tr (FRl.put (by omega))).tr (FRl.put (by omega)), by rw [show lineP t (tok t p) ms mo told = .inl (2, (tok t p).2.1) from by unfold lineP; rw [if_neg q4, if_pos hw]]; exact hfb _⟩
  · have hw5 := hw
    have hK1 : (tok t p).1 = 1 := by
      by_cases z : (tok t p).1 = 1
      · exact z
      · exact absurd (by unfold wdT; rw [if_neg z]) hw
    by_cases hw : wdT t (tok t p) = 4
    · by_cases htold : told = true
      · skip
        refine r_aload_n hO dX5_readLine_0 rfl ?_
        refine r_getI hO dX5_readLine_1 fRX5_88 rfl ?_
        refine r_iconst hO dX5_readLine_4 ic_1 ?_
        refine r_icmp_ne 15 hO dX5_readLine_5 (by decide) (fun z => absurd (by rw [g.2.2.1, hK1]; rfl) z) (fun _ => ?_)
        refine r_aload_n hO dX5_readLine_8 rfl ?_
        refine r_fV hO dX5_readLine_9 kRX5_112 miX5_lineNow (zX5_lineNow _ h hK1 rfl rfl hT.1 g.2.1 kk.2.1 kk.2.2.1) ⟨Nat.le_of_ble_eq_true rfl, Nat.le_of_ble_eq_true rfl, rfl, Nat.le_of_ble_eq_true rfl⟩ rfl rfl ?_
        refine r_goto 17 hO dX5_readLine_12 (by decide) ?_
        refine s_istore_n hL hO dX5_readLine_17 (Nat.le_of_ble_eq_true rfl) rfl ?_
        rw [show wdR (wdT t (tok t p)) = 4 from by rw [hw]; rfl]
        show Gz X 18 [.ref 33, .int (4)] [] M
        refine r_aload_n hO dX5_readLine_18 rfl ?_
        refine r_iload_n hO dX5_readLine_19 rfl ?_
        refine r_bipush hO dX5_readLine_20 bc_m4 ?_
        refine r_icmp_eq 29 hO dX5_readLine_22 (by decide) (fun z => absurd z (by decide)) (fun _ => ?_)
        refine r_iconst hO dX5_readLine_25 ic_1 ?_
        refine r_goto 30 hO dX5_readLine_26 (by decide) ?_
        refine r_iconst hO dX5_readLine_30 ic_2 ?_
        refine r_fV hO dX5_readLine_31 kRX5_102 miX5_requires (zX5_requires _) ⟨Nat.le_of_ble_eq_true rfl, Nat.le_of_ble_eq_true rfl, rfl, Nat.le_of_ble_eq_true rfl⟩ rfl rfl ?_
        rw [if_neg (fun z => absurd z.1 (by decide))]
        refine r_aload_n hO dX5_readLine_34 rfl ?_
        refine r_iload_n hO dX5_readLine_35 rfl ?_
        refine r_iconst hO dX5_readLine_36 ic_4 ?_
        refine r_icmp_ge 52 hO dX5_readLine_37 (by decide) (fun _ => ?_) (fun z => absurd (by decide) z)
        refine r_iconst hO dX5_readLine_52 ic_1 ?_
        refine r_goto 57 hO dX5_readLine_53 (by decide) ?_
        refine r_iconst hO dX5_readLine_57 ic_5 ?_
        refine r_fV hO dX5_readLine_58 kRX5_102 miX5_requires (zX5_requires _) ⟨Nat.le_of_ble_eq_true rfl, Nat.le_of_ble_eq_true rfl, rfl, Nat.le_of_ble_eq_true rfl⟩ rfl rfl ?_
        rw [if_neg (fun z => absurd z.1 (by decide))]
        refine r_aload_n hO dX5_readLine_61 rfl ?_
        refine r_iload_n hO dX5_readLine_62 rfl ?_
        refine r_iconst hO dX5_readLine_63 ic_4 ?_
        refine r_icmp_ne 74 hO dX5_readLine_64 (by decide) (fun z => absurd rfl z) (fun _ => ?_)
        refine r_aload_n hO dX5_readLine_67 rfl ?_
        refine r_getI hO dX5_readLine_68 fRX5_50 rfl ?_
        refine r_if_ne 78 hO dX5_readLine_71 (by decide) (fun _ => ?_) (fun z => absurd z (by rw [hd, htold]; decide))
        refine r_iconst hO dX5_readLine_78 ic_0 ?_
        refine r_iconst hO dX5_readLine_79 ic_4 ?_
        refine r_fV hO dX5_readLine_80 kRX5_102 miX5_requires (zX5_requires _) ⟨Nat.le_of_ble_eq_true rfl, Nat.le_of_ble_eq_true rfl, rfl, Nat.le_of_ble_eq_true rfl⟩ rfl rfl ?_
        rw [if_pos ⟨rfl, g.1⟩]
        have hfa : FaD (mput (mput M 33 11 4) 33 12 (M.1 33 8)) (4, (tok t p).2.1) := ⟨by rw [mpn (by omega), mpe]; rfl, by rw [mpe]; exact hT.1, by show 0 < 4; omega, by show 4 ≤ 5; omega⟩
        have hfb : ∀ c, FaD (mput (mput (mput M 33 11 4) 33 12 (M.1 33 8)) 33 4 c) (4, (tok t p).2.1) := fun c => hfa.eq (fun k _ _ => mpn (by omega))
        refine r_aload_n hO dX5_readLine_83 rfl ?_
        refine r_aload_n hO dX5_readLine_84 rfl ?_
        refine r_getI hO dX5_readLine_85 fRX5_50 rfl ?_
        refine r_if_ne 96 hO dX5_readLine_88 (by decide) (fun _ => ?_) (fun z => absurd z (by rw [mpn (by omega), mpn (by omega), hd, htold]; decide))
        refine r_iconst hO dX5_readLine_96 ic_1 ?_
        refine r_goto 101 hO dX5_readLine_97 (by decide) ?_
        refine r_putT hO dX5_readLine_101 fRX5_50 rfl rfl rfl ?_
        refine r_aload_n hO dX5_readLine_104 rfl ?_
        refine r_fV hO dX5_readLine_105 kRX5_106 miX5_reads (zX5_readsF _ (hfb _)) ⟨Nat.le_of_ble_eq_true rfl, Nat.le_of_ble_eq_true rfl, rfl, Nat.le_of_ble_eq_true rfl⟩ rfl rfl ?_
        refine r_aload_n hO dX5_readLine_108 rfl ?_
        refine r_getI hO dX5_readLine_109 fRX5_64 rfl ?_
        refine r_if_le 116 hO dX5_readLine_112 (by decide) (fun z => absurd z (by rw [(hfb _).1]; exact nI_nle (hfb 0).2.2.1 (by have := (hfb 0).2.2.2; omega))) (fun _ => ?_)
        exact r_return hO hr dX5_readLine_115 ⟨rfl, ((FRl.put (by omega)).tr (FRl.put (by omega))).tr (FRl.put (by omega)), by rw [show lineP t (tok t p) ms mo told = .inl (4, (tok t p).2.1) from by unfold lineP; rw [if_neg q4, if_neg hw5, if_pos hw, if_pos htold]]; exact hfb _⟩
      · have htold : told = false := by revert htold; cases told <;> simp
        refine r_aload_n hO dX5_readLine_0 rfl ?_
        refine r_getI hO dX5_readLine_1 fRX5_88 rfl ?_
        refine r_iconst hO dX5_readLine_4 ic_1 ?_
        refine r_icmp_ne 15 hO dX5_readLine_5 (by decide) (fun z => absurd (by rw [g.2.2.1, hK1]; rfl) z) (fun _ => ?_)
        refine r_aload_n hO dX5_readLine_8 rfl ?_
        refine r_fV hO dX5_readLine_9 kRX5_112 miX5_lineNow (zX5_lineNow _ h hK1 rfl rfl hT.1 g.2.1 kk.2.1 kk.2.2.1) ⟨Nat.le_of_ble_eq_true rfl, Nat.le_of_ble_eq_true rfl, rfl, Nat.le_of_ble_eq_true rfl⟩ rfl rfl ?_
        refine r_goto 17 hO dX5_readLine_12 (by decide) ?_
        refine s_istore_n hL hO dX5_readLine_17 (Nat.le_of_ble_eq_true rfl) rfl ?_
        rw [show wdR (wdT t (tok t p)) = 4 from by rw [hw]; rfl]
        show Gz X 18 [.ref 33, .int (4)] [] M
        refine r_aload_n hO dX5_readLine_18 rfl ?_
        refine r_iload_n hO dX5_readLine_19 rfl ?_
        refine r_bipush hO dX5_readLine_20 bc_m4 ?_
        refine r_icmp_eq 29 hO dX5_readLine_22 (by decide) (fun z => absurd z (by decide)) (fun _ => ?_)
        refine r_iconst hO dX5_readLine_25 ic_1 ?_
        refine r_goto 30 hO dX5_readLine_26 (by decide) ?_
        refine r_iconst hO dX5_readLine_30 ic_2 ?_
        refine r_fV hO dX5_readLine_31 kRX5_102 miX5_requires (zX5_requires _) ⟨Nat.le_of_ble_eq_true rfl, Nat.le_of_ble_eq_true rfl, rfl, Nat.le_of_ble_eq_true rfl⟩ rfl rfl ?_
        rw [if_neg (fun z => absurd z.1 (by decide))]
        refine r_aload_n hO dX5_readLine_34 rfl ?_
        refine r_iload_n hO dX5_readLine_35 rfl ?_
        refine r_iconst hO dX5_readLine_36 ic_4 ?_
        refine r_icmp_ge 52 hO dX5_readLine_37 (by decide) (fun _ => ?_) (fun z => absurd (by decide) z)
        refine r_iconst hO dX5_readLine_52 ic_1 ?_
        refine r_goto 57 hO dX5_readLine_53 (by decide) ?_
        refine r_iconst hO dX5_readLine_57 ic_5 ?_
        refine r_fV hO dX5_readLine_58 kRX5_102 miX5_requires (zX5_requires _) ⟨Nat.le_of_ble_eq_true rfl, Nat.le_of_ble_eq_true rfl, rfl, Nat.le_of_ble_eq_true rfl⟩ rfl rfl ?_
        rw [if_neg (fun z => absurd z.1 (by decide))]
        refine r_aload_n hO dX5_readLine_61 rfl ?_
        refine r_iload_n hO dX5_readLine_62 rfl ?_
        refine r_iconst hO dX5_readLine_63 ic_4 ?_
        refine r_icmp_ne 74 hO dX5_readLine_64 (by decide) (fun z => absurd rfl z) (fun _ => ?_)
        refine r_aload_n hO dX5_readLine_67 rfl ?_
        refine r_getI hO dX5_readLine_68 fRX5_50 rfl ?_
        refine r_if_ne 78 hO dX5_readLine_71 (by decide) (fun z => absurd (by rw [hd, htold]; rfl) z) (fun _ => ?_)
        refine r_iconst hO dX5_readLine_74 ic_1 ?_
        refine r_goto 79 hO dX5_readLine_75 (by decide) ?_
        refine r_iconst hO dX5_readLine_79 ic_4 ?_
        refine r_fV hO dX5_readLine_80 kRX5_102 miX5_requires (zX5_requires _) ⟨Nat.le_of_ble_eq_true rfl, Nat.le_of_ble_eq_true rfl, rfl, Nat.le_of_ble_eq_true rfl⟩ rfl rfl ?_
        rw [if_neg (fun z => absurd z.1 (by decide))]
        refine r_aload_n hO dX5_readLine_83 rfl ?_
        refine r_aload_n hO dX5_readLine_84 rfl ?_
        refine r_getI hO dX5_readLine_85 fRX5_50 rfl ?_
        refine r_if_ne 96 hO dX5_readLine_88 (by decide) (fun z => absurd (by rw [hd, htold]; rfl) z) (fun _ => ?_)
        refine r_iload_n hO dX5_readLine_91 rfl ?_
        refine r_iconst hO dX5_readLine_92 ic_4 ?_
        refine r_icmp_ne 100 hO dX5_readLine_93 (by decide) (fun z => absurd rfl z) (fun _ => ?_)
        refine r_iconst hO dX5_readLine_96 ic_1 ?_
        refine r_goto 101 hO dX5_readLine_97 (by decide) ?_
        refine r_putT hO dX5_readLine_101 fRX5_50 rfl rfl rfl ?_
        refine r_aload_n hO dX5_readLine_104 rfl ?_
        refine r_callV hO dX5_readLine_105 kRX5_106 miX5_reads (zX5_reads _ (h.l (FRl.put (by omega))) (tok t p).2.2.1 (by rw [mpn (by omega)]; exact g.2.1) kk.2.2.1 (by rw [mpn (by omega)]; exact g.1)) ⟨Nat.le_of_ble_eq_true rfl, Nat.le_of_ble_eq_true rfl, rfl, Nat.le_of_ble_eq_true rfl⟩ rfl rfl (fun o M1 hpo => ?_)
        obtain ⟨rfl, K1, T1⟩ := hpo
        have L1 : FRl M M1 := (FRl.put (by omega)).tr (FRl.k K1)
        have eL : lineP t (tok t p) ms mo told = (mtP t (tok t p).2.2.1).elim .inl (fun y => .inr (ms, y.1, true, y.2)) := by unfold lineP; rw [if_neg q4, if_neg hw5, if_pos hw, if_neg (by rw [htold]; decide)]
        refine r_aload_n hO dX5_readLine_108 rfl ?_
        refine r_getI hO dX5_readLine_109 fRX5_64 rfl ?_
        refine r_if_le 116 hO dX5_readLine_112 (by decide) (fun h112 => ?_) (fun h112 => ?_)
        · have n4 : ¬ (tok t (tok t p).2.2.1).1 = 4 := fun z => by have := (T1.b z).1; rw [this] at h112; exact absurd h112 (show ¬ nI 1 ≤ 0 by decide)
          refine r_iload_n hO dX5_readLine_116 rfl ?_
          refine r_iconst hO dX5_readLine_117 ic_4 ?_
          refine r_icmp_ne 137 hO dX5_readLine_118 (by decide) (fun z => absurd rfl z) (fun _ => ?_)
          refine r_aload_n hO dX5_readLine_121 rfl ?_
          refine r_getR 37 hO dX5_readLine_122 fRX5_20 rfl ?_
          refine r_bipush hO dX5_readLine_125 bc_25 ?_
          refine r_aload_n hO dX5_readLine_127 rfl ?_
          refine r_bipush hO dX5_readLine_128 bc_20 ?_
          refine r_callV hO dX5_readLine_130 kRX5_109 miX5_readNumber (zX5_readNumber _ (h.l L1) 20 (by decide) (by decide) (.inr (tok t p).2.2.1) ⟨T1, kk.2.2.1⟩) ⟨Nat.le_of_ble_eq_true rfl, Nat.le_of_ble_eq_true rfl, rfl, Nat.le_of_ble_eq_true rfl⟩ rfl rfl (fun q M2 hpo => ?_)
          obtain ⟨K2, rfl, S2⟩ := hpo
          have L2 := L1.tr (FRl.k K2)
          refine s_iast 41 hO dX5_readLine_133 rfl (Nat.le_of_ble_eq_true rfl) 25 (by decide) (by decide) ?_
          refine r_goto 142 hO dX5_readLine_134 (by decide) ?_
          refine tail (nxp (nmP t (tok t p).2.2.1 20)) _ _ (S2.eq (fun k _ _ => mpn (by omega))) (h.l (L2.tr (FRl.put (Or.inl rfl)))) (fun M' K' E => ⟨(L2.tr (FRl.put (Or.inl rfl))).tr (FRl.k K'), ?_⟩)
          rw [eL]
          have eM : mtP t (tok t p).2.2.1 = (nmP t (tok t p).2.2.1 20).elim .inl (fun y => (smP t y.2).elim .inl (fun q => .inr (y.1, q))) := rfl
          rw [eM]
          cases hY : nmP t (tok t p).2.2.1 20 with
          | inl c => rw [hY] at E; exact E
          | inr y =>
            rw [hY] at E
            have ky := nm_ok kk.2.2.1 hY
            have E : (smP t y.2).elim (FaD M') (fun q => TokD M' (tok t q) ∧ q ≤ t.length) := E
            show Sum.elim _ _ (Sum.elim _ _ (Sum.elim Sum.inl (fun q => Sum.inr (y.1, q)) (smP t y.2))) 
            cases hZ : smP t y.2 with
            | inl c => rw [hZ] at E; exact E
            | inr q =>
              rw [hZ] at E
              refine ⟨E, hS.mo (v := y.1) (fun k hk => ?_) ?_ ky.1, ?_⟩
              · rw [K' _ _ (by omega), mpn (by omega), K2 _ _ (by omega), K1 _ _ (by omega), mpn (by omega)]
              · rw [K' _ _ (by omega), mpe]; show nI (vl (nmP t (tok t p).2.2.1 20)) = _; rw [hY]; rfl
              · rw [K' _ _ (by omega), mpn (by omega), K2 _ _ (by omega), K1 _ _ (by omega), mpe]; rfl
        · have n4 : (tok t (tok t p).2.2.1).1 = 4 := by
            by_cases z : (tok t (tok t p).2.2.1).1 = 4
            · exact z
            · exact absurd (by rw [(T1.g z).1]; decide) h112
          exact r_return hO hr dX5_readLine_115 ⟨rfl, L1, by rw [eL, show mtP t (tok t p).2.2.1 = .inl (1, (tok t (tok t p).2.2.1).2.1) from by unfold mtP; rw [nm_f (by unfold ftN; rw [if_pos n4]; decide)]; unfold ftN; rw [if_pos n4]; rfl]; exact T1.b n4⟩
    · have hw4 := hw
      by_cases hn6 : ms.length = 6
      · skip
        refine r_aload_n hO dX5_readLine_0 rfl ?_
        refine r_getI hO dX5_readLine_1 fRX5_88 rfl ?_
        refine r_iconst hO dX5_readLine_4 ic_1 ?_
        refine r_icmp_ne 15 hO dX5_readLine_5 (by decide) (fun z => absurd (by rw [g.2.2.1, hK1]; rfl) z) (fun _ => ?_)
        refine r_aload_n hO dX5_readLine_8 rfl ?_
        refine r_fV hO dX5_readLine_9 kRX5_112 miX5_lineNow (zX5_lineNow _ h hK1 rfl rfl hT.1 g.2.1 kk.2.1 kk.2.2.1) ⟨Nat.le_of_ble_eq_true rfl, Nat.le_of_ble_eq_true rfl, rfl, Nat.le_of_ble_eq_true rfl⟩ rfl rfl ?_
        refine r_goto 17 hO dX5_readLine_12 (by decide) ?_
        refine s_istore_n hL hO dX5_readLine_17 (Nat.le_of_ble_eq_true rfl) rfl ?_
        rw [show wdR (wdT t (tok t p)) = nI (wdT t (tok t p)) from by unfold wdR; rw [if_neg hw5]]
        show Gz X 18 [.ref 33, .int (nI (wdT t (tok t p)))] [] M
        refine r_aload_n hO dX5_readLine_18 rfl ?_
        refine r_iload_n hO dX5_readLine_19 rfl ?_
        refine r_bipush hO dX5_readLine_20 bc_m4 ?_
        refine r_icmp_eq 29 hO dX5_readLine_22 (by decide) (fun z => absurd z (by rw [show (-4 : Int32) = -4 from rfl]; intro z; exact absurd (z ▸ nI_pos' (n := wdT t (tok t p)) (by omega)) (by decide))) (fun _ => ?_)
        refine r_iconst hO dX5_readLine_25 ic_1 ?_
        refine r_goto 30 hO dX5_readLine_26 (by decide) ?_
        refine r_iconst hO dX5_readLine_30 ic_2 ?_
        refine r_fV hO dX5_readLine_31 kRX5_102 miX5_requires (zX5_requires _) ⟨Nat.le_of_ble_eq_true rfl, Nat.le_of_ble_eq_true rfl, rfl, Nat.le_of_ble_eq_true rfl⟩ rfl rfl ?_
        rw [if_neg (fun z => absurd z.1 (by decide))]
        refine r_aload_n hO dX5_readLine_34 rfl ?_
        refine r_iload_n hO dX5_readLine_35 rfl ?_
        refine r_iconst hO dX5_readLine_36 ic_4 ?_
        refine r_icmp_ge 52 hO dX5_readLine_37 (by decide) (fun z => absurd z (by rw [show (4 : Int32) = nI 4 from rfl]; exact nI_ge (by omega) (by omega))) (fun _ => ?_)
        refine r_aload_n hO dX5_readLine_40 rfl ?_
        refine r_getR 37 hO dX5_readLine_41 fRX5_20 rfl ?_
        refine r_bipush hO dX5_readLine_44 bc_24 ?_
        refine s_iald 41 hO dX5_readLine_46 rfl (Nat.le_of_ble_eq_true rfl) 24 (by decide) (by decide) ?_
        refine r_bipush hO dX5_readLine_47 bc_6 ?_
        refine r_icmp_ge 56 hO dX5_readLine_49 (by decide) (fun _ => ?_) (fun z => absurd (by rw [hS.2.2.1, hn6]; decide) z)
        refine r_iconst hO dX5_readLine_56 ic_0 ?_
        refine r_iconst hO dX5_readLine_57 ic_5 ?_
        refine r_fV hO dX5_readLine_58 kRX5_102 miX5_requires (zX5_requires _) ⟨Nat.le_of_ble_eq_true rfl, Nat.le_of_ble_eq_true rfl, rfl, Nat.le_of_ble_eq_true rfl⟩ rfl rfl ?_
        rw [if_pos ⟨rfl, g.1⟩]
        have hfa : FaD (mput (mput M 33 11 5) 33 12 (M.1 33 8)) (5, (tok t p).2.1) := ⟨by rw [mpn (by omega), mpe]; rfl, by rw [mpe]; exact hT.1, by show 0 < 5; omega, by show 5 ≤ 5; omega⟩
        have hfb : ∀ c, FaD (mput (mput (mput M 33 11 5) 33 12 (M.1 33 8)) 33 4 c) (5, (tok t p).2.1) := fun c => hfa.eq (fun k _ _ => mpn (by omega))
        refine r_aload_n hO dX5_readLine_61 rfl ?_
        refine r_iload_n hO dX5_readLine_62 rfl ?_
        refine r_iconst hO dX5_readLine_63 ic_4 ?_
        refine r_icmp_ne 74 hO dX5_readLine_64 (by decide) (fun _ => ?_) (fun z => absurd z (by rw [show (4 : Int32) = nI 4 from rfl, nI_eq (by omega) (by omega)]; omega))
        refine r_iconst hO dX5_readLine_74 ic_1 ?_
        refine r_goto 79 hO dX5_readLine_75 (by decide) ?_
        refine r_iconst hO dX5_readLine_79 ic_4 ?_
        refine r_fV hO dX5_readLine_80 kRX5_102 miX5_requires (zX5_requires _) ⟨Nat.le_of_ble_eq_true rfl, Nat.le_of_ble_eq_true rfl, rfl, Nat.le_of_ble_eq_true rfl⟩ rfl rfl ?_
        rw [if_neg (fun z => absurd z.1 (by decide))]
        refine r_aload_n hO dX5_readLine_83 rfl ?_
        refine r_aload_n hO dX5_readLine_84 rfl ?_
        refine r_getI hO dX5_readLine_85 fRX5_50 rfl ?_
        refine r_if_ne 96 hO dX5_readLine_88 (by decide) (fun h88 => ?_) (fun h88 => ?_)
        · refine r_iconst hO dX5_readLine_96 ic_1 ?_
          refine r_goto 101 hO dX5_readLine_97 (by decide) ?_
          refine r_putT hO dX5_readLine_101 fRX5_50 rfl rfl rfl ?_
          refine r_aload_n hO dX5_readLine_104 rfl ?_
          refine r_fV hO dX5_readLine_105 kRX5_106 miX5_reads (zX5_readsF _ (hfb _)) ⟨Nat.le_of_ble_eq_true rfl, Nat.le_of_ble_eq_true rfl, rfl, Nat.le_of_ble_eq_true rfl⟩ rfl rfl ?_
          refine r_aload_n hO dX5_readLine_108 rfl ?_
          refine r_getI hO dX5_readLine_109 fRX5_64 rfl ?_
          refine r_if_le 116 hO dX5_readLine_112 (by decide) (fun z => absurd z (by rw [(hfb _).1]; exact nI_nle (hfb 0).2.2.1 (by have := (hfb 0).2.2.2; omega))) (fun _ => ?_)
          exact r_return hO hr dX5_readLine_115 ⟨rfl, ((FRl.put (by omega)).tr (FRl.put (by omega))).tr (FRl.put (by omega)), by rw [show lineP t (tok t p) ms mo told = .inl (5, (tok t p).2.1) from by unfold lineP; rw [if_neg q4, if_neg hw5, if_neg hw4, if_pos hn6]]; exact hfb _⟩
        · refine r_iload_n hO dX5_readLine_91 rfl ?_
          refine r_iconst hO dX5_readLine_92 ic_4 ?_
          refine r_icmp_ne 100 hO dX5_readLine_93 (by decide) (fun _ => ?_) (fun z => absurd z (by rw [show (4 : Int32) = nI 4 from rfl, nI_eq (by omega) (by omega)]; omega))
          refine r_iconst hO dX5_readLine_100 ic_0 ?_
          refine r_putT hO dX5_readLine_101 fRX5_50 rfl rfl rfl ?_
          refine r_aload_n hO dX5_readLine_104 rfl ?_
          refine r_fV hO dX5_readLine_105 kRX5_106 miX5_reads (zX5_readsF _ (hfb _)) ⟨Nat.le_of_ble_eq_true rfl, Nat.le_of_ble_eq_true rfl, rfl, Nat.le_of_ble_eq_true rfl⟩ rfl rfl ?_
          refine r_aload_n hO dX5_readLine_108 rfl ?_
          refine r_getI hO dX5_readLine_109 fRX5_64 rfl ?_
          refine r_if_le 116 hO dX5_readLine_112 (by decide) (fun z => absurd z (by rw [(hfb _).1]; exact nI_nle (hfb 0).2.2.1 (by have := (hfb 0).2.2.2; omega))) (fun _ => ?_)
          exact r_return hO hr dX5_readLine_115 ⟨rfl, ((FRl.put (by omega)).tr (FRl.put (by omega))).tr (FRl.put (by omega)), by rw [show lineP t (tok t p) ms mo told = .inl (5, (tok t p).2.1) from by unfold lineP; rw [if_neg q4, if_neg hw5, if_neg hw4, if_pos hn6]]; exact hfb _⟩
      · skip
        refine r_aload_n hO dX5_readLine_0 rfl ?_
        refine r_getI hO dX5_readLine_1 fRX5_88 rfl ?_
        refine r_iconst hO dX5_readLine_4 ic_1 ?_
        refine r_icmp_ne 15 hO dX5_readLine_5 (by decide) (fun z => absurd (by rw [g.2.2.1, hK1]; rfl) z) (fun _ => ?_)
        refine r_aload_n hO dX5_readLine_8 rfl ?_
        refine r_fV hO dX5_readLine_9 kRX5_112 miX5_lineNow (zX5_lineNow _ h hK1 rfl rfl hT.1 g.2.1 kk.2.1 kk.2.2.1) ⟨Nat.le_of_ble_eq_true rfl, Nat.le_of_ble_eq_true rfl, rfl, Nat.le_of_ble_eq_true rfl⟩ rfl rfl ?_
        refine r_goto 17 hO dX5_readLine_12 (by decide) ?_
        refine s_istore_n hL hO dX5_readLine_17 (Nat.le_of_ble_eq_true rfl) rfl ?_
        rw [show wdR (wdT t (tok t p)) = nI (wdT t (tok t p)) from by unfold wdR; rw [if_neg hw5]]
        show Gz X 18 [.ref 33, .int (nI (wdT t (tok t p)))] [] M
        refine r_aload_n hO dX5_readLine_18 rfl ?_
        refine r_iload_n hO dX5_readLine_19 rfl ?_
        refine r_bipush hO dX5_readLine_20 bc_m4 ?_
        refine r_icmp_eq 29 hO dX5_readLine_22 (by decide) (fun z => absurd z (by rw [show (-4 : Int32) = -4 from rfl]; intro z; exact absurd (z ▸ nI_pos' (n := wdT t (tok t p)) (by omega)) (by decide))) (fun _ => ?_)
        refine r_iconst hO dX5_readLine_25 ic_1 ?_
        refine r_goto 30 hO dX5_readLine_26 (by decide) ?_
        refine r_iconst hO dX5_readLine_30 ic_2 ?_
        refine r_fV hO dX5_readLine_31 kRX5_102 miX5_requires (zX5_requires _) ⟨Nat.le_of_ble_eq_true rfl, Nat.le_of_ble_eq_true rfl, rfl, Nat.le_of_ble_eq_true rfl⟩ rfl rfl ?_
        rw [if_neg (fun z => absurd z.1 (by decide))]
        refine r_aload_n hO dX5_readLine_34 rfl ?_
        refine r_iload_n hO dX5_readLine_35 rfl ?_
        refine r_iconst hO dX5_readLine_36 ic_4 ?_
        refine r_icmp_ge 52 hO dX5_readLine_37 (by decide) (fun z => absurd z (by rw [show (4 : Int32) = nI 4 from rfl]; exact nI_ge (by omega) (by omega))) (fun _ => ?_)
        refine r_aload_n hO dX5_readLine_40 rfl ?_
        refine r_getR 37 hO dX5_readLine_41 fRX5_20 rfl ?_
        refine r_bipush hO dX5_readLine_44 bc_24 ?_
        refine s_iald 41 hO dX5_readLine_46 rfl (Nat.le_of_ble_eq_true rfl) 24 (by decide) (by decide) ?_
        refine r_bipush hO dX5_readLine_47 bc_6 ?_
        refine r_icmp_ge 56 hO dX5_readLine_49 (by decide) (fun z => absurd z (by rw [hS.2.2.1, show (6 : Int32) = nI 6 from rfl]; exact nI_ge (by omega) (by omega))) (fun _ => ?_)
        refine r_iconst hO dX5_readLine_52 ic_1 ?_
        refine r_goto 57 hO dX5_readLine_53 (by decide) ?_
        refine r_iconst hO dX5_readLine_57 ic_5 ?_
        refine r_fV hO dX5_readLine_58 kRX5_102 miX5_requires (zX5_requires _) ⟨Nat.le_of_ble_eq_true rfl, Nat.le_of_ble_eq_true rfl, rfl, Nat.le_of_ble_eq_true rfl⟩ rfl rfl ?_
        rw [if_neg (fun z => absurd z.1 (by decide))]
        refine r_aload_n hO dX5_readLine_61 rfl ?_
        refine r_iload_n hO dX5_readLine_62 rfl ?_
        refine r_iconst hO dX5_readLine_63 ic_4 ?_
        refine r_icmp_ne 74 hO dX5_readLine_64 (by decide) (fun _ => ?_) (fun z => absurd z (by rw [show (4 : Int32) = nI 4 from rfl, nI_eq (by omega) (by omega)]; omega))
        refine r_iconst hO dX5_readLine_74 ic_1 ?_
        refine r_goto 79 hO dX5_readLine_75 (by decide) ?_
        refine r_iconst hO dX5_readLine_79 ic_4 ?_
        refine r_fV hO dX5_readLine_80 kRX5_102 miX5_requires (zX5_requires _) ⟨Nat.le_of_ble_eq_true rfl, Nat.le_of_ble_eq_true rfl, rfl, Nat.le_of_ble_eq_true rfl⟩ rfl rfl ?_
        rw [if_neg (fun z => absurd z.1 (by decide))]
        refine r_aload_n hO dX5_readLine_83 rfl ?_
        refine r_aload_n hO dX5_readLine_84 rfl ?_
        refine r_getI hO dX5_readLine_85 fRX5_50 rfl ?_
        refine r_if_ne 96 hO dX5_readLine_88 (by decide) (fun h88 => ?_) (fun h88 => ?_)
        · refine r_iconst hO dX5_readLine_96 ic_1 ?_
          refine r_goto 101 hO dX5_readLine_97 (by decide) ?_
          refine r_putT hO dX5_readLine_101 fRX5_50 rfl rfl rfl ?_
          have eh : (mput M 33 4 1).1 33 4 = bI told := by rw [mpe]; rw [hd, bI_n0] at h88; rw [h88]; rfl
          refine r_aload_n hO dX5_readLine_104 rfl ?_
          refine r_callV hO dX5_readLine_105 kRX5_106 miX5_reads (zX5_reads _ (h.l (FRl.put (by omega))) (tok t p).2.2.1 (by rw [mpn (by omega)]; exact g.2.1) kk.2.2.1 (by rw [mpn (by omega)]; exact g.1)) ⟨Nat.le_of_ble_eq_true rfl, Nat.le_of_ble_eq_true rfl, rfl, Nat.le_of_ble_eq_true rfl⟩ rfl rfl (fun o M1 hpo => ?_)
          obtain ⟨rfl, K1, T1⟩ := hpo
          have L1 : FRl M M1 := (FRl.put (by omega)).tr (FRl.k K1)
          have eL : lineP t (tok t p) ms mo told = (mbP t (tok t p).2.2.1).elim .inl (fun y => .inr (ms ++ [(wdT t (tok t p), y.1, y.2.1, y.2.2.1)], mo, told, y.2.2.2)) := by unfold lineP; rw [if_neg q4, if_neg hw5, if_neg hw4, if_neg (by omega)]
          refine r_aload_n hO dX5_readLine_108 rfl ?_
          refine r_getI hO dX5_readLine_109 fRX5_64 rfl ?_
          refine r_if_le 116 hO dX5_readLine_112 (by decide) (fun h112 => ?_) (fun h112 => ?_)
          · have n4 : ¬ (tok t (tok t p).2.2.1).1 = 4 := fun z => by have := (T1.b z).1; rw [this] at h112; exact absurd h112 (show ¬ nI 1 ≤ 0 by decide)
            refine r_iload_n hO dX5_readLine_116 rfl ?_
            refine r_iconst hO dX5_readLine_117 ic_4 ?_
            refine r_icmp_ne 137 hO dX5_readLine_118 (by decide) (fun _ => ?_) (fun z => absurd z (by rw [show (4 : Int32) = nI 4 from rfl, nI_eq (by omega) (by omega)]; omega))
            refine r_aload_n hO dX5_readLine_137 rfl ?_
            refine r_iload_n hO dX5_readLine_138 rfl ?_
            refine r_callV hO dX5_readLine_139 kRX5_116 miX5_readMember (zX5_readMember _ (h.l L1) (by rw [K1 _ _ (by omega), mpn (by omega)]; exact hS.2.2.1) (by omega) (tok t p).2.2.1 ⟨T1, kk.2.2.1⟩) ⟨Nat.le_of_ble_eq_true rfl, Nat.le_of_ble_eq_true rfl, rfl, Nat.le_of_ble_eq_true rfl⟩ rfl rfl (fun o M2 hpo => ?_)
            obtain ⟨rfl, L2, r4, S2, r5, r6, r7, r8, r9, r10⟩ := hpo
            have L2 := L1.tr L2
            refine tail (nxp (y3 t (tok t p).2.2.1)) _ _ S2 (h.l L2) (fun M' K' E => ⟨L2.tr (FRl.k K'), ?_⟩)
            rw [eL]
            have eM := mb_y t (tok t p).2.2.1
            cases hY : nxp (y3 t (tok t p).2.2.1) with
            | inl c =>
              rw [hY] at E eM
              rw [show mbP t (tok t p).2.2.1 = .inl c from eM]
              exact E
            | inr q0 =>
              rw [hY] at E eM
              have E : (smP t q0).elim (FaD M') (fun q => TokD M' (tok t q) ∧ q ≤ t.length) := E
              have eM : mbP t (tok t p).2.2.1 = (smP t q0).elim .inl (fun q' => .inr (vl (y1 t (tok t p).2.2.1), vl (y2 t (tok t p).2.2.1), vl (y3 t (tok t p).2.2.1), q')) := eM
              cases hZ : smP t q0 with
              | inl c =>
                rw [hZ] at E eM
                rw [show mbP t (tok t p).2.2.1 = .inl c from eM]
                exact E
              | inr q =>
                rw [hZ] at E eM
                have eM : mbP t (tok t p).2.2.1 = .inr (vl (y1 t (tok t p).2.2.1), vl (y2 t (tok t p).2.2.1), vl (y3 t (tok t p).2.2.1), q) := eM
                have km := mb_ok kk.2.2.1 eM
                rw [eM]
                have e37 : ∀ k, M'.1 37 k = M2.1 37 k := fun k => K' _ _ (by omega)
                refine ⟨E, hS.add (by omega) (b := (wdT t (tok t p), vl (y1 t (tok t p).2.2.1), vl (y2 t (tok t p).2.2.1), vl (y3 t (tok t p).2.2.1))) ⟨by show wdT t (tok t p) ≤ 3; omega, km.1, km.2.1, km.2.2.1⟩ (fun k h1 h2 => ?_) ?_ ?_ ?_ ?_ ?_, ?_⟩
                · rw [e37, r5 k h1 h2, K1 _ _ (by omega), mpn (by omega)]
                · rw [e37]; exact r6
                · rw [e37]; exact r7
                · rw [e37]; exact r8
                · rw [e37]; exact r9
                · rw [e37]; exact r10
                · rw [K' _ _ (by omega), r4, K1 _ _ (by omega)]; exact eh
          · have n4 : (tok t (tok t p).2.2.1).1 = 4 := by
              by_cases z : (tok t (tok t p).2.2.1).1 = 4
              · exact z
              · exact absurd (by rw [(T1.g z).1]; decide) h112
            exact r_return hO hr dX5_readLine_115 ⟨rfl, L1, by rw [eL, show mbP t (tok t p).2.2.1 = .inl (1, (tok t (tok t p).2.2.1).2.1) from by unfold mbP; rw [nm_f (by unfold ftN; rw [if_pos n4]; decide)]; unfold ftN; rw [if_pos n4]; rfl]; exact T1.b n4⟩
        · refine r_iload_n hO dX5_readLine_91 rfl ?_
          refine r_iconst hO dX5_readLine_92 ic_4 ?_
          refine r_icmp_ne 100 hO dX5_readLine_93 (by decide) (fun _ => ?_) (fun z => absurd z (by rw [show (4 : Int32) = nI 4 from rfl, nI_eq (by omega) (by omega)]; omega))
          refine r_iconst hO dX5_readLine_100 ic_0 ?_
          refine r_putT hO dX5_readLine_101 fRX5_50 rfl rfl rfl ?_
          have eh : (mput M 33 4 0).1 33 4 = bI told := by rw [mpe]; rw [hd, bI_0] at h88; rw [h88]; rfl
          refine r_aload_n hO dX5_readLine_104 rfl ?_
          refine r_callV hO dX5_readLine_105 kRX5_106 miX5_reads (zX5_reads _ (h.l (FRl.put (by omega))) (tok t p).2.2.1 (by rw [mpn (by omega)]; exact g.2.1) kk.2.2.1 (by rw [mpn (by omega)]; exact g.1)) ⟨Nat.le_of_ble_eq_true rfl, Nat.le_of_ble_eq_true rfl, rfl, Nat.le_of_ble_eq_true rfl⟩ rfl rfl (fun o M1 hpo => ?_)
          obtain ⟨rfl, K1, T1⟩ := hpo
          have L1 : FRl M M1 := (FRl.put (by omega)).tr (FRl.k K1)
          have eL : lineP t (tok t p) ms mo told = (mbP t (tok t p).2.2.1).elim .inl (fun y => .inr (ms ++ [(wdT t (tok t p), y.1, y.2.1, y.2.2.1)], mo, told, y.2.2.2)) := by unfold lineP; rw [if_neg q4, if_neg hw5, if_neg hw4, if_neg (by omega)]
          refine r_aload_n hO dX5_readLine_108 rfl ?_
          refine r_getI hO dX5_readLine_109 fRX5_64 rfl ?_
          refine r_if_le 116 hO dX5_readLine_112 (by decide) (fun h112 => ?_) (fun h112 => ?_)
          · have n4 : ¬ (tok t (tok t p).2.2.1).1 = 4 := fun z => by have := (T1.b z).1; rw [this] at h112; exact absurd h112 (show ¬ nI 1 ≤ 0 by decide)
            refine r_iload_n hO dX5_readLine_116 rfl ?_
            refine r_iconst hO dX5_readLine_117 ic_4 ?_
            refine r_icmp_ne 137 hO dX5_readLine_118 (by decide) (fun _ => ?_) (fun z => absurd z (by rw [show (4 : Int32) = nI 4 from rfl, nI_eq (by omega) (by omega)]; omega))
            refine r_aload_n hO dX5_readLine_137 rfl ?_
            refine r_iload_n hO dX5_readLine_138 rfl ?_
            refine r_callV hO dX5_readLine_139 kRX5_116 miX5_readMember (zX5_readMember _ (h.l L1) (by rw [K1 _ _ (by omega), mpn (by omega)]; exact hS.2.2.1) (by omega) (tok t p).2.2.1 ⟨T1, kk.2.2.1⟩) ⟨Nat.le_of_ble_eq_true rfl, Nat.le_of_ble_eq_true rfl, rfl, Nat.le_of_ble_eq_true rfl⟩ rfl rfl (fun o M2 hpo => ?_)
            obtain ⟨rfl, L2, r4, S2, r5, r6, r7, r8, r9, r10⟩ := hpo
            have L2 := L1.tr L2
            refine tail (nxp (y3 t (tok t p).2.2.1)) _ _ S2 (h.l L2) (fun M' K' E => ⟨L2.tr (FRl.k K'), ?_⟩)
            rw [eL]
            have eM := mb_y t (tok t p).2.2.1
            cases hY : nxp (y3 t (tok t p).2.2.1) with
            | inl c =>
              rw [hY] at E eM
              rw [show mbP t (tok t p).2.2.1 = .inl c from eM]
              exact E
            | inr q0 =>
              rw [hY] at E eM
              have E : (smP t q0).elim (FaD M') (fun q => TokD M' (tok t q) ∧ q ≤ t.length) := E
              have eM : mbP t (tok t p).2.2.1 = (smP t q0).elim .inl (fun q' => .inr (vl (y1 t (tok t p).2.2.1), vl (y2 t (tok t p).2.2.1), vl (y3 t (tok t p).2.2.1), q')) := eM
              cases hZ : smP t q0 with
              | inl c =>
                rw [hZ] at E eM
                rw [show mbP t (tok t p).2.2.1 = .inl c from eM]
                exact E
              | inr q =>
                rw [hZ] at E eM
                have eM : mbP t (tok t p).2.2.1 = .inr (vl (y1 t (tok t p).2.2.1), vl (y2 t (tok t p).2.2.1), vl (y3 t (tok t p).2.2.1), q) := eM
                have km := mb_ok kk.2.2.1 eM
                rw [eM]
                have e37 : ∀ k, M'.1 37 k = M2.1 37 k := fun k => K' _ _ (by omega)
                refine ⟨E, hS.add (by omega) (b := (wdT t (tok t p), vl (y1 t (tok t p).2.2.1), vl (y2 t (tok t p).2.2.1), vl (y3 t (tok t p).2.2.1))) ⟨by show wdT t (tok t p) ≤ 3; omega, km.1, km.2.1, km.2.2.1⟩ (fun k h1 h2 => ?_) ?_ ?_ ?_ ?_ ?_, ?_⟩
                · rw [e37, r5 k h1 h2, K1 _ _ (by omega), mpn (by omega)]
                · rw [e37]; exact r6
                · rw [e37]; exact r7
                · rw [e37]; exact r8
                · rw [e37]; exact r9
                · rw [e37]; exact r10
                · rw [K' _ _ (by omega), r4, K1 _ _ (by omega)]; exact eh
          · have n4 : (tok t (tok t p).2.2.1).1 = 4 := by
              by_cases z : (tok t (tok t p).2.2.1).1 = 4
              · exact z
              · exact absurd (by rw [(T1.g z).1]; decide) h112
            exact r_return hO hr dX5_readLine_115 ⟨rfl, L1, by rw [eL, show mbP t (tok t p).2.2.1 = .inl (1, (tok t (tok t p).2.2.1).2.1) from by unfold mbP; rw [nm_f (by unfold ftN; rw [if_pos n4]; decide)]; unfold ftN; rw [if_pos n4]; rfl]; exact T1.b n4⟩
set_option maxHeartbeats 4000000 in
theorem zX5_text (l : Launch) {M : Mm} {σ : Sta} (h : RD M σ)  : Clz l 5 yX5_text cX5_text 2 (some .int) [.ref 33] M (fun r M' => r = some (.int (p_text σ).1) ∧ RD M' (p_text σ).2 ∧ FDr M M') := by
  refine Clz.on RX5 rfl (by decide +kernel) (Nat.le_of_ble_eq_true rfl) (fun X hL hO hr => ?_)
  show Gz X 0 [.ref 33, .null] [] M
  refine r_iconst hO dX5_text_0 ic_0 ?_
  refine s_istore_n hL hO dX5_text_1 (Nat.le_of_ble_eq_true rfl) rfl ?_
  refine r_aload_n hO dX5_text_2 rfl ?_
  refine r_iconst hO dX5_text_3 ic_0 ?_
  refine r_putI hO dX5_text_4 fRX5_64 rfl ?_
  refine r_aload_n hO dX5_text_7 rfl ?_
  refine r_iconst hO dX5_text_8 ic_0 ?_
  refine r_putI hO dX5_text_9 fRX5_73 rfl ?_
  refine r_aload_n hO dX5_text_12 rfl ?_
  refine r_callV hO dX5_text_13 kRX5_44 miX5_firstDraft (zX5_firstDraft _) ⟨Nat.le_of_ble_eq_true rfl, Nat.le_of_ble_eq_true rfl, rfl, Nat.le_of_ble_eq_true rfl⟩ rfl rfl (fun o M5 hpo => ?_)
  obtain ⟨rfl, D1, D2, D3⟩ := hpo
  have hF5 : FRl M M5 := ((FRl.put (by omega)).tr (FRl.put (by omega))).tr (fun a k h1 h2 => D1 a k h1 (by omega))
  refine r_aload_n hO dX5_text_16 rfl ?_
  refine r_callV hO dX5_text_17 kRX5_106 miX5_reads (zX5_reads _ (h.2.2.1.l hF5) 0 (by rw [D1 _ _ (by omega) (by omega), mpe]; rfl) (Nat.zero_le _) (by rw [D1 _ _ (by omega) (by omega), mpn (by omega), mpe])) ⟨Nat.le_of_ble_eq_true rfl, Nat.le_of_ble_eq_true rfl, rfl, Nat.le_of_ble_eq_true rfl⟩ rfl rfl (fun o M6 hpo => ?_)
  obtain ⟨rfl, K6, T6⟩ := hpo
  have hr0 := h
  obtain ⟨t, ht⟩ : ∃ t, t = σ.2.2.1 := ⟨_, rfl⟩
  have h := hr0.2.2.1
  rw [← ht] at h T6
  have hl160 := h.1
  have fault : ∀ (M1 : Mm) (n : Nat) (c : Fb), FRl M M1 → FaD M1 c → textP t t.length 0 0 [] 10 false = .inl c → Gz X 20 [.ref 33, .int (nI n)] [] M1 := by
    intro M1 n c hF hf hc
    have e : p_text σ = (-10 - nI c.2, σ.1, σ.2.1, [], c.1, σ.2.2.2.2) := by unfold p_text; rw [← ht, hc]; rfl
    refine r_aload_n hO dX5_text_20 rfl ?_
    refine r_getI hO dX5_text_21 fRX5_64 rfl ?_
    refine r_if_ne 44 hO dX5_text_24 (by decide) (fun _ => ?_) (fun z => absurd z hf.ne)
    refine r_aload_n hO dX5_text_44 rfl ?_
    refine r_iconst hO dX5_text_45 ic_0 ?_
    refine r_putI hO dX5_text_46 fRX5_60 rfl ?_
    refine r_aload_n hO dX5_text_49 rfl ?_
    refine r_getI hO dX5_text_50 fRX5_64 rfl ?_
    refine r_if_le 64 hO dX5_text_53 (by decide) (fun z => absurd z (by rw [mpn (by omega), hf.1]; exact nI_nle hf.2.2.1 (by have := hf.2.2; omega))) (fun _ => ?_)
    refine r_bipush hO dX5_text_56 bc_m10 ?_
    refine r_aload_n hO dX5_text_58 rfl ?_
    refine r_getI hO dX5_text_59 fRX5_70 rfl ?_
    refine r_isub hO dX5_text_62 ?_
    exact r_ireturn hO hr dX5_text_63 rfl ⟨by rw [e, mpn (by omega), hf.2.1], by
    rw [e]
    obtain ⟨g1, g2, g3, g4, g5, g6⟩ := hr0
    have q : ∀ a k, a ≠ 37 → 34 ≤ a → (mput M1 33 6 0).1 a k = M.1 a k := fun a k h1 h2 => by rw [mpn (by omega), hF a k h1 (by omega)]
    exact ⟨g1.eq (fun k _ => q _ _ (by omega) (by omega)), fun k hk => ⟨by rw [q _ _ (by omega) (by omega)]; exact (g2 k hk).1, fun z => ((g2 k hk).2 z).eq (fun j _ => q _ _ (by omega) (by omega))⟩, TpD.nil mpe, by rw [mpn (by omega)]; exact hf.1, by rw [mpn (by omega), hF _ _ (by omega) (by omega)]; exact g5, fun k hk => (g6 k hk).eq (q _ _ (by omega) (by omega)) (q _ _ (by omega) (by omega)) (fun i _ => q _ _ (by omega) (by omega))⟩, fun a k ha => by rw [mpn (by omega), hF _ _ (by omega) (by omega)]⟩
  have good : ∀ (M1 : Mm) (n : Nat) (ms : List Mb) (mo : Nat), FRl M M1 → DrS M1 ms mo → M1.1 33 11 = 0 → textP t t.length 0 0 [] 10 false = .inr (n, ms, mo) → Gz X 44 [.ref 33, .int (nI n)] [] M1 := by
    intro M1 n ms mo hF hS hf0 hc
    have e : p_text σ = (nI n, (ms, mo, 0, 0, []), (fun k => (false, (σ.2.1 k).2)), [], 0, σ.2.2.2.2) := by unfold p_text; rw [← ht, hc]; rfl
    refine r_aload_n hO dX5_text_44 rfl ?_
    refine r_iconst hO dX5_text_45 ic_0 ?_
    refine r_putI hO dX5_text_46 fRX5_60 rfl ?_
    refine r_aload_n hO dX5_text_49 rfl ?_
    refine r_getI hO dX5_text_50 fRX5_64 rfl ?_
    refine r_if_le 64 hO dX5_text_53 (by decide) (fun _ => ?_) (fun z => absurd (by rw [mpn (by omega), hf0]; decide) z)
    refine r_aload_n hO dX5_text_64 rfl ?_
    refine r_callV hO dX5_text_65 kRX5_47 miX5_keepDraft (zX5_keepDraft _) ⟨Nat.le_of_ble_eq_true rfl, Nat.le_of_ble_eq_true rfl, rfl, Nat.le_of_ble_eq_true rfl⟩ rfl rfl (fun o M3 hpo => ?_)
    obtain ⟨rfl, D1, D2, D3, D4⟩ := hpo
    refine r_iload_n hO dX5_text_68 rfl ?_
    exact r_ireturn hO hr dX5_text_69 rfl ⟨by rw [e], by
    rw [e]
    obtain ⟨g1, g2, g3, g4, g5, g6⟩ := hr0
    obtain ⟨s1, s2, s3, s4, s5⟩ := hS
    have q : ∀ a k, a ≠ 37 → (a ≠ 34 ∨ 41 ≤ k) → a ≠ 36 → 34 ≤ a → M3.1 a k = M.1 a k := fun a k h1 h2 h3 h4 => by rw [D1 a k h2 h3, mpn (by omega), hF a k h1 (by omega)]
    have w : ∀ k, k < 41 → M3.1 34 k = M1.1 37 k := fun k hk => by rw [D2 k hk, mpn (by omega)]
    refine ⟨⟨s1, s2.eq s1 (fun k hk => w k (by omega)), by rw [w _ (by omega)]; exact s3, by rw [w _ (by omega)]; exact s4, ⟨by rw [w _ (by omega)]; exact s5 _ (by omega) (by omega), by show 0 ≤ 999; omega⟩, ⟨by rw [w _ (by omega)]; exact s5 _ (by omega) (by omega), by show 0 ≤ 999; omega⟩, ⟨by rw [w _ (by omega)]; exact s5 _ (by omega) (by omega), by show 0 ≤ 6; omega⟩, fun i b hb => by cases hb⟩, fun k hk => ⟨?_, fun z => by cases z⟩, TpD.nil (by rw [D1 _ _ (by omega) (by omega), mpe]), by rw [D1 _ _ (by omega) (by omega), mpn (by omega)]; exact hf0, by rw [D1 _ _ (by omega) (by omega), mpn (by omega), hF _ _ (by omega) (by omega)]; exact g5, fun k hk => (g6 k hk).eq (q _ _ (by omega) (by omega) (by omega) (by omega)) (q _ _ (by omega) (by omega) (by omega) (by omega)) (fun i _ => q _ _ (by omega) (by omega) (by omega) (by omega))⟩
    rcases (show k = 0 ∨ k = 1 by omega) with rfl | rfl
    · exact D3
    · exact D4, fun a k ha => by rw [D1 _ _ (by omega) (by omega), mpn (by omega), hF _ _ (by omega) (by omega)]⟩
  have loop : ∀ (f p n : Nat) (ms : List Mb) (mo : Nat) (told : Bool) (M1 : Mm), TokD M1 (tok t p) → p ≤ t.length → t.length ≤ p + f → DrS M1 ms mo → M1.1 33 4 = bI told → FRl M M1 → textP t f p n ms mo told = textP t t.length 0 0 [] 10 false → Gz X 20 [.ref 33, .int (nI n)] [] M1 := by
    intro f
    induction f with
    | zero =>
      intro p n ms mo told M1 hT hpt hpf hS hd hF he
      have hz : (tok t p).1 = 0 := (tok_e hpt).2.2.2.2.2.2 (by omega)
      refine r_aload_n hO dX5_text_20 rfl ?_
      refine r_getI hO dX5_text_21 fRX5_64 rfl ?_
      refine r_if_ne 44 hO dX5_text_24 (by decide) (fun z => absurd (hT.g (by rw [hz]; decide)).1 z) (fun _ => ?_)
      refine r_aload_n hO dX5_text_27 rfl ?_
      refine r_getI hO dX5_text_28 fRX5_88 rfl ?_
      refine r_if_eq 44 hO dX5_text_31 (by decide) (fun _ => ?_) (fun z => absurd (by rw [(hT.g (by rw [hz]; decide)).2.2.1, hz]; rfl) z)
      exact good M1 n ms mo hF hS (hT.g (by rw [hz]; decide)).1 (by rw [← he, tx_0 hz])
    | succ f ih =>
      intro p n ms mo told M1 hT hpt hpf hS hd hF he
      have kk := tok_e hpt
      by_cases q4 : (tok t p).1 = 4
      · exact fault M1 n _ hF (hT.b q4) (by rw [← he, tx_s (by omega)]; unfold lineP; rw [if_pos q4]; rfl)
      have g := hT.g q4
      refine r_aload_n hO dX5_text_20 rfl ?_
      refine r_getI hO dX5_text_21 fRX5_64 rfl ?_
      refine r_if_ne 44 hO dX5_text_24 (by decide) (fun z => absurd g.1 z) (fun _ => ?_)
      refine r_aload_n hO dX5_text_27 rfl ?_
      refine r_getI hO dX5_text_28 fRX5_88 rfl ?_
      refine r_if_eq 44 hO dX5_text_31 (by decide) (fun h31 => ?_) (fun h31 => ?_)
      · rw [g.2.2.1, ← nI_0, nI_eq (by omega) (by omega)] at h31
        exact good M1 n ms mo hF hS g.1 (by rw [← he, tx_0 h31])
      · rw [g.2.2.1, ← nI_0, nI_eq (by omega) (by omega)] at h31
        refine r_aload_n hO dX5_text_34 rfl ?_
        refine r_callV hO dX5_text_35 kRX5_120 miX5_readLine (zX5_readLine _ (h.l hF) p hpt hT q4 hS hd) ⟨Nat.le_of_ble_eq_true rfl, Nat.le_of_ble_eq_true rfl, rfl, Nat.le_of_ble_eq_true rfl⟩ rfl rfl (fun o M2 hpo => ?_)
        obtain ⟨rfl, L2, E⟩ := hpo
        refine s_iinc hL hO dX5_text_38 rfl ic_1 (Nat.le_of_ble_eq_true rfl) rfl ?_
        refine r_goto 20 hO dX5_text_41 (by decide) ?_
        show Gz X 20 [.ref 33, .int (nI n + 1)] [] M2
        rw [nI_1]
        cases hY : lineP t (tok t p) ms mo told with
        | inl c =>
          rw [hY] at E
          exact fault M2 (n + 1) c (hF.tr L2) E (by rw [← he, tx_s h31, hY]; rfl)
        | inr y =>
          rw [hY] at E
          obtain ⟨⟨E1, E2⟩, E3, E4⟩ := E
          have ky := ln_ok hpt hY
          exact ih y.2.2.2 (n + 1) y.1 y.2.1 y.2.2.1 M2 E1 E2 (by omega) E3 E4 (hF.tr L2) (by rw [← he, tx_s h31, hY]; rfl)
  have e37 : ∀ k, M6.1 37 k = M5.1 37 k := fun k => K6 _ _ (by omega)
  exact loop t.length 0 0 [] 10 false M6 T6 (Nat.zero_le _) (by omega) (D2.eq e37) (by rw [K6 _ _ (by omega)]; exact D3) (hF5.tr (FRl.k K6)) rfl
