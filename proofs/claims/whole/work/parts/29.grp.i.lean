def bt (x : Int32) (i : Nat) : Bool := x.toBitVec.getLsbD i
theorem b_ext {x y : Int32} (h : ∀ i, i < 32 → bt x i = bt y i) : x = y := Int32.toBitVec_inj.mp (BitVec.eq_of_getLsbD_eq (fun i hi => h i hi))
theorem b_and (x y : Int32) (i : Nat) : bt (x &&& y) i = (bt x i && bt y i) := by unfold bt; rw [Int32.toBitVec_and, BitVec.getLsbD_and]
theorem b_big {x : Int32} {i : Nat} (h : 32 ≤ i) : bt x i = false := BitVec.getLsbD_of_ge _ _ h
theorem s_l : ∀ n, n < 32 → ((nI n &&& 31).toBitVec.smod 32).toNat = n := by decide +kernel
theorem s_u : ∀ n, n < 32 → (((nI n).toUInt32 &&& Int32.toUInt32 31).toBitVec % 32).toNat = n := by decide +kernel
theorem b_ushr (n : Nat) (hn : n < 32) (x : Int32) (i : Nat) : bt ((x.toUInt32 >>> ((nI n).toUInt32 &&& Int32.toUInt32 31)).toInt32) i = bt x (n + i) := by
  show (x.toUInt32 >>> ((nI n).toUInt32 &&& Int32.toUInt32 31)).toBitVec.getLsbD i = x.toUInt32.toBitVec.getLsbD (n + i)
  rw [UInt32.toBitVec_shiftRight]
  show (x.toUInt32.toBitVec >>> (((nI n).toUInt32 &&& Int32.toUInt32 31).toBitVec % 32).toNat).getLsbD i = _
  rw [s_u n hn, BitVec.getLsbD_ushiftRight]
theorem b_sshr (n : Nat) (hn : n < 32) (x : Int32) {i : Nat} (hi : i < 32) : bt (x >>> (nI n &&& 31)) i = if n + i < 32 then bt x (n + i) else bt x 31 := by
  unfold bt
  rw [Int32.toBitVec_shiftRight]
  show (x.toBitVec.sshiftRight ((nI n &&& 31).toBitVec.smod 32).toNat).getLsbD i = _
  rw [s_l n hn, BitVec.getLsbD_sshiftRight, BitVec.msb_eq_getLsbD_last]
  simp [hi]
theorem b_32767 (i : Nat) (h : i < 32) : bt 32767 i = decide (i < 15) := (by decide +kernel : ∀ i, i < 32 → bt 32767 i = decide (i < 15)) i h
def gN (v : Int32) : Nat := ((v >>> ((16 : Int32) &&& 31)) &&& 32767).toNatClampNeg
theorem g_r (v : Int32) : (v >>> ((16 : Int32) &&& 31)) &&& 32767 = nI (gN v) ∧ gN v < 32768 := by
  obtain ⟨j, hj, e⟩ := pk_andE (v >>> ((16 : Int32) &&& 31)) (m := 32767) 15 (by decide)
  unfold gN
  rw [e, nI_clamp (by omega)]
  exact ⟨rfl, by omega⟩
theorem g_c (v : Int32) : usI v 16 &&& 32767 = nI (gN v) := by
  rw [← (g_r v).1]
  apply b_ext
  intro i hi
  rw [b_and, b_and, b_32767 i hi]
  rcases Nat.lt_or_ge i 15 with h | h
  · have h1 := b_ushr 16 (by omega) v i
    have h2 := b_sshr 16 (by omega) v hi
    rw [if_pos (by omega)] at h2
    rw [show bt (usI v 16) i = bt v (16 + i) from h1, show bt (v >>> ((16 : Int32) &&& 31)) i = bt v (16 + i) from h2]
  · rw [decide_eq_false (by omega), Bool.and_false, Bool.and_false]
theorem g_v {g : Nat} (h : g < 32768) : nI g / 8 - nI g / 8 / 21 * 21 = nI (g / 8 % 21) := by
  rw [show (8 : Int32) = nI 8 from rfl, show (21 : Int32) = nI 21 from rfl, pk_div (by omega) (by omega) (by omega), pk_rem (by omega) (by omega) (by omega)]
theorem in1_t {n : Int32} (h : ¬ n < 1) (h2 : ¬ 60 < n) : inI n 1 60 = true := by
  rw [Int32.lt_iff_toInt_lt] at h h2
  exact decide_eq_true ⟨by rw [Int32.le_iff_toInt_le]; omega, by rw [Int32.le_iff_toInt_le]; omega⟩
theorem in1_f1 {n : Int32} (h : n < 1) : inI n 1 60 = false := by
  rw [Int32.lt_iff_toInt_lt] at h
  exact decide_eq_false (fun z => by have := z.1; rw [Int32.le_iff_toInt_le] at this; omega)
theorem in1_f2 {n : Int32} (h : 60 < n) : inI n 1 60 = false := by
  rw [Int32.lt_iff_toInt_lt] at h
  exact decide_eq_false (fun z => by have := z.2; rw [Int32.le_iff_toInt_le] at this; omega)
theorem in1_n {n : Int32} (h : inI n 1 60 = true) : ∃ a, a ≤ 60 ∧ n = nI a := by
  have h1 := of_decide_eq_true h
  exact inI_nat (n := 60) (by decide) (decide_eq_true ⟨by have := h1.1; rw [Int32.le_iff_toInt_le] at this ⊢; have : (1 : Int32).toInt = 1 := by decide
                                                          have : (0 : Int32).toInt = 0 := by decide
                                                          omega, h1.2⟩)
def drS (m : Nat) : Nat → Int32 → Ns → Ns
  | 0, _, s => s
  | r + 1, v, s => drS m r (v * 1103515245 + 12345) (dayS (sMb s (gN (v * 1103515245 + 12345) % m) 2 (gN (v * 1103515245 + 12345) / 8 % 21)))
def p_drift (σ : Sta) (v n w : Int32) : Int32 := if inI n 1 60 = true ∧ inI w 0 1 = true then (if σ.1.1.length = 0 then -2 else if w = 0 then nI (drS σ.1.1.length n.toNatClampNeg v (nuS σ.1)).2.1 else nI (drS σ.1.1.length n.toNatClampNeg v (nuS σ.1)).2.2.2.2) else -1
theorem CN.setK {M : Mm} {p : Nat} {ms : List Mb} {mo day am : Nat} (R : CN M p ms mo day am) {i k v : Nat} {b : Mb} (hb : ms[i]? = some b) (hk : k < 4) (hv : v ≤ topN k) : CN (mput M (p + 1) (4 * i + k) (nI v)) p (ms.set i (setF k v b)) mo day am := by
  obtain ⟨h1, h2, h3, h4, h5, h6⟩ := R
  have hne : p ≠ p + 1 := by omega
  exact ⟨by rw [List.length_set]; exact h1, by rw [mput_at]; exact h2.setK hb hk hv, by rw [mput_ne _ hne, List.length_set]; exact h3, by rw [mput_ne _ hne]; exact h4, by rw [mput_ne _ hne]; exact h5, by rw [mput_ne _ hne]; exact h6⟩
theorem RN.setK {M : Mm} {full : List Mb} {mo day am ch : Nat} {out : Int32} (R : RN M full mo day am out ch) {i k v : Nat} {b : Mb} (hb : full[i]? = some b) (hk : k < 4) (hv : v ≤ topN k) : RN (mput M 35 (4 * i + k) (nI v)) (full.set i (setF k v b)) mo day am out ch := by
  have hi := R.a hb
  obtain ⟨h1, h2, h3, h4, h5, h6, h7, h8⟩ := R
  have q : ∀ j, 24 ≤ j → (mput M 35 (4 * i + k) (nI v)).1 35 j = M.1 35 j := fun j hj => by rw [mpg, if_neg (by omega)]
  exact ⟨by rw [List.length_set]; exact h1, by rw [mput35]; exact h2.setK hb hk hv, by rw [q _ (by omega), List.length_set]; exact h3, by rw [q _ (by omega)]; exact h4, by rw [q _ (by omega)]; exact h5, by rw [q _ (by omega)]; exact h6, by rw [mput_ne _ (by decide)]; exact h7, by rw [mput_ne _ (by decide)]; exact h8⟩
theorem gD {ms : List Mb} {i : Nat} (h : i < ms.length) : ms[i]? = some (ms.getD i (0, 0, 0, 0)) := by rw [List.getD_eq_getElem?_getD, List.getElem?_eq_getElem h]; rfl
theorem CV.mb {M : Mm} {p : Nat} {s : Ns} (V : CV M p s) {i k v : Nat} (hi : i < s.1.length) (hk : k < 4) (hv : v ≤ topN k) : CV (mput M (p + 1) (4 * i + k) (nI v)) p (sMb s i k v) := CN.setK V (gD hi) hk hv
theorem RV.mb {M : Mm} {s : Ns} {n : Nat} (V : RV M s (-4) n) {i k v : Nat} (hi : i < s.1.length) (hk : k < 4) (hv : v ≤ topN k) : RV (mput M 35 (4 * i + k) (nI v)) (sMb s i k v) (-4) n := by
  obtain ⟨R, hl⟩ := V.rn
  have R2 := R.setK (gD hi) hk hv
  exact ⟨_, by rw [List.length_set]; exact hl, R2, act_none _ 0 (by have := R2.1; omega)⟩
theorem sMb_len (s : Ns) (i k v : Nat) : (sMb s i k v).1.length = s.1.length := List.length_set
set_option maxHeartbeats 4000000 in
theorem zX4_drift (l : Launch) {M : Mm} {σ : Sta} (h : RC M σ) {v0 n w : Int32} : Clz l 4 yX4_drift cX4_drift 8 (some .int) [.ref 0, .int v0, .int n, .int w] M (fun r M' => r = some (.int (p_drift σ v0 n w)) ∧ RC M' σ ∧ FCr M M') := by
  refine Clz.on RX4 rfl (by decide +kernel) (Nat.le_of_ble_eq_true rfl) (fun X hL hO hr => ?_)
  show Gz X 0 [.ref 0, .int v0, .int n, .int w, .null, .null, .null, .null] [] M
  refine r_iload_n hO dX4_drift_0 rfl ?_
  refine r_iconst hO dX4_drift_1 ic_1 ?_
  refine r_icmp_lt 19 hO dX4_drift_2 (by decide) (fun h2 => ?_) (fun h2 => ?_)
  · refine r_iconst hO dX4_drift_19 ic_m1 ?_
    exact r_ireturn hO hr dX4_drift_20 rfl ⟨sI (show _ = p_drift σ v0 n w from by unfold p_drift; rw [if_neg (ff (Q := True) (in1_f1 h2))]), h, FCr.rf⟩
  · refine r_iload_n hO dX4_drift_5 rfl ?_
    refine r_bipush hO dX4_drift_6 bc_60 ?_
    refine r_icmp_gt 19 hO dX4_drift_8 (by decide) (fun h8 => ?_) (fun h8 => ?_)
    · refine r_iconst hO dX4_drift_19 ic_m1 ?_
      exact r_ireturn hO hr dX4_drift_20 rfl ⟨sI (show _ = p_drift σ v0 n w from by unfold p_drift; rw [if_neg (ff (Q := True) (in1_f2 h8))]), h, FCr.rf⟩
    · refine r_iload_n hO dX4_drift_11 rfl ?_
      refine r_iconst hO dX4_drift_12 ic_1 ?_
      refine r_fS hO dX4_drift_13 kRX4_62 msX4_within (zX4_within _) ⟨Nat.le_of_ble_eq_true rfl, Nat.le_of_ble_eq_true rfl, rfl, Nat.le_of_ble_eq_true rfl⟩ rfl ?_
      refine r_if_ne 21 hO dX4_drift_16 (by decide) (fun h16 => ?_) (fun h16 => ?_)
      · rw [bI_n0] at h16
        have h16 : inI w 0 1 = true := h16
        have hn := in1_t h2 h8
        obtain ⟨a, ha, rfl⟩ := in1_n hn
        have hl6 := h.1.1.1
        refine r_aload_n hO dX4_drift_21 rfl ?_
        refine r_getR 4 hO dX4_drift_22 fRX4_26 rfl ?_
        refine r_getI hO dX4_drift_25 fRX4_84 rfl ?_
        refine r_iconst hO dX4_drift_28 ic_1 ?_
        refine r_icmp_ge 35 hO dX4_drift_29 (by decide) (fun h29 => ?_) (fun h29 => ?_)
        · rw [h.1.1.2.2.1, show (1 : Int32) = nI 1 from rfl, nI_leI (by omega) (by omega)] at h29
          have e : p_drift σ v0 (nI a) w = if w = 0 then nI (drS σ.1.1.length a v0 (nuS σ.1)).2.1 else nI (drS σ.1.1.length a v0 (nuS σ.1)).2.2.2.2 := by unfold p_drift; rw [if_pos ⟨hn, h16⟩, if_neg (by omega), nI_clamp (by omega)]
          refine r_aload_n hO dX4_drift_35 rfl ?_
          refine r_getR 8 hO dX4_drift_36 fRX4_30 rfl ?_
          refine r_aload_n hO dX4_drift_39 rfl ?_
          refine r_getR 4 hO dX4_drift_40 fRX4_26 rfl ?_
          refine r_callV hO dX4_drift_43 kRX4_80 miX0_become (zX0_become _ (show nuP 8 from Or.inr (Or.inl rfl)) (show nuP 4 from Or.inl rfl) (by decide)) ⟨Nat.le_of_ble_eq_true rfl, Nat.le_of_ble_eq_true rfl, rfl, Nat.le_of_ble_eq_true rfl⟩ rfl rfl (fun r M0 hpo => ?_)
          obtain ⟨rfl, B⟩ := hpo
          refine r_iload_n hO dX4_drift_46 rfl ?_
          refine s_istore hL hO dX4_drift_47 (Nat.le_of_ble_eq_true rfl) rfl ?_
          refine r_iconst hO dX4_drift_49 ic_0 ?_
          refine s_istore hL hO dX4_drift_50 (Nat.le_of_ble_eq_true rfl) rfl ?_
          refine r_iconst hO dX4_drift_52 ic_0 ?_
          refine s_istore hL hO dX4_drift_53 (Nat.le_of_ble_eq_true rfl) rfl ?_
          have loop : ∀ (r j : Nat) (v : Int32) (s : Ns) (M1 : Mm), j + r = a → CV M1 8 s → s.1.length = σ.1.1.length → FQ M M1 → s.2.2.1 ≤ 999 + j → s.2.2.2.2 ≤ j → drS σ.1.1.length r v s = drS σ.1.1.length a v0 (nuS σ.1) → Gz X 55 [.ref 0, .int v0, .int (nI a), .int w, .int v, .int (nI s.2.2.2.2), .int (nI j), .null] [] M1 := by
            intro r
            induction r with
            | zero =>
              intro j v s M1 hjr V hl hF hd hc he
              refine r_iload hO dX4_drift_55 rfl ?_
              refine r_iload_n hO dX4_drift_57 rfl ?_
              refine r_icmp_ge 128 hO dX4_drift_58 (by decide) (fun _ => ?_) (fun z => absurd (nI_le (by omega) (by omega)) z)
              refine r_iload_n hO dX4_drift_128 rfl ?_
              refine r_if_ne 142 hO dX4_drift_129 (by decide) (fun h129 => ?_) (fun h129 => ?_)
              · refine r_iload hO dX4_drift_142 rfl ?_
                exact r_ireturn hO hr dX4_drift_144 rfl ⟨sI (by rw [e, ← he, if_neg h129]; exact (rfl : nI s.2.2.2.2 = _)), h.q hF, hF.fc⟩
              · refine r_aload_n hO dX4_drift_132 rfl ?_
                refine r_getR 8 hO dX4_drift_133 fRX4_30 rfl ?_
                refine r_getI hO dX4_drift_136 fRX4_90 rfl ?_
                refine r_goto 144 hO dX4_drift_139 (by decide) ?_
                exact r_ireturn hO hr dX4_drift_144 rfl ⟨sI (by rw [e, ← he, if_pos h129]; exact (V.2.2.2.1.1)), h.q hF, hF.fc⟩
            | succ r ih =>
              intro j v s M1 hjr V hl hF hd hc he
              obtain ⟨hG, hg⟩ := g_r (v * 1103515245 + 12345)
              have hm0 : gN (v * 1103515245 + 12345) % σ.1.1.length < σ.1.1.length := Nat.mod_lt _ (by omega)
              refine r_iload hO dX4_drift_55 rfl ?_
              refine r_iload_n hO dX4_drift_57 rfl ?_
              refine r_icmp_ge 128 hO dX4_drift_58 (by decide) (fun z => absurd z (nI_ge (by omega) (by omega))) (fun _ => ?_)
              refine r_iload hO dX4_drift_61 rfl ?_
              refine r_ldc hO dX4_drift_63 wRX4_189 ?_
              refine r_imul hO dX4_drift_65 ?_
              refine r_sipush hO dX4_drift_66 sc_12345 ?_
              refine r_iadd hO dX4_drift_69 ?_
              refine s_istore hL hO dX4_drift_70 (Nat.le_of_ble_eq_true rfl) rfl ?_
              refine r_iload hO dX4_drift_72 rfl ?_
              refine r_bipush hO dX4_drift_74 bc_16 ?_
              refine r_iushr hO dX4_drift_76 ?_
              refine r_sipush hO dX4_drift_77 sc_32767 ?_
              refine r_iand hO dX4_drift_80 ?_
              refine s_istore hL hO dX4_drift_81 (Nat.le_of_ble_eq_true rfl) rfl ?_
              show Gz X 83 [.ref 0, .int v0, .int (nI a), .int w, .int (v * 1103515245 + 12345), .int (nI s.2.2.2.2), .int (nI j), .int (usI (v * 1103515245 + 12345) 16 &&& 32767)] [] M1
              rw [g_c]
              have hm : M1.1 4 3 = nI σ.1.1.length := by rw [hF.1 4 3 (by omega) (by omega) (by omega)]; exact h.1.1.2.2.1
              refine r_aload_n hO dX4_drift_83 rfl ?_
              refine r_getR 8 hO dX4_drift_84 fRX4_30 rfl ?_
              refine r_iload hO dX4_drift_87 rfl ?_
              refine r_aload_n hO dX4_drift_89 rfl ?_
              refine r_getR 4 hO dX4_drift_90 fRX4_26 rfl ?_
              refine r_getI hO dX4_drift_93 fRX4_84 rfl ?_
              refine r_irem hO dX4_drift_96 (by rw [hm]; exact nI_ne0 (by omega) (by omega)) ?_
              refine r_iconst hO dX4_drift_97 ic_2 ?_
              refine r_iload hO dX4_drift_98 rfl ?_
              refine r_bipush hO dX4_drift_100 bc_8 ?_
              refine r_idiv hO dX4_drift_102 (by decide) ?_
              refine r_bipush hO dX4_drift_103 bc_21 ?_
              refine r_irem hO dX4_drift_105 (by decide) ?_
              refine r_fV hO dX4_drift_106 kRX4_141 miX0_put (zX0_put _ (show nuP 8 from Or.inr (Or.inl rfl)) (gN (v * 1103515245 + 12345) % σ.1.1.length) 2 (by rw [hm]; exact pk_rem (by omega) (by omega) (by omega)) rfl (by omega) (by decide)) ⟨Nat.le_of_ble_eq_true rfl, Nat.le_of_ble_eq_true rfl, rfl, Nat.le_of_ble_eq_true rfl⟩ rfl rfl ?_
              rw [g_v hg]
              have V2 := V.mb (k := 2) (v := gN (v * 1103515245 + 12345) / 8 % 21) (show gN (v * 1103515245 + 12345) % σ.1.1.length < s.1.length by omega) (by decide) (by show _ ≤ 20; omega)
              have hl2 : (sMb s (gN (v * 1103515245 + 12345) % σ.1.1.length) 2 (gN (v * 1103515245 + 12345) / 8 % 21)).1.length = σ.1.1.length := by rw [sMb_len]; exact hl
              refine r_iload hO dX4_drift_109 rfl ?_
              refine r_aload_n hO dX4_drift_111 rfl ?_
              refine r_getR 8 hO dX4_drift_112 fRX4_30 rfl ?_
              refine r_iconst hO dX4_drift_115 ic_1 ?_
              refine r_callV hO dX4_drift_116 kRX4_190 miX0_passDay (zX0_passDay _ (show nuP 8 from Or.inr (Or.inl rfl)) V2 true rfl (by show s.2.2.1 < 100000; omega)) ⟨Nat.le_of_ble_eq_true rfl, Nat.le_of_ble_eq_true rfl, rfl, Nat.le_of_ble_eq_true rfl⟩ rfl rfl (fun q M2 hpo => ?_)
              obtain ⟨rfl, F, V3⟩ := hpo
              have c1 := dayS_ch (sMb s (gN (v * 1103515245 + 12345) % σ.1.1.length) 2 (gN (v * 1103515245 + 12345) / 8 % 21))
              have c2 := dayS_ch2 (sMb s (gN (v * 1103515245 + 12345) % σ.1.1.length) 2 (gN (v * 1103515245 + 12345) / 8 % 21))
              have c3 := dayS_day (sMb s (gN (v * 1103515245 + 12345) % σ.1.1.length) 2 (gN (v * 1103515245 + 12345) / 8 % 21))
              have c4 : (sMb s (gN (v * 1103515245 + 12345) % σ.1.1.length) 2 (gN (v * 1103515245 + 12345) / 8 % 21)).2.2.2.2 = s.2.2.2.2 := rfl
              have c5 : (sMb s (gN (v * 1103515245 + 12345) % σ.1.1.length) 2 (gN (v * 1103515245 + 12345) / 8 % 21)).2.2.1 = s.2.2.1 := rfl
              refine r_iadd hO dX4_drift_119 ?_
              refine s_istore hL hO dX4_drift_120 (Nat.le_of_ble_eq_true rfl) rfl ?_
              refine s_iinc hL hO dX4_drift_122 rfl ic_1 (Nat.le_of_ble_eq_true rfl) rfl ?_
              refine r_goto 55 hO dX4_drift_125 (by decide) ?_
              refine r_null 7 ?_
              show Gz X 55 [.ref 0, .int v0, .int (nI a), .int w, .int (v * 1103515245 + 12345), .int (nI s.2.2.2.2 + nI ((dayS (sMb s (gN (v * 1103515245 + 12345) % σ.1.1.length) 2 (gN (v * 1103515245 + 12345) / 8 % 21))).2.2.2.2 - (sMb s (gN (v * 1103515245 + 12345) % σ.1.1.length) 2 (gN (v * 1103515245 + 12345) / 8 % 21)).2.2.2.2)), .int (nI j + 1), .null] [] M2
              rw [nI_1, nI_add, show s.2.2.2.2 + ((dayS (sMb s (gN (v * 1103515245 + 12345) % σ.1.1.length) 2 (gN (v * 1103515245 + 12345) / 8 % 21))).2.2.2.2 - (sMb s (gN (v * 1103515245 + 12345) % σ.1.1.length) 2 (gN (v * 1103515245 + 12345) / 8 % 21)).2.2.2.2) = (dayS (sMb s (gN (v * 1103515245 + 12345) % σ.1.1.length) 2 (gN (v * 1103515245 + 12345) / 8 % 21))).2.2.2.2 from by omega]
              exact ih (j + 1) _ _ M2 (by omega) V3 (by rw [dayS_len]; exact hl2) ((hF.tr (FQ.put (by omega))).tr (FQ.fn F)) (by omega) (by omega) he
          exact loop a 0 v0 (nuS σ.1) M0 (by omega) (h.1.bec B).cv rfl (FQ.bec B) (by have := h.1.2.1; show σ.1.2.2.1 ≤ _; omega) (Nat.le_refl _) rfl
        · rw [h.1.1.2.2.1, show (1 : Int32) = nI 1 from rfl, nI_leI (by omega) (by omega)] at h29
          refine r_bipush hO dX4_drift_32 bc_m2 ?_
          exact r_ireturn hO hr dX4_drift_34 rfl ⟨sI (show _ = p_drift σ v0 (nI a) w from by unfold p_drift; rw [if_pos ⟨hn, h16⟩, if_pos (by omega)]), h, FCr.rf⟩
      · rw [bI_0] at h16
        refine r_iconst hO dX4_drift_19 ic_m1 ?_
        exact r_ireturn hO hr dX4_drift_20 rfl ⟨sI (show _ = p_drift σ v0 n w from by unfold p_drift; rw [if_neg (ff2 (b := inI w 0 1) h16)]), h, FCr.rf⟩
set_option maxHeartbeats 4000000 in
theorem zX5_drift (l : Launch) {M : Mm} {σ : Sta} (h : RD M σ) {v0 n w : Int32} : Clz l 7 yX5_drift cX5_drift 7 (some .int) [.ref 33, .int v0, .int n, .int w] M (fun r M' => r = some (.int (p_drift σ v0 n w)) ∧ RD M' σ ∧ FDr M M') := by
  refine Clz.on RX5 rfl (by decide +kernel) (Nat.le_of_ble_eq_true rfl) (fun X hL hO hr => ?_)
  show Gz X 0 [.ref 33, .int v0, .int n, .int w, .null, .null, .null] [] M
  refine r_iload_n hO dX5_drift_0 rfl ?_
  refine r_i2l hO dX5_drift_1 ?_
  refine r_lconst hO dX5_drift_2 lc_1 ?_
  refine r_ldc2 hO dX5_drift_3 wRX5_223 ?_
  refine r_fS hO dX5_drift_6 kRX5_56 msX5_in (zX5_inI _ (lo := 1) (hi := 60) (by decide) (by decide)) ⟨Nat.le_of_ble_eq_true rfl, Nat.le_of_ble_eq_true rfl, rfl, Nat.le_of_ble_eq_true rfl⟩ rfl ?_
  refine r_if_eq 19 hO dX5_drift_9 (by decide) (fun h9 => ?_) (fun h9 => ?_)
  · rw [bI_0] at h9
    refine r_iconst hO dX5_drift_19 ic_m1 ?_
    exact r_ireturn hO hr dX5_drift_20 rfl ⟨sI (show _ = p_drift σ v0 n w from by unfold p_drift; rw [if_neg (ff (Q := True) h9)]), h, FDr.rf⟩
  · rw [bI_n0] at h9
    refine r_iload_n hO dX5_drift_12 rfl ?_
    refine r_fS hO dX5_drift_13 kRX5_243 msX5_isPart (zX5_isPart _) ⟨Nat.le_of_ble_eq_true rfl, Nat.le_of_ble_eq_true rfl, rfl, Nat.le_of_ble_eq_true rfl⟩ rfl ?_
    refine r_if_ne 21 hO dX5_drift_16 (by decide) (fun h16 => ?_) (fun h16 => ?_)
    · rw [bI_n0] at h16
      obtain ⟨a, ha, rfl⟩ := in1_n h9
      have hl6 := h.1.1
      refine r_aload_n hO dX5_drift_21 rfl ?_
      refine r_getR 34 hO dX5_drift_22 fRX5_7 rfl ?_
      refine r_bipush hO dX5_drift_25 bc_24 ?_
      refine s_iald 123 hO dX5_drift_27 rfl (Nat.le_of_ble_eq_true rfl) 24 (by decide) (by decide) ?_
      refine r_if_ne 34 hO dX5_drift_28 (by decide) (fun h28 => ?_) (fun h28 => ?_)
      · rw [h.1.2.2.1, ← nI_0, nI_eq (by omega) (by omega)] at h28
        have e : p_drift σ v0 (nI a) w = if w = 0 then nI (drS σ.1.1.length a v0 (nuS σ.1)).2.1 else nI (drS σ.1.1.length a v0 (nuS σ.1)).2.2.2.2 := by unfold p_drift; rw [if_pos ⟨h9, h16⟩, if_neg (by omega), nI_clamp (by omega)]
        refine r_iload_n hO dX5_drift_34 rfl ?_
        refine s_istore hL hO dX5_drift_35 (Nat.le_of_ble_eq_true rfl) rfl ?_
        refine r_aload_n hO dX5_drift_37 rfl ?_
        refine r_callV hO dX5_drift_38 kRX5_196 miX5_starts (zX5_starts _) ⟨Nat.le_of_ble_eq_true rfl, Nat.le_of_ble_eq_true rfl, rfl, Nat.le_of_ble_eq_true rfl⟩ rfl rfl (fun r M0 hpo => ?_)
        obtain ⟨rfl, hst⟩ := hpo
        refine r_iconst hO dX5_drift_41 ic_0 ?_
        refine s_istore hL hO dX5_drift_42 (Nat.le_of_ble_eq_true rfl) rfl ?_
        have loop : ∀ (r j : Nat) (v : Int32) (s : Ns) (M1 : Mm), j + r = a → RV M1 s (-4) σ.1.1.length → s.1.length = σ.1.1.length → FR M M1 → s.2.2.1 ≤ 999 + j → s.2.2.2.2 ≤ j → drS σ.1.1.length r v s = drS σ.1.1.length a v0 (nuS σ.1) → Gz X 44 [.ref 33, .int v0, .int (nI a), .int w, .int v, .int (nI j), .null] [] M1 := by
          intro r
          induction r with
          | zero =>
            intro j v s M1 hjr V hl hF hd hc he
            refine r_iload hO dX5_drift_44 rfl ?_
            refine r_iload_n hO dX5_drift_46 rfl ?_
            refine r_icmp_ge 107 hO dX5_drift_47 (by decide) (fun _ => ?_) (fun z => absurd (nI_le (by omega) (by omega)) z)
            refine r_iload_n hO dX5_drift_107 rfl ?_
            refine r_if_ne 121 hO dX5_drift_108 (by decide) (fun h108 => ?_) (fun h108 => ?_)
            · refine r_aload_n hO dX5_drift_121 rfl ?_
              refine r_getI hO dX5_drift_122 fRX5_128 rfl ?_
              exact r_ireturn hO hr dX5_drift_125 rfl ⟨sI (by rw [e, ← he, if_neg h108]; exact V.rn.1.2.2.2.2.2.2.2.1), h.q hF, hF.fd⟩
            · refine r_aload_n hO dX5_drift_111 rfl ?_
              refine r_getR 35 hO dX5_drift_112 fRX5_13 rfl ?_
              refine r_bipush hO dX5_drift_115 bc_25 ?_
              refine s_iald 41 hO dX5_drift_117 rfl (Nat.le_of_ble_eq_true rfl) 25 (by decide) (by decide) ?_
              refine r_goto 125 hO dX5_drift_118 (by decide) ?_
              exact r_ireturn hO hr dX5_drift_125 rfl ⟨sI (by rw [e, ← he, if_pos h108]; exact V.rn.1.2.2.2.1.1), h.q hF, hF.fd⟩
          | succ r ih =>
            intro j v s M1 hjr V hl hF hd hc he
            obtain ⟨hG, hg⟩ := g_r (v * 1103515245 + 12345)
            have hm0 : gN (v * 1103515245 + 12345) % σ.1.1.length < σ.1.1.length := Nat.mod_lt _ (by omega)
            refine r_iload hO dX5_drift_44 rfl ?_
            refine r_iload_n hO dX5_drift_46 rfl ?_
            refine r_icmp_ge 107 hO dX5_drift_47 (by decide) (fun z => absurd z (nI_ge (by omega) (by omega))) (fun _ => ?_)
            refine r_iload hO dX5_drift_50 rfl ?_
            refine r_ldcw hO dX5_drift_52 wRX5_299 ?_
            refine r_imul hO dX5_drift_55 ?_
            refine r_sipush hO dX5_drift_56 sc_12345 ?_
            refine r_iadd hO dX5_drift_59 ?_
            refine s_istore hL hO dX5_drift_60 (Nat.le_of_ble_eq_true rfl) rfl ?_
            refine r_iload hO dX5_drift_62 rfl ?_
            refine r_bipush hO dX5_drift_64 bc_16 ?_
            refine r_ishr hO dX5_drift_66 ?_
            refine r_sipush hO dX5_drift_67 sc_32767 ?_
            refine r_iand hO dX5_drift_70 ?_
            refine s_istore hL hO dX5_drift_71 (Nat.le_of_ble_eq_true rfl) rfl ?_
            show Gz X 73 [.ref 33, .int v0, .int (nI a), .int w, .int (v * 1103515245 + 12345), .int (nI j), .int (((v * 1103515245 + 12345) >>> ((16 : Int32) &&& 31)) &&& 32767)] [] M1
            rw [hG]
            have hm : M1.1 34 24 = nI σ.1.1.length := by rw [hF 34 24 (by omega) (by omega) (by omega) (by omega) (by omega)]; exact h.1.2.2.1
            refine r_aload_n hO dX5_drift_73 rfl ?_
            refine r_iload hO dX5_drift_74 rfl ?_
            refine r_aload_n hO dX5_drift_76 rfl ?_
            refine r_getR 34 hO dX5_drift_77 fRX5_7 rfl ?_
            refine r_bipush hO dX5_drift_80 bc_24 ?_
            refine s_iald 123 hO dX5_drift_82 rfl (Nat.le_of_ble_eq_true rfl) 24 (by decide) (by decide) ?_
            refine r_irem hO dX5_drift_83 (by rw [hm]; exact nI_ne0 (by omega) (by omega)) ?_
            refine r_iconst hO dX5_drift_84 ic_2 ?_
            refine r_iload hO dX5_drift_85 rfl ?_
            refine r_bipush hO dX5_drift_87 bc_8 ?_
            refine r_idiv hO dX5_drift_89 (by decide) ?_
            refine r_bipush hO dX5_drift_90 bc_21 ?_
            refine r_irem hO dX5_drift_92 (by decide) ?_
            refine r_fV hO dX5_drift_93 kRX5_178 miX5_becomesOf (zX5_becomesOf _ (gN (v * 1103515245 + 12345) % σ.1.1.length) 2 (by rw [hm]; exact pk_rem (by omega) (by omega) (by omega)) rfl (by omega)) ⟨Nat.le_of_ble_eq_true rfl, Nat.le_of_ble_eq_true rfl, rfl, Nat.le_of_ble_eq_true rfl⟩ rfl rfl ?_
            rw [g_v hg]
            have V2 := V.mb (k := 2) (v := gN (v * 1103515245 + 12345) / 8 % 21) (show gN (v * 1103515245 + 12345) % σ.1.1.length < s.1.length by omega) (by decide) (by show _ ≤ 20; omega)
            have hl2 : (sMb s (gN (v * 1103515245 + 12345) % σ.1.1.length) 2 (gN (v * 1103515245 + 12345) / 8 % 21)).1.length = σ.1.1.length := by rw [sMb_len]; exact hl
            refine r_aload_n hO dX5_drift_96 rfl ?_
            refine r_iconst hO dX5_drift_97 ic_0 ?_
            refine r_callV hO dX5_drift_98 kRX5_192 miX5_dayGoes (zX5_dayGoes _ V2 false rfl (by show s.2.2.1 < 100000; omega) (by show s.2.2.2.2 < 100000; omega)) ⟨Nat.le_of_ble_eq_true rfl, Nat.le_of_ble_eq_true rfl, rfl, Nat.le_of_ble_eq_true rfl⟩ rfl rfl (fun q M2 hpo => ?_)
            obtain ⟨rfl, F, V3⟩ := hpo
            rw [if_neg (by decide)] at V3
            have c1 := dayS_ch (sMb s (gN (v * 1103515245 + 12345) % σ.1.1.length) 2 (gN (v * 1103515245 + 12345) / 8 % 21))
            have c3 := dayS_day (sMb s (gN (v * 1103515245 + 12345) % σ.1.1.length) 2 (gN (v * 1103515245 + 12345) / 8 % 21))
            have c4 : (sMb s (gN (v * 1103515245 + 12345) % σ.1.1.length) 2 (gN (v * 1103515245 + 12345) / 8 % 21)).2.2.2.2 = s.2.2.2.2 := rfl
            have c5 : (sMb s (gN (v * 1103515245 + 12345) % σ.1.1.length) 2 (gN (v * 1103515245 + 12345) / 8 % 21)).2.2.1 = s.2.2.1 := rfl
            refine s_iinc hL hO dX5_drift_101 rfl ic_1 (Nat.le_of_ble_eq_true rfl) rfl ?_
            refine r_goto 44 hO dX5_drift_104 (by decide) ?_
            refine r_null 6 ?_
            show Gz X 44 [.ref 33, .int v0, .int (nI a), .int w, .int (v * 1103515245 + 12345), .int (nI j + 1), .null] [] M2
            rw [nI_1]
            exact ih (j + 1) _ _ M2 (by omega) V3 (by rw [dayS_len]; exact hl2) ((hF.tr (FR.put (Or.inl rfl))).tr (FR.f35 F)) (by omega) (by omega) he
        exact loop a 0 v0 (nuS σ.1) M0 (by omega) (h.1.rv hst) rfl (FR.st hst) (by have := h.1.2.2.2.2.1.2; show σ.1.2.2.1 ≤ _; omega) (Nat.le_refl _) rfl
      · rw [h.1.2.2.1, ← nI_0, nI_eq (by omega) (by omega)] at h28
        refine r_bipush hO dX5_drift_31 bc_m2 ?_
        exact r_ireturn hO hr dX5_drift_33 rfl ⟨sI (show _ = p_drift σ v0 (nI a) w from by unfold p_drift; rw [if_pos ⟨h9, h16⟩, if_pos (by omega)]), h, FDr.rf⟩
    · rw [bI_0] at h16
      refine r_iconst hO dX5_drift_19 ic_m1 ?_
      exact r_ireturn hO hr dX5_drift_20 rfl ⟨sI (show _ = p_drift σ v0 n w from by unfold p_drift; rw [if_neg (ff2 h16)]), h, FDr.rf⟩
