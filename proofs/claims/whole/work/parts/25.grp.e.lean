/-! days, runs, ahead, carries -/
theorem dayS_len (s : Ns) : (dayS s).1.length = s.1.length := by
  unfold dayS
  split
  · rfl
  · simp
theorem runS_len : ∀ (k : Nat) (s : Ns), (runS k s).1.length = s.1.length := by
  intro k
  induction k with
  | zero => intro s; rfl
  | succ k ih => intro s; show (runS k (dayS s)).1.length = _; rw [ih, dayS_len]
def nuR (u : Nu) (k : Nat) : Nu := ((runS k (nuS u)).1, (runS k (nuS u)).2.1, (runS k (nuS u)).2.2.1, (runS k (nuS u)).2.2.2.1, u.2.2.2.2)
theorem CU.days {M M' : Mm} {p : Nat} {u : Nu} {k : Nat} (h : CU M p u) (F : FN p M M') (V : CV M' p (runS k (nuS u))) (hd : u.2.2.1 + k ≤ 999) : CU M' p (nuR u k) := by
  obtain ⟨h1, h2, h3, h4, h5⟩ := h
  refine ⟨V, by show (runS k (nuS u)).2.2.1 ≤ 999; rw [runS_day]; exact hd, by rw [F.1 p 7 (by omega) (by omega)]; exact h3, h4, h5.eq h4 (fun j _ => F.1 _ j (by omega) (by omega)) (fun j _ => F.1 _ j (by omega) (by omega))⟩
theorem RU.days {M M1 M2 M3 : Mm} {u : Nu} {k : Nat} (h : RU (M.1 34) u) (s : StR M M1) (F : F35 M1 M2) (V : RV M2 (runS k (nuS u)) (-4) u.1.length) (e : SeR M2 M3) (hd : u.2.2.1 + k ≤ 999) : RU (M3.1 34) (nuR u k) := by
  obtain ⟨⟨r1, r2, r3, r4, r5, r6, r7, r8⟩, hl⟩ := V.rn
  obtain ⟨h1, h2, h3, h4, h5, h6, h7, h8⟩ := h
  have far : ∀ j, 28 ≤ j → j < 41 → M3.1 34 j = M.1 34 j := fun j h1 h2 => by rw [e.2.2 j h2, F.1 35 j (Or.inr h1) (by omega), s.2.2.1 j h2]
  refine ⟨r1, r2.eq r1 (fun j hj => e.2.2 j (by omega)), by rw [e.2.2 _ (by omega)]; exact r3, ⟨by rw [e.2.2 _ (by omega)]; exact r4.1, r4.2⟩, ⟨by rw [e.2.2 _ (by omega)]; exact r5.1, by show (runS k (nuS u)).2.2.1 ≤ 999; rw [runS_day]; exact hd⟩, ⟨by rw [e.2.2 _ (by omega)]; exact r6.1, r6.2⟩, ⟨by rw [far _ (by omega) (by omega)]; exact h7.1, h7.2⟩, h8.eq h7.2 (fun j hj => far _ (by omega) (by omega)) (fun j hj => far _ (by omega) (by omega))⟩
def p_days (σ : Sta) (n : Int32) : Int32 × Sta := if inI n 0 30 = true then (if σ.1.2.2.1 + n.toNatClampNeg ≤ 999 then (nI (runS n.toNatClampNeg (nuS σ.1)).2.2.2.2, nuR σ.1 n.toNatClampNeg, σ.2) else (-3, σ)) else (-1, σ)
def p_runs (σ : Sta) (n w : Int32) : Int32 := if inI n 0 60 = true ∧ inI w 0 4 = true then tabI w 4 [nI (runS n.toNatClampNeg (nuS σ.1)).2.1, nI (runS n.toNatClampNeg (nuS σ.1)).2.2.2.2, bI (car (runS n.toNatClampNeg (nuS σ.1)).2.1 (runS n.toNatClampNeg (nuS σ.1)).1), nI (sumK 3 (runS n.toNatClampNeg (nuS σ.1)).1), bI (agr 0 (runS n.toNatClampNeg (nuS σ.1)).2.1 (runS n.toNatClampNeg (nuS σ.1)).1) + 2 * bI (agr 1 (runS n.toNatClampNeg (nuS σ.1)).2.1 (runS n.toNatClampNeg (nuS σ.1)).1)] else -1
def p_ahead (σ : Sta) (i n : Int32) : Int32 := if inI i 0 (nI σ.1.1.length - 1) = true ∧ inI n 0 60 = true then nI (fld 3 ((runS n.toNatClampNeg (nuS σ.1)).1.getD i.toNatClampNeg (0, 0, 0, 0))) else -1
def p_carries (σ : Sta) : Int32 := dtI 0 (dtS 61 (nuS σ.1))
theorem dtS_lt : ∀ (f : Nat) (s : Ns) (k : Nat), dtS f s = some k → k < f := by
  intro f
  induction f with
  | zero => intro s k h; cases h
  | succ f ih =>
    intro s k h
    unfold dtS at h
    split at h
    · cases h; omega
    · cases hd : dtS f (dayS s) with
      | none => rw [hd] at h; cases h
      | some j => rw [hd] at h; cases h; have := ih _ _ hd; show j + 1 < f + 1; omega
set_option maxHeartbeats 4000000 in
theorem zX4_days (l : Launch) {M : Mm} {σ : Sta} (h : RC M σ) {n : Int32} : Clz l 5 yX4_days cX4_days 2 (some .int) [.ref 0, .int n] M (fun r M' => r = some (.int (p_days σ n).1) ∧ RC M' (p_days σ n).2 ∧ FCr M M') := by
  refine Clz.on RX4 rfl (by decide +kernel) (Nat.le_of_ble_eq_true rfl) (fun X hL hO hr => ?_)
  show Gz X 0 [.ref 0, .int n] [] M
  refine r_iload_n hO dX4_days_0 rfl ?_
  refine r_bipush hO dX4_days_1 bc_30 ?_
  refine r_fS hO dX4_days_3 kRX4_62 msX4_within (zX4_within _) ⟨Nat.le_of_ble_eq_true rfl, Nat.le_of_ble_eq_true rfl, rfl, Nat.le_of_ble_eq_true rfl⟩ rfl ?_
  refine r_if_ne 11 hO dX4_days_6 (by decide) (fun h6 => ?_) (fun h6 => ?_)
  · rw [bI_n0] at h6
    have h6 : inI n 0 30 = true := h6
    obtain ⟨a, ha, rfl⟩ := inI_nat (n := 30) (by decide) h6
    have hd := h.1.2.1
    refine r_aload_n hO dX4_days_11 rfl ?_
    refine r_getR 4 hO dX4_days_12 fRX4_26 rfl ?_
    refine r_getI hO dX4_days_15 fRX4_87 rfl ?_
    refine r_iload_n hO dX4_days_18 rfl ?_
    refine r_iadd hO dX4_days_19 ?_
    refine r_sipush hO dX4_days_20 sc_999 ?_
    refine r_icmp_le 29 hO dX4_days_23 (by decide) (fun h23 => ?_) (fun h23 => ?_)
    · rw [h.1.1.2.2.2.2.1.1, nI_add, show (999 : Int32) = nI 999 from rfl, nI_leI (by omega) (by decide)] at h23
      refine r_aload_n hO dX4_days_29 rfl ?_
      refine r_getR 4 hO dX4_days_30 fRX4_26 rfl ?_
      refine r_iload_n hO dX4_days_33 rfl ?_
      refine r_callV hO dX4_days_34 kRX4_148 miX0_passDays (zX0_passDays _ (show nuP 4 from Or.inl rfl) h.1.cv rfl a rfl (by omega) (by show σ.1.2.2.1 + a ≤ 100000; omega)) ⟨Nat.le_of_ble_eq_true rfl, Nat.le_of_ble_eq_true rfl, rfl, Nat.le_of_ble_eq_true rfl⟩ rfl rfl (fun r M1 hpo => ?_)
      obtain ⟨rfl, F, V⟩ := hpo
      have e : p_days σ (nI a) = (nI (runS a (nuS σ.1)).2.2.2.2, nuR σ.1 a, σ.2) := by unfold p_days; rw [if_pos h6, nI_clamp (by omega), if_pos h23]
      exact r_ireturn hO hr dX4_days_37 rfl ⟨by rw [e], by rw [e]; exact h.nut (fun b j h1 _ => F.1 b j (by omega) (by omega)) (h.1.days F V h23), ⟨fun b j hb => F.1 b j (by omega) (by omega), F.2⟩⟩
    · rw [h.1.1.2.2.2.2.1.1, nI_add, show (999 : Int32) = nI 999 from rfl, nI_leI (by omega) (by decide)] at h23
      refine r_bipush hO dX4_days_26 bc_m3 ?_
      have e : p_days σ (nI a) = (-3, σ) := by unfold p_days; rw [if_pos h6, nI_clamp (by omega), if_neg h23]
      exact r_ireturn hO hr dX4_days_28 rfl ⟨by rw [e], by rw [e]; exact h, FCr.rf⟩
  · rw [bI_0] at h6
    refine r_iconst hO dX4_days_9 ic_m1 ?_
    have e : p_days σ n = (-1, σ) := if_neg (by rw [show inI n 0 30 = false from h6]; decide)
    exact r_ireturn hO hr dX4_days_10 rfl ⟨by rw [e], by rw [e]; exact h, FCr.rf⟩
set_option maxHeartbeats 4000000 in
theorem zX5_days (l : Launch) {M : Mm} {σ : Sta} (h : RD M σ) {n : Int32} : Clz l 8 yX5_days cX5_days 2 (some .int) [.ref 33, .int n] M (fun r M' => r = some (.int (p_days σ n).1) ∧ RD M' (p_days σ n).2 ∧ FDr M M') := by
  refine Clz.on RX5 rfl (by decide +kernel) (Nat.le_of_ble_eq_true rfl) (fun X hL hO hr => ?_)
  show Gz X 0 [.ref 33, .int n] [] M
  refine r_iload_n hO dX5_days_0 rfl ?_
  refine r_i2l hO dX5_days_1 ?_
  refine r_lconst hO dX5_days_2 lc_0 ?_
  refine r_ldc2 hO dX5_days_3 wRX5_215 ?_
  refine r_fS hO dX5_days_6 kRX5_56 msX5_in (zX5_inI _ (lo := 0) (hi := 30) (by decide) (by decide)) ⟨Nat.le_of_ble_eq_true rfl, Nat.le_of_ble_eq_true rfl, rfl, Nat.le_of_ble_eq_true rfl⟩ rfl ?_
  refine r_if_ne 14 hO dX5_days_9 (by decide) (fun h9 => ?_) (fun h9 => ?_)
  · rw [bI_n0] at h9
    obtain ⟨a, ha, rfl⟩ := inI_nat (n := 30) (by decide) h9
    have hd := h.1.2.2.2.2.1.2
    refine r_aload_n hO dX5_days_14 rfl ?_
    refine r_getR 34 hO dX5_days_15 fRX5_7 rfl ?_
    refine r_bipush hO dX5_days_18 bc_26 ?_
    refine s_iald 123 hO dX5_days_20 rfl (Nat.le_of_ble_eq_true rfl) 26 (by decide) (by decide) ?_
    refine r_iload_n hO dX5_days_21 rfl ?_
    refine r_iadd hO dX5_days_22 ?_
    refine r_sipush hO dX5_days_23 sc_999 ?_
    refine r_icmp_le 32 hO dX5_days_26 (by decide) (fun h26 => ?_) (fun h26 => ?_)
    · rw [h.1.2.2.2.2.1.1, nI_add, show (999 : Int32) = nI 999 from rfl, nI_leI (by omega) (by decide)] at h26
      refine r_aload_n hO dX5_days_32 rfl ?_
      refine r_callV hO dX5_days_33 kRX5_196 miX5_starts (zX5_starts _) ⟨Nat.le_of_ble_eq_true rfl, Nat.le_of_ble_eq_true rfl, rfl, Nat.le_of_ble_eq_true rfl⟩ rfl rfl (fun r M1 hpo => ?_)
      obtain ⟨rfl, hst⟩ := hpo
      refine r_aload_n hO dX5_days_36 rfl ?_
      refine r_iload_n hO dX5_days_37 rfl ?_
      refine r_callV hO dX5_days_38 kRX5_217 miX5_daysGo (zX5_daysGo _ (h.1.rv hst) a rfl (by omega) (by show σ.1.2.2.1 + a ≤ 100000; omega) (by show 0 + a ≤ 100000; omega)) ⟨Nat.le_of_ble_eq_true rfl, Nat.le_of_ble_eq_true rfl, rfl, Nat.le_of_ble_eq_true rfl⟩ rfl rfl (fun r M2 hpo => ?_)
      obtain ⟨rfl, F, V⟩ := hpo
      refine r_aload_n hO dX5_days_41 rfl ?_
      refine r_callV hO dX5_days_42 kRX5_220 miX5_settles (zX5_settles _) ⟨Nat.le_of_ble_eq_true rfl, Nat.le_of_ble_eq_true rfl, rfl, Nat.le_of_ble_eq_true rfl⟩ rfl rfl (fun r M3 hpo => ?_)
      obtain ⟨rfl, E⟩ := hpo
      have e : p_days σ (nI a) = (nI (runS a (nuS σ.1)).2.2.2.2, nuR σ.1 a, σ.2) := by unfold p_days; rw [if_pos h9, nI_clamp (by omega), if_pos h26]
      refine r_aload_n hO dX5_days_45 rfl ?_
      refine r_getI hO dX5_days_46 fRX5_128 rfl ?_
      exact r_ireturn hO hr dX5_days_49 rfl ⟨by rw [e]; exact sI (by rw [E.1 _ _ (by decide)]; exact V.rn.1.2.2.2.2.2.2.2.1), by rw [e]; exact h.nut (fun b j h1 h2 h3 h4 h5 h6 h7 h8 => by rw [E.1 b j (by omega), F.1 b j (Or.inl h1) (by omega), hst.1 b j h1 (by omega)]) (h.1.days hst F V E h26), fun b j hb => by rw [E.1 b j (by omega), F.1 b j (by omega) (by omega), hst.1 b j (by omega) (by omega)]⟩
    · rw [h.1.2.2.2.2.1.1, nI_add, show (999 : Int32) = nI 999 from rfl, nI_leI (by omega) (by decide)] at h26
      refine r_bipush hO dX5_days_29 bc_m3 ?_
      have e : p_days σ (nI a) = (-3, σ) := by unfold p_days; rw [if_pos h9, nI_clamp (by omega), if_neg h26]
      exact r_ireturn hO hr dX5_days_31 rfl ⟨by rw [e], by rw [e]; exact h, FDr.rf⟩
  · rw [bI_0] at h9
    refine r_iconst hO dX5_days_12 ic_m1 ?_
    have e : p_days σ n = (-1, σ) := if_neg (by rw [h9]; decide)
    exact r_ireturn hO hr dX5_days_13 rfl ⟨by rw [e], by rw [e]; exact h, FDr.rf⟩
set_option maxHeartbeats 4000000 in
theorem zX4_runs (l : Launch) {M : Mm} {σ : Sta} (h : RC M σ) {n w : Int32} : Clz l 5 yX4_runs cX4_runs 4 (some .int) [.ref 0, .int n, .int w] M (fun r M' => r = some (.int (p_runs σ n w)) ∧ RC M' σ ∧ FCr M M') := by
  refine Clz.on RX4 rfl (by decide +kernel) (Nat.le_of_ble_eq_true rfl) (fun X hL hO hr => ?_)
  show Gz X 0 [.ref 0, .int n, .int w, .null] [] M
  refine r_iload_n hO dX4_runs_0 rfl ?_
  refine r_bipush hO dX4_runs_1 bc_60 ?_
  refine r_fS hO dX4_runs_3 kRX4_62 msX4_within (zX4_within _) ⟨Nat.le_of_ble_eq_true rfl, Nat.le_of_ble_eq_true rfl, rfl, Nat.le_of_ble_eq_true rfl⟩ rfl ?_
  refine r_if_eq 17 hO dX4_runs_6 (by decide) (fun h6 => ?_) (fun h6 => ?_)
  · rw [bI_0] at h6
    refine r_iconst hO dX4_runs_17 ic_m1 ?_
    exact r_ireturn hO hr dX4_runs_18 rfl ⟨sI (show _ = p_runs σ n w from by unfold p_runs; rw [if_neg (ff (Q := True) (b := inI n 0 60) h6)]), h, FCr.rf⟩
  · rw [bI_n0] at h6
    refine r_iload_n hO dX4_runs_9 rfl ?_
    refine r_iconst hO dX4_runs_10 ic_4 ?_
    refine r_fS hO dX4_runs_11 kRX4_62 msX4_within (zX4_within _) ⟨Nat.le_of_ble_eq_true rfl, Nat.le_of_ble_eq_true rfl, rfl, Nat.le_of_ble_eq_true rfl⟩ rfl ?_
    refine r_if_ne 19 hO dX4_runs_14 (by decide) (fun h14 => ?_) (fun h14 => ?_)
    · rw [bI_n0] at h14
      have h6 : inI n 0 60 = true := h6
      have h14 : inI w 0 4 = true := h14
      obtain ⟨a, ha, rfl⟩ := inI_nat (n := 60) (by decide) h6
      have e : p_runs σ (nI a) w = tabI w 4 [nI (runS a (nuS σ.1)).2.1, nI (runS a (nuS σ.1)).2.2.2.2, bI (car (runS a (nuS σ.1)).2.1 (runS a (nuS σ.1)).1), nI (sumK 3 (runS a (nuS σ.1)).1), bI (agr 0 (runS a (nuS σ.1)).2.1 (runS a (nuS σ.1)).1) + 2 * bI (agr 1 (runS a (nuS σ.1)).2.1 (runS a (nuS σ.1)).1)] := by unfold p_runs; rw [if_pos ⟨h6, h14⟩, nI_clamp (by omega)]
      refine r_aload_n hO dX4_runs_19 rfl ?_
      refine r_getR 8 hO dX4_runs_20 fRX4_30 rfl ?_
      refine r_aload_n hO dX4_runs_23 rfl ?_
      refine r_getR 4 hO dX4_runs_24 fRX4_26 rfl ?_
      refine r_callV hO dX4_runs_27 kRX4_80 miX0_become (zX0_become _ (show nuP 8 from Or.inr (Or.inl rfl)) (show nuP 4 from Or.inl rfl) (by decide)) ⟨Nat.le_of_ble_eq_true rfl, Nat.le_of_ble_eq_true rfl, rfl, Nat.le_of_ble_eq_true rfl⟩ rfl rfl (fun r M1 hpo => ?_)
      obtain ⟨rfl, B⟩ := hpo
      refine r_aload_n hO dX4_runs_30 rfl ?_
      refine r_getR 8 hO dX4_runs_31 fRX4_30 rfl ?_
      refine r_iload_n hO dX4_runs_34 rfl ?_
      refine r_callV hO dX4_runs_35 kRX4_148 miX0_passDays (zX0_passDays _ (show nuP 8 from Or.inr (Or.inl rfl)) (h.1.bec B).cv rfl a rfl (by omega) (by have := h.1.2.1; show σ.1.2.2.1 + a ≤ 100000; omega)) ⟨Nat.le_of_ble_eq_true rfl, Nat.le_of_ble_eq_true rfl, rfl, Nat.le_of_ble_eq_true rfl⟩ rfl rfl (fun r M2 hpo => ?_)
      obtain ⟨rfl, F, V⟩ := hpo
      refine s_istore_n hL hO dX4_runs_38 (Nat.le_of_ble_eq_true rfl) rfl ?_
      refine r_iload_n hO dX4_runs_39 rfl ?_
      rcases sw_0_3 (w) with sw40 | sw40 | sw40 | sw40 | sw40
      · refine r_tabIn 72 hO dX4_runs_40 (by rw [sw40]; decide) (by rw [sw40]; decide) (by rw [sw40]; rfl) (by decide) ?_
        refine r_aload_n hO dX4_runs_72 rfl ?_
        refine r_getR 8 hO dX4_runs_73 fRX4_30 rfl ?_
        refine r_getI hO dX4_runs_76 fRX4_90 rfl ?_
        exact r_ireturn hO hr dX4_runs_79 rfl ⟨sI (by rw [e, tab_at 0 4 _ (show _ = nI 0 from sw40) (by decide) (by decide)]; exact V.2.2.2.1.1), h.q ((FQ.bec B).tr (FQ.fn F)), ((FQ.bec B).tr (FQ.fn F)).fc⟩
      · refine r_tabIn 80 hO dX4_runs_40 (by rw [sw40]; decide) (by rw [sw40]; decide) (by rw [sw40]; rfl) (by decide) ?_
        refine r_iload_n hO dX4_runs_80 rfl ?_
        exact r_ireturn hO hr dX4_runs_81 rfl ⟨sI (by rw [e, tab_at 1 4 _ (show _ = nI 1 from sw40) (by decide) (by decide)]; exact rfl), h.q ((FQ.bec B).tr (FQ.fn F)), ((FQ.bec B).tr (FQ.fn F)).fc⟩
      · refine r_tabIn 82 hO dX4_runs_40 (by rw [sw40]; decide) (by rw [sw40]; decide) (by rw [sw40]; rfl) (by decide) ?_
        refine r_aload_n hO dX4_runs_82 rfl ?_
        refine r_getR 8 hO dX4_runs_83 fRX4_30 rfl ?_
        refine r_fV hO dX4_runs_86 kRX4_93 miX0_isCarried (zX0_isCarried _ (show nuP 8 from Or.inr (Or.inl rfl)) V) ⟨Nat.le_of_ble_eq_true rfl, Nat.le_of_ble_eq_true rfl, rfl, Nat.le_of_ble_eq_true rfl⟩ rfl rfl ?_
        refine r_fS hO dX4_runs_89 kRX4_97 msX4_bit (zX4_bit _ (car (runS a (nuS σ.1)).2.1 (runS a (nuS σ.1)).1) rfl) ⟨Nat.le_of_ble_eq_true rfl, Nat.le_of_ble_eq_true rfl, rfl, Nat.le_of_ble_eq_true rfl⟩ rfl ?_
        exact r_ireturn hO hr dX4_runs_92 rfl ⟨sI (by rw [e, tab_at 2 4 _ (show _ = nI 2 from sw40) (by decide) (by decide)]; exact rfl), h.q ((FQ.bec B).tr (FQ.fn F)), ((FQ.bec B).tr (FQ.fn F)).fc⟩
      · refine r_tabIn 93 hO dX4_runs_40 (by rw [sw40]; decide) (by rw [sw40]; decide) (by rw [sw40]; rfl) (by decide) ?_
        refine r_aload_n hO dX4_runs_93 rfl ?_
        refine r_getR 8 hO dX4_runs_94 fRX4_30 rfl ?_
        refine r_iconst hO dX4_runs_97 ic_3 ?_
        refine r_fV hO dX4_runs_98 kRX4_151 miX0_sumOf (zX0_sumOf _ (show nuP 8 from Or.inr (Or.inl rfl)) V 3 rfl (by decide)) ⟨Nat.le_of_ble_eq_true rfl, Nat.le_of_ble_eq_true rfl, rfl, Nat.le_of_ble_eq_true rfl⟩ rfl rfl ?_
        exact r_ireturn hO hr dX4_runs_101 rfl ⟨sI (by rw [e, tab_at 3 4 _ (show _ = nI 3 from sw40) (by decide) (by decide)]; exact rfl), h.q ((FQ.bec B).tr (FQ.fn F)), ((FQ.bec B).tr (FQ.fn F)).fc⟩
      · have hw4 : w = nI 4 := by
          obtain ⟨k, hk, rfl⟩ := inI_nat (n := 4) (by decide) (show inI w 0 4 = true from h14)
          have := nI_toInt (n := k) (by omega)
          congr 1
          omega
        refine r_tabOut 102 hO dX4_runs_40 sw40 (by decide) ?_
        refine r_aload_n hO dX4_runs_102 rfl ?_
        refine r_getR 8 hO dX4_runs_103 fRX4_30 rfl ?_
        refine r_fV hO dX4_runs_106 kRX4_101 miX0_agreeingHouses (zX0_agreeingHouses _ (show nuP 8 from Or.inr (Or.inl rfl)) V) ⟨Nat.le_of_ble_eq_true rfl, Nat.le_of_ble_eq_true rfl, rfl, Nat.le_of_ble_eq_true rfl⟩ rfl rfl ?_
        exact r_ireturn hO hr dX4_runs_109 rfl ⟨sI (by rw [e, tab_at 4 4 _ hw4 (by decide) (by decide)]; rfl), h.q ((FQ.bec B).tr (FQ.fn F)), ((FQ.bec B).tr (FQ.fn F)).fc⟩
    · rw [bI_0] at h14
      refine r_iconst hO dX4_runs_17 ic_m1 ?_
      exact r_ireturn hO hr dX4_runs_18 rfl ⟨sI (show _ = p_runs σ n w from by unfold p_runs; rw [if_neg (ff2 (b := inI w 0 4) h14)]), h, FCr.rf⟩
set_option maxHeartbeats 4000000 in
theorem zX5_runs (l : Launch) {M : Mm} {σ : Sta} (h : RD M σ) {n w : Int32} : Clz l 8 yX5_runs cX5_runs 3 (some .int) [.ref 33, .int n, .int w] M (fun r M' => r = some (.int (p_runs σ n w)) ∧ RD M' σ ∧ FDr M M') := by
  refine Clz.on RX5 rfl (by decide +kernel) (Nat.le_of_ble_eq_true rfl) (fun X hL hO hr => ?_)
  show Gz X 0 [.ref 33, .int n, .int w] [] M
  refine r_iload_n hO dX5_runs_0 rfl ?_
  refine r_fS hO dX5_runs_1 kRX5_225 msX5_isFar (zX5_isFar _) ⟨Nat.le_of_ble_eq_true rfl, Nat.le_of_ble_eq_true rfl, rfl, Nat.le_of_ble_eq_true rfl⟩ rfl ?_
  refine r_if_eq 19 hO dX5_runs_4 (by decide) (fun h4 => ?_) (fun h4 => ?_)
  · rw [bI_0] at h4
    refine r_iconst hO dX5_runs_19 ic_m1 ?_
    exact r_ireturn hO hr dX5_runs_20 rfl ⟨sI (show _ = p_runs σ n w from by unfold p_runs; rw [if_neg (ff (Q := True) h4)]), h, FDr.rf⟩
  · rw [bI_n0] at h4
    refine r_iload_n hO dX5_runs_7 rfl ?_
    refine r_i2l hO dX5_runs_8 ?_
    refine r_lconst hO dX5_runs_9 lc_0 ?_
    refine r_ldc2 hO dX5_runs_10 wRX5_228 ?_
    refine r_fS hO dX5_runs_13 kRX5_56 msX5_in (zX5_inI _ (lo := 0) (hi := 4) (by decide) (by decide)) ⟨Nat.le_of_ble_eq_true rfl, Nat.le_of_ble_eq_true rfl, rfl, Nat.le_of_ble_eq_true rfl⟩ rfl ?_
    refine r_if_ne 21 hO dX5_runs_16 (by decide) (fun h16 => ?_) (fun h16 => ?_)
    · rw [bI_n0] at h16
      obtain ⟨a, ha, rfl⟩ := inI_nat (n := 60) (by decide) h4
      have e : p_runs σ (nI a) w = tabI w 4 [nI (runS a (nuS σ.1)).2.1, nI (runS a (nuS σ.1)).2.2.2.2, bI (car (runS a (nuS σ.1)).2.1 (runS a (nuS σ.1)).1), nI (sumK 3 (runS a (nuS σ.1)).1), bI (agr 0 (runS a (nuS σ.1)).2.1 (runS a (nuS σ.1)).1) + 2 * bI (agr 1 (runS a (nuS σ.1)).2.1 (runS a (nuS σ.1)).1)] := by unfold p_runs; rw [if_pos ⟨h4, h16⟩, nI_clamp (by omega)]
      refine r_aload_n hO dX5_runs_21 rfl ?_
      refine r_callV hO dX5_runs_22 kRX5_196 miX5_starts (zX5_starts _) ⟨Nat.le_of_ble_eq_true rfl, Nat.le_of_ble_eq_true rfl, rfl, Nat.le_of_ble_eq_true rfl⟩ rfl rfl (fun r M1 hpo => ?_)
      obtain ⟨rfl, hst⟩ := hpo
      refine r_aload_n hO dX5_runs_25 rfl ?_
      refine r_iload_n hO dX5_runs_26 rfl ?_
      refine r_callV hO dX5_runs_27 kRX5_217 miX5_daysGo (zX5_daysGo _ (h.1.rv hst) a rfl (by omega) (by have := h.1.2.2.2.2.1.2; show σ.1.2.2.1 + a ≤ 100000; omega) (by show 0 + a ≤ 100000; omega)) ⟨Nat.le_of_ble_eq_true rfl, Nat.le_of_ble_eq_true rfl, rfl, Nat.le_of_ble_eq_true rfl⟩ rfl rfl (fun r M2 hpo => ?_)
      obtain ⟨rfl, F, V⟩ := hpo
      obtain ⟨R, hl⟩ := V.rn
      have hac : act (-4) 0 (runS a (nuS σ.1)).1 = (runS a (nuS σ.1)).1 := act_none _ 0 (by have := R.1; omega)
      refine r_iload_n hO dX5_runs_30 rfl ?_
      rcases sw_0_3 (w) with sw31 | sw31 | sw31 | sw31 | sw31
      · refine r_tabIn 60 hO dX5_runs_31 (by rw [sw31]; decide) (by rw [sw31]; decide) (by rw [sw31]; rfl) (by decide) ?_
        refine r_aload_n hO dX5_runs_60 rfl ?_
        refine r_getR 35 hO dX5_runs_61 fRX5_13 rfl ?_
        refine r_bipush hO dX5_runs_64 bc_25 ?_
        refine s_iald 41 hO dX5_runs_66 rfl (Nat.le_of_ble_eq_true rfl) 25 (by decide) (by decide) ?_
        exact r_ireturn hO hr dX5_runs_67 rfl ⟨sI (by rw [e, tab_at 0 4 _ (show _ = nI 0 from sw31) (by decide) (by decide)]; exact R.2.2.2.1.1), h.q ((FR.st hst).tr (FR.f35 F)), ((FR.st hst).tr (FR.f35 F)).fd⟩
      · refine r_tabIn 68 hO dX5_runs_31 (by rw [sw31]; decide) (by rw [sw31]; decide) (by rw [sw31]; rfl) (by decide) ?_
        refine r_aload_n hO dX5_runs_68 rfl ?_
        refine r_getI hO dX5_runs_69 fRX5_128 rfl ?_
        exact r_ireturn hO hr dX5_runs_72 rfl ⟨sI (by rw [e, tab_at 1 4 _ (show _ = nI 1 from sw31) (by decide) (by decide)]; exact R.2.2.2.2.2.2.2.1), h.q ((FR.st hst).tr (FR.f35 F)), ((FR.st hst).tr (FR.f35 F)).fd⟩
      · refine r_tabIn 73 hO dX5_runs_31 (by rw [sw31]; decide) (by rw [sw31]; decide) (by rw [sw31]; rfl) (by decide) ?_
        refine r_aload_n hO dX5_runs_73 rfl ?_
        refine r_fV hO dX5_runs_74 kRX5_185 miX5_isCarried (zX5_isCarried _ R) ⟨Nat.le_of_ble_eq_true rfl, Nat.le_of_ble_eq_true rfl, rfl, Nat.le_of_ble_eq_true rfl⟩ rfl rfl ?_
        refine r_fS hO dX5_runs_77 kRX5_153 msX5_flag (zX5_flag _ (car (runS a (nuS σ.1)).2.1 (act (-4) 0 (runS a (nuS σ.1)).1)) rfl) ⟨Nat.le_of_ble_eq_true rfl, Nat.le_of_ble_eq_true rfl, rfl, Nat.le_of_ble_eq_true rfl⟩ rfl ?_
        exact r_ireturn hO hr dX5_runs_80 rfl ⟨sI (by rw [e, tab_at 2 4 _ (show _ = nI 2 from sw31) (by decide) (by decide)]; exact (by rw [hac]; rfl)), h.q ((FR.st hst).tr (FR.f35 F)), ((FR.st hst).tr (FR.f35 F)).fd⟩
      · refine r_tabIn 81 hO dX5_runs_31 (by rw [sw31]; decide) (by rw [sw31]; decide) (by rw [sw31]; rfl) (by decide) ?_
        refine r_aload_n hO dX5_runs_81 rfl ?_
        refine r_iconst hO dX5_runs_82 ic_3 ?_
        refine r_fV hO dX5_runs_83 kRX5_230 miX5_sumOf (zX5_sumOf _ R 3 rfl (by decide)) ⟨Nat.le_of_ble_eq_true rfl, Nat.le_of_ble_eq_true rfl, rfl, Nat.le_of_ble_eq_true rfl⟩ rfl rfl ?_
        exact r_ireturn hO hr dX5_runs_86 rfl ⟨sI (by rw [e, tab_at 3 4 _ (show _ = nI 3 from sw31) (by decide) (by decide)]; exact rfl), h.q ((FR.st hst).tr (FR.f35 F)), ((FR.st hst).tr (FR.f35 F)).fd⟩
      · have hw4 : w = nI 4 := by
          obtain ⟨k, hk, rfl⟩ := inI_nat (n := 4) (by decide) (show inI w 0 4 = true from h16)
          have := nI_toInt (n := k) (by omega)
          congr 1
          omega
        refine r_tabOut 87 hO dX5_runs_31 sw31 (by decide) ?_
        refine r_aload_n hO dX5_runs_87 rfl ?_
        refine r_fV hO dX5_runs_88 kRX5_199 miX5_agreeing (zX5_agreeing _ R) ⟨Nat.le_of_ble_eq_true rfl, Nat.le_of_ble_eq_true rfl, rfl, Nat.le_of_ble_eq_true rfl⟩ rfl rfl ?_
        exact r_ireturn hO hr dX5_runs_91 rfl ⟨sI (by rw [e, tab_at 4 4 _ hw4 (by decide) (by decide), hac]; rfl), h.q ((FR.st hst).tr (FR.f35 F)), ((FR.st hst).tr (FR.f35 F)).fd⟩
    · rw [bI_0] at h16
      refine r_iconst hO dX5_runs_19 ic_m1 ?_
      exact r_ireturn hO hr dX5_runs_20 rfl ⟨sI (show _ = p_runs σ n w from by unfold p_runs; rw [if_neg (ff2 h16)]), h, FDr.rf⟩
set_option maxHeartbeats 4000000 in
theorem zX4_ahead (l : Launch) {M : Mm} {σ : Sta} (h : RC M σ) {i n : Int32} : Clz l 5 yX4_ahead cX4_ahead 3 (some .int) [.ref 0, .int i, .int n] M (fun r M' => r = some (.int (p_ahead σ i n)) ∧ RC M' σ ∧ FCr M M') := by
  refine Clz.on RX4 rfl (by decide +kernel) (Nat.le_of_ble_eq_true rfl) (fun X hL hO hr => ?_)
  show Gz X 0 [.ref 0, .int i, .int n] [] M
  refine r_aload_n hO dX4_ahead_0 rfl ?_
  refine r_iload_n hO dX4_ahead_1 rfl ?_
  refine r_fV hO dX4_ahead_2 kRX4_112 miX4_isMember (zX4_isMember _ h) ⟨Nat.le_of_ble_eq_true rfl, Nat.le_of_ble_eq_true rfl, rfl, Nat.le_of_ble_eq_true rfl⟩ rfl rfl ?_
  refine r_if_eq 17 hO dX4_ahead_5 (by decide) (fun h5 => ?_) (fun h5 => ?_)
  · rw [bI_0] at h5
    refine r_iconst hO dX4_ahead_17 ic_m1 ?_
    exact r_ireturn hO hr dX4_ahead_18 rfl ⟨sI (show _ = p_ahead σ i n from by unfold p_ahead; rw [if_neg (ff (Q := True) h5)]), h, FCr.rf⟩
  · rw [bI_n0] at h5
    refine r_iload_n hO dX4_ahead_8 rfl ?_
    refine r_bipush hO dX4_ahead_9 bc_60 ?_
    refine r_fS hO dX4_ahead_11 kRX4_62 msX4_within (zX4_within _) ⟨Nat.le_of_ble_eq_true rfl, Nat.le_of_ble_eq_true rfl, rfl, Nat.le_of_ble_eq_true rfl⟩ rfl ?_
    refine r_if_ne 19 hO dX4_ahead_14 (by decide) (fun h14 => ?_) (fun h14 => ?_)
    · rw [bI_n0] at h14
      have h14 : inI n 0 60 = true := h14
      obtain ⟨a, ha, rfl⟩ := inI_nat (n := 60) (by decide) h14
      obtain ⟨c, hc, rfl⟩ := inI_mem (by have := h.1.1.1; omega) h5
      have hb : (runS a (nuS σ.1)).1[c]? = some ((runS a (nuS σ.1)).1.getD c (0, 0, 0, 0)) := by rw [List.getD_eq_getElem?_getD, List.getElem?_eq_getElem (by rw [runS_len]; exact hc)]; rfl
      have e : p_ahead σ (nI c) (nI a) = nI (fld 3 ((runS a (nuS σ.1)).1.getD c (0, 0, 0, 0))) := by unfold p_ahead; rw [if_pos ⟨h5, h14⟩, nI_clamp (by omega), nI_clamp (by have := h.1.1.1; omega)]
      refine r_aload_n hO dX4_ahead_19 rfl ?_
      refine r_getR 8 hO dX4_ahead_20 fRX4_30 rfl ?_
      refine r_aload_n hO dX4_ahead_23 rfl ?_
      refine r_getR 4 hO dX4_ahead_24 fRX4_26 rfl ?_
      refine r_callV hO dX4_ahead_27 kRX4_80 miX0_become (zX0_become _ (show nuP 8 from Or.inr (Or.inl rfl)) (show nuP 4 from Or.inl rfl) (by decide)) ⟨Nat.le_of_ble_eq_true rfl, Nat.le_of_ble_eq_true rfl, rfl, Nat.le_of_ble_eq_true rfl⟩ rfl rfl (fun r M1 hpo => ?_)
      obtain ⟨rfl, B⟩ := hpo
      refine r_aload_n hO dX4_ahead_30 rfl ?_
      refine r_getR 8 hO dX4_ahead_31 fRX4_30 rfl ?_
      refine r_iload_n hO dX4_ahead_34 rfl ?_
      refine r_callV hO dX4_ahead_35 kRX4_148 miX0_passDays (zX0_passDays _ (show nuP 8 from Or.inr (Or.inl rfl)) (h.1.bec B).cv rfl a rfl (by omega) (by have := h.1.2.1; show σ.1.2.2.1 + a ≤ 100000; omega)) ⟨Nat.le_of_ble_eq_true rfl, Nat.le_of_ble_eq_true rfl, rfl, Nat.le_of_ble_eq_true rfl⟩ rfl rfl (fun r M2 hpo => ?_)
      obtain ⟨rfl, F, V⟩ := hpo
      refine r_pop hO dX4_ahead_38 rfl ?_
      refine r_aload_n hO dX4_ahead_39 rfl ?_
      refine r_getR 8 hO dX4_ahead_40 fRX4_30 rfl ?_
      refine r_iload_n hO dX4_ahead_43 rfl ?_
      refine r_iconst hO dX4_ahead_44 ic_3 ?_
      refine r_fV hO dX4_ahead_45 kRX4_116 miX0_part (zX0_partR _ (show nuP 8 from Or.inr (Or.inl rfl)) V 3 hb rfl rfl (by decide)) ⟨Nat.le_of_ble_eq_true rfl, Nat.le_of_ble_eq_true rfl, rfl, Nat.le_of_ble_eq_true rfl⟩ rfl rfl ?_
      exact r_ireturn hO hr dX4_ahead_48 rfl ⟨sI e.symm, h.q ((FQ.bec B).tr (FQ.fn F)), ((FQ.bec B).tr (FQ.fn F)).fc⟩
    · rw [bI_0] at h14
      refine r_iconst hO dX4_ahead_17 ic_m1 ?_
      exact r_ireturn hO hr dX4_ahead_18 rfl ⟨sI (show _ = p_ahead σ i n from by unfold p_ahead; rw [if_neg (ff2 (b := inI n 0 60) h14)]), h, FCr.rf⟩
set_option maxHeartbeats 4000000 in
theorem zX5_ahead (l : Launch) {M : Mm} {σ : Sta} (h : RD M σ) {i n : Int32} : Clz l 8 yX5_ahead cX5_ahead 3 (some .int) [.ref 33, .int i, .int n] M (fun r M' => r = some (.int (p_ahead σ i n)) ∧ RD M' σ ∧ FDr M M') := by
  refine Clz.on RX5 rfl (by decide +kernel) (Nat.le_of_ble_eq_true rfl) (fun X hL hO hr => ?_)
  show Gz X 0 [.ref 33, .int i, .int n] [] M
  refine r_aload_n hO dX5_ahead_0 rfl ?_
  refine r_iload_n hO dX5_ahead_1 rfl ?_
  refine r_fV hO dX5_ahead_2 kRX5_205 miX5_isMember (zX5_isMember _) ⟨Nat.le_of_ble_eq_true rfl, Nat.le_of_ble_eq_true rfl, rfl, Nat.le_of_ble_eq_true rfl⟩ rfl rfl ?_
  refine r_if_eq 15 hO dX5_ahead_5 (by decide) (fun h5 => ?_) (fun h5 => ?_)
  · rw [bI_0, h.1.2.2.1] at h5
    refine r_iconst hO dX5_ahead_15 ic_m1 ?_
    exact r_ireturn hO hr dX5_ahead_16 rfl ⟨sI (show _ = p_ahead σ i n from by unfold p_ahead; rw [if_neg (ff (Q := True) h5)]), h, FDr.rf⟩
  · rw [bI_n0, h.1.2.2.1] at h5
    refine r_iload_n hO dX5_ahead_8 rfl ?_
    refine r_fS hO dX5_ahead_9 kRX5_225 msX5_isFar (zX5_isFar _) ⟨Nat.le_of_ble_eq_true rfl, Nat.le_of_ble_eq_true rfl, rfl, Nat.le_of_ble_eq_true rfl⟩ rfl ?_
    refine r_if_ne 17 hO dX5_ahead_12 (by decide) (fun h12 => ?_) (fun h12 => ?_)
    · rw [bI_n0] at h12
      obtain ⟨a, ha, rfl⟩ := inI_nat (n := 60) (by decide) h12
      obtain ⟨c, hc, rfl⟩ := inI_mem (by have := h.1.1; omega) h5
      have hb : (runS a (nuS σ.1)).1[c]? = some ((runS a (nuS σ.1)).1.getD c (0, 0, 0, 0)) := by rw [List.getD_eq_getElem?_getD, List.getElem?_eq_getElem (by rw [runS_len]; exact hc)]; rfl
      have e : p_ahead σ (nI c) (nI a) = nI (fld 3 ((runS a (nuS σ.1)).1.getD c (0, 0, 0, 0))) := by unfold p_ahead; rw [if_pos ⟨h5, h12⟩, nI_clamp (by omega), nI_clamp (by have := h.1.1; omega)]
      refine r_aload_n hO dX5_ahead_17 rfl ?_
      refine r_callV hO dX5_ahead_18 kRX5_196 miX5_starts (zX5_starts _) ⟨Nat.le_of_ble_eq_true rfl, Nat.le_of_ble_eq_true rfl, rfl, Nat.le_of_ble_eq_true rfl⟩ rfl rfl (fun r M1 hpo => ?_)
      obtain ⟨rfl, hst⟩ := hpo
      refine r_aload_n hO dX5_ahead_21 rfl ?_
      refine r_iload_n hO dX5_ahead_22 rfl ?_
      refine r_callV hO dX5_ahead_23 kRX5_217 miX5_daysGo (zX5_daysGo _ (h.1.rv hst) a rfl (by omega) (by have := h.1.2.2.2.2.1.2; show σ.1.2.2.1 + a ≤ 100000; omega) (by show 0 + a ≤ 100000; omega)) ⟨Nat.le_of_ble_eq_true rfl, Nat.le_of_ble_eq_true rfl, rfl, Nat.le_of_ble_eq_true rfl⟩ rfl rfl (fun r M2 hpo => ?_)
      obtain ⟨rfl, F, V⟩ := hpo
      obtain ⟨R, hl⟩ := V.rn
      have hac : act (-4) 0 (runS a (nuS σ.1)).1 = (runS a (nuS σ.1)).1 := act_none _ 0 (by have := R.1; omega)
      refine r_aload_n hO dX5_ahead_26 rfl ?_
      refine r_iload_n hO dX5_ahead_27 rfl ?_
      refine r_iconst hO dX5_ahead_28 ic_3 ?_
      refine r_fV hO dX5_ahead_29 kRX5_131 miX5_of (zX5_of _ c 3 rfl rfl (by have := h.1.1; omega)) ⟨Nat.le_of_ble_eq_true rfl, Nat.le_of_ble_eq_true rfl, rfl, Nat.le_of_ble_eq_true rfl⟩ rfl rfl ?_
      exact r_ireturn hO hr dX5_ahead_32 rfl ⟨sI (by rw [e]; exact R.2.1.fld hb (by decide)), h.q ((FR.st hst).tr (FR.f35 F)), ((FR.st hst).tr (FR.f35 F)).fd⟩
    · rw [bI_0] at h12
      refine r_iconst hO dX5_ahead_15 ic_m1 ?_
      exact r_ireturn hO hr dX5_ahead_16 rfl ⟨sI (show _ = p_ahead σ i n from by unfold p_ahead; rw [if_neg (ff2 h12)]), h, FDr.rf⟩
theorem dtC_I {s : Ns} (h : dtC 0 (dtS 61 s) ≤ 60) : dtC 0 (dtS 61 s) = dtI 0 (dtS 61 s) := by
  cases hd : dtS 61 s with
  | none => rw [hd] at h; exact absurd h (by show ¬ (61 : Int32) ≤ 60; decide)
  | some k => rfl
theorem dtC_N {s : Ns} (h : ¬ dtC 0 (dtS 61 s) ≤ 60) : -4 = dtI 0 (dtS 61 s) := by
  cases hd : dtS 61 s with
  | none => rfl
  | some k =>
    rw [hd] at h
    have := dtS_lt _ _ _ hd
    exact absurd (show nI (0 + k) ≤ nI 60 from nI_le (by omega) (by decide)) h
set_option maxHeartbeats 4000000 in
theorem zX4_carries (l : Launch) {M : Mm} {σ : Sta} (h : RC M σ)  : Clz l 5 yX4_carries cX4_carries 2 (some .int) [.ref 0] M (fun r M' => r = some (.int (p_carries σ)) ∧ RC M' σ ∧ FCr M M') := by
  refine Clz.on RX4 rfl (by decide +kernel) (Nat.le_of_ble_eq_true rfl) (fun X hL hO hr => ?_)
  show Gz X 0 [.ref 0, .null] [] M
  refine r_aload_n hO dX4_carries_0 rfl ?_
  refine r_getR 8 hO dX4_carries_1 fRX4_30 rfl ?_
  refine r_aload_n hO dX4_carries_4 rfl ?_
  refine r_getR 4 hO dX4_carries_5 fRX4_26 rfl ?_
  refine r_callV hO dX4_carries_8 kRX4_80 miX0_become (zX0_become _ (show nuP 8 from Or.inr (Or.inl rfl)) (show nuP 4 from Or.inl rfl) (by decide)) ⟨Nat.le_of_ble_eq_true rfl, Nat.le_of_ble_eq_true rfl, rfl, Nat.le_of_ble_eq_true rfl⟩ rfl rfl (fun r M1 hpo => ?_)
  obtain ⟨rfl, B⟩ := hpo
  refine r_aload_n hO dX4_carries_11 rfl ?_
  refine r_getR 8 hO dX4_carries_12 fRX4_30 rfl ?_
  refine r_callV hO dX4_carries_15 kRX4_154 miX0_daysToCarry (zX0_daysToCarry _ (show nuP 8 from Or.inr (Or.inl rfl)) (h.1.bec B).cv (by have := h.1.2.1; show σ.1.2.2.1 ≤ 9000; omega)) ⟨Nat.le_of_ble_eq_true rfl, Nat.le_of_ble_eq_true rfl, rfl, Nat.le_of_ble_eq_true rfl⟩ rfl rfl (fun r M2 hpo => ?_)
  obtain ⟨rfl, F⟩ := hpo
  refine s_istore_n hL hO dX4_carries_18 (Nat.le_of_ble_eq_true rfl) rfl ?_
  refine r_iload_n hO dX4_carries_19 rfl ?_
  refine r_bipush hO dX4_carries_20 bc_60 ?_
  refine r_icmp_le 30 hO dX4_carries_22 (by decide) (fun h22 => ?_) (fun h22 => ?_)
  · refine r_iload_n hO dX4_carries_30 rfl ?_
    exact r_ireturn hO hr dX4_carries_31 rfl ⟨sI (dtC_I h22), h.q ((FQ.bec B).tr (FQ.fn F)), ((FQ.bec B).tr (FQ.fn F)).fc⟩
  · refine r_bipush hO dX4_carries_25 bc_m4 ?_
    refine r_goto 31 hO dX4_carries_27 (by decide) ?_
    exact r_ireturn hO hr dX4_carries_31 rfl ⟨sI (dtC_N h22), h.q ((FQ.bec B).tr (FQ.fn F)), ((FQ.bec B).tr (FQ.fn F)).fc⟩
set_option maxHeartbeats 4000000 in
theorem zX5_carries (l : Launch) {M : Mm} {σ : Sta} (h : RD M σ)  : Clz l 8 yX5_carries cX5_carries 1 (some .int) [.ref 33] M (fun r M' => r = some (.int (p_carries σ)) ∧ RD M' σ ∧ FDr M M') := by
  refine Clz.on RX5 rfl (by decide +kernel) (Nat.le_of_ble_eq_true rfl) (fun X hL hO hr => ?_)
  show Gz X 0 [.ref 33] [] M
  refine r_aload_n hO dX5_carries_0 rfl ?_
  refine r_callV hO dX5_carries_1 kRX5_196 miX5_starts (zX5_starts _) ⟨Nat.le_of_ble_eq_true rfl, Nat.le_of_ble_eq_true rfl, rfl, Nat.le_of_ble_eq_true rfl⟩ rfl rfl (fun r M1 hpo => ?_)
  obtain ⟨rfl, hst⟩ := hpo
  refine r_aload_n hO dX5_carries_4 rfl ?_
  refine r_callV hO dX5_carries_5 kRX5_233 miX5_daysTo (zX5_daysTo _ (h.1.rv hst) (by have := h.1.2.2.2.2.1.2; show σ.1.2.2.1 ≤ 9000; omega) (by show 0 ≤ 9000; omega)) ⟨Nat.le_of_ble_eq_true rfl, Nat.le_of_ble_eq_true rfl, rfl, Nat.le_of_ble_eq_true rfl⟩ rfl rfl (fun r M2 hpo => ?_)
  obtain ⟨rfl, F⟩ := hpo
  exact r_ireturn hO hr dX5_carries_8 rfl ⟨rfl, h.q ((FR.st hst).tr (FR.f35 F)), ((FR.st hst).tr (FR.f35 F)).fd⟩
set_option maxHeartbeats 4000000 in
theorem zX5_soonestNow (l : Launch) {M : Mm} {σ : Sta} (h : RD M σ) : Clz l 8 yX5_soonestNow cX5_soonestNow 1 (some .int) [.ref 33] M (fun r M' => r = some (.int (dtI 0 (dtS 61 (nuS σ.1)))) ∧ ∃ M1, StR M M1 ∧ F35 M1 M') := by
  refine Clz.on RX5 rfl (by decide +kernel) (Nat.le_of_ble_eq_true rfl) (fun X hL hO hr => ?_)
  show Gz X 0 [.ref 33] [] M
  refine r_aload_n hO dX5_soonestNow_0 rfl ?_
  refine r_callV hO dX5_soonestNow_1 kRX5_196 miX5_starts (zX5_starts _) ⟨Nat.le_of_ble_eq_true rfl, Nat.le_of_ble_eq_true rfl, rfl, Nat.le_of_ble_eq_true rfl⟩ rfl rfl (fun r M1 hpo => ?_)
  obtain ⟨rfl, hst⟩ := hpo
  refine r_aload_n hO dX5_soonestNow_4 rfl ?_
  refine r_callV hO dX5_soonestNow_5 kRX5_233 miX5_daysTo (zX5_daysTo _ (h.1.rv hst) (by have := h.1.2.2.2.2.1.2; show σ.1.2.2.1 ≤ 9000; omega) (by show 0 ≤ 9000; omega)) ⟨Nat.le_of_ble_eq_true rfl, Nat.le_of_ble_eq_true rfl, rfl, Nat.le_of_ble_eq_true rfl⟩ rfl rfl (fun r M2 hpo => ?_)
  obtain ⟨rfl, F⟩ := hpo
  exact r_ireturn hO hr dX5_soonestNow_8 rfl ⟨rfl, M1, hst, F⟩
