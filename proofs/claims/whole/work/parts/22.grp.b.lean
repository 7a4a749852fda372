/-! see, seat, alter -/
theorem ff {b : Bool} {P Q : Prop} (h : b = false) : ¬ (b = true ∧ P) := fun z => by rw [h] at z; cases z.1
theorem ff2 {b : Bool} {P : Prop} (h : b = false) : ¬ (P ∧ b = true) := fun z => by rw [h] at z; cases z.2
set_option maxHeartbeats 4000000 in
theorem zX4_see (l : Launch) {M : Mm} {σ : Sta} (h : RC M σ) {n v : Int32} : Clz l 1 yX4_see cX4_see 3 (some .int) [.ref 0, .int n, .int v] M (fun r M' => r = some (.int (p_see σ n v).1) ∧ RC M' (p_see σ n v).2 ∧ FCr M M') := by
  refine Clz.on RX4 rfl (by decide +kernel) (Nat.le_of_ble_eq_true rfl) (fun X hL hO hr => ?_)
  show Gz X 0 [.ref 0, .int n, .int v] [] M
  refine r_iload_n hO dX4_see_0 rfl ?_
  refine r_bipush hO dX4_see_1 bc_20 ?_
  refine r_fS hO dX4_see_3 kRX4_62 msX4_within (zX4_within _) ⟨Nat.le_of_ble_eq_true rfl, Nat.le_of_ble_eq_true rfl, rfl, Nat.le_of_ble_eq_true rfl⟩ rfl ?_
  refine r_if_eq 18 hO dX4_see_6 (by decide) (fun h6 => ?_) (fun h6 => ?_)
  · rw [bI_0] at h6
    refine r_iconst hO dX4_see_18 ic_m1 ?_
    have e : p_see σ n v = (-1, σ) := if_neg (ff (Q := True) (b := inI n 0 20) h6)
    exact r_ireturn hO hr dX4_see_19 rfl ⟨by rw [e], by rw [e]; exact h, FCr.rf⟩
  · rw [bI_n0] at h6
    refine r_iload_n hO dX4_see_9 rfl ?_
    refine r_bipush hO dX4_see_10 bc_20 ?_
    refine r_fS hO dX4_see_12 kRX4_62 msX4_within (zX4_within _) ⟨Nat.le_of_ble_eq_true rfl, Nat.le_of_ble_eq_true rfl, rfl, Nat.le_of_ble_eq_true rfl⟩ rfl ?_
    refine r_if_ne 20 hO dX4_see_15 (by decide) (fun h15 => ?_) (fun h15 => ?_)
    · rw [bI_n0] at h15
      refine r_aload_n hO dX4_see_20 rfl ?_
      refine r_getR 4 hO dX4_see_21 fRX4_26 rfl ?_
      refine r_getI hO dX4_see_24 fRX4_171 rfl ?_
      refine r_bipush hO dX4_see_27 bc_6 ?_
      refine r_icmp_lt 35 hO dX4_see_29 (by decide) (fun h29 => ?_) (fun h29 => ?_)
      · have h6 : inI n 0 20 = true := h6
        have h15 : inI v 0 20 = true := h15
        rw [h.1.2.2.1, show (6 : Int32) = nI 6 from rfl, nI_ltI (by have := h.1.2.2.2.1; omega) (by decide)] at h29
        refine r_aload_n hO dX4_see_35 rfl ?_
        refine r_getR 4 hO dX4_see_36 fRX4_26 rfl ?_
        refine r_getR 6 hO dX4_see_39 fRX4_174 rfl ?_
        refine r_aload_n hO dX4_see_42 rfl ?_
        refine r_getR 4 hO dX4_see_43 fRX4_26 rfl ?_
        refine r_getI hO dX4_see_46 fRX4_171 rfl ?_
        refine r_iload_n hO dX4_see_49 rfl ?_
        obtain ⟨a, ha, rfl⟩ := inI_nat (n := 20) (by decide) h6
        obtain ⟨b, hb, rfl⟩ := inI_nat (n := 20) (by decide) h15
        refine s_iast 6 hO dX4_see_50 rfl (Nat.le_of_ble_eq_true rfl) σ.1.2.2.2.2.length h.1.2.2.1 (by omega) ?_
        refine r_aload_n hO dX4_see_51 rfl ?_
        refine r_getR 4 hO dX4_see_52 fRX4_26 rfl ?_
        refine r_getR 7 hO dX4_see_55 fRX4_177 rfl ?_
        refine r_aload_n hO dX4_see_58 rfl ?_
        refine r_getR 4 hO dX4_see_59 fRX4_26 rfl ?_
        refine r_getI hO dX4_see_62 fRX4_171 rfl ?_
        refine r_iload_n hO dX4_see_65 rfl ?_
        refine s_iast 6 hO dX4_see_66 rfl (Nat.le_of_ble_eq_true rfl) σ.1.2.2.2.2.length (by rw [mpg, if_neg (by omega)]; exact h.1.2.2.1) (by omega) ?_
        refine r_aload_n hO dX4_see_67 rfl ?_
        refine r_getR 4 hO dX4_see_68 fRX4_26 rfl ?_
        refine r_dup hO dX4_see_71 rfl ?_
        refine r_getI hO dX4_see_72 fRX4_171 rfl ?_
        refine r_iconst hO dX4_see_75 ic_1 ?_
        refine r_iadd hO dX4_see_76 ?_
        refine r_putI hO dX4_see_77 fRX4_171 rfl ?_
        refine r_aload_n hO dX4_see_80 rfl ?_
        refine r_getR 4 hO dX4_see_81 fRX4_26 rfl ?_
        refine r_getI hO dX4_see_84 fRX4_171 rfl ?_
        have e : p_see σ (nI a) (nI b) = (nI (σ.1.2.2.2.2.length + 1), (σ.1.1, σ.1.2.1, σ.1.2.2.1, σ.1.2.2.2.1, σ.1.2.2.2.2 ++ [(a, b)]), σ.2) := by unfold p_see; rw [if_pos ⟨h6, h15⟩, if_neg (by omega), nI_clamp (by omega), nI_clamp (by omega)]
        rw [show (mput (mput M 6 σ.1.2.2.2.2.length (nI a)) 7 σ.1.2.2.2.2.length (nI b)).1 4 7 = nI σ.1.2.2.2.2.length from by rw [mpg, if_neg (by omega), mpg, if_neg (by omega)]; exact h.1.2.2.1, nI_1]
        exact r_ireturn hO hr dX4_see_87 rfl ⟨by rw [e]; exact sI (by simp [mpg]), by rw [e]; exact h.nut (fun a k h1 h2 => by rw [mpg, if_neg (by omega), mpg, if_neg (by omega), mpg, if_neg (by omega)]) ⟨h.1.1.eq (fun k _ _ => by rw [mpg, if_neg (by omega), mpg, if_neg (by omega), mpg, if_neg (by omega)]) (fun k _ => by rw [mpg, if_neg (by omega), mpg, if_neg (by omega), mpg, if_neg (by omega)]), h.1.2.1, by simp [mpg], by simp; omega, by
      have key := h.1.2.2.2.2
      refine SlAt.push (f := (mput (mput (mput M 6 σ.1.2.2.2.2.length (nI a)) 7 σ.1.2.2.2.2.length (nI b)) 4 7 (nI (σ.1.2.2.2.2.length + 1))).1 6) (fun i q hq => ?_) (by simp [mpg]) (by simp [mpg]) ha hb
      have hi := (List.getElem?_eq_some_iff.mp hq).1
      obtain ⟨k1, k2, k3⟩ := key i q hq
      exact ⟨by rw [mpg, if_neg (by omega), mpg, if_neg (by omega), mpg, if_neg (by omega)]; exact k1, by rw [mpg, if_neg (by omega), mpg, if_neg (by omega), mpg, if_neg (by omega)]; exact k2, k3⟩⟩, ((FCr.put (by decide)).tr (FCr.put (by decide))).tr (FCr.put (by decide))⟩
      · have h6 : inI n 0 20 = true := h6
        have h15 : inI v 0 20 = true := h15
        rw [h.1.2.2.1, show (6 : Int32) = nI 6 from rfl, nI_ltI (by have := h.1.2.2.2.1; omega) (by decide)] at h29
        refine r_bipush hO dX4_see_32 bc_m3 ?_
        have e : p_see σ n v = (-3, σ) := by unfold p_see; rw [if_pos ⟨h6, h15⟩, if_pos (by have := h.1.2.2.2.1; omega)]
        exact r_ireturn hO hr dX4_see_34 rfl ⟨by rw [e], by rw [e]; exact h, FCr.rf⟩
    · rw [bI_0] at h15
      refine r_iconst hO dX4_see_18 ic_m1 ?_
      have e : p_see σ n v = (-1, σ) := if_neg (ff2 (b := inI v 0 20) h15)
      exact r_ireturn hO hr dX4_see_19 rfl ⟨by rw [e], by rw [e]; exact h, FCr.rf⟩
set_option maxHeartbeats 4000000 in
theorem zX5_see (l : Launch) {M : Mm} {σ : Sta} (h : RD M σ) {n v : Int32} : Clz l 2 yX5_see cX5_see 4 (some .int) [.ref 33, .int n, .int v] M (fun r M' => r = some (.int (p_see σ n v).1) ∧ RD M' (p_see σ n v).2 ∧ FDr M M') := by
  refine Clz.on RX5 rfl (by decide +kernel) (Nat.le_of_ble_eq_true rfl) (fun X hL hO hr => ?_)
  show Gz X 0 [.ref 33, .int n, .int v, .null] [] M
  refine r_iload_n hO dX5_see_0 rfl ?_
  refine r_i2l hO dX5_see_1 ?_
  refine r_lconst hO dX5_see_2 lc_0 ?_
  refine r_ldc2 hO dX5_see_3 wRX5_123 ?_
  refine r_fS hO dX5_see_6 kRX5_56 msX5_in (zX5_inI _ (lo := 0) (hi := 20) (by decide) (by decide)) ⟨Nat.le_of_ble_eq_true rfl, Nat.le_of_ble_eq_true rfl, rfl, Nat.le_of_ble_eq_true rfl⟩ rfl ?_
  refine r_if_eq 19 hO dX5_see_9 (by decide) (fun h9 => ?_) (fun h9 => ?_)
  · rw [bI_0] at h9
    refine r_iconst hO dX5_see_19 ic_m1 ?_
    have e : p_see σ n v = (-1, σ) := if_neg (ff (Q := True) h9)
    exact r_ireturn hO hr dX5_see_20 rfl ⟨by rw [e], by rw [e]; exact h, FDr.rf⟩
  · rw [bI_n0] at h9
    refine r_iload_n hO dX5_see_12 rfl ?_
    refine r_fS hO dX5_see_13 kRX5_182 msX5_isMotion (zX5_isMotion _) ⟨Nat.le_of_ble_eq_true rfl, Nat.le_of_ble_eq_true rfl, rfl, Nat.le_of_ble_eq_true rfl⟩ rfl ?_
    refine r_if_ne 21 hO dX5_see_16 (by decide) (fun h16 => ?_) (fun h16 => ?_)
    · rw [bI_n0] at h16
      refine r_aload_n hO dX5_see_21 rfl ?_
      refine r_getR 34 hO dX5_see_22 fRX5_7 rfl ?_
      refine r_bipush hO dX5_see_25 bc_28 ?_
      refine s_iald 123 hO dX5_see_27 rfl (Nat.le_of_ble_eq_true rfl) 28 (by decide) (by decide) ?_
      refine r_bipush hO dX5_see_28 bc_6 ?_
      refine r_icmp_ne 36 hO dX5_see_30 (by decide) (fun h30 => ?_) (fun h30 => ?_)
      · have hl := h.1.2.2.2.2.2.2.1.2
        rw [h.1.2.2.2.2.2.2.1.1, show (6 : Int32) = nI 6 from rfl, nI_eq (by omega) (by decide)] at h30
        refine r_bipush hO dX5_see_36 bc_29 ?_
        refine r_iconst hO dX5_see_38 ic_2 ?_
        refine r_aload_n hO dX5_see_39 rfl ?_
        refine r_getR 34 hO dX5_see_40 fRX5_7 rfl ?_
        refine r_bipush hO dX5_see_43 bc_28 ?_
        refine s_iald 123 hO dX5_see_45 rfl (Nat.le_of_ble_eq_true rfl) 28 (by decide) (by decide) ?_
        refine r_imul hO dX5_see_46 ?_
        refine r_iadd hO dX5_see_47 ?_
        refine s_istore_n hL hO dX5_see_48 (Nat.le_of_ble_eq_true rfl) rfl ?_
        have e29 : 29 + 2 * M.1 34 28 = nI (29 + 2 * σ.1.2.2.2.2.length) := by rw [h.1.2.2.2.2.2.2.1.1, show (2 : Int32) = nI 2 from rfl, pk_mul, show (29 : Int32) = nI 29 from rfl, nI_add]
        obtain ⟨a, ha, rfl⟩ := inI_nat (n := 20) (by decide) h9
        obtain ⟨b, hb, rfl⟩ := inI_nat (n := 20) (by decide) h16
        refine r_aload_n hO dX5_see_49 rfl ?_
        refine r_getR 34 hO dX5_see_50 fRX5_7 rfl ?_
        refine r_iload_n hO dX5_see_53 rfl ?_
        refine r_iload_n hO dX5_see_54 rfl ?_
        refine s_iast 123 hO dX5_see_55 rfl (Nat.le_of_ble_eq_true rfl) (29 + 2 * σ.1.2.2.2.2.length) e29 (by omega) ?_
        refine r_aload_n hO dX5_see_56 rfl ?_
        refine r_getR 34 hO dX5_see_57 fRX5_7 rfl ?_
        refine r_iload_n hO dX5_see_60 rfl ?_
        refine r_iconst hO dX5_see_61 ic_1 ?_
        refine r_iadd hO dX5_see_62 ?_
        refine r_iload_n hO dX5_see_63 rfl ?_
        refine s_iast 123 hO dX5_see_64 rfl (Nat.le_of_ble_eq_true rfl) (30 + 2 * σ.1.2.2.2.2.length) (by rw [e29, nI_1]; congr 1; omega) (by omega) ?_
        refine r_aload_n hO dX5_see_65 rfl ?_
        refine r_getR 34 hO dX5_see_66 fRX5_7 rfl ?_
        refine r_bipush hO dX5_see_69 bc_28 ?_
        refine r_dup2 hO dX5_see_71 rfl rfl ?_
        refine s_iald 123 hO dX5_see_72 rfl (Nat.le_of_ble_eq_true rfl) 28 (by decide) (by decide) ?_
        refine r_iconst hO dX5_see_73 ic_1 ?_
        refine r_iadd hO dX5_see_74 ?_
        refine s_iast 123 hO dX5_see_75 rfl (Nat.le_of_ble_eq_true rfl) 28 (by decide) (by decide) ?_
        refine r_aload_n hO dX5_see_76 rfl ?_
        refine r_getR 34 hO dX5_see_77 fRX5_7 rfl ?_
        refine r_bipush hO dX5_see_80 bc_28 ?_
        refine s_iald 123 hO dX5_see_82 rfl (Nat.le_of_ble_eq_true rfl) 28 (by decide) (by decide) ?_
        have e : p_see σ (nI a) (nI b) = (nI (σ.1.2.2.2.2.length + 1), (σ.1.1, σ.1.2.1, σ.1.2.2.1, σ.1.2.2.2.1, σ.1.2.2.2.2 ++ [(a, b)]), σ.2) := by unfold p_see; rw [if_pos ⟨h9, h16⟩, if_neg h30, nI_clamp (by omega), nI_clamp (by omega)]
        rw [show (mput (mput M 34 (29 + 2 * σ.1.2.2.2.2.length) (nI a)) 34 (30 + 2 * σ.1.2.2.2.2.length) (nI b)).1 34 28 = nI σ.1.2.2.2.2.length from by rw [mpg, if_neg (by omega), mpg, if_neg (by omega)]; exact h.1.2.2.2.2.2.2.1.1, nI_1]
        exact r_ireturn hO hr dX5_see_83 rfl ⟨by rw [e]; exact sI (by simp [mpg]), by rw [e]; exact h.nut (fun a k _ _ _ _ _ _ _ h1 => by rw [mpg, if_neg (by omega), mpg, if_neg (by omega), mpg, if_neg (by omega)]) (by
      rw [mput_at, mput_at, mput_at]
      obtain ⟨h1, h2, h3, h4, h5, h6, h7, h8⟩ := h.1
      refine ⟨h1, ((h2.far h1 (by omega) _).far h1 (by omega) _).far h1 (by omega) _, ?_, ⟨?_, h4.2⟩, ⟨?_, h5.2⟩, ⟨?_, h6.2⟩, ⟨by simp [upd], by simp; omega⟩, ?_⟩
      · rw [pk_un (by omega), pk_un (by omega), pk_un (by omega)]; exact h3
      · rw [pk_un (by omega), pk_un (by omega), pk_un (by omega)]; exact h4.1
      · rw [pk_un (by omega), pk_un (by omega), pk_un (by omega)]; exact h5.1
      · rw [pk_un (by omega), pk_un (by omega), pk_un (by omega)]; exact h6.1
      · refine SlAt.push (fun i q hq => ?_) (by rw [pk_un (by omega), pk_un (by omega), pk_us]) (by rw [pk_un (by omega), pk_us]) ha hb
        have hi := (List.getElem?_eq_some_iff.mp hq).1
        obtain ⟨k1, k2, k3⟩ := h8 i q hq
        exact ⟨by rw [pk_un (by omega), pk_un (by omega), pk_un (by omega)]; exact k1, by rw [pk_un (by omega), pk_un (by omega), pk_un (by omega)]; exact k2, k3⟩), ((FDr.put (by decide)).tr (FDr.put (by decide))).tr (FDr.put (by decide))⟩
      · have hl := h.1.2.2.2.2.2.2.1.2
        rw [h.1.2.2.2.2.2.2.1.1, show (6 : Int32) = nI 6 from rfl, nI_eq (by omega) (by decide)] at h30
        refine r_bipush hO dX5_see_33 bc_m3 ?_
        have e : p_see σ n v = (-3, σ) := by unfold p_see; rw [if_pos ⟨h9, h16⟩, if_pos h30]
        exact r_ireturn hO hr dX5_see_35 rfl ⟨by rw [e], by rw [e]; exact h, FDr.rf⟩
    · rw [bI_0] at h16
      refine r_iconst hO dX5_see_19 ic_m1 ?_
      have e : p_see σ n v = (-1, σ) := if_neg (ff2 h16)
      exact r_ireturn hO hr dX5_see_20 rfl ⟨by rw [e], by rw [e]; exact h, FDr.rf⟩
set_option maxHeartbeats 4000000 in
theorem zX4_seat (l : Launch) {M : Mm} {σ : Sta} (h : RC M σ) {n v : Int32} : Clz l 2 yX4_seat cX4_seat 4 (some .int) [.ref 0, .int n, .int v] M (fun r M' => r = some (.int (p_seat σ n v).1) ∧ RC M' (p_seat σ n v).2 ∧ FCr M M') := by
  refine Clz.on RX4 rfl (by decide +kernel) (Nat.le_of_ble_eq_true rfl) (fun X hL hO hr => ?_)
  show Gz X 0 [.ref 0, .int n, .int v, .null] [] M
  refine r_iload_n hO dX4_seat_0 rfl ?_
  refine r_iconst hO dX4_seat_1 ic_1 ?_
  refine r_fS hO dX4_seat_2 kRX4_62 msX4_within (zX4_within _) ⟨Nat.le_of_ble_eq_true rfl, Nat.le_of_ble_eq_true rfl, rfl, Nat.le_of_ble_eq_true rfl⟩ rfl ?_
  refine r_if_eq 17 hO dX4_seat_5 (by decide) (fun h5 => ?_) (fun h5 => ?_)
  · rw [bI_0] at h5
    refine r_iconst hO dX4_seat_17 ic_m1 ?_
    have e : p_seat σ n v = (-1, σ) := if_neg (ff (Q := True) (b := inI n 0 1) h5)
    exact r_ireturn hO hr dX4_seat_18 rfl ⟨by rw [e], by rw [e]; exact h, FCr.rf⟩
  · rw [bI_n0] at h5
    refine r_iload_n hO dX4_seat_8 rfl ?_
    refine r_bipush hO dX4_seat_9 bc_20 ?_
    refine r_fS hO dX4_seat_11 kRX4_62 msX4_within (zX4_within _) ⟨Nat.le_of_ble_eq_true rfl, Nat.le_of_ble_eq_true rfl, rfl, Nat.le_of_ble_eq_true rfl⟩ rfl ?_
    refine r_if_ne 19 hO dX4_seat_14 (by decide) (fun h14 => ?_) (fun h14 => ?_)
    · rw [bI_n0] at h14
      refine r_aload_n hO dX4_seat_19 rfl ?_
      refine r_getR 4 hO dX4_seat_20 fRX4_26 rfl ?_
      refine r_getI hO dX4_seat_23 fRX4_84 rfl ?_
      refine r_bipush hO dX4_seat_26 bc_6 ?_
      refine r_icmp_lt 34 hO dX4_seat_28 (by decide) (fun h28 => ?_) (fun h28 => ?_)
      · have h5 : inI n 0 1 = true := h5
        have h14 : inI v 0 20 = true := h14
        rw [h.1.1.2.2.1, show (6 : Int32) = nI 6 from rfl, nI_ltI (by have := h.1.1.1; omega) (by decide)] at h28
        refine r_aload_n hO dX4_seat_34 rfl ?_
        refine r_getR 4 hO dX4_seat_35 fRX4_26 rfl ?_
        refine r_iconst hO dX4_seat_38 ic_0 ?_
        obtain ⟨a, ha, rfl⟩ := inI_nat (n := 1) (by decide) h5
        obtain ⟨b, hb, rfl⟩ := inI_nat (n := 20) (by decide) h14
        refine r_fV hO dX4_seat_39 kRX4_145 miX0_addMember (zX0_addMember _ (show nuP 4 from Or.inl rfl) σ.1.1.length h.1.1.2.2.1 h28) ⟨Nat.le_of_ble_eq_true rfl, Nat.le_of_ble_eq_true rfl, rfl, Nat.le_of_ble_eq_true rfl⟩ rfl rfl ?_
        refine s_istore_n hL hO dX4_seat_42 (Nat.le_of_ble_eq_true rfl) rfl ?_
        refine r_aload_n hO dX4_seat_43 rfl ?_
        refine r_getR 4 hO dX4_seat_44 fRX4_26 rfl ?_
        refine r_iload_n hO dX4_seat_47 rfl ?_
        refine r_iconst hO dX4_seat_48 ic_1 ?_
        refine r_iload_n hO dX4_seat_49 rfl ?_
        refine r_fV hO dX4_seat_50 kRX4_141 miX0_put (zX0_put _ (show nuP 4 from Or.inl rfl) σ.1.1.length 1 rfl rfl (by omega) (by decide)) ⟨Nat.le_of_ble_eq_true rfl, Nat.le_of_ble_eq_true rfl, rfl, Nat.le_of_ble_eq_true rfl⟩ rfl rfl ?_
        refine r_aload_n hO dX4_seat_53 rfl ?_
        refine r_getR 4 hO dX4_seat_54 fRX4_26 rfl ?_
        refine r_iload_n hO dX4_seat_57 rfl ?_
        refine r_iconst hO dX4_seat_58 ic_2 ?_
        refine r_iload_n hO dX4_seat_59 rfl ?_
        refine r_fV hO dX4_seat_60 kRX4_141 miX0_put (zX0_put _ (show nuP 4 from Or.inl rfl) σ.1.1.length 2 rfl rfl (by omega) (by decide)) ⟨Nat.le_of_ble_eq_true rfl, Nat.le_of_ble_eq_true rfl, rfl, Nat.le_of_ble_eq_true rfl⟩ rfl rfl ?_
        refine r_aload_n hO dX4_seat_63 rfl ?_
        refine r_getR 4 hO dX4_seat_64 fRX4_26 rfl ?_
        refine r_getI hO dX4_seat_67 fRX4_84 rfl ?_
        have e : p_seat σ (nI a) (nI b) = (nI (σ.1.1.length + 1), (σ.1.1 ++ [(0, a, b, 0)], σ.1.2), σ.2) := by unfold p_seat; rw [if_pos ⟨h5, h14⟩, if_neg (by omega), nI_clamp (by omega), nI_clamp (by omega)]
        exact r_ireturn hO hr dX4_seat_70 rfl ⟨by rw [e]; exact sI (by simp [mpg]), by rw [e]; exact h.nut (fun a k h1 h2 => by simp only [mpg]; rw [if_neg (by omega), if_neg (by omega), if_neg (by omega), if_neg (by omega), if_neg (by omega), if_neg (by omega), if_neg (by omega)]) (by
      obtain ⟨⟨h1, h2, h3, h4, h5, h6⟩, g2, g3, g4, g5⟩ := h.1
      refine ⟨⟨by simp; omega, ?_, by simp [mpg], ⟨by simp [mpg, h4.1], h4.2⟩, ⟨by simp [mpg, h5.1], h5.2⟩, ⟨by simp [mpg, h6.1], h6.2⟩⟩, g2, by simp [mpg, g3], g4, g5.eq g4 (fun k _ => by simp [mpg]) (fun k _ => by simp [mpg])⟩
      refine MbAt.push (fun i c hc => ?_) ⟨by simp, ha, hb, by simp⟩ (by simp [mpg]; rfl) (by simp [mpg]) (by simp [mpg]) (by simp [mpg]; rfl)
      have hi := (List.getElem?_eq_some_iff.mp hc).1
      obtain ⟨k1, k2, k3, k4, k5⟩ := h2 i c hc
      refine ⟨?_, ?_, ?_, ?_, k5⟩
      · simp only [mpg]; rw [if_neg (by omega), if_neg (by omega), if_neg (by omega), if_neg (by omega), if_neg (by omega), if_neg (by omega), if_neg (by omega)]; exact k1
      · simp only [mpg]; rw [if_neg (by omega), if_neg (by omega), if_neg (by omega), if_neg (by omega), if_neg (by omega), if_neg (by omega), if_neg (by omega)]; exact k2
      · simp only [mpg]; rw [if_neg (by omega), if_neg (by omega), if_neg (by omega), if_neg (by omega), if_neg (by omega), if_neg (by omega), if_neg (by omega)]; exact k3
      · simp only [mpg]; rw [if_neg (by omega), if_neg (by omega), if_neg (by omega), if_neg (by omega), if_neg (by omega), if_neg (by omega), if_neg (by omega)]; exact k4), ⟨fun a k ha => by simp only [mpg]; rw [if_neg (by omega), if_neg (by omega), if_neg (by omega), if_neg (by omega), if_neg (by omega), if_neg (by omega), if_neg (by omega)], rfl⟩⟩
      · have h5 : inI n 0 1 = true := h5
        have h14 : inI v 0 20 = true := h14
        rw [h.1.1.2.2.1, show (6 : Int32) = nI 6 from rfl, nI_ltI (by have := h.1.1.1; omega) (by decide)] at h28
        refine r_bipush hO dX4_seat_31 bc_m3 ?_
        have e : p_seat σ n v = (-3, σ) := by unfold p_seat; rw [if_pos ⟨h5, h14⟩, if_pos (by have := h.1.1.1; omega)]
        exact r_ireturn hO hr dX4_seat_33 rfl ⟨by rw [e], by rw [e]; exact h, FCr.rf⟩
    · rw [bI_0] at h14
      refine r_iconst hO dX4_seat_17 ic_m1 ?_
      have e : p_seat σ n v = (-1, σ) := if_neg (ff2 (b := inI v 0 20) h14)
      exact r_ireturn hO hr dX4_seat_18 rfl ⟨by rw [e], by rw [e]; exact h, FCr.rf⟩
set_option maxHeartbeats 4000000 in
theorem zX5_seat (l : Launch) {M : Mm} {σ : Sta} (h : RD M σ) {n v : Int32} : Clz l 2 yX5_seat cX5_seat 4 (some .int) [.ref 33, .int n, .int v] M (fun r M' => r = some (.int (p_seat σ n v).1) ∧ RD M' (p_seat σ n v).2 ∧ FDr M M') := by
  refine Clz.on RX5 rfl (by decide +kernel) (Nat.le_of_ble_eq_true rfl) (fun X hL hO hr => ?_)
  show Gz X 0 [.ref 33, .int n, .int v, .null] [] M
  refine r_iload_n hO dX5_seat_0 rfl ?_
  refine r_i2l hO dX5_seat_1 ?_
  refine r_lconst hO dX5_seat_2 lc_0 ?_
  refine r_lconst hO dX5_seat_3 lc_1 ?_
  refine r_fS hO dX5_seat_4 kRX5_56 msX5_in (zX5_inI _ (lo := 0) (hi := 1) (by decide) (by decide)) ⟨Nat.le_of_ble_eq_true rfl, Nat.le_of_ble_eq_true rfl, rfl, Nat.le_of_ble_eq_true rfl⟩ rfl ?_
  refine r_if_eq 17 hO dX5_seat_7 (by decide) (fun h7 => ?_) (fun h7 => ?_)
  · rw [bI_0] at h7
    refine r_iconst hO dX5_seat_17 ic_m1 ?_
    have e : p_seat σ n v = (-1, σ) := if_neg (ff (Q := True) h7)
    exact r_ireturn hO hr dX5_seat_18 rfl ⟨by rw [e], by rw [e]; exact h, FDr.rf⟩
  · rw [bI_n0] at h7
    refine r_iload_n hO dX5_seat_10 rfl ?_
    refine r_fS hO dX5_seat_11 kRX5_182 msX5_isMotion (zX5_isMotion _) ⟨Nat.le_of_ble_eq_true rfl, Nat.le_of_ble_eq_true rfl, rfl, Nat.le_of_ble_eq_true rfl⟩ rfl ?_
    refine r_if_ne 19 hO dX5_seat_14 (by decide) (fun h14 => ?_) (fun h14 => ?_)
    · rw [bI_n0] at h14
      refine r_aload_n hO dX5_seat_19 rfl ?_
      refine r_getR 34 hO dX5_seat_20 fRX5_7 rfl ?_
      refine r_bipush hO dX5_seat_23 bc_24 ?_
      refine s_iald 123 hO dX5_seat_25 rfl (Nat.le_of_ble_eq_true rfl) 24 (by decide) (by decide) ?_
      refine r_bipush hO dX5_seat_26 bc_6 ?_
      refine r_icmp_ne 34 hO dX5_seat_28 (by decide) (fun h28 => ?_) (fun h28 => ?_)
      · have hl := h.1.1
        rw [h.1.2.2.1, show (6 : Int32) = nI 6 from rfl, nI_eq (by omega) (by decide)] at h28
        refine r_iconst hO dX5_seat_34 ic_4 ?_
        refine r_aload_n hO dX5_seat_35 rfl ?_
        refine r_getR 34 hO dX5_seat_36 fRX5_7 rfl ?_
        refine r_bipush hO dX5_seat_39 bc_24 ?_
        refine s_iald 123 hO dX5_seat_41 rfl (Nat.le_of_ble_eq_true rfl) 24 (by decide) (by decide) ?_
        refine r_imul hO dX5_seat_42 ?_
        refine s_istore_n hL hO dX5_seat_43 (Nat.le_of_ble_eq_true rfl) rfl ?_
        have e4 : 4 * M.1 34 24 = nI (4 * σ.1.1.length) := by rw [h.1.2.2.1, show (4 : Int32) = nI 4 from rfl, pk_mul]
        obtain ⟨a, ha, rfl⟩ := inI_nat (n := 1) (by decide) h7
        obtain ⟨b, hb, rfl⟩ := inI_nat (n := 20) (by decide) h14
        refine r_aload_n hO dX5_seat_44 rfl ?_
        refine r_getR 34 hO dX5_seat_45 fRX5_7 rfl ?_
        refine r_iload_n hO dX5_seat_48 rfl ?_
        refine r_iconst hO dX5_seat_49 ic_0 ?_
        refine r_iadd hO dX5_seat_50 ?_
        refine r_iconst hO dX5_seat_51 ic_0 ?_
        refine s_iast 123 hO dX5_seat_52 rfl (Nat.le_of_ble_eq_true rfl) (4 * σ.1.1.length + 0) (by rw [e4, show (0 : Int32) = nI 0 from rfl, nI_add]) (by omega) ?_
        refine r_aload_n hO dX5_seat_53 rfl ?_
        refine r_getR 34 hO dX5_seat_54 fRX5_7 rfl ?_
        refine r_iload_n hO dX5_seat_57 rfl ?_
        refine r_iconst hO dX5_seat_58 ic_1 ?_
        refine r_iadd hO dX5_seat_59 ?_
        refine r_iload_n hO dX5_seat_60 rfl ?_
        refine s_iast 123 hO dX5_seat_61 rfl (Nat.le_of_ble_eq_true rfl) (4 * σ.1.1.length + 1) (by rw [e4, show (1 : Int32) = nI 1 from rfl, nI_add]) (by omega) ?_
        refine r_aload_n hO dX5_seat_62 rfl ?_
        refine r_getR 34 hO dX5_seat_63 fRX5_7 rfl ?_
        refine r_iload_n hO dX5_seat_66 rfl ?_
        refine r_iconst hO dX5_seat_67 ic_2 ?_
        refine r_iadd hO dX5_seat_68 ?_
        refine r_iload_n hO dX5_seat_69 rfl ?_
        refine s_iast 123 hO dX5_seat_70 rfl (Nat.le_of_ble_eq_true rfl) (4 * σ.1.1.length + 2) (by rw [e4, show (2 : Int32) = nI 2 from rfl, nI_add]) (by omega) ?_
        refine r_aload_n hO dX5_seat_71 rfl ?_
        refine r_getR 34 hO dX5_seat_72 fRX5_7 rfl ?_
        refine r_iload_n hO dX5_seat_75 rfl ?_
        refine r_iconst hO dX5_seat_76 ic_3 ?_
        refine r_iadd hO dX5_seat_77 ?_
        refine r_iconst hO dX5_seat_78 ic_0 ?_
        refine s_iast 123 hO dX5_seat_79 rfl (Nat.le_of_ble_eq_true rfl) (4 * σ.1.1.length + 3) (by rw [e4, show (3 : Int32) = nI 3 from rfl, nI_add]) (by omega) ?_
        refine r_aload_n hO dX5_seat_80 rfl ?_
        refine r_getR 34 hO dX5_seat_81 fRX5_7 rfl ?_
        refine r_bipush hO dX5_seat_84 bc_24 ?_
        refine r_dup2 hO dX5_seat_86 rfl rfl ?_
        refine s_iald 123 hO dX5_seat_87 rfl (Nat.le_of_ble_eq_true rfl) 24 (by decide) (by decide) ?_
        refine r_iconst hO dX5_seat_88 ic_1 ?_
        refine r_iadd hO dX5_seat_89 ?_
        refine s_iast 123 hO dX5_seat_90 rfl (Nat.le_of_ble_eq_true rfl) 24 (by decide) (by decide) ?_
        refine r_aload_n hO dX5_seat_91 rfl ?_
        refine r_getR 34 hO dX5_seat_92 fRX5_7 rfl ?_
        refine r_bipush hO dX5_seat_95 bc_24 ?_
        refine s_iald 123 hO dX5_seat_97 rfl (Nat.le_of_ble_eq_true rfl) 24 (by decide) (by decide) ?_
        have e : p_seat σ (nI a) (nI b) = (nI (σ.1.1.length + 1), (σ.1.1 ++ [(0, a, b, 0)], σ.1.2), σ.2) := by unfold p_seat; rw [if_pos ⟨h7, h14⟩, if_neg h28, nI_clamp (by omega), nI_clamp (by omega)]
        rw [show (mput (mput (mput (mput M 34 (4 * σ.1.1.length + 0) 0) 34 (4 * σ.1.1.length + 1) (nI a)) 34 (4 * σ.1.1.length + 2) (nI b)) 34 (4 * σ.1.1.length + 3) 0).1 34 24 = nI σ.1.1.length from by simp only [mpg]; rw [if_neg (by omega), if_neg (by omega), if_neg (by omega), if_neg (by omega)]; exact h.1.2.2.1, nI_1]
        exact r_ireturn hO hr dX5_seat_98 rfl ⟨by rw [e]; exact sI (by simp [mpg]), by rw [e]; exact h.nut (fun a k _ _ _ _ _ _ _ h1 => by simp only [mpg]; rw [if_neg (by omega), if_neg (by omega), if_neg (by omega), if_neg (by omega), if_neg (by omega)]) (by
      rw [mput_at, mput_at, mput_at, mput_at, mput_at]
      obtain ⟨h1, h2, h3, h4, h5, h6, h7, h8⟩ := h.1
      have far : ∀ k, 25 ≤ k → upd (upd (upd (upd (upd (M.1 34) (4 * σ.1.1.length + 0) 0) (4 * σ.1.1.length + 1) (nI a)) (4 * σ.1.1.length + 2) (nI b)) (4 * σ.1.1.length + 3) 0) 24 (nI (σ.1.1.length + 1)) k = M.1 34 k := fun k hk => by rw [pk_un (by omega), pk_un (by omega), pk_un (by omega), pk_un (by omega), pk_un (by omega)]
      refine ⟨by simp; omega, ?_, by simp [pk_us], ⟨by rw [far _ (by omega)]; exact h4.1, h4.2⟩, ⟨by rw [far _ (by omega)]; exact h5.1, h5.2⟩, ⟨by rw [far _ (by omega)]; exact h6.1, h6.2⟩, ⟨by rw [far _ (by omega)]; exact h7.1, h7.2⟩, h8.eq h7.2 (fun k hk => far _ (by omega)) (fun k hk => far _ (by omega))⟩
      refine MbAt.push (fun i c hc => ?_) ⟨by simp, ha, hb, by simp⟩ (by rw [pk_un (by omega), pk_un (by omega), pk_un (by omega), pk_un (by omega)]; exact pk_us) (by rw [pk_un (by omega), pk_un (by omega), pk_un (by omega), pk_us]) (by rw [pk_un (by omega), pk_un (by omega), pk_us]) (by rw [pk_un (by omega), pk_us]; rfl)
      have hi := (List.getElem?_eq_some_iff.mp hc).1
      obtain ⟨k1, k2, k3, k4, k5⟩ := h2 i c hc
      exact ⟨by rw [pk_un (by omega), pk_un (by omega), pk_un (by omega), pk_un (by omega), pk_un (by omega)]; exact k1, by rw [pk_un (by omega), pk_un (by omega), pk_un (by omega), pk_un (by omega), pk_un (by omega)]; exact k2, by rw [pk_un (by omega), pk_un (by omega), pk_un (by omega), pk_un (by omega), pk_un (by omega)]; exact k3, by rw [pk_un (by omega), pk_un (by omega), pk_un (by omega), pk_un (by omega), pk_un (by omega)]; exact k4, k5⟩), fun a k ha => by simp only [mpg]; rw [if_neg (by omega), if_neg (by omega), if_neg (by omega), if_neg (by omega), if_neg (by omega)]⟩
      · have hl := h.1.1
        rw [h.1.2.2.1, show (6 : Int32) = nI 6 from rfl, nI_eq (by omega) (by decide)] at h28
        refine r_bipush hO dX5_seat_31 bc_m3 ?_
        have e : p_seat σ n v = (-3, σ) := by unfold p_seat; rw [if_pos ⟨h7, h14⟩, if_pos h28]
        exact r_ireturn hO hr dX5_seat_33 rfl ⟨by rw [e], by rw [e]; exact h, FDr.rf⟩
    · rw [bI_0] at h14
      refine r_iconst hO dX5_seat_17 ic_m1 ?_
      have e : p_seat σ n v = (-1, σ) := if_neg (ff2 h14)
      exact r_ireturn hO hr dX5_seat_18 rfl ⟨by rw [e], by rw [e]; exact h, FDr.rf⟩
theorem topz_n : ∀ k, k < 4 → topz k = nI (topN k) := by decide +kernel
def okA (σ : Sta) (i w v : Int32) : Bool := inI i 0 (nI σ.1.1.length - 1) && (inI w 0 3 && inI v 0 (nI (topN w.toNatClampNeg)))
theorem p_alter_f {σ : Sta} {i w v : Int32} (h : okA σ i w v = false) : p_alter σ i w v = (-1, σ) := by
  unfold p_alter
  refine if_neg (fun z => ?_)
  rw [okA, z.1, z.2.1, z.2.2] at h
  cases h
theorem p_alter_t {σ : Sta} {a k x : Nat} (h : okA σ (nI a) (nI k) (nI x) = true) (ha : a < 2 ^ 31) (hk : k < 2 ^ 31) (hx : x < 2 ^ 31) {b : Mb} (hb : σ.1.1[a]? = some b) : p_alter σ (nI a) (nI k) (nI x) = (nI (fld k b), (σ.1.1.set a (setF k x b), σ.1.2), σ.2) := by
  unfold okA at h
  simp only [Bool.and_eq_true] at h
  unfold p_alter
  rw [if_pos h, nI_clamp ha, nI_clamp hk, nI_clamp hx, List.getD_eq_getElem?_getD, hb]; rfl
theorem okA_sp {σ : Sta} {i w v : Int32} (h : okA σ i w v = true) (hl : σ.1.1.length ≤ 6) : ∃ a k x b, a < 6 ∧ k < 4 ∧ x ≤ topN k ∧ i = nI a ∧ w = nI k ∧ v = nI x ∧ σ.1.1[a]? = some b := by
  unfold okA at h
  simp only [Bool.and_eq_true] at h
  obtain ⟨h1, h2, h3⟩ := h
  obtain ⟨a, ha, rfl⟩ := inI_mem (by omega) h1
  obtain ⟨k, hk, rfl⟩ := inI_nat (n := 3) (by decide) h2
  rw [nI_clamp (by omega)] at h3
  obtain ⟨x, hx, rfl⟩ := inI_nat (by unfold topN; (repeat' split) <;> omega) h3
  exact ⟨a, k, x, σ.1.1[a], by omega, by omega, hx, rfl, rfl, rfl, List.getElem?_eq_getElem ha⟩
theorem topN_le (k : Nat) : topN k ≤ 20 := by unfold topN; (repeat' split) <;> omega
set_option maxHeartbeats 4000000 in
theorem zX4_isMember (l : Launch) {M : Mm} {σ : Sta} (h : RC M σ) {i : Int32} : CFz l 1 yX4_isMember cX4_isMember 2 (some .boolean) [.ref 0, .int i] M (some (.int (bI (inI i 0 (nI σ.1.1.length - 1))))) (M) := by
  refine Clz.on RX4 rfl (by decide +kernel) (Nat.le_of_ble_eq_true rfl) (fun X hL hO hr => ?_)
  show Gz X 0 [.ref 0, .int i] [] M
  refine r_iload_n hO dX4_isMember_0 rfl ?_
  refine r_aload_n hO dX4_isMember_1 rfl ?_
  refine r_getR 4 hO dX4_isMember_2 fRX4_26 rfl ?_
  refine r_getI hO dX4_isMember_5 fRX4_84 rfl ?_
  refine r_iconst hO dX4_isMember_8 ic_1 ?_
  refine r_isub hO dX4_isMember_9 ?_
  refine r_fS hO dX4_isMember_10 kRX4_62 msX4_within (zX4_within _) ⟨Nat.le_of_ble_eq_true rfl, Nat.le_of_ble_eq_true rfl, rfl, Nat.le_of_ble_eq_true rfl⟩ rfl ?_
  exact r_ireturn hO hr dX4_isMember_13 bI_n ⟨sI (by rw [h.1.1.2.2.1]; rfl), rfl⟩
set_option maxHeartbeats 4000000 in
theorem zX4_canAlter (l : Launch) {M : Mm} {σ : Sta} (h : RC M σ) {i w v : Int32} : CFz l 2 yX4_canAlter cX4_canAlter 4 (some .boolean) [.ref 0, .int i, .int w, .int v] M (some (.int (bI (okA σ i w v)))) (M) := by
  refine Clz.on RX4 rfl (by decide +kernel) (Nat.le_of_ble_eq_true rfl) (fun X hL hO hr => ?_)
  show Gz X 0 [.ref 0, .int i, .int w, .int v] [] M
  refine r_aload_n hO dX4_canAlter_0 rfl ?_
  refine r_iload_n hO dX4_canAlter_1 rfl ?_
  refine r_fV hO dX4_canAlter_2 kRX4_112 miX4_isMember (zX4_isMember _ h) ⟨Nat.le_of_ble_eq_true rfl, Nat.le_of_ble_eq_true rfl, rfl, Nat.le_of_ble_eq_true rfl⟩ rfl rfl ?_
  refine r_if_eq 32 hO dX4_canAlter_5 (by decide) (fun h5 => ?_) (fun h5 => ?_)
  · rw [bI_0] at h5
    refine r_iconst hO dX4_canAlter_32 ic_0 ?_
    exact r_ireturn hO hr dX4_canAlter_33 rfl ⟨sI (by simp [okA, bI, h5]), rfl⟩
  · rw [bI_n0] at h5
    refine r_iload_n hO dX4_canAlter_8 rfl ?_
    refine r_iconst hO dX4_canAlter_9 ic_3 ?_
    refine r_fS hO dX4_canAlter_10 kRX4_62 msX4_within (zX4_within _) ⟨Nat.le_of_ble_eq_true rfl, Nat.le_of_ble_eq_true rfl, rfl, Nat.le_of_ble_eq_true rfl⟩ rfl ?_
    refine r_if_eq 32 hO dX4_canAlter_13 (by decide) (fun h13 => ?_) (fun h13 => ?_)
    · rw [bI_0] at h13
      refine r_iconst hO dX4_canAlter_32 ic_0 ?_
      exact r_ireturn hO hr dX4_canAlter_33 rfl ⟨sI (by simp [okA, bI, show inI w 0 3 = false from h13]), rfl⟩
    · rw [bI_n0] at h13
      refine r_iload_n hO dX4_canAlter_16 rfl ?_
      refine r_getTop hO dX4_canAlter_17 sRX4_212 ?_
      refine r_iload_n hO dX4_canAlter_20 rfl ?_
      obtain ⟨k, hk, rfl⟩ := inI_nat (n := 3) (by decide) (show inI w 0 3 = true from h13)
      refine s_topld hO dX4_canAlter_21 k rfl (by omega) ?_
      refine r_fS hO dX4_canAlter_22 kRX4_62 msX4_within (zX4_within _) ⟨Nat.le_of_ble_eq_true rfl, Nat.le_of_ble_eq_true rfl, rfl, Nat.le_of_ble_eq_true rfl⟩ rfl ?_
      refine r_if_eq 32 hO dX4_canAlter_25 (by decide) (fun h25 => ?_) (fun h25 => ?_)
      · rw [bI_0, topz_n k (by omega)] at h25
        refine r_iconst hO dX4_canAlter_32 ic_0 ?_
        exact r_ireturn hO hr dX4_canAlter_33 rfl ⟨sI (by simp [okA, bI, h5, show inI (nI k) 0 3 = true from h13, nI_clamp (show k < 2 ^ 31 by omega), show inI v 0 (nI (topN k)) = false from h25]), rfl⟩
      · rw [bI_n0, topz_n k (by omega)] at h25
        refine r_iconst hO dX4_canAlter_28 ic_1 ?_
        refine r_goto 33 hO dX4_canAlter_29 (by decide) ?_
        exact r_ireturn hO hr dX4_canAlter_33 rfl ⟨sI (by simp [okA, bI, h5, show inI (nI k) 0 3 = true from h13, nI_clamp (show k < 2 ^ 31 by omega), show inI v 0 (nI (topN k)) = true from h25]), rfl⟩
set_option maxHeartbeats 4000000 in
theorem zX4_alter (l : Launch) {M : Mm} {σ : Sta} (h : RC M σ) {i w v : Int32} : Clz l 3 yX4_alter cX4_alter 5 (some .int) [.ref 0, .int i, .int w, .int v] M (fun r M' => r = some (.int (p_alter σ i w v).1) ∧ RC M' (p_alter σ i w v).2 ∧ FCr M M') := by
  refine Clz.on RX4 rfl (by decide +kernel) (Nat.le_of_ble_eq_true rfl) (fun X hL hO hr => ?_)
  show Gz X 0 [.ref 0, .int i, .int w, .int v, .null] [] M
  refine r_aload_n hO dX4_alter_0 rfl ?_
  refine r_iload_n hO dX4_alter_1 rfl ?_
  refine r_iload_n hO dX4_alter_2 rfl ?_
  refine r_iload_n hO dX4_alter_3 rfl ?_
  refine r_fV hO dX4_alter_4 kRX4_137 miX4_canAlter (zX4_canAlter _ h) ⟨Nat.le_of_ble_eq_true rfl, Nat.le_of_ble_eq_true rfl, rfl, Nat.le_of_ble_eq_true rfl⟩ rfl rfl ?_
  refine r_if_ne 12 hO dX4_alter_7 (by decide) (fun h7 => ?_) (fun h7 => ?_)
  · rw [bI_n0] at h7
    obtain ⟨a, k, x, b, ha, hk, hx, rfl, rfl, rfl, hb⟩ := okA_sp h7 h.1.1.1
    have ht := topN_le k
    refine r_aload_n hO dX4_alter_12 rfl ?_
    refine r_getR 4 hO dX4_alter_13 fRX4_26 rfl ?_
    refine r_iload_n hO dX4_alter_16 rfl ?_
    refine r_iload_n hO dX4_alter_17 rfl ?_
    refine r_fV hO dX4_alter_18 kRX4_116 miX0_part (zX0_partR _ (show nuP 4 from Or.inl rfl) h.1.1 k hb rfl rfl hk) ⟨Nat.le_of_ble_eq_true rfl, Nat.le_of_ble_eq_true rfl, rfl, Nat.le_of_ble_eq_true rfl⟩ rfl rfl ?_
    refine s_istore hL hO dX4_alter_21 (Nat.le_of_ble_eq_true rfl) rfl ?_
    refine r_aload_n hO dX4_alter_23 rfl ?_
    refine r_getR 4 hO dX4_alter_24 fRX4_26 rfl ?_
    refine r_iload_n hO dX4_alter_27 rfl ?_
    refine r_iload_n hO dX4_alter_28 rfl ?_
    refine r_iload_n hO dX4_alter_29 rfl ?_
    refine r_fV hO dX4_alter_30 kRX4_141 miX0_put (zX0_put _ (show nuP 4 from Or.inl rfl) a k rfl rfl (by omega) hk) ⟨Nat.le_of_ble_eq_true rfl, Nat.le_of_ble_eq_true rfl, rfl, Nat.le_of_ble_eq_true rfl⟩ rfl rfl ?_
    refine r_iload hO dX4_alter_33 rfl ?_
    have e := p_alter_t h7 (by omega) (by omega) (by omega) hb
    exact r_ireturn hO hr dX4_alter_35 rfl ⟨by rw [e], by rw [e]; exact h.nut (ne4 (by decide)) (h.1.put hb hk hx), FCr.put (by decide)⟩
  · rw [bI_0] at h7
    refine r_iconst hO dX4_alter_10 ic_m1 ?_
    have e := p_alter_f h7
    exact r_ireturn hO hr dX4_alter_11 rfl ⟨by rw [e], by rw [e]; exact h, FCr.rf⟩
set_option maxHeartbeats 4000000 in
theorem zX5_alter (l : Launch) {M : Mm} {σ : Sta} (h : RD M σ) {i w v : Int32} : Clz l 2 yX5_alter cX5_alter 5 (some .int) [.ref 33, .int i, .int w, .int v] M (fun r M' => r = some (.int (p_alter σ i w v).1) ∧ RD M' (p_alter σ i w v).2 ∧ FDr M M') := by
  refine Clz.on RX5 rfl (by decide +kernel) (Nat.le_of_ble_eq_true rfl) (fun X hL hO hr => ?_)
  show Gz X 0 [.ref 33, .int i, .int w, .int v, .null] [] M
  refine r_iload_n hO dX5_alter_0 rfl ?_
  refine r_if_ne 8 hO dX5_alter_1 (by decide) (fun h1 => ?_) (fun h1 => ?_)
  · refine r_iload_n hO dX5_alter_8 rfl ?_
    refine r_iconst hO dX5_alter_9 ic_1 ?_
    refine r_icmp_ne 17 hO dX5_alter_10 (by decide) (fun h10 => ?_) (fun h10 => ?_)
    · refine r_bipush hO dX5_alter_17 bc_20 ?_
      refine s_istore hL hO dX5_alter_19 (Nat.le_of_ble_eq_true rfl) rfl ?_
      refine r_aload_n hO dX5_alter_21 rfl ?_
      refine r_iload_n hO dX5_alter_22 rfl ?_
      refine r_fV hO dX5_alter_23 kRX5_205 miX5_isMember (zX5_isMember _) ⟨Nat.le_of_ble_eq_true rfl, Nat.le_of_ble_eq_true rfl, rfl, Nat.le_of_ble_eq_true rfl⟩ rfl rfl ?_
      refine r_if_eq 66 hO dX5_alter_26 (by decide) (fun h26 => ?_) (fun h26 => ?_)
      · rw [bI_0, h.1.2.2.1] at h26
        refine r_iconst hO dX5_alter_66 ic_m1 ?_
        have e := p_alter_f (σ := σ) (i := i) (w := w) (v := v) (by unfold okA; rw [h26]; rfl)
        exact r_ireturn hO hr dX5_alter_67 rfl ⟨by rw [e], by rw [e]; exact h, FDr.rf⟩
      · rw [bI_n0, h.1.2.2.1] at h26
        refine r_iload_n hO dX5_alter_29 rfl ?_
        refine r_i2l hO dX5_alter_30 ?_
        refine r_lconst hO dX5_alter_31 lc_0 ?_
        refine r_ldc2 hO dX5_alter_32 wRX5_210 ?_
        refine r_fS hO dX5_alter_35 kRX5_56 msX5_in (zX5_inI _ (lo := 0) (hi := 3) (by decide) (by decide)) ⟨Nat.le_of_ble_eq_true rfl, Nat.le_of_ble_eq_true rfl, rfl, Nat.le_of_ble_eq_true rfl⟩ rfl ?_
        refine r_if_eq 66 hO dX5_alter_38 (by decide) (fun h38 => ?_) (fun h38 => ?_)
        · rw [bI_0] at h38
          refine r_iconst hO dX5_alter_66 ic_m1 ?_
          have e := p_alter_f (σ := σ) (i := i) (w := w) (v := v) (by unfold okA; rw [h38]; simp)
          exact r_ireturn hO hr dX5_alter_67 rfl ⟨by rw [e], by rw [e]; exact h, FDr.rf⟩
        · rw [bI_n0] at h38
          have htop : nI (topN w.toNatClampNeg) = 20 := by unfold topN; rw [if_neg (fun z => h1 (by obtain ⟨k, hk, rfl⟩ := inI_nat (n := 3) (by decide) h38; rw [nI_clamp (by omega)] at z; rw [z]; rfl)), if_neg (fun z => h10 (by obtain ⟨k, hk, rfl⟩ := inI_nat (n := 3) (by decide) h38; rw [nI_clamp (by omega)] at z; rw [z]; rfl))]; rfl
          refine r_iload_n hO dX5_alter_41 rfl ?_
          refine r_i2l hO dX5_alter_42 ?_
          refine r_lconst hO dX5_alter_43 lc_0 ?_
          refine r_iload hO dX5_alter_44 rfl ?_
          refine r_i2l hO dX5_alter_46 ?_
          refine r_fS hO dX5_alter_47 kRX5_56 msX5_in (zX5_inI _ (lo := 0) (by decide) rfl) ⟨Nat.le_of_ble_eq_true rfl, Nat.le_of_ble_eq_true rfl, rfl, Nat.le_of_ble_eq_true rfl⟩ rfl ?_
          refine r_if_eq 66 hO dX5_alter_50 (by decide) (fun h50 => ?_) (fun h50 => ?_)
          · rw [bI_0] at h50
            refine r_iconst hO dX5_alter_66 ic_m1 ?_
            have e := p_alter_f (σ := σ) (i := i) (w := w) (v := v) (by unfold okA; rw [htop, h50]; simp)
            exact r_ireturn hO hr dX5_alter_67 rfl ⟨by rw [e], by rw [e]; exact h, FDr.rf⟩
          · rw [bI_n0] at h50
            have h7 : okA σ i w v = true := by unfold okA; rw [h26, h38, htop, h50]; rfl
            obtain ⟨a, k, x, b, ha, hk, hx, rfl, rfl, rfl, hb⟩ := okA_sp h7 h.1.1
            have ht := topN_le k
            refine r_aload_n hO dX5_alter_53 rfl ?_
            refine r_iconst hO dX5_alter_54 ic_4 ?_
            refine r_iload_n hO dX5_alter_55 rfl ?_
            refine r_imul hO dX5_alter_56 ?_
            refine r_iload_n hO dX5_alter_57 rfl ?_
            refine r_iadd hO dX5_alter_58 ?_
            refine r_iload_n hO dX5_alter_59 rfl ?_
            refine r_fV hO dX5_alter_60 kRX5_212 miX5_becomes (zX5_becomes _ (4 * a + k) (ix4 rfl rfl) (by omega)) ⟨Nat.le_of_ble_eq_true rfl, Nat.le_of_ble_eq_true rfl, rfl, Nat.le_of_ble_eq_true rfl⟩ rfl rfl ?_
            refine r_goto 67 hO dX5_alter_63 (by decide) ?_
            have e := p_alter_t h7 (by omega) (by omega) (by omega) hb
            exact r_ireturn hO hr dX5_alter_67 rfl ⟨by rw [e]; exact sI (h.1.2.1.fld hb hk), by rw [e]; exact h.nut (ne34 (by omega)) (by rw [mput_at]; exact h.1.put hb hk hx), FDr.put (by decide)⟩
    · refine r_iconst hO dX5_alter_13 ic_1 ?_
      refine r_goto 19 hO dX5_alter_14 (by decide) ?_
      refine s_istore hL hO dX5_alter_19 (Nat.le_of_ble_eq_true rfl) rfl ?_
      refine r_aload_n hO dX5_alter_21 rfl ?_
      refine r_iload_n hO dX5_alter_22 rfl ?_
      refine r_fV hO dX5_alter_23 kRX5_205 miX5_isMember (zX5_isMember _) ⟨Nat.le_of_ble_eq_true rfl, Nat.le_of_ble_eq_true rfl, rfl, Nat.le_of_ble_eq_true rfl⟩ rfl rfl ?_
      refine r_if_eq 66 hO dX5_alter_26 (by decide) (fun h26 => ?_) (fun h26 => ?_)
      · rw [bI_0, h.1.2.2.1] at h26
        refine r_iconst hO dX5_alter_66 ic_m1 ?_
        have e := p_alter_f (σ := σ) (i := i) (w := w) (v := v) (by unfold okA; rw [h26]; rfl)
        exact r_ireturn hO hr dX5_alter_67 rfl ⟨by rw [e], by rw [e]; exact h, FDr.rf⟩
      · rw [bI_n0, h.1.2.2.1] at h26
        refine r_iload_n hO dX5_alter_29 rfl ?_
        refine r_i2l hO dX5_alter_30 ?_
        refine r_lconst hO dX5_alter_31 lc_0 ?_
        refine r_ldc2 hO dX5_alter_32 wRX5_210 ?_
        refine r_fS hO dX5_alter_35 kRX5_56 msX5_in (zX5_inI _ (lo := 0) (hi := 3) (by decide) (by decide)) ⟨Nat.le_of_ble_eq_true rfl, Nat.le_of_ble_eq_true rfl, rfl, Nat.le_of_ble_eq_true rfl⟩ rfl ?_
        refine r_if_eq 66 hO dX5_alter_38 (by decide) (fun h38 => ?_) (fun h38 => ?_)
        · rw [bI_0] at h38
          refine r_iconst hO dX5_alter_66 ic_m1 ?_
          have e := p_alter_f (σ := σ) (i := i) (w := w) (v := v) (by unfold okA; rw [h38]; simp)
          exact r_ireturn hO hr dX5_alter_67 rfl ⟨by rw [e], by rw [e]; exact h, FDr.rf⟩
        · rw [bI_n0] at h38
          have htop : nI (topN w.toNatClampNeg) = 1 := by rw [h10]; decide
          refine r_iload_n hO dX5_alter_41 rfl ?_
          refine r_i2l hO dX5_alter_42 ?_
          refine r_lconst hO dX5_alter_43 lc_0 ?_
          refine r_iload hO dX5_alter_44 rfl ?_
          refine r_i2l hO dX5_alter_46 ?_
          refine r_fS hO dX5_alter_47 kRX5_56 msX5_in (zX5_inI _ (lo := 0) (by decide) rfl) ⟨Nat.le_of_ble_eq_true rfl, Nat.le_of_ble_eq_true rfl, rfl, Nat.le_of_ble_eq_true rfl⟩ rfl ?_
          refine r_if_eq 66 hO dX5_alter_50 (by decide) (fun h50 => ?_) (fun h50 => ?_)
          · rw [bI_0] at h50
            refine r_iconst hO dX5_alter_66 ic_m1 ?_
            have e := p_alter_f (σ := σ) (i := i) (w := w) (v := v) (by unfold okA; rw [htop, h50]; simp)
            exact r_ireturn hO hr dX5_alter_67 rfl ⟨by rw [e], by rw [e]; exact h, FDr.rf⟩
          · rw [bI_n0] at h50
            have h7 : okA σ i w v = true := by unfold okA; rw [h26, h38, htop, h50]; rfl
            obtain ⟨a, k, x, b, ha, hk, hx, rfl, rfl, rfl, hb⟩ := okA_sp h7 h.1.1
            have ht := topN_le k
            refine r_aload_n hO dX5_alter_53 rfl ?_
            refine r_iconst hO dX5_alter_54 ic_4 ?_
            refine r_iload_n hO dX5_alter_55 rfl ?_
            refine r_imul hO dX5_alter_56 ?_
            refine r_iload_n hO dX5_alter_57 rfl ?_
            refine r_iadd hO dX5_alter_58 ?_
            refine r_iload_n hO dX5_alter_59 rfl ?_
            refine r_fV hO dX5_alter_60 kRX5_212 miX5_becomes (zX5_becomes _ (4 * a + k) (ix4 rfl rfl) (by omega)) ⟨Nat.le_of_ble_eq_true rfl, Nat.le_of_ble_eq_true rfl, rfl, Nat.le_of_ble_eq_true rfl⟩ rfl rfl ?_
            refine r_goto 67 hO dX5_alter_63 (by decide) ?_
            have e := p_alter_t h7 (by omega) (by omega) (by omega) hb
            exact r_ireturn hO hr dX5_alter_67 rfl ⟨by rw [e]; exact sI (h.1.2.1.fld hb hk), by rw [e]; exact h.nut (ne34 (by omega)) (by rw [mput_at]; exact h.1.put hb hk hx), FDr.put (by decide)⟩
  · refine r_iconst hO dX5_alter_4 ic_3 ?_
    refine r_goto 19 hO dX5_alter_5 (by decide) ?_
    refine s_istore hL hO dX5_alter_19 (Nat.le_of_ble_eq_true rfl) rfl ?_
    refine r_aload_n hO dX5_alter_21 rfl ?_
    refine r_iload_n hO dX5_alter_22 rfl ?_
    refine r_fV hO dX5_alter_23 kRX5_205 miX5_isMember (zX5_isMember _) ⟨Nat.le_of_ble_eq_true rfl, Nat.le_of_ble_eq_true rfl, rfl, Nat.le_of_ble_eq_true rfl⟩ rfl rfl ?_
    refine r_if_eq 66 hO dX5_alter_26 (by decide) (fun h26 => ?_) (fun h26 => ?_)
    · rw [bI_0, h.1.2.2.1] at h26
      refine r_iconst hO dX5_alter_66 ic_m1 ?_
      have e := p_alter_f (σ := σ) (i := i) (w := w) (v := v) (by unfold okA; rw [h26]; rfl)
      exact r_ireturn hO hr dX5_alter_67 rfl ⟨by rw [e], by rw [e]; exact h, FDr.rf⟩
    · rw [bI_n0, h.1.2.2.1] at h26
      refine r_iload_n hO dX5_alter_29 rfl ?_
      refine r_i2l hO dX5_alter_30 ?_
      refine r_lconst hO dX5_alter_31 lc_0 ?_
      refine r_ldc2 hO dX5_alter_32 wRX5_210 ?_
      refine r_fS hO dX5_alter_35 kRX5_56 msX5_in (zX5_inI _ (lo := 0) (hi := 3) (by decide) (by decide)) ⟨Nat.le_of_ble_eq_true rfl, Nat.le_of_ble_eq_true rfl, rfl, Nat.le_of_ble_eq_true rfl⟩ rfl ?_
      refine r_if_eq 66 hO dX5_alter_38 (by decide) (fun h38 => ?_) (fun h38 => ?_)
      · rw [bI_0] at h38
        refine r_iconst hO dX5_alter_66 ic_m1 ?_
        have e := p_alter_f (σ := σ) (i := i) (w := w) (v := v) (by unfold okA; rw [h38]; simp)
        exact r_ireturn hO hr dX5_alter_67 rfl ⟨by rw [e], by rw [e]; exact h, FDr.rf⟩
      · rw [bI_n0] at h38
        have htop : nI (topN w.toNatClampNeg) = 3 := by rw [h1]; decide
        refine r_iload_n hO dX5_alter_41 rfl ?_
        refine r_i2l hO dX5_alter_42 ?_
        refine r_lconst hO dX5_alter_43 lc_0 ?_
        refine r_iload hO dX5_alter_44 rfl ?_
        refine r_i2l hO dX5_alter_46 ?_
        refine r_fS hO dX5_alter_47 kRX5_56 msX5_in (zX5_inI _ (lo := 0) (by decide) rfl) ⟨Nat.le_of_ble_eq_true rfl, Nat.le_of_ble_eq_true rfl, rfl, Nat.le_of_ble_eq_true rfl⟩ rfl ?_
        refine r_if_eq 66 hO dX5_alter_50 (by decide) (fun h50 => ?_) (fun h50 => ?_)
        · rw [bI_0] at h50
          refine r_iconst hO dX5_alter_66 ic_m1 ?_
          have e := p_alter_f (σ := σ) (i := i) (w := w) (v := v) (by unfold okA; rw [htop, h50]; simp)
          exact r_ireturn hO hr dX5_alter_67 rfl ⟨by rw [e], by rw [e]; exact h, FDr.rf⟩
        · rw [bI_n0] at h50
          have h7 : okA σ i w v = true := by unfold okA; rw [h26, h38, htop, h50]; rfl
          obtain ⟨a, k, x, b, ha, hk, hx, rfl, rfl, rfl, hb⟩ := okA_sp h7 h.1.1
          have ht := topN_le k
          refine r_aload_n hO dX5_alter_53 rfl ?_
          refine r_iconst hO dX5_alter_54 ic_4 ?_
          refine r_iload_n hO dX5_alter_55 rfl ?_
          refine r_imul hO dX5_alter_56 ?_
          refine r_iload_n hO dX5_alter_57 rfl ?_
          refine r_iadd hO dX5_alter_58 ?_
          refine r_iload_n hO dX5_alter_59 rfl ?_
          refine r_fV hO dX5_alter_60 kRX5_212 miX5_becomes (zX5_becomes _ (4 * a + k) (ix4 rfl rfl) (by omega)) ⟨Nat.le_of_ble_eq_true rfl, Nat.le_of_ble_eq_true rfl, rfl, Nat.le_of_ble_eq_true rfl⟩ rfl rfl ?_
          refine r_goto 67 hO dX5_alter_63 (by decide) ?_
          have e := p_alter_t h7 (by omega) (by omega) (by omega) hb
          exact r_ireturn hO hr dX5_alter_67 rfl ⟨by rw [e]; exact sI (h.1.2.1.fld hb hk), by rw [e]; exact h.nut (ne34 (by omega)) (by rw [mput_at]; exact h.1.put hb hk hx), FDr.put (by decide)⟩
