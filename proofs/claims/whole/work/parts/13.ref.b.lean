/-! the reference's days -/
theorem RN.a {M : Mm} {full : List Mb} {mo day am ch : Nat} {out : Int32} (R : RN M full mo day am out ch) {i : Nat} {b : Mb} (hb : full[i]? = some b) : i < 6 := by
  have := (List.getElem?_eq_some_iff.mp hb).1
  have := R.1
  omega
theorem zX5_isOfR (l : Launch) {M : Mm} {full : List Mb} {mo day am ch : Nat} {out : Int32} (R : RN M full mo day am out ch) {x y : Int32} {i : Nat} {b : Mb} (h : Nat) (hb : full[i]? = some b) (hx : x = nI i) (hy : y = nI h) (hh : h < 2) : CFz l 1 yX5_isOf cX5_isOf 3 (some .boolean) [.ref 33, .int x, .int y] M (some (.int (bI (isA out i h b)))) M := by
  have e : decide (x ≠ M.1 33 13 ∧ M.1 35 (4 * i + 1) = y) = isA out i h b := by
    rw [R.2.2.2.2.2.2.1, hx, hy]
    unfold isA
    rw [Bool.eq_iff_iff, decide_eq_true_iff, Bool.and_eq_true, R.2.1.house hb (by omega)]
    simp
  rw [← e]
  exact zX5_isOf l i hx (R.a hb)
theorem zX5_votesR (l : Launch) {M : Mm} {full : List Mb} {mo day am ch : Nat} {out : Int32} (R : RN M full mo day am out ch) {x : Int32} {i : Nat} {b : Mb} (hb : full[i]? = some b) (hx : x = nI i) : CFz l 2 yX5_votes cX5_votes 2 (some .boolean) [.ref 33, .int x] M (some (.int (bI (vt b mo)))) M := by
  rw [← R.2.1.votes hb R.2.2.2.1.2, ← R.2.2.2.1.1]
  exact zX5_votes l i hx (R.a hb)
theorem zX5_pullR (l : Launch) {M : Mm} {full : List Mb} {mo day am ch : Nat} {out : Int32} (R : RN M full mo day am out ch) {x : Int32} {i : Nat} {b : Mb} (hb : full[i]? = some b) (hx : x = nI i) : CFz l 2 yX5_pull cX5_pull 4 (some .int) [.ref 33, .int x] M (some (.int (iI (pl b mo)))) M := by
  rw [← R.2.1.pull hb R.2.2.2.1.2, ← R.2.2.2.1.1]
  exact zX5_pull l i hx (R.a hb)
set_option maxHeartbeats 4000000 in
theorem zX5_votesFor (l : Launch) {M : Mm} {full : List Mb} {mo day am ch : Nat} {out : Int32} (R : RN M full mo day am out ch) {x : Int32} (h : Nat) (hx : x = nI h) (hh : h < 2) : CFz l 3 yX5_votesFor cX5_votesFor 4 (some .int) [.ref 33, .int x] M (some (.int (nI (cY h mo (act out 0 full))))) (M) := by
  refine Clz.on RX5 rfl (by decide +kernel) (Nat.le_of_ble_eq_true rfl) (fun X hL hO hr => ?_)
  show Gz X 0 [.ref 33, .int x, .null, .null] [] M
  have loop : ∀ (rest : List Mb) (i m : Nat), full.drop i = rest → i ≤ full.length → m + cY h mo (act out i rest) = cY h mo (act out 0 full) → Gz X 4 [.ref 33, .int x, .int (nI m), .int (nI i)] [] M := by
    intro rest
    induction rest with
    | nil =>
      intro i m hd hi hm
      have hi := drop_nil hd hi
      refine r_iload_n hO dX5_votesFor_4 rfl ?_
      refine r_aload_n hO dX5_votesFor_5 rfl ?_
      refine r_getR 35 hO dX5_votesFor_6 fRX5_13 rfl ?_
      refine r_bipush hO dX5_votesFor_9 bc_24 ?_
      refine s_iald 41 hO dX5_votesFor_11 rfl (Nat.le_of_ble_eq_true rfl) 24 (by decide) (by decide) ?_
      refine r_icmp_ge 49 hO dX5_votesFor_12 (by decide) (fun _ => ?_) (fun z => absurd (by rw [R.2.2.1, hi]; exact nI_le (Nat.le_refl _) (by have := R.1; omega)) z)
      refine r_iload_n hO dX5_votesFor_49 rfl ?_
      exact r_ireturn hO hr dX5_votesFor_50 rfl ⟨sI (by rw [← hm]; simp [cY, act]), rfl⟩
    | cons b bs ih =>
      intro i m hd hi hm
      obtain ⟨hb, hd2, hlt⟩ := drop_cons hd
      refine r_iload_n hO dX5_votesFor_4 rfl ?_
      refine r_aload_n hO dX5_votesFor_5 rfl ?_
      refine r_getR 35 hO dX5_votesFor_6 fRX5_13 rfl ?_
      refine r_bipush hO dX5_votesFor_9 bc_24 ?_
      refine s_iald 41 hO dX5_votesFor_11 rfl (Nat.le_of_ble_eq_true rfl) 24 (by decide) (by decide) ?_
      refine r_icmp_ge 49 hO dX5_votesFor_12 (by decide) (fun z => absurd z (by rw [R.2.2.1]; exact nI_ge hlt (by have := R.1; omega))) (fun _ => ?_)
      refine r_iload_n hO dX5_votesFor_15 rfl ?_
      refine r_aload_n hO dX5_votesFor_16 rfl ?_
      refine r_iload_n hO dX5_votesFor_17 rfl ?_
      refine r_iload_n hO dX5_votesFor_18 rfl ?_
      refine r_fV hO dX5_votesFor_19 kRX5_145 miX5_isOf (zX5_isOfR _ R h hb rfl hx hh) ⟨Nat.le_of_ble_eq_true rfl, Nat.le_of_ble_eq_true rfl, rfl, Nat.le_of_ble_eq_true rfl⟩ rfl rfl ?_
      refine r_if_eq 37 hO dX5_votesFor_22 (by decide) (fun h22 => ?_) (fun h22 => ?_)
      · rw [bI_0] at h22
        refine r_iconst hO dX5_votesFor_37 ic_0 ?_
        refine r_fS hO dX5_votesFor_38 kRX5_153 msX5_flag (zX5_flag _ false rfl) ⟨Nat.le_of_ble_eq_true rfl, Nat.le_of_ble_eq_true rfl, rfl, Nat.le_of_ble_eq_true rfl⟩ rfl ?_
        refine r_iadd hO dX5_votesFor_41 ?_
        refine s_istore_n hL hO dX5_votesFor_42 (Nat.le_of_ble_eq_true rfl) rfl ?_
        refine s_iinc hL hO dX5_votesFor_43 rfl ic_1 (Nat.le_of_ble_eq_true rfl) rfl ?_
        refine r_goto 4 hO dX5_votesFor_46 (by decide) ?_
        show Gz X 4 [.ref 33, .int x, .int (nI m + bI false), .int (nI i + 1)] [] M
        rw [nI_bf, nI_1]
        exact ih (i + 1) _ hd2 (by omega) (by rw [← hm, cY_skip h22] <;> omega)
      · rw [bI_n0] at h22
        refine r_aload_n hO dX5_votesFor_25 rfl ?_
        refine r_iload_n hO dX5_votesFor_26 rfl ?_
        refine r_fV hO dX5_votesFor_27 kRX5_149 miX5_votes (zX5_votesR _ R hb rfl) ⟨Nat.le_of_ble_eq_true rfl, Nat.le_of_ble_eq_true rfl, rfl, Nat.le_of_ble_eq_true rfl⟩ rfl rfl ?_
        refine r_if_eq 37 hO dX5_votesFor_30 (by decide) (fun h30 => ?_) (fun h30 => ?_)
        · rw [bI_0] at h30
          refine r_iconst hO dX5_votesFor_37 ic_0 ?_
          refine r_fS hO dX5_votesFor_38 kRX5_153 msX5_flag (zX5_flag _ false rfl) ⟨Nat.le_of_ble_eq_true rfl, Nat.le_of_ble_eq_true rfl, rfl, Nat.le_of_ble_eq_true rfl⟩ rfl ?_
          refine r_iadd hO dX5_votesFor_41 ?_
          refine s_istore_n hL hO dX5_votesFor_42 (Nat.le_of_ble_eq_true rfl) rfl ?_
          refine s_iinc hL hO dX5_votesFor_43 rfl ic_1 (Nat.le_of_ble_eq_true rfl) rfl ?_
          refine r_goto 4 hO dX5_votesFor_46 (by decide) ?_
          show Gz X 4 [.ref 33, .int x, .int (nI m + bI false), .int (nI i + 1)] [] M
          rw [nI_bf, nI_1]
          exact ih (i + 1) _ hd2 (by omega) (by rw [← hm, cY_no h30] <;> omega)
        · rw [bI_n0] at h30
          refine r_iconst hO dX5_votesFor_33 ic_1 ?_
          refine r_goto 38 hO dX5_votesFor_34 (by decide) ?_
          refine r_fS hO dX5_votesFor_38 kRX5_153 msX5_flag (zX5_flag _ true rfl) ⟨Nat.le_of_ble_eq_true rfl, Nat.le_of_ble_eq_true rfl, rfl, Nat.le_of_ble_eq_true rfl⟩ rfl ?_
          refine r_iadd hO dX5_votesFor_41 ?_
          refine s_istore_n hL hO dX5_votesFor_42 (Nat.le_of_ble_eq_true rfl) rfl ?_
          refine s_iinc hL hO dX5_votesFor_43 rfl ic_1 (Nat.le_of_ble_eq_true rfl) rfl ?_
          refine r_goto 4 hO dX5_votesFor_46 (by decide) ?_
          show Gz X 4 [.ref 33, .int x, .int (nI m + bI true), .int (nI i + 1)] [] M
          rw [nI_bt, nI_1]
          exact ih (i + 1) _ hd2 (by omega) (by rw [← hm, cY_yes h22 h30] <;> omega)
  refine r_iconst hO dX5_votesFor_0 ic_0 ?_
  refine s_istore_n hL hO dX5_votesFor_1 (Nat.le_of_ble_eq_true rfl) rfl ?_
  refine r_iconst hO dX5_votesFor_2 ic_0 ?_
  refine s_istore_n hL hO dX5_votesFor_3 (Nat.le_of_ble_eq_true rfl) rfl ?_
  exact loop full 0 0 rfl (Nat.zero_le _) (by simp)
set_option maxHeartbeats 4000000 in
theorem zX5_votesAgainst (l : Launch) {M : Mm} {full : List Mb} {mo day am ch : Nat} {out : Int32} (R : RN M full mo day am out ch) {x : Int32} (h : Nat) (hx : x = nI h) (hh : h < 2) : CFz l 3 yX5_votesAgainst cX5_votesAgainst 4 (some .int) [.ref 33, .int x] M (some (.int (nI (cN h mo (act out 0 full))))) (M) := by
  refine Clz.on RX5 rfl (by decide +kernel) (Nat.le_of_ble_eq_true rfl) (fun X hL hO hr => ?_)
  show Gz X 0 [.ref 33, .int x, .null, .null] [] M
  have loop : ∀ (rest : List Mb) (i m : Nat), full.drop i = rest → i ≤ full.length → m + cN h mo (act out i rest) = cN h mo (act out 0 full) → Gz X 4 [.ref 33, .int x, .int (nI m), .int (nI i)] [] M := by
    intro rest
    induction rest with
    | nil =>
      intro i m hd hi hm
      have hi := drop_nil hd hi
      refine r_iload_n hO dX5_votesAgainst_4 rfl ?_
      refine r_aload_n hO dX5_votesAgainst_5 rfl ?_
      refine r_getR 35 hO dX5_votesAgainst_6 fRX5_13 rfl ?_
      refine r_bipush hO dX5_votesAgainst_9 bc_24 ?_
      refine s_iald 41 hO dX5_votesAgainst_11 rfl (Nat.le_of_ble_eq_true rfl) 24 (by decide) (by decide) ?_
      refine r_icmp_ge 49 hO dX5_votesAgainst_12 (by decide) (fun _ => ?_) (fun z => absurd (by rw [R.2.2.1, hi]; exact nI_le (Nat.le_refl _) (by have := R.1; omega)) z)
      refine r_iload_n hO dX5_votesAgainst_49 rfl ?_
      exact r_ireturn hO hr dX5_votesAgainst_50 rfl ⟨sI (by rw [← hm]; simp [cN, act]), rfl⟩
    | cons b bs ih =>
      intro i m hd hi hm
      obtain ⟨hb, hd2, hlt⟩ := drop_cons hd
      refine r_iload_n hO dX5_votesAgainst_4 rfl ?_
      refine r_aload_n hO dX5_votesAgainst_5 rfl ?_
      refine r_getR 35 hO dX5_votesAgainst_6 fRX5_13 rfl ?_
      refine r_bipush hO dX5_votesAgainst_9 bc_24 ?_
      refine s_iald 41 hO dX5_votesAgainst_11 rfl (Nat.le_of_ble_eq_true rfl) 24 (by decide) (by decide) ?_
      refine r_icmp_ge 49 hO dX5_votesAgainst_12 (by decide) (fun z => absurd z (by rw [R.2.2.1]; exact nI_ge hlt (by have := R.1; omega))) (fun _ => ?_)
      refine r_iload_n hO dX5_votesAgainst_15 rfl ?_
      refine r_aload_n hO dX5_votesAgainst_16 rfl ?_
      refine r_iload_n hO dX5_votesAgainst_17 rfl ?_
      refine r_iload_n hO dX5_votesAgainst_18 rfl ?_
      refine r_fV hO dX5_votesAgainst_19 kRX5_145 miX5_isOf (zX5_isOfR _ R h hb rfl hx hh) ⟨Nat.le_of_ble_eq_true rfl, Nat.le_of_ble_eq_true rfl, rfl, Nat.le_of_ble_eq_true rfl⟩ rfl rfl ?_
      refine r_if_eq 37 hO dX5_votesAgainst_22 (by decide) (fun h22 => ?_) (fun h22 => ?_)
      · rw [bI_0] at h22
        refine r_iconst hO dX5_votesAgainst_37 ic_0 ?_
        refine r_fS hO dX5_votesAgainst_38 kRX5_153 msX5_flag (zX5_flag _ false rfl) ⟨Nat.le_of_ble_eq_true rfl, Nat.le_of_ble_eq_true rfl, rfl, Nat.le_of_ble_eq_true rfl⟩ rfl ?_
        refine r_iadd hO dX5_votesAgainst_41 ?_
        refine s_istore_n hL hO dX5_votesAgainst_42 (Nat.le_of_ble_eq_true rfl) rfl ?_
        refine s_iinc hL hO dX5_votesAgainst_43 rfl ic_1 (Nat.le_of_ble_eq_true rfl) rfl ?_
        refine r_goto 4 hO dX5_votesAgainst_46 (by decide) ?_
        show Gz X 4 [.ref 33, .int x, .int (nI m + bI false), .int (nI i + 1)] [] M
        rw [nI_bf, nI_1]
        exact ih (i + 1) _ hd2 (by omega) (by rw [← hm, cN_skip h22] <;> omega)
      · rw [bI_n0] at h22
        refine r_aload_n hO dX5_votesAgainst_25 rfl ?_
        refine r_iload_n hO dX5_votesAgainst_26 rfl ?_
        refine r_fV hO dX5_votesAgainst_27 kRX5_149 miX5_votes (zX5_votesR _ R hb rfl) ⟨Nat.le_of_ble_eq_true rfl, Nat.le_of_ble_eq_true rfl, rfl, Nat.le_of_ble_eq_true rfl⟩ rfl rfl ?_
        refine r_if_ne 37 hO dX5_votesAgainst_30 (by decide) (fun h30 => ?_) (fun h30 => ?_)
        · rw [bI_n0] at h30
          refine r_iconst hO dX5_votesAgainst_37 ic_0 ?_
          refine r_fS hO dX5_votesAgainst_38 kRX5_153 msX5_flag (zX5_flag _ false rfl) ⟨Nat.le_of_ble_eq_true rfl, Nat.le_of_ble_eq_true rfl, rfl, Nat.le_of_ble_eq_true rfl⟩ rfl ?_
          refine r_iadd hO dX5_votesAgainst_41 ?_
          refine s_istore_n hL hO dX5_votesAgainst_42 (Nat.le_of_ble_eq_true rfl) rfl ?_
          refine s_iinc hL hO dX5_votesAgainst_43 rfl ic_1 (Nat.le_of_ble_eq_true rfl) rfl ?_
          refine r_goto 4 hO dX5_votesAgainst_46 (by decide) ?_
          show Gz X 4 [.ref 33, .int x, .int (nI m + bI false), .int (nI i + 1)] [] M
          rw [nI_bf, nI_1]
          exact ih (i + 1) _ hd2 (by omega) (by rw [← hm, cN_no h30] <;> omega)
        · rw [bI_0] at h30
          refine r_iconst hO dX5_votesAgainst_33 ic_1 ?_
          refine r_goto 38 hO dX5_votesAgainst_34 (by decide) ?_
          refine r_fS hO dX5_votesAgainst_38 kRX5_153 msX5_flag (zX5_flag _ true rfl) ⟨Nat.le_of_ble_eq_true rfl, Nat.le_of_ble_eq_true rfl, rfl, Nat.le_of_ble_eq_true rfl⟩ rfl ?_
          refine r_iadd hO dX5_votesAgainst_41 ?_
          refine s_istore_n hL hO dX5_votesAgainst_42 (Nat.le_of_ble_eq_true rfl) rfl ?_
          refine s_iinc hL hO dX5_votesAgainst_43 rfl ic_1 (Nat.le_of_ble_eq_true rfl) rfl ?_
          refine r_goto 4 hO dX5_votesAgainst_46 (by decide) ?_
          show Gz X 4 [.ref 33, .int x, .int (nI m + bI true), .int (nI i + 1)] [] M
          rw [nI_bt, nI_1]
          exact ih (i + 1) _ hd2 (by omega) (by rw [← hm, cN_yes h22 h30] <;> omega)
  refine r_iconst hO dX5_votesAgainst_0 ic_0 ?_
  refine s_istore_n hL hO dX5_votesAgainst_1 (Nat.le_of_ble_eq_true rfl) rfl ?_
  refine r_iconst hO dX5_votesAgainst_2 ic_0 ?_
  refine s_istore_n hL hO dX5_votesAgainst_3 (Nat.le_of_ble_eq_true rfl) rfl ?_
  exact loop full 0 0 rfl (Nat.zero_le _) (by simp)
set_option maxHeartbeats 4000000 in
theorem zX5_pullOfAll (l : Launch) {M : Mm} {full : List Mb} {mo day am ch : Nat} {out : Int32} (R : RN M full mo day am out ch) {x : Int32} (h : Nat) (hx : x = nI h) (hh : h < 2) : CFz l 3 yX5_pullOfAll cX5_pullOfAll 4 (some .int) [.ref 33, .int x] M (some (.int (iI (sP h mo (act out 0 full))))) (M) := by
  refine Clz.on RX5 rfl (by decide +kernel) (Nat.le_of_ble_eq_true rfl) (fun X hL hO hr => ?_)
  show Gz X 0 [.ref 33, .int x, .null, .null] [] M
  have loop : ∀ (rest : List Mb) (i : Nat) (m : Int), full.drop i = rest → i ≤ full.length → m + sP h mo (act out i rest) = sP h mo (act out 0 full) → Gz X 4 [.ref 33, .int x, .int (iI m), .int (nI i)] [] M := by
    intro rest
    induction rest with
    | nil =>
      intro i m hd hi hm
      have hi := drop_nil hd hi
      refine r_iload_n hO dX5_pullOfAll_4 rfl ?_
      refine r_aload_n hO dX5_pullOfAll_5 rfl ?_
      refine r_getR 35 hO dX5_pullOfAll_6 fRX5_13 rfl ?_
      refine r_bipush hO dX5_pullOfAll_9 bc_24 ?_
      refine s_iald 41 hO dX5_pullOfAll_11 rfl (Nat.le_of_ble_eq_true rfl) 24 (by decide) (by decide) ?_
      refine r_icmp_ge 42 hO dX5_pullOfAll_12 (by decide) (fun _ => ?_) (fun z => absurd (by rw [R.2.2.1, hi]; exact nI_le (Nat.le_refl _) (by have := R.1; omega)) z)
      refine r_iload_n hO dX5_pullOfAll_42 rfl ?_
      exact r_ireturn hO hr dX5_pullOfAll_43 rfl ⟨sI (by rw [← hm]; simp [sP, act]), rfl⟩
    | cons b bs ih =>
      intro i m hd hi hm
      obtain ⟨hb, hd2, hlt⟩ := drop_cons hd
      refine r_iload_n hO dX5_pullOfAll_4 rfl ?_
      refine r_aload_n hO dX5_pullOfAll_5 rfl ?_
      refine r_getR 35 hO dX5_pullOfAll_6 fRX5_13 rfl ?_
      refine r_bipush hO dX5_pullOfAll_9 bc_24 ?_
      refine s_iald 41 hO dX5_pullOfAll_11 rfl (Nat.le_of_ble_eq_true rfl) 24 (by decide) (by decide) ?_
      refine r_icmp_ge 42 hO dX5_pullOfAll_12 (by decide) (fun z => absurd z (by rw [R.2.2.1]; exact nI_ge hlt (by have := R.1; omega))) (fun _ => ?_)
      refine r_iload_n hO dX5_pullOfAll_15 rfl ?_
      refine r_aload_n hO dX5_pullOfAll_16 rfl ?_
      refine r_iload_n hO dX5_pullOfAll_17 rfl ?_
      refine r_iload_n hO dX5_pullOfAll_18 rfl ?_
      refine r_fV hO dX5_pullOfAll_19 kRX5_145 miX5_isOf (zX5_isOfR _ R h hb rfl hx hh) ⟨Nat.le_of_ble_eq_true rfl, Nat.le_of_ble_eq_true rfl, rfl, Nat.le_of_ble_eq_true rfl⟩ rfl rfl ?_
      refine r_if_eq 33 hO dX5_pullOfAll_22 (by decide) (fun h22 => ?_) (fun h22 => ?_)
      · rw [bI_0] at h22
        refine r_iconst hO dX5_pullOfAll_33 ic_0 ?_
        refine r_iadd hO dX5_pullOfAll_34 ?_
        refine s_istore_n hL hO dX5_pullOfAll_35 (Nat.le_of_ble_eq_true rfl) rfl ?_
        refine s_iinc hL hO dX5_pullOfAll_36 rfl ic_1 (Nat.le_of_ble_eq_true rfl) rfl ?_
        refine r_goto 4 hO dX5_pullOfAll_39 (by decide) ?_
        show Gz X 4 [.ref 33, .int x, .int (iI m + 0), .int (nI i + 1)] [] M
        rw [show iI m + 0 = iI m from by rw [show (0 : Int32) = iI 0 from rfl, iI_add, Int.add_zero], nI_1]
        exact ih (i + 1) _ hd2 (by omega) (by rw [← hm, sP_skip h22])
      · rw [bI_n0] at h22
        refine r_aload_n hO dX5_pullOfAll_25 rfl ?_
        refine r_iload_n hO dX5_pullOfAll_26 rfl ?_
        refine r_fV hO dX5_pullOfAll_27 kRX5_157 miX5_pull (zX5_pullR _ R hb rfl) ⟨Nat.le_of_ble_eq_true rfl, Nat.le_of_ble_eq_true rfl, rfl, Nat.le_of_ble_eq_true rfl⟩ rfl rfl ?_
        refine r_goto 34 hO dX5_pullOfAll_30 (by decide) ?_
        refine r_iadd hO dX5_pullOfAll_34 ?_
        refine s_istore_n hL hO dX5_pullOfAll_35 (Nat.le_of_ble_eq_true rfl) rfl ?_
        refine s_iinc hL hO dX5_pullOfAll_36 rfl ic_1 (Nat.le_of_ble_eq_true rfl) rfl ?_
        refine r_goto 4 hO dX5_pullOfAll_39 (by decide) ?_
        show Gz X 4 [.ref 33, .int x, .int (iI m + iI (pl b mo)), .int (nI i + 1)] [] M
        rw [iI_add, nI_1]
        exact ih (i + 1) _ hd2 (by omega) (by rw [← hm, sP_yes h22, Int.add_assoc])
  refine r_iconst hO dX5_pullOfAll_0 ic_0 ?_
  refine s_istore_n hL hO dX5_pullOfAll_1 (Nat.le_of_ble_eq_true rfl) rfl ?_
  refine r_iconst hO dX5_pullOfAll_2 ic_0 ?_
  refine s_istore_n hL hO dX5_pullOfAll_3 (Nat.le_of_ble_eq_true rfl) rfl ?_
  exact loop full 0 0 rfl (Nat.zero_le _) (by simp)
set_option maxHeartbeats 4000000 in
theorem zX5_agrees (l : Launch) {M : Mm} {full : List Mb} {mo day am ch : Nat} {out : Int32} (R : RN M full mo day am out ch) {x : Int32} (h : Nat) (hx : x = nI h) (hh : h < 2) : CFz l 4 yX5_agrees cX5_agrees 4 (some .boolean) [.ref 33, .int x] M (some (.int (bI (agr h mo (act out 0 full))))) (M) := by
  refine Clz.on RX5 rfl (by decide +kernel) (Nat.le_of_ble_eq_true rfl) (fun X hL hO hr => ?_)
  show Gz X 0 [.ref 33, .int x, .null, .null] [] M
  have hle : (act out 0 full).length ≤ 6 := Nat.le_trans (act_len out full 0) R.1
  refine r_aload_n hO dX5_agrees_0 rfl ?_
  refine r_iload_n hO dX5_agrees_1 rfl ?_
  refine r_fV hO dX5_agrees_2 kRX5_160 miX5_votesFor (zX5_votesFor _ R h hx hh) ⟨Nat.le_of_ble_eq_true rfl, Nat.le_of_ble_eq_true rfl, rfl, Nat.le_of_ble_eq_true rfl⟩ rfl rfl ?_
  refine s_istore_n hL hO dX5_agrees_5 (Nat.le_of_ble_eq_true rfl) rfl ?_
  refine r_aload_n hO dX5_agrees_6 rfl ?_
  refine r_iload_n hO dX5_agrees_7 rfl ?_
  refine r_fV hO dX5_agrees_8 kRX5_163 miX5_votesAgainst (zX5_votesAgainst _ R h hx hh) ⟨Nat.le_of_ble_eq_true rfl, Nat.le_of_ble_eq_true rfl, rfl, Nat.le_of_ble_eq_true rfl⟩ rfl rfl ?_
  refine s_istore_n hL hO dX5_agrees_11 (Nat.le_of_ble_eq_true rfl) rfl ?_
  refine r_iload_n hO dX5_agrees_12 rfl ?_
  refine r_iload_n hO dX5_agrees_13 rfl ?_
  refine r_icmp_gt 23 hO dX5_agrees_14 (by decide) (fun h14 => ?_) (fun h14 => ?_)
  · refine r_iconst hO dX5_agrees_23 ic_1 ?_
    refine r_goto 28 hO dX5_agrees_24 (by decide) ?_
    exact r_ireturn hO hr dX5_agrees_28 rfl ⟨sI (agr_1 hle h14), rfl⟩
  · refine r_iload_n hO dX5_agrees_17 rfl ?_
    refine r_iload_n hO dX5_agrees_18 rfl ?_
    refine r_iadd hO dX5_agrees_19 ?_
    refine r_if_ne 27 hO dX5_agrees_20 (by decide) (fun h20 => ?_) (fun h20 => ?_)
    · refine r_iconst hO dX5_agrees_27 ic_0 ?_
      exact r_ireturn hO hr dX5_agrees_28 rfl ⟨sI (agr_2 hle h14 h20), rfl⟩
    · refine r_iconst hO dX5_agrees_23 ic_1 ?_
      refine r_goto 28 hO dX5_agrees_24 (by decide) ?_
      exact r_ireturn hO hr dX5_agrees_28 rfl ⟨sI (agr_3 hle h20), rfl⟩
set_option maxHeartbeats 4000000 in
theorem zX5_isCarried (l : Launch) {M : Mm} {full : List Mb} {mo day am ch : Nat} {out : Int32} (R : RN M full mo day am out ch) : CFz l 5 yX5_isCarried cX5_isCarried 1 (some .boolean) [.ref 33] M (some (.int (bI (car mo (act out 0 full))))) (M) := by
  refine Clz.on RX5 rfl (by decide +kernel) (Nat.le_of_ble_eq_true rfl) (fun X hL hO hr => ?_)
  show Gz X 0 [.ref 33] [] M
  refine r_aload_n hO dX5_isCarried_0 rfl ?_
  refine r_iconst hO dX5_isCarried_1 ic_0 ?_
  refine r_fV hO dX5_isCarried_2 kRX5_166 miX5_agrees (zX5_agrees _ R 0 rfl (by decide)) ⟨Nat.le_of_ble_eq_true rfl, Nat.le_of_ble_eq_true rfl, rfl, Nat.le_of_ble_eq_true rfl⟩ rfl rfl ?_
  refine r_if_eq 20 hO dX5_isCarried_5 (by decide) (fun h5 => ?_) (fun h5 => ?_)
  · rw [bI_0] at h5
    refine r_iconst hO dX5_isCarried_20 ic_0 ?_
    exact r_ireturn hO hr dX5_isCarried_21 rfl ⟨sI (by simp [car, bI, h5]), rfl⟩
  · rw [bI_n0] at h5
    refine r_aload_n hO dX5_isCarried_8 rfl ?_
    refine r_iconst hO dX5_isCarried_9 ic_1 ?_
    refine r_fV hO dX5_isCarried_10 kRX5_166 miX5_agrees (zX5_agrees _ R 1 rfl (by decide)) ⟨Nat.le_of_ble_eq_true rfl, Nat.le_of_ble_eq_true rfl, rfl, Nat.le_of_ble_eq_true rfl⟩ rfl rfl ?_
    refine r_if_eq 20 hO dX5_isCarried_13 (by decide) (fun h13 => ?_) (fun h13 => ?_)
    · rw [bI_0] at h13
      refine r_iconst hO dX5_isCarried_20 ic_0 ?_
      exact r_ireturn hO hr dX5_isCarried_21 rfl ⟨sI (by simp [car, bI, h5, h13]), rfl⟩
    · rw [bI_n0] at h13
      refine r_iconst hO dX5_isCarried_16 ic_1 ?_
      refine r_goto 21 hO dX5_isCarried_17 (by decide) ?_
      exact r_ireturn hO hr dX5_isCarried_21 rfl ⟨sI (by simp [car, bI, h5, h13]), rfl⟩
set_option maxHeartbeats 4000000 in
theorem zX5_agreeing (l : Launch) {M : Mm} {full : List Mb} {mo day am ch : Nat} {out : Int32} (R : RN M full mo day am out ch) : CFz l 5 yX5_agreeing cX5_agreeing 1 (some .int) [.ref 33] M (some (.int (bI (agr 0 mo (act out 0 full)) + 2 * bI (agr 1 mo (act out 0 full))))) (M) := by
  refine Clz.on RX5 rfl (by decide +kernel) (Nat.le_of_ble_eq_true rfl) (fun X hL hO hr => ?_)
  show Gz X 0 [.ref 33] [] M
  refine r_aload_n hO dX5_agreeing_0 rfl ?_
  refine r_iconst hO dX5_agreeing_1 ic_0 ?_
  refine r_fV hO dX5_agreeing_2 kRX5_166 miX5_agrees (zX5_agrees _ R 0 rfl (by decide)) ⟨Nat.le_of_ble_eq_true rfl, Nat.le_of_ble_eq_true rfl, rfl, Nat.le_of_ble_eq_true rfl⟩ rfl rfl ?_
  refine r_fS hO dX5_agreeing_5 kRX5_153 msX5_flag (zX5_flag _ (agr 0 mo (act out 0 full)) rfl) ⟨Nat.le_of_ble_eq_true rfl, Nat.le_of_ble_eq_true rfl, rfl, Nat.le_of_ble_eq_true rfl⟩ rfl ?_
  refine r_iconst hO dX5_agreeing_8 ic_2 ?_
  refine r_aload_n hO dX5_agreeing_9 rfl ?_
  refine r_iconst hO dX5_agreeing_10 ic_1 ?_
  refine r_fV hO dX5_agreeing_11 kRX5_166 miX5_agrees (zX5_agrees _ R 1 rfl (by decide)) ⟨Nat.le_of_ble_eq_true rfl, Nat.le_of_ble_eq_true rfl, rfl, Nat.le_of_ble_eq_true rfl⟩ rfl rfl ?_
  refine r_fS hO dX5_agreeing_14 kRX5_153 msX5_flag (zX5_flag _ (agr 1 mo (act out 0 full)) rfl) ⟨Nat.le_of_ble_eq_true rfl, Nat.le_of_ble_eq_true rfl, rfl, Nat.le_of_ble_eq_true rfl⟩ rfl ?_
  refine r_imul hO dX5_agreeing_17 ?_
  refine r_iadd hO dX5_agreeing_18 ?_
  exact r_ireturn hO hr dX5_agreeing_19 rfl ⟨rfl, rfl⟩
set_option maxHeartbeats 4000000 in
theorem zX5_sumOf (l : Launch) {M : Mm} {full : List Mb} {mo day am ch : Nat} {out : Int32} (R : RN M full mo day am out ch) {x : Int32} (k : Nat) (hx : x = nI k) (hk : k < 4) : CFz l 1 yX5_sumOf cX5_sumOf 4 (some .int) [.ref 33, .int x] M (some (.int (nI (sumK k full)))) (M) := by
  refine Clz.on RX5 rfl (by decide +kernel) (Nat.le_of_ble_eq_true rfl) (fun X hL hO hr => ?_)
  show Gz X 0 [.ref 33, .int x, .null, .null] [] M
  have loop : ∀ (rest : List Mb) (i m : Nat), full.drop i = rest → i ≤ full.length → m + sumK k rest = sumK k full → Gz X 4 [.ref 33, .int x, .int (nI m), .int (nI i)] [] M := by
    intro rest
    induction rest with
    | nil =>
      intro i m hd hi hm
      have hi := drop_nil hd hi
      refine r_iload_n hO dX5_sumOf_4 rfl ?_
      refine r_aload_n hO dX5_sumOf_5 rfl ?_
      refine r_getR 35 hO dX5_sumOf_6 fRX5_13 rfl ?_
      refine r_bipush hO dX5_sumOf_9 bc_24 ?_
      refine s_iald 41 hO dX5_sumOf_11 rfl (Nat.le_of_ble_eq_true rfl) 24 (by decide) (by decide) ?_
      refine r_icmp_ge 30 hO dX5_sumOf_12 (by decide) (fun _ => ?_) (fun z => absurd (by rw [R.2.2.1, hi]; exact nI_le (Nat.le_refl _) (by have := R.1; omega)) z)
      refine r_iload_n hO dX5_sumOf_30 rfl ?_
      exact r_ireturn hO hr dX5_sumOf_31 rfl ⟨sI (by rw [← hm]; simp [sumK]), rfl⟩
    | cons b bs ih =>
      intro i m hd hi hm
      obtain ⟨hb, hd2, hlt⟩ := drop_cons hd
      refine r_iload_n hO dX5_sumOf_4 rfl ?_
      refine r_aload_n hO dX5_sumOf_5 rfl ?_
      refine r_getR 35 hO dX5_sumOf_6 fRX5_13 rfl ?_
      refine r_bipush hO dX5_sumOf_9 bc_24 ?_
      refine s_iald 41 hO dX5_sumOf_11 rfl (Nat.le_of_ble_eq_true rfl) 24 (by decide) (by decide) ?_
      refine r_icmp_ge 30 hO dX5_sumOf_12 (by decide) (fun z => absurd z (by rw [R.2.2.1]; exact nI_ge hlt (by have := R.1; omega))) (fun _ => ?_)
      refine r_iload_n hO dX5_sumOf_15 rfl ?_
      refine r_aload_n hO dX5_sumOf_16 rfl ?_
      refine r_iload_n hO dX5_sumOf_17 rfl ?_
      refine r_iload_n hO dX5_sumOf_18 rfl ?_
      refine r_fV hO dX5_sumOf_19 kRX5_131 miX5_of (zX5_of _ i k rfl hx (by have := R.a hb; omega)) ⟨Nat.le_of_ble_eq_true rfl, Nat.le_of_ble_eq_true rfl, rfl, Nat.le_of_ble_eq_true rfl⟩ rfl rfl ?_
      refine r_iadd hO dX5_sumOf_22 ?_
      refine s_istore_n hL hO dX5_sumOf_23 (Nat.le_of_ble_eq_true rfl) rfl ?_
      refine s_iinc hL hO dX5_sumOf_24 rfl ic_1 (Nat.le_of_ble_eq_true rfl) rfl ?_
      refine r_goto 4 hO dX5_sumOf_27 (by decide) ?_
      show Gz X 4 [.ref 33, .int x, .int (nI m + M.1 35 (4 * i + k)), .int (nI i + 1)] [] M
      rw [R.2.1.fld hb hk, nI_add, nI_1]
      exact ih (i + 1) _ hd2 (by omega) (by rw [← hm]; simp [sumK]; omega)
  refine r_iconst hO dX5_sumOf_0 ic_0 ?_
  refine s_istore_n hL hO dX5_sumOf_1 (Nat.le_of_ble_eq_true rfl) rfl ?_
  refine r_iconst hO dX5_sumOf_2 ic_0 ?_
  refine s_istore_n hL hO dX5_sumOf_3 (Nat.le_of_ble_eq_true rfl) rfl ?_
  exact loop full 0 0 rfl (Nat.zero_le _) (by simp)
set_option maxHeartbeats 4000000 in
theorem zX5_votingNow (l : Launch) {M : Mm} {full : List Mb} {mo day am ch : Nat} {out : Int32} (R : RN M full mo day am out ch) : CFz l 3 yX5_votingNow cX5_votingNow 3 (some .int) [.ref 33] M (some (.int (orB (fun b => vt b mo) 0 0 full))) (M) := by
  refine Clz.on RX5 rfl (by decide +kernel) (Nat.le_of_ble_eq_true rfl) (fun X hL hO hr => ?_)
  show Gz X 0 [.ref 33, .null, .null] [] M
  have loop : ∀ (rest : List Mb) (i : Nat) (m : Int32), full.drop i = rest → i ≤ full.length → orB (fun b => vt b mo) i m rest = orB (fun b => vt b mo) 0 0 full → Gz X 4 [.ref 33, .int m, .int (nI i)] [] M := by
    intro rest
    induction rest with
    | nil =>
      intro i m hd hi hm
      have hi := drop_nil hd hi
      refine r_iload_n hO dX5_votingNow_4 rfl ?_
      refine r_aload_n hO dX5_votingNow_5 rfl ?_
      refine r_getR 35 hO dX5_votingNow_6 fRX5_13 rfl ?_
      refine r_bipush hO dX5_votingNow_9 bc_24 ?_
      refine s_iald 41 hO dX5_votingNow_11 rfl (Nat.le_of_ble_eq_true rfl) 24 (by decide) (by decide) ?_
      refine r_icmp_ge 34 hO dX5_votingNow_12 (by decide) (fun _ => ?_) (fun z => absurd (by rw [R.2.2.1, hi]; exact nI_le (Nat.le_refl _) (by have := R.1; omega)) z)
      refine r_iload_n hO dX5_votingNow_34 rfl ?_
      exact r_ireturn hO hr dX5_votingNow_35 rfl ⟨sI hm, rfl⟩
    | cons b bs ih =>
      intro i m hd hi hm
      obtain ⟨hb, hd2, hlt⟩ := drop_cons hd
      refine r_iload_n hO dX5_votingNow_4 rfl ?_
      refine r_aload_n hO dX5_votingNow_5 rfl ?_
      refine r_getR 35 hO dX5_votingNow_6 fRX5_13 rfl ?_
      refine r_bipush hO dX5_votingNow_9 bc_24 ?_
      refine s_iald 41 hO dX5_votingNow_11 rfl (Nat.le_of_ble_eq_true rfl) 24 (by decide) (by decide) ?_
      refine r_icmp_ge 34 hO dX5_votingNow_12 (by decide) (fun z => absurd z (by rw [R.2.2.1]; exact nI_ge hlt (by have := R.1; omega))) (fun _ => ?_)
      refine r_iload_n hO dX5_votingNow_15 rfl ?_
      refine r_aload_n hO dX5_votingNow_16 rfl ?_
      refine r_iload_n hO dX5_votingNow_17 rfl ?_
      refine r_fV hO dX5_votingNow_18 kRX5_149 miX5_votes (zX5_votesR _ R hb rfl) ⟨Nat.le_of_ble_eq_true rfl, Nat.le_of_ble_eq_true rfl, rfl, Nat.le_of_ble_eq_true rfl⟩ rfl rfl ?_
      refine r_fS hO dX5_votingNow_21 kRX5_153 msX5_flag (zX5_flag _ (vt b mo) rfl) ⟨Nat.le_of_ble_eq_true rfl, Nat.le_of_ble_eq_true rfl, rfl, Nat.le_of_ble_eq_true rfl⟩ rfl ?_
      refine r_iload_n hO dX5_votingNow_24 rfl ?_
      refine r_ishl hO dX5_votingNow_25 ?_
      refine r_ior hO dX5_votingNow_26 ?_
      refine s_istore_n hL hO dX5_votingNow_27 (Nat.le_of_ble_eq_true rfl) rfl ?_
      refine s_iinc hL hO dX5_votingNow_28 rfl ic_1 (Nat.le_of_ble_eq_true rfl) rfl ?_
      refine r_goto 4 hO dX5_votingNow_31 (by decide) ?_
      show Gz X 4 [.ref 33, .int (m ||| bI (vt b mo) <<< (nI i &&& 31)), .int (nI i + 1)] [] M
      rw [nI_1]
      exact ih (i + 1) _ hd2 (by omega) hm
  refine r_iconst hO dX5_votingNow_0 ic_0 ?_
  refine s_istore_n hL hO dX5_votingNow_1 (Nat.le_of_ble_eq_true rfl) rfl ?_
  refine r_iconst hO dX5_votingNow_2 ic_0 ?_
  refine s_istore_n hL hO dX5_votingNow_3 (Nat.le_of_ble_eq_true rfl) rfl ?_
  exact loop full 0 0 rfl (Nat.zero_le _) rfl
set_option maxHeartbeats 4000000 in
theorem zX5_sits (l : Launch) {M : Mm} {full : List Mb} {mo day am ch : Nat} {out : Int32} (R : RN M full mo day am out ch) {x : Int32} (h : Nat) (hx : x = nI h) (hh : h < 2) (hc : ch < 100000) : Clz l 4 yX5_sits cX5_sits 4 none [.ref 33, .int x] M (fun r M' => r = none ∧ F35 M M' ∧ RN M' (sitA out h mo 0 full) (nmo h mo (act out 0 full)) day (if nmo h mo (act out 0 full) = mo then am else min 999 (am + 1)) out (if nmo h mo (act out 0 full) = mo then ch else ch + 1)) := by
  refine Clz.on RX5 rfl (by decide +kernel) (Nat.le_of_ble_eq_true rfl) (fun X hL hO hr => ?_)
  show Gz X 0 [.ref 33, .int x, .null, .null] [] M
  have hle : (act out 0 full).length ≤ 6 := Nat.le_trans (act_len out full 0) R.1
  have loop : ∀ (rest : List Mb) (i : Nat) (M1 : Mm) (cur : List Mb), cur.drop i = rest → i ≤ cur.length → RN M1 cur mo day am out ch → F35 M M1 → cur.take i ++ sitA out h mo i rest = sitA out h mo 0 full → Gz X 8 [.ref 33, .int x, .int (iI (sP h mo (act out 0 full))), .int (nI i)] [] M1 := by
    intro rest
    induction rest with
    | nil =>
      intro i M1 cur hd hi R1 hF hm
      have hi := drop_nil hd hi
      rw [hi, List.take_length, show sitA out h mo cur.length [] = [] from rfl, List.append_nil] at hm
      refine r_iload_n hO dX5_sits_8 rfl ?_
      refine r_aload_n hO dX5_sits_9 rfl ?_
      refine r_getR 35 hO dX5_sits_10 fRX5_13 rfl ?_
      refine r_bipush hO dX5_sits_13 bc_24 ?_
      refine s_iald 41 hO dX5_sits_15 rfl (Nat.le_of_ble_eq_true rfl) 24 (by decide) (by decide) ?_
      refine r_icmp_ge 69 hO dX5_sits_16 (by decide) (fun _ => ?_) (fun z => absurd (by rw [R1.2.2.1, hi]; exact nI_le (Nat.le_refl _) (by have := R1.1; omega)) z)
      refine r_aload_n hO dX5_sits_69 rfl ?_
      refine r_getR 35 hO dX5_sits_70 fRX5_13 rfl ?_
      refine r_bipush hO dX5_sits_73 bc_25 ?_
      refine s_iald 41 hO dX5_sits_75 rfl (Nat.le_of_ble_eq_true rfl) 25 (by decide) (by decide) ?_
      refine r_iload_n hO dX5_sits_76 rfl ?_
      refine r_fS hO dX5_sits_77 kRX5_142 msX5_sign (zX5_sign _) ⟨Nat.le_of_ble_eq_true rfl, Nat.le_of_ble_eq_true rfl, rfl, Nat.le_of_ble_eq_true rfl⟩ rfl ?_
      refine r_iadd hO dX5_sits_80 ?_
      rw [R1.2.2.2.1.1, sgI_eq (by have := sP_in h mo (act out 0 full); omega) (by have := sP_in h mo (act out 0 full); omega)]
      refine s_istore_n hL hO dX5_sits_81 (Nat.le_of_ble_eq_true rfl) rfl ?_
      refine r_iload_n hO dX5_sits_82 rfl ?_
      refine r_aload_n hO dX5_sits_83 rfl ?_
      refine r_getR 35 hO dX5_sits_84 fRX5_13 rfl ?_
      refine r_bipush hO dX5_sits_87 bc_25 ?_
      refine s_iald 41 hO dX5_sits_89 rfl (Nat.le_of_ble_eq_true rfl) 25 (by decide) (by decide) ?_
      refine r_icmp_eq 140 hO dX5_sits_90 (by decide) (fun h90 => ?_) (fun h90 => ?_)
      · rw [R1.2.2.2.1.1] at h90
        have hq : nmo h mo (act out 0 full) = mo := mo1 R.2.2.2.1.2 h90
        exact r_return hO hr dX5_sits_140 ⟨rfl, hF, by rw [if_pos hq, if_pos hq, hq, ← hm]; exact R1⟩
      · rw [R1.2.2.2.1.1] at h90
        refine r_iload_n hO dX5_sits_93 rfl ?_
        refine r_fS hO dX5_sits_94 kRX5_182 msX5_isMotion (zX5_isMotion _) ⟨Nat.le_of_ble_eq_true rfl, Nat.le_of_ble_eq_true rfl, rfl, Nat.le_of_ble_eq_true rfl⟩ rfl ?_
        refine r_if_eq 140 hO dX5_sits_97 (by decide) (fun h97 => ?_) (fun h97 => ?_)
        · rw [bI_0] at h97
          have hq : nmo h mo (act out 0 full) = mo := mo2 R.2.2.2.1.2 h97
          exact r_return hO hr dX5_sits_140 ⟨rfl, hF, by rw [if_pos hq, if_pos hq, hq, ← hm]; exact R1⟩
        · rw [bI_n0] at h97
          have hq : nI mo + iI (sg (sP h mo (act out 0 full))) = nI (nmo h mo (act out 0 full)) ∧ nmo h mo (act out 0 full) ≠ mo := mo3 R.2.2.2.1.2 h90 h97
          refine r_aload_n hO dX5_sits_100 rfl ?_
          refine r_getR 35 hO dX5_sits_101 fRX5_13 rfl ?_
          refine r_bipush hO dX5_sits_104 bc_25 ?_
          refine r_iload_n hO dX5_sits_106 rfl ?_
          refine s_iast 41 hO dX5_sits_107 rfl (Nat.le_of_ble_eq_true rfl) 25 (by decide) (by decide) ?_
          refine r_aload_n hO dX5_sits_108 rfl ?_
          refine r_getR 35 hO dX5_sits_109 fRX5_13 rfl ?_
          refine r_bipush hO dX5_sits_112 bc_27 ?_
          refine r_sipush hO dX5_sits_114 sc_999 ?_
          refine r_aload_n hO dX5_sits_117 rfl ?_
          refine r_getR 35 hO dX5_sits_118 fRX5_13 rfl ?_
          refine r_bipush hO dX5_sits_121 bc_27 ?_
          refine s_iald 41 hO dX5_sits_123 rfl (Nat.le_of_ble_eq_true rfl) 27 (by decide) (by decide) ?_
          refine r_iconst hO dX5_sits_124 ic_1 ?_
          refine r_iadd hO dX5_sits_125 ?_
          refine r_fS hO dX5_sits_126 kRX5_175 msX5_lesser (zX5_lesser _) ⟨Nat.le_of_ble_eq_true rfl, Nat.le_of_ble_eq_true rfl, rfl, Nat.le_of_ble_eq_true rfl⟩ rfl ?_
          refine s_iast 41 hO dX5_sits_129 rfl (Nat.le_of_ble_eq_true rfl) 27 (by decide) (by decide) ?_
          refine r_aload_n hO dX5_sits_130 rfl ?_
          refine r_dup hO dX5_sits_131 rfl ?_
          refine r_getI hO dX5_sits_132 fRX5_128 rfl ?_
          refine r_iconst hO dX5_sits_135 ic_1 ?_
          refine r_iadd hO dX5_sits_136 ?_
          refine r_putI hO dX5_sits_137 fRX5_128 rfl ?_
          have R2 := R1.change (m2 := nmo h mo (act out 0 full)) (a2 := min 999 (am + 1)) (nmo_le R.2.2.2.1.2) (by omega) hc
          have e27 : (mput M1 35 25 (nI mo + iI (sg (sP h mo (act out 0 full))))).1 35 27 = nI am := by rw [mpg, if_neg (by decide)]; exact R1.2.2.2.2.2.1.1
          have e14 : ∀ x y, (mput (mput M1 35 25 x) 35 27 y).1 33 14 = nI ch := fun x y => by rw [mpg, if_neg (by decide), mpg, if_neg (by decide)]; exact R1.2.2.2.2.2.2.2.1
          rw [e14, e27, amd_d _ (by have := R.2.2.2.2.2.1.2; omega), nI_1, hq.1]
          exact r_return hO hr dX5_sits_140 ⟨rfl, ((hF.tr F35.put).tr F35.put).tr F35.put14, by rw [if_neg hq.2, if_neg hq.2, ← hm]; exact R2⟩
    | cons b bs ih =>
      intro i M1 cur hd hi R1 hF hm
      obtain ⟨hb, hd2, hlt⟩ := drop_cons hd
      refine r_iload_n hO dX5_sits_8 rfl ?_
      refine r_aload_n hO dX5_sits_9 rfl ?_
      refine r_getR 35 hO dX5_sits_10 fRX5_13 rfl ?_
      refine r_bipush hO dX5_sits_13 bc_24 ?_
      refine s_iald 41 hO dX5_sits_15 rfl (Nat.le_of_ble_eq_true rfl) 24 (by decide) (by decide) ?_
      refine r_icmp_ge 69 hO dX5_sits_16 (by decide) (fun z => absurd z (by rw [R1.2.2.1]; exact nI_ge hlt (by have := R1.1; omega))) (fun _ => ?_)
      refine r_aload_n hO dX5_sits_19 rfl ?_
      refine r_iload_n hO dX5_sits_20 rfl ?_
      refine r_iload_n hO dX5_sits_21 rfl ?_
      refine r_fV hO dX5_sits_22 kRX5_145 miX5_isOf (zX5_isOfR _ R1 h hb rfl hx hh) ⟨Nat.le_of_ble_eq_true rfl, Nat.le_of_ble_eq_true rfl, rfl, Nat.le_of_ble_eq_true rfl⟩ rfl rfl ?_
      refine r_if_eq 63 hO dX5_sits_25 (by decide) (fun h25 => ?_) (fun h25 => ?_)
      · rw [bI_0] at h25
        refine s_iinc hL hO dX5_sits_63 rfl ic_1 (Nat.le_of_ble_eq_true rfl) rfl ?_
        refine r_goto 8 hO dX5_sits_66 (by decide) ?_
        show Gz X 8 [.ref 33, .int x, .int (iI (sP h mo (act out 0 full))), .int (nI i + 1)] [] _
        rw [nI_1]
        exact ih (i + 1) M1 cur hd2 (by omega) R1 hF (by rw [← hm, sitA_c, sit_skip h25, takeS hb, List.append_assoc]; rfl)
      · rw [bI_n0] at h25
        refine r_aload_n hO dX5_sits_28 rfl ?_
        refine r_iload_n hO dX5_sits_29 rfl ?_
        refine r_fV hO dX5_sits_30 kRX5_149 miX5_votes (zX5_votesR _ R1 hb rfl) ⟨Nat.le_of_ble_eq_true rfl, Nat.le_of_ble_eq_true rfl, rfl, Nat.le_of_ble_eq_true rfl⟩ rfl rfl ?_
        refine r_if_ne 63 hO dX5_sits_33 (by decide) (fun h33 => ?_) (fun h33 => ?_)
        · rw [bI_n0] at h33
          refine s_iinc hL hO dX5_sits_63 rfl ic_1 (Nat.le_of_ble_eq_true rfl) rfl ?_
          refine r_goto 8 hO dX5_sits_66 (by decide) ?_
          show Gz X 8 [.ref 33, .int x, .int (iI (sP h mo (act out 0 full))), .int (nI i + 1)] [] _
          rw [nI_1]
          exact ih (i + 1) M1 cur hd2 (by omega) R1 hF (by rw [← hm, sitA_c, sit_vt h33, takeS hb, List.append_assoc]; rfl)
        · rw [bI_0] at h33
          refine r_aload_n hO dX5_sits_36 rfl ?_
          refine r_iload_n hO dX5_sits_37 rfl ?_
          refine r_iconst hO dX5_sits_38 ic_3 ?_
          refine r_bipush hO dX5_sits_39 bc_20 ?_
          refine r_aload_n hO dX5_sits_41 rfl ?_
          refine r_iload_n hO dX5_sits_42 rfl ?_
          refine r_iconst hO dX5_sits_43 ic_3 ?_
          refine r_fV hO dX5_sits_44 kRX5_131 miX5_of (zX5_of _ i 3 rfl rfl (by have := R1.a hb; omega)) ⟨Nat.le_of_ble_eq_true rfl, Nat.le_of_ble_eq_true rfl, rfl, Nat.le_of_ble_eq_true rfl⟩ rfl rfl ?_
          refine r_aload_n hO dX5_sits_47 rfl ?_
          refine r_iload_n hO dX5_sits_48 rfl ?_
          refine r_iconst hO dX5_sits_49 ic_0 ?_
          refine r_fV hO dX5_sits_50 kRX5_131 miX5_of (zX5_of _ i 0 rfl rfl (by have := R1.a hb; omega)) ⟨Nat.le_of_ble_eq_true rfl, Nat.le_of_ble_eq_true rfl, rfl, Nat.le_of_ble_eq_true rfl⟩ rfl rfl ?_
          refine r_fS hO dX5_sits_53 kRX5_172 msX5_tires (zX5_tires _) ⟨Nat.le_of_ble_eq_true rfl, Nat.le_of_ble_eq_true rfl, rfl, Nat.le_of_ble_eq_true rfl⟩ rfl ?_
          refine r_iadd hO dX5_sits_56 ?_
          refine r_fS hO dX5_sits_57 kRX5_175 msX5_lesser (zX5_lesser _) ⟨Nat.le_of_ble_eq_true rfl, Nat.le_of_ble_eq_true rfl, rfl, Nat.le_of_ble_eq_true rfl⟩ rfl ?_
          refine r_fV hO dX5_sits_60 kRX5_178 miX5_becomesOf (zX5_becomesOf _ i 3 rfl rfl (by have := R1.a hb; omega)) ⟨Nat.le_of_ble_eq_true rfl, Nat.le_of_ble_eq_true rfl, rfl, Nat.le_of_ble_eq_true rfl⟩ rfl rfl ?_
          refine s_iinc hL hO dX5_sits_63 rfl ic_1 (Nat.le_of_ble_eq_true rfl) rfl ?_
          refine r_goto 8 hO dX5_sits_66 (by decide) ?_
          show Gz X 8 [.ref 33, .int x, .int (iI (sP h mo (act out 0 full))), .int (nI i + 1)] [] _
          rw [nI_1]
          have ev : lsI 20 (M1.1 35 (4 * i + 3) + tiI (M1.1 35 (4 * i + 0))) = nI (min 20 (b.2.2.2 + ti b.1)) := by
            obtain ⟨g1, g2, g3, g4, g5⟩ := R1.2.1 i b hb
            rw [show M1.1 35 (4 * i + 0) = nI b.1 from g1, g4, tir_d _ (by have := g5.1; omega) _ (by have := g5.2.2.2; omega)]
          rw [ev]
          exact ih (i + 1) _ (cur.set i (tird b)) (by rw [List.drop_set_of_lt (by omega)]; exact hd2) (by rw [List.length_set]; omega) (R1.ptm hb (by omega)) (hF.tr (F35.put (by have := R1.a hb; omega))) (by rw [← hm, sitA_c, sit_yes h25 h33, takeS (ms := cur.set i (tird b)) (b := tird b) (List.getElem?_set_self hlt), List.append_assoc, List.take_set_of_le (Nat.le_refl i)]; rfl)
  refine r_aload_n hO dX5_sits_0 rfl ?_
  refine r_iload_n hO dX5_sits_1 rfl ?_
  refine r_fV hO dX5_sits_2 kRX5_169 miX5_pullOfAll (zX5_pullOfAll _ R h hx hh) ⟨Nat.le_of_ble_eq_true rfl, Nat.le_of_ble_eq_true rfl, rfl, Nat.le_of_ble_eq_true rfl⟩ rfl rfl ?_
  refine s_istore_n hL hO dX5_sits_5 (Nat.le_of_ble_eq_true rfl) rfl ?_
  refine r_iconst hO dX5_sits_6 ic_0 ?_
  refine s_istore_n hL hO dX5_sits_7 (Nat.le_of_ble_eq_true rfl) rfl ?_
  exact loop full 0 M full rfl (Nat.zero_le _) R F35.rf rfl
