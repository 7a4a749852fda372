/-! the class's Nut: become, beginAnew, addMember, leaveOut -/
theorem msg (M : Mm) (p : Nat) (f : Nat → Int32) (q j : Nat) : (mset M p f).1 q j = if q = p then f j else M.1 q j := by
  unfold mset
  by_cases h : q = p
  · subst h; simp
  · simp [h]
def BecR (p q : Nat) (M M' : Mm) : Prop := (∀ a k, ¬ (p ≤ a ∧ a ≤ p + 3) → M'.1 a k = M.1 a k) ∧ M'.2 = M.2 ∧ (∀ k, k < 24 → M'.1 (p + 1) k = M.1 (q + 1) k) ∧ (∀ k, k < 6 → M'.1 (p + 2) k = M.1 (q + 2) k) ∧ (∀ k, k < 6 → M'.1 (p + 3) k = M.1 (q + 3) k) ∧ (∀ k, 3 ≤ k → k ≤ 7 → M'.1 p k = M.1 q k)
theorem nu_apart {p q : Nat} (hp : nuP p) (hq : nuP q) (h : p ≠ q) : p + 3 < q ∨ q + 3 < p := by unfold nuP at hp hq; omega
theorem cpy0 {f g : Nat → Int32} {n k : Nat} {z w : Int32} (hz : z.toNatClampNeg = 0) (hw : w.toNatClampNeg = n) (hk : k < n) : va_cpy f g z.toNatClampNeg z.toNatClampNeg w.toNatClampNeg k = f k := by
  rw [hz, hw, pk_cpy_in (by omega) (by omega)]; congr 1; omega
set_option maxHeartbeats 4000000 in
theorem zX0_become (l : Launch) {M : Mm} {p q : Nat} (hp : nuP p) (hq : nuP q) (hpq : p ≠ q) : Clz l 1 yX0_become cX0_become 2 none [.ref p, .ref q] M (fun r M' => r = none ∧ BecR p q M M') := by
  refine Clz.on RX0 rfl (by decide +kernel) (Nat.le_of_ble_eq_true rfl) (fun X hL hO hr => ?_)
  show Gz X 0 [.ref p, .ref q] [] M
  have hap := nu_apart hp hq hpq
  refine r_aload_n hO dX0_become_0 rfl ?_
  refine r_getR (q + 1) hO dX0_become_1 fRX0_9 (nu_R0 hq) ?_
  refine r_iconst hO dX0_become_4 ic_0 ?_
  refine r_aload_n hO dX0_become_5 rfl ?_
  refine r_getR (p + 1) hO dX0_become_6 fRX0_9 (nu_R0 hp) ?_
  refine r_iconst hO dX0_become_9 ic_0 ?_
  refine r_aload_n hO dX0_become_10 rfl ?_
  refine r_getR (p + 1) hO dX0_become_11 fRX0_9 (nu_R0 hp) ?_
  refine r_alen 10 24 hO dX0_become_14 (nu_A0 hp) rfl ?_
  refine r_copy 24 24 hO dX0_become_15 xRX0_37 (Nat.le_of_ble_eq_true rfl) (Nat.le_of_ble_eq_true rfl) (nu_A0 hq) (nu_A0 hp) (by decide) (by decide) (by decide) (by decide) (by decide) ?_
  refine r_aload_n hO dX0_become_18 rfl ?_
  refine r_getR (q + 2) hO dX0_become_19 fRX0_15 (nu_R1 hq) ?_
  refine r_iconst hO dX0_become_22 ic_0 ?_
  refine r_aload_n hO dX0_become_23 rfl ?_
  refine r_getR (p + 2) hO dX0_become_24 fRX0_15 (nu_R1 hp) ?_
  refine r_iconst hO dX0_become_27 ic_0 ?_
  refine r_aload_n hO dX0_become_28 rfl ?_
  refine r_getR (p + 2) hO dX0_become_29 fRX0_15 (nu_R1 hp) ?_
  refine r_alen 10 6 hO dX0_become_32 (nu_A1 hp) rfl ?_
  refine r_copy 6 6 hO dX0_become_33 xRX0_37 (Nat.le_of_ble_eq_true rfl) (Nat.le_of_ble_eq_true rfl) (nu_A1 hq) (nu_A1 hp) (by decide) (by decide) (by decide) (by decide) (by decide) ?_
  refine r_aload_n hO dX0_become_36 rfl ?_
  refine r_getR (q + 3) hO dX0_become_37 fRX0_18 (nu_R2 hq) ?_
  refine r_iconst hO dX0_become_40 ic_0 ?_
  refine r_aload_n hO dX0_become_41 rfl ?_
  refine r_getR (p + 3) hO dX0_become_42 fRX0_18 (nu_R2 hp) ?_
  refine r_iconst hO dX0_become_45 ic_0 ?_
  refine r_aload_n hO dX0_become_46 rfl ?_
  refine r_getR (p + 3) hO dX0_become_47 fRX0_18 (nu_R2 hp) ?_
  refine r_alen 10 6 hO dX0_become_50 (nu_A2 hp) rfl ?_
  refine r_copy 6 6 hO dX0_become_51 xRX0_37 (Nat.le_of_ble_eq_true rfl) (Nat.le_of_ble_eq_true rfl) (nu_A2 hq) (nu_A2 hp) (by decide) (by decide) (by decide) (by decide) (by decide) ?_
  refine r_aload_n hO dX0_become_54 rfl ?_
  refine r_aload_n hO dX0_become_55 rfl ?_
  refine r_getI hO dX0_become_56 fRX0_21 (nu_I3 hq) ?_
  refine r_putI hO dX0_become_59 fRX0_21 (nu_I3 hp) ?_
  refine r_aload_n hO dX0_become_62 rfl ?_
  refine r_aload_n hO dX0_become_63 rfl ?_
  refine r_getI hO dX0_become_64 fRX0_25 (nu_I4 hq) ?_
  refine r_putI hO dX0_become_67 fRX0_25 (nu_I4 hp) ?_
  refine r_aload_n hO dX0_become_70 rfl ?_
  refine r_aload_n hO dX0_become_71 rfl ?_
  refine r_getI hO dX0_become_72 fRX0_28 (nu_I5 hq) ?_
  refine r_putI hO dX0_become_75 fRX0_28 (nu_I5 hp) ?_
  refine r_aload_n hO dX0_become_78 rfl ?_
  refine r_aload_n hO dX0_become_79 rfl ?_
  refine r_getI hO dX0_become_80 fRX0_31 (nu_I6 hq) ?_
  refine r_putI hO dX0_become_83 fRX0_31 (nu_I6 hp) ?_
  refine r_aload_n hO dX0_become_86 rfl ?_
  refine r_aload_n hO dX0_become_87 rfl ?_
  refine r_getI hO dX0_become_88 fRX0_34 (nu_I7 hq) ?_
  refine r_putI hO dX0_become_91 fRX0_34 (nu_I7 hp) ?_
  exact r_return hO hr dX0_become_94 ⟨rfl, fun a k ha => by
    simp only [mpg, msg]
    simp only [show a ≠ p from fun z => ha ⟨by omega, by omega⟩, show a ≠ p + 1 from fun z => ha ⟨by omega, by omega⟩, show a ≠ p + 2 from fun z => ha ⟨by omega, by omega⟩, show a ≠ p + 3 from fun z => ha ⟨by omega, by omega⟩, if_false, false_and], rfl, fun k hk => by
    simp only [mpg, msg, show p + 1 ≠ p from by omega, show p + 1 ≠ p + 2 from by omega, show p + 1 ≠ p + 3 from by omega, if_false, false_and, if_true]
    exact cpy0 (by decide) (by decide) hk, fun k hk => by
    simp only [mpg, msg, show p + 2 ≠ p from by omega, show p + 2 ≠ p + 1 from by omega, show p + 2 ≠ p + 3 from by omega, show q + 2 ≠ p + 1 from by omega, if_false, false_and, if_true]
    exact (cpy0 (z := 0) (w := Int32.ofNat 6) (by decide) (by decide) hk).trans (by rw [msg, if_neg (by omega)]), fun k hk => by
    simp only [mpg, msg, show p + 3 ≠ p from by omega, show p + 3 ≠ p + 1 from by omega, show p + 3 ≠ p + 2 from by omega, show q + 3 ≠ p + 1 from by omega, show q + 3 ≠ p + 2 from by omega, if_false, false_and, if_true]
    exact (cpy0 (z := 0) (w := Int32.ofNat 6) (by decide) (by decide) hk).trans (by rw [msg, if_neg (by omega), msg, if_neg (by omega)]), fun k h3 h7 => by
    rcases (show k = 3 ∨ k = 4 ∨ k = 5 ∨ k = 6 ∨ k = 7 by omega) with rfl | rfl | rfl | rfl | rfl <;> simp [mpg, msg, show q ≠ p from by omega, show p ≠ p + 1 from by omega, show p ≠ p + 2 from by omega, show p ≠ p + 3 from by omega, show q ≠ p + 1 from by omega, show q ≠ p + 2 from by omega, show q ≠ p + 3 from by omega]⟩
set_option maxHeartbeats 4000000 in
theorem zX0_beginAnew (l : Launch) {M : Mm} {p : Nat} (hp : nuP p) : CFz l 0 yX0_beginAnew cX0_beginAnew 1 none [.ref p] M (none) (mput (mput (mput (mput (mput M p 3 0) p 4 10) p 5 0) p 6 0) p 7 0) := by
  refine Clz.on RX0 rfl (by decide +kernel) (Nat.le_of_ble_eq_true rfl) (fun X hL hO hr => ?_)
  show Gz X 0 [.ref p] [] M
  refine r_aload_n hO dX0_beginAnew_0 rfl ?_
  refine r_iconst hO dX0_beginAnew_1 ic_0 ?_
  refine r_putI hO dX0_beginAnew_2 fRX0_21 (nu_I3 hp) ?_
  refine r_aload_n hO dX0_beginAnew_5 rfl ?_
  refine r_bipush hO dX0_beginAnew_6 bc_10 ?_
  refine r_putI hO dX0_beginAnew_8 fRX0_25 (nu_I4 hp) ?_
  refine r_aload_n hO dX0_beginAnew_11 rfl ?_
  refine r_iconst hO dX0_beginAnew_12 ic_0 ?_
  refine r_putI hO dX0_beginAnew_13 fRX0_28 (nu_I5 hp) ?_
  refine r_aload_n hO dX0_beginAnew_16 rfl ?_
  refine r_iconst hO dX0_beginAnew_17 ic_0 ?_
  refine r_putI hO dX0_beginAnew_18 fRX0_31 (nu_I6 hp) ?_
  refine r_aload_n hO dX0_beginAnew_21 rfl ?_
  refine r_iconst hO dX0_beginAnew_22 ic_0 ?_
  refine r_putI hO dX0_beginAnew_23 fRX0_34 (nu_I7 hp) ?_
  exact r_return hO hr dX0_beginAnew_26 ⟨rfl, rfl⟩
set_option maxHeartbeats 4000000 in
theorem zX0_addMember (l : Launch) {M : Mm} {p : Nat} (hp : nuP p) {x : Int32} (n : Nat) (hn : M.1 p 3 = nI n) (hn6 : n < 6) : CFz l 1 yX0_addMember cX0_addMember 3 (some .int) [.ref p, .int x] M (some (.int (nI n))) (mput (mput (mput (mput (mput M p 3 (nI (n + 1))) (p + 1) (4 * n + 0) x) (p + 1) (4 * n + 1) 0) (p + 1) (4 * n + 2) 0) (p + 1) (4 * n + 3) 0) := by
  refine Clz.on RX0 rfl (by decide +kernel) (Nat.le_of_ble_eq_true rfl) (fun X hL hO hr => ?_)
  show Gz X 0 [.ref p, .int x, .null] [] M
  refine r_aload_n hO dX0_addMember_0 rfl ?_
  refine r_getI hO dX0_addMember_1 fRX0_21 (nu_I3 hp) ?_
  refine s_istore_n hL hO dX0_addMember_4 (Nat.le_of_ble_eq_true rfl) rfl ?_
  refine r_aload_n hO dX0_addMember_5 rfl ?_
  refine r_dup hO dX0_addMember_6 rfl ?_
  refine r_getI hO dX0_addMember_7 fRX0_21 (nu_I3 hp) ?_
  refine r_iconst hO dX0_addMember_10 ic_1 ?_
  refine r_iadd hO dX0_addMember_11 ?_
  refine r_putI hO dX0_addMember_12 fRX0_21 (nu_I3 hp) ?_
  refine r_aload_n hO dX0_addMember_15 rfl ?_
  refine r_iload_n hO dX0_addMember_16 rfl ?_
  refine r_iconst hO dX0_addMember_17 ic_0 ?_
  refine r_iload_n hO dX0_addMember_18 rfl ?_
  refine r_fV hO dX0_addMember_19 kRX0_43 miX0_put (zX0_put _ hp n 0 (by rw [hn]) rfl (by omega) (by decide)) ⟨Nat.le_of_ble_eq_true rfl, Nat.le_of_ble_eq_true rfl, rfl, Nat.le_of_ble_eq_true rfl⟩ (nu_o hp) rfl ?_
  refine r_aload_n hO dX0_addMember_22 rfl ?_
  refine r_iload_n hO dX0_addMember_23 rfl ?_
  refine r_iconst hO dX0_addMember_24 ic_1 ?_
  refine r_iconst hO dX0_addMember_25 ic_0 ?_
  refine r_fV hO dX0_addMember_26 kRX0_43 miX0_put (zX0_put _ hp n 1 (by rw [hn]) rfl (by omega) (by decide)) ⟨Nat.le_of_ble_eq_true rfl, Nat.le_of_ble_eq_true rfl, rfl, Nat.le_of_ble_eq_true rfl⟩ (nu_o hp) rfl ?_
  refine r_aload_n hO dX0_addMember_29 rfl ?_
  refine r_iload_n hO dX0_addMember_30 rfl ?_
  refine r_iconst hO dX0_addMember_31 ic_2 ?_
  refine r_iconst hO dX0_addMember_32 ic_0 ?_
  refine r_fV hO dX0_addMember_33 kRX0_43 miX0_put (zX0_put _ hp n 2 (by rw [hn]) rfl (by omega) (by decide)) ⟨Nat.le_of_ble_eq_true rfl, Nat.le_of_ble_eq_true rfl, rfl, Nat.le_of_ble_eq_true rfl⟩ (nu_o hp) rfl ?_
  refine r_aload_n hO dX0_addMember_36 rfl ?_
  refine r_iload_n hO dX0_addMember_37 rfl ?_
  refine r_iconst hO dX0_addMember_38 ic_3 ?_
  refine r_iconst hO dX0_addMember_39 ic_0 ?_
  refine r_fV hO dX0_addMember_40 kRX0_43 miX0_put (zX0_put _ hp n 3 (by rw [hn]) rfl (by omega) (by decide)) ⟨Nat.le_of_ble_eq_true rfl, Nat.le_of_ble_eq_true rfl, rfl, Nat.le_of_ble_eq_true rfl⟩ (nu_o hp) rfl ?_
  refine r_iload_n hO dX0_addMember_43 rfl ?_
  exact r_ireturn hO hr dX0_addMember_44 rfl ⟨sI hn, by rw [hn, nI_1]⟩
set_option maxHeartbeats 4000000 in
theorem zX0_leaveOut (l : Launch) {M : Mm} {p : Nat} (hp : nuP p) {x : Int32} (i n : Nat) (hx : x = nI i) (hi : i < 6) (hn : M.1 p 3 = nI (n + 1)) (hn6 : n < 6) : CFz l 1 yX0_leaveOut cX0_leaveOut 3 none [.ref p, .int x] M (none) (mput (mset M (p + 1) (va_cpy (M.1 (p + 1)) (M.1 (p + 1)) (4 * (i + 1)) (4 * i) (24 - 4 * (i + 1)))) p 3 (nI n)) := by
  refine Clz.on RX0 rfl (by decide +kernel) (Nat.le_of_ble_eq_true rfl) (fun X hL hO hr => ?_)
  show Gz X 0 [.ref p, .int x, .null] [] M
  refine r_iload_n hO dX0_leaveOut_0 rfl ?_
  refine r_iconst hO dX0_leaveOut_1 ic_1 ?_
  refine r_iadd hO dX0_leaveOut_2 ?_
  refine r_iconst hO dX0_leaveOut_3 ic_4 ?_
  refine r_imul hO dX0_leaveOut_4 ?_
  refine s_istore_n hL hO dX0_leaveOut_5 (Nat.le_of_ble_eq_true rfl) rfl ?_
  refine r_aload_n hO dX0_leaveOut_6 rfl ?_
  refine r_getR (p + 1) hO dX0_leaveOut_7 fRX0_9 (nu_R0 hp) ?_
  refine r_iload_n hO dX0_leaveOut_10 rfl ?_
  refine r_aload_n hO dX0_leaveOut_11 rfl ?_
  refine r_getR (p + 1) hO dX0_leaveOut_12 fRX0_9 (nu_R0 hp) ?_
  refine r_iload_n hO dX0_leaveOut_15 rfl ?_
  refine r_iconst hO dX0_leaveOut_16 ic_4 ?_
  refine r_imul hO dX0_leaveOut_17 ?_
  refine r_aload_n hO dX0_leaveOut_18 rfl ?_
  refine r_getR (p + 1) hO dX0_leaveOut_19 fRX0_9 (nu_R0 hp) ?_
  refine r_alen 10 24 hO dX0_leaveOut_22 (nu_A0 hp) rfl ?_
  refine r_iload_n hO dX0_leaveOut_23 rfl ?_
  refine r_isub hO dX0_leaveOut_24 ?_
  have e1 : (x + 1) * 4 = nI (4 * (i + 1)) := by rw [hx, nI_1, show (4 : Int32) = nI 4 from rfl, pk_mul, Nat.mul_comm]
  have e2 : x * 4 = nI (4 * i) := by rw [hx, show (4 : Int32) = nI 4 from rfl, pk_mul, Nat.mul_comm]
  have e3 : Int32.ofNat 24 - (x + 1) * 4 = nI (24 - 4 * (i + 1)) := by rw [e1, show Int32.ofNat 24 = nI 24 from rfl, pk_sub (by omega)]
  have c1 : ((x + 1) * 4).toNatClampNeg = 4 * (i + 1) := by rw [e1, nI_clamp (by omega)]
  have c2 : (x * 4).toNatClampNeg = 4 * i := by rw [e2, nI_clamp (by omega)]
  have c3 : (Int32.ofNat 24 - (x + 1) * 4).toNatClampNeg = 24 - 4 * (i + 1) := by rw [e3, nI_clamp (by omega)]
  refine r_copy 24 24 hO dX0_leaveOut_25 xRX0_37 (Nat.le_of_ble_eq_true rfl) (Nat.le_of_ble_eq_true rfl) (nu_A0 hp) (nu_A0 hp) (by rw [e1]; exact nI_pos (by omega)) (by rw [e2]; exact nI_pos (by omega)) (by rw [e3]; exact nI_pos (by omega)) (by rw [c1, c3]; omega) (by rw [c2, c3]; omega) ?_
  rw [c1, c2, c3]
  refine r_aload_n hO dX0_leaveOut_28 rfl ?_
  refine r_dup hO dX0_leaveOut_29 rfl ?_
  refine r_getI hO dX0_leaveOut_30 fRX0_21 (nu_I3 hp) ?_
  refine r_iconst hO dX0_leaveOut_33 ic_1 ?_
  refine r_isub hO dX0_leaveOut_34 ?_
  refine r_putI hO dX0_leaveOut_35 fRX0_21 (nu_I3 hp) ?_
  exact r_return hO hr dX0_leaveOut_38 ⟨rfl, by rw [msg, if_neg (by omega), hn, nI_pred]⟩
