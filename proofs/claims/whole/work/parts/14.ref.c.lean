/-! the reference's days, seen as a state -/
theorem dayS_day (s : Ns) : (dayS s).2.2.1 = s.2.2.1 + 1 := by unfold dayS; split <;> rfl
theorem dayS_ch (s : Ns) : (dayS s).2.2.2.2 ≤ s.2.2.2.2 + 1 := by
  unfold dayS
  split
  · exact Nat.le_succ _
  · dsimp only
    split <;> omega
theorem dayS_t {ms : List Mb} {mo day am ch : Nat} (h : car mo ms = true) : dayS (ms, mo, day, am, ch) = (ms, mo, day + 1, am, ch) := if_pos h
theorem dayS_f {ms : List Mb} {mo day am ch : Nat} (h : car mo ms = false) : dayS (ms, mo, day, am, ch) = (ms.map (sitB (day % 2) mo), nmo (day % 2) mo ms, day + 1, (if nmo (day % 2) mo ms = mo then am else min 999 (am + 1)), (if nmo (day % 2) mo ms = mo then ch else ch + 1)) := if_neg (fun z => by rw [h] at z; cases z)
def runS : Nat → Ns → Ns
  | 0, s => s
  | n + 1, s => runS n (dayS s)
def dtS : Nat → Ns → Option Nat
  | 0, _ => none
  | f + 1, s => if car s.2.1 s.1 = true then some 0 else (dtS f (dayS s)).map (· + 1)
def dtI (j : Nat) : Option Nat → Int32
  | some k => nI (j + k)
  | none => -4
theorem dtI_s (j : Nat) (o : Option Nat) : dtI j (o.map (· + 1)) = dtI (j + 1) o := by
  cases o with
  | none => rfl
  | some k => show nI (j + (k + 1)) = nI (j + 1 + k); congr 1; omega
set_option maxHeartbeats 4000000 in
theorem zX5_dayGoes (l : Launch) {M : Mm} {s : Ns} {out : Int32} {n : Nat} (V : RV M s out n) {x : Int32} (b : Bool) (hx : x = bI b) (hd : s.2.2.1 < 100000) (hc : s.2.2.2.2 < 100000) : Clz l 6 yX5_dayGoes cX5_dayGoes 2 none [.ref 33, .int x] M (fun r M' => r = none ∧ F35 M M' ∧ RV M' (if b = true then idlS s else dayS s) out n) := by
  refine Clz.on RX5 rfl (by decide +kernel) (Nat.le_of_ble_eq_true rfl) (fun X hL hO hr => ?_)
  show Gz X 0 [.ref 33, .int x] [] M
  obtain ⟨ms, mo, day, am, ch⟩ := s
  obtain ⟨full, hn, R, hv⟩ := V
  dsimp only at R hv hd hc
  subst hv
  have tail : ∀ (M1 : Mm) (full1 : List Mb) (mo1 am1 ch1 : Nat), RN M1 full1 mo1 day am1 out ch1 → F35 M M1 → full1.length = n → (act out 0 full1, mo1, day + 1, am1, ch1) = (if b = true then idlS (act out 0 full, mo, day, am, ch) else dayS (act out 0 full, mo, day, am, ch)) → Gz X 24 [.ref 33, .int x] [] M1 := by
    intro M1 full1 mo1 am1 ch1 R1 hF hl1 he
    refine r_aload_n hO dX5_dayGoes_24 rfl ?_
    refine r_getR 35 hO dX5_dayGoes_25 fRX5_13 rfl ?_
    refine r_bipush hO dX5_dayGoes_28 bc_26 ?_
    refine r_dup2 hO dX5_dayGoes_30 rfl rfl ?_
    refine s_iald 41 hO dX5_dayGoes_31 rfl (Nat.le_of_ble_eq_true rfl) 26 (by decide) (by decide) ?_
    refine r_iconst hO dX5_dayGoes_32 ic_1 ?_
    refine r_iadd hO dX5_dayGoes_33 ?_
    refine s_iast 41 hO dX5_dayGoes_34 rfl (Nat.le_of_ble_eq_true rfl) 26 (by decide) (by decide) ?_
    rw [R1.2.2.2.2.1.1, nI_1]
    exact r_return hO hr dX5_dayGoes_35 ⟨rfl, hF.tr F35.put, by rw [← he]; exact ⟨full1, hl1, R1.day hd, rfl⟩⟩
  refine r_iload_n hO dX5_dayGoes_0 rfl ?_
  refine r_if_ne 24 hO dX5_dayGoes_1 (by decide) (fun h1 => ?_) (fun h1 => ?_)
  · exact tail M full mo am ch R F35.rf hn (by rw [if_pos (by rw [hx] at h1; exact bI_n0.mp h1)]; rfl)
  · have hb0 : b = false := by rw [hx] at h1; exact bI_0.mp h1
    refine r_aload_n hO dX5_dayGoes_4 rfl ?_
    refine r_fV hO dX5_dayGoes_5 kRX5_185 miX5_isCarried (zX5_isCarried _ R) ⟨Nat.le_of_ble_eq_true rfl, Nat.le_of_ble_eq_true rfl, rfl, Nat.le_of_ble_eq_true rfl⟩ rfl rfl ?_
    refine r_if_ne 24 hO dX5_dayGoes_8 (by decide) (fun h8 => ?_) (fun h8 => ?_)
    · rw [bI_n0] at h8
      exact tail M full mo am ch R F35.rf hn (by rw [hb0]; exact (dayS_t h8).symm)
    · rw [bI_0] at h8
      refine r_aload_n hO dX5_dayGoes_11 rfl ?_
      refine r_aload_n hO dX5_dayGoes_12 rfl ?_
      refine r_getR 35 hO dX5_dayGoes_13 fRX5_13 rfl ?_
      refine r_bipush hO dX5_dayGoes_16 bc_26 ?_
      refine s_iald 41 hO dX5_dayGoes_18 rfl (Nat.le_of_ble_eq_true rfl) 26 (by decide) (by decide) ?_
      refine r_iconst hO dX5_dayGoes_19 ic_2 ?_
      refine r_irem hO dX5_dayGoes_20 (by decide) ?_
      refine r_callV hO dX5_dayGoes_21 kRX5_189 miX5_sits (zX5_sits _ R (day % 2) (by rw [R.2.2.2.2.1.1]; exact pk_rem (a := day) (d := 2) (by have := R.2.2.2.2.1.2; omega) (by decide) (by decide)) (by omega) hc) ⟨Nat.le_of_ble_eq_true rfl, Nat.le_of_ble_eq_true rfl, rfl, Nat.le_of_ble_eq_true rfl⟩ rfl rfl (fun r M1 hpo => ?_)
      obtain ⟨rfl, hF, R1⟩ := hpo
      exact tail _ _ _ _ _ R1 hF (by rw [sitA_len]; exact hn) (by rw [hb0, act_sitA]; exact (dayS_f h8).symm)
set_option maxHeartbeats 4000000 in
theorem zX5_daysGo (l : Launch) {M : Mm} {s : Ns} {out : Int32} {n : Nat} (V : RV M s out n) {x : Int32} (k : Nat) (hx : x = nI k) (hk : k ≤ 1000) (hd : s.2.2.1 + k ≤ 100000) (hc : s.2.2.2.2 + k ≤ 100000) : Clz l 7 yX5_daysGo cX5_daysGo 3 none [.ref 33, .int x] M (fun r M' => r = none ∧ F35 M M' ∧ RV M' (runS k s) out n) := by
  refine Clz.on RX5 rfl (by decide +kernel) (Nat.le_of_ble_eq_true rfl) (fun X hL hO hr => ?_)
  show Gz X 0 [.ref 33, .int x, .null] [] M
  have loop : ∀ (r j : Nat) (s1 : Ns) (M1 : Mm), j + r = k → F35 M M1 → RV M1 s1 out n → s1.2.2.1 + r ≤ 100000 → s1.2.2.2.2 + r ≤ 100000 → runS r s1 = runS k s → Gz X 2 [.ref 33, .int x, .int (nI j)] [] M1 := by
    intro r
    induction r with
    | zero =>
      intro j s1 M1 hj hF hV h1 h2 he
      have hV : RV M1 (runS k s) out n := by rw [← he]; exact hV
      have hj : k = j := by omega
      refine r_iload_n hO dX5_daysGo_2 rfl ?_
      refine r_iload_n hO dX5_daysGo_3 rfl ?_
      refine r_icmp_ge 18 hO dX5_daysGo_4 (by decide) (fun _ => ?_) (fun z => absurd (by rw [hx, hj]; exact nI_le (Nat.le_refl _) (by omega)) z)
      exact r_return hO hr dX5_daysGo_18 ⟨rfl, hF, hV⟩
    | succ r ih =>
      intro j s1 M1 hj hF hV h1 h2 he
      refine r_iload_n hO dX5_daysGo_2 rfl ?_
      refine r_iload_n hO dX5_daysGo_3 rfl ?_
      refine r_icmp_ge 18 hO dX5_daysGo_4 (by decide) (fun z => absurd z (by rw [hx]; exact nI_ge (by omega) (by omega))) (fun _ => ?_)
      refine r_aload_n hO dX5_daysGo_7 rfl ?_
      refine r_iconst hO dX5_daysGo_8 ic_0 ?_
      refine r_callV hO dX5_daysGo_9 kRX5_192 miX5_dayGoes (zX5_dayGoes _ hV false rfl (by omega) (by omega)) ⟨Nat.le_of_ble_eq_true rfl, Nat.le_of_ble_eq_true rfl, rfl, Nat.le_of_ble_eq_true rfl⟩ rfl rfl (fun q M2 hpo => ?_)
      obtain ⟨rfl, hF2, hV2⟩ := hpo
      refine s_iinc hL hO dX5_daysGo_12 rfl ic_1 (Nat.le_of_ble_eq_true rfl) rfl ?_
      refine r_goto 2 hO dX5_daysGo_15 (by decide) ?_
      show Gz X 2 [.ref 33, .int x, .int (nI j + 1)] [] M2
      rw [nI_1]
      exact ih (j + 1) (dayS s1) M2 (by omega) (hF.tr hF2) hV2 (by rw [dayS_day]; omega) (by have := dayS_ch s1; omega) he
  refine r_iconst hO dX5_daysGo_0 ic_0 ?_
  refine s_istore_n hL hO dX5_daysGo_1 (Nat.le_of_ble_eq_true rfl) rfl ?_
  exact loop k 0 s M (by omega) F35.rf V hd hc rfl
set_option maxHeartbeats 4000000 in
theorem zX5_daysTo (l : Launch) {M : Mm} {s : Ns} {out : Int32} {n : Nat} (V : RV M s out n) (hd : s.2.2.1 ≤ 9000) (hc : s.2.2.2.2 ≤ 9000) : Clz l 7 yX5_daysTo cX5_daysTo 2 (some .int) [.ref 33] M (fun r M' => r = some (.int (dtI 0 (dtS 61 s))) ∧ F35 M M') := by
  refine Clz.on RX5 rfl (by decide +kernel) (Nat.le_of_ble_eq_true rfl) (fun X hL hO hr => ?_)
  show Gz X 0 [.ref 33, .null] [] M
  have loop : ∀ (r j : Nat) (s1 : Ns) (M1 : Mm), j + r = 61 → F35 M M1 → RV M1 s1 out n → s1.2.2.1 + r ≤ 100000 → s1.2.2.2.2 + r ≤ 100000 → dtI j (dtS r s1) = dtI 0 (dtS 61 s) → Gz X 2 [.ref 33, .int (nI j)] [] M1 := by
    intro r
    induction r with
    | zero =>
      intro j s1 M1 hj hF hV h1 h2 he
      refine r_iload_n hO dX5_daysTo_2 rfl ?_
      refine r_bipush hO dX5_daysTo_3 bc_60 ?_
      refine r_icmp_gt 28 hO dX5_daysTo_5 (by decide) (fun _ => ?_) (fun z => absurd (by rw [show (60 : Int32) = nI 60 from rfl]; exact nI_lt (by omega) (by omega)) z)
      refine r_bipush hO dX5_daysTo_28 bc_m4 ?_
      exact r_ireturn hO hr dX5_daysTo_30 rfl ⟨sI (by rw [← he]; rfl), hF⟩
    | succ r ih =>
      intro j s1 M1 hj hF hV h1 h2 he
      obtain ⟨full, hn, R, hv⟩ := id hV
      refine r_iload_n hO dX5_daysTo_2 rfl ?_
      refine r_bipush hO dX5_daysTo_3 bc_60 ?_
      refine r_icmp_gt 28 hO dX5_daysTo_5 (by decide) (fun z => absurd z (by rw [show (60 : Int32) = nI 60 from rfl]; exact nI_nlt (by omega) (by omega))) (fun _ => ?_)
      refine r_aload_n hO dX5_daysTo_8 rfl ?_
      refine r_fV hO dX5_daysTo_9 kRX5_185 miX5_isCarried (zX5_isCarried _ R) ⟨Nat.le_of_ble_eq_true rfl, Nat.le_of_ble_eq_true rfl, rfl, Nat.le_of_ble_eq_true rfl⟩ rfl rfl ?_
      refine r_if_eq 17 hO dX5_daysTo_12 (by decide) (fun h12 => ?_) (fun h12 => ?_)
      · rw [bI_0] at h12
        refine r_aload_n hO dX5_daysTo_17 rfl ?_
        refine r_iconst hO dX5_daysTo_18 ic_0 ?_
        refine r_callV hO dX5_daysTo_19 kRX5_192 miX5_dayGoes (zX5_dayGoes _ hV false rfl (by omega) (by omega)) ⟨Nat.le_of_ble_eq_true rfl, Nat.le_of_ble_eq_true rfl, rfl, Nat.le_of_ble_eq_true rfl⟩ rfl rfl (fun q M2 hpo => ?_)
        obtain ⟨rfl, hF2, hV2⟩ := hpo
        refine s_iinc hL hO dX5_daysTo_22 rfl ic_1 (Nat.le_of_ble_eq_true rfl) rfl ?_
        refine r_goto 2 hO dX5_daysTo_25 (by decide) ?_
        show Gz X 2 [.ref 33, .int (nI j + 1)] [] M2
        rw [nI_1]
        exact ih (j + 1) (dayS s1) M2 (by omega) (hF.tr hF2) hV2 (by rw [dayS_day]; omega) (by have := dayS_ch s1; omega) (by rw [← he, ← dtI_s]; congr 1; conv => rhs; unfold dtS; rw [if_neg (by rw [← hv, h12]; decide)])
      · rw [bI_n0] at h12
        refine r_iload_n hO dX5_daysTo_15 rfl ?_
        exact r_ireturn hO hr dX5_daysTo_16 rfl ⟨sI (by rw [← he]; unfold dtS; rw [if_pos (by rw [← hv]; exact h12)]; rfl), hF⟩
  refine r_iconst hO dX5_daysTo_0 ic_0 ?_
  refine s_istore_n hL hO dX5_daysTo_1 (Nat.le_of_ble_eq_true rfl) rfl ?_
  exact loop 61 0 s M (by omega) F35.rf V (by omega) (by omega) rfl
def StR (M M' : Mm) : Prop := (∀ a k, a ≠ 35 → ¬ (a = 33 ∧ (k = 13 ∨ k = 14)) → M'.1 a k = M.1 a k) ∧ M'.2 = M.2 ∧ (∀ k, k < 41 → M'.1 35 k = M.1 34 k) ∧ M'.1 33 13 = -4 ∧ M'.1 33 14 = 0
def SeR (M M' : Mm) : Prop := (∀ a k, ¬ (a = 34 ∧ k < 41) → M'.1 a k = M.1 a k) ∧ M'.2 = M.2 ∧ (∀ k, k < 41 → M'.1 34 k = M.1 35 k)
set_option maxHeartbeats 4000000 in
theorem zX5_starts (l : Launch) {M : Mm}  : Clz l 0 yX5_starts cX5_starts 2 none [.ref 33] M (fun r M' => r = none ∧ StR M M') := by
  refine Clz.on RX5 rfl (by decide +kernel) (Nat.le_of_ble_eq_true rfl) (fun X hL hO hr => ?_)
  show Gz X 0 [.ref 33, .null] [] M
  have loop : ∀ (r j : Nat) (M1 : Mm), j + r = 41 → (∀ a k, a ≠ 35 → M1.1 a k = M.1 a k) → M1.2 = M.2 → (∀ k, k < j → M1.1 35 k = M.1 34 k) → Gz X 2 [.ref 33, .int (nI j)] [] M1 := by
    intro r
    induction r with
    | zero =>
      intro j M1 hj hA hB hC
      refine r_iload_n hO dX5_starts_2 rfl ?_
      refine r_bipush hO dX5_starts_3 bc_41 ?_
      refine r_icmp_ge 26 hO dX5_starts_5 (by decide) (fun _ => ?_) (fun z => absurd (by rw [show (41 : Int32) = nI 41 from rfl]; exact nI_le (by omega) (by omega)) z)
      refine r_aload_n hO dX5_starts_26 rfl ?_
      refine r_bipush hO dX5_starts_27 bc_m4 ?_
      refine r_putI hO dX5_starts_29 fRX5_125 rfl ?_
      refine r_aload_n hO dX5_starts_32 rfl ?_
      refine r_iconst hO dX5_starts_33 ic_0 ?_
      refine r_putI hO dX5_starts_34 fRX5_128 rfl ?_
      exact r_return hO hr dX5_starts_37 ⟨rfl, fun a k h1 h2 => by rw [mpg, if_neg (by omega), mpg, if_neg (by omega)]; exact hA a k h1, hB, fun k hk => by rw [mpg, if_neg (by omega), mpg, if_neg (by omega)]; exact hC k (by omega), by simp [mpg], by simp [mpg]⟩
    | succ r ih =>
      intro j M1 hj hA hB hC
      refine r_iload_n hO dX5_starts_2 rfl ?_
      refine r_bipush hO dX5_starts_3 bc_41 ?_
      refine r_icmp_ge 26 hO dX5_starts_5 (by decide) (fun z => absurd z (by rw [show (41 : Int32) = nI 41 from rfl]; exact nI_ge (by omega) (by omega))) (fun _ => ?_)
      refine r_aload_n hO dX5_starts_8 rfl ?_
      refine r_getR 35 hO dX5_starts_9 fRX5_13 rfl ?_
      refine r_iload_n hO dX5_starts_12 rfl ?_
      refine r_aload_n hO dX5_starts_13 rfl ?_
      refine r_getR 34 hO dX5_starts_14 fRX5_7 rfl ?_
      refine r_iload_n hO dX5_starts_17 rfl ?_
      refine s_iald 123 hO dX5_starts_18 rfl (Nat.le_of_ble_eq_true rfl) j rfl (by omega) ?_
      refine s_iast 41 hO dX5_starts_19 rfl (Nat.le_of_ble_eq_true rfl) j rfl (by omega) ?_
      refine s_iinc hL hO dX5_starts_20 rfl ic_1 (Nat.le_of_ble_eq_true rfl) rfl ?_
      refine r_goto 2 hO dX5_starts_23 (by decide) ?_
      show Gz X 2 [.ref 33, .int (nI j + 1)] [] _
      rw [nI_1]
      exact ih (j + 1) _ (by omega) (fun a k h1 => by rw [mpg, if_neg (by omega)]; exact hA a k h1) hB (fun k hk => by
        rw [mpg]
        by_cases e : k = j
        · rw [if_pos ⟨rfl, e⟩, hA 34 j (by decide), e]
        · rw [if_neg (by omega)]; exact hC k (by omega))
  refine r_iconst hO dX5_starts_0 ic_0 ?_
  refine s_istore_n hL hO dX5_starts_1 (Nat.le_of_ble_eq_true rfl) rfl ?_
  exact loop 41 0 M (by omega) (fun _ _ _ => rfl) rfl (fun k hk => by omega)
set_option maxHeartbeats 4000000 in
theorem zX5_settles (l : Launch) {M : Mm}  : Clz l 0 yX5_settles cX5_settles 2 none [.ref 33] M (fun r M' => r = none ∧ SeR M M') := by
  refine Clz.on RX5 rfl (by decide +kernel) (Nat.le_of_ble_eq_true rfl) (fun X hL hO hr => ?_)
  show Gz X 0 [.ref 33, .null] [] M
  have loop : ∀ (r j : Nat) (M1 : Mm), j + r = 41 → (∀ a k, ¬ (a = 34 ∧ k < j) → M1.1 a k = M.1 a k) → M1.2 = M.2 → (∀ k, k < j → M1.1 34 k = M.1 35 k) → Gz X 2 [.ref 33, .int (nI j)] [] M1 := by
    intro r
    induction r with
    | zero =>
      intro j M1 hj hA hB hC
      refine r_iload_n hO dX5_settles_2 rfl ?_
      refine r_bipush hO dX5_settles_3 bc_41 ?_
      refine r_icmp_ge 26 hO dX5_settles_5 (by decide) (fun _ => ?_) (fun z => absurd (by rw [show (41 : Int32) = nI 41 from rfl]; exact nI_le (by omega) (by omega)) z)
      exact r_return hO hr dX5_settles_26 ⟨rfl, fun a k h1 => hA a k (fun z => h1 ⟨z.1, by omega⟩), hB, fun k hk => hC k (by omega)⟩
    | succ r ih =>
      intro j M1 hj hA hB hC
      refine r_iload_n hO dX5_settles_2 rfl ?_
      refine r_bipush hO dX5_settles_3 bc_41 ?_
      refine r_icmp_ge 26 hO dX5_settles_5 (by decide) (fun z => absurd z (by rw [show (41 : Int32) = nI 41 from rfl]; exact nI_ge (by omega) (by omega))) (fun _ => ?_)
      refine r_aload_n hO dX5_settles_8 rfl ?_
      refine r_getR 34 hO dX5_settles_9 fRX5_7 rfl ?_
      refine r_iload_n hO dX5_settles_12 rfl ?_
      refine r_aload_n hO dX5_settles_13 rfl ?_
      refine r_getR 35 hO dX5_settles_14 fRX5_13 rfl ?_
      refine r_iload_n hO dX5_settles_17 rfl ?_
      refine s_iald 41 hO dX5_settles_18 rfl (Nat.le_of_ble_eq_true rfl) j rfl (by omega) ?_
      refine s_iast 123 hO dX5_settles_19 rfl (Nat.le_of_ble_eq_true rfl) j rfl (by omega) ?_
      refine s_iinc hL hO dX5_settles_20 rfl ic_1 (Nat.le_of_ble_eq_true rfl) rfl ?_
      refine r_goto 2 hO dX5_settles_23 (by decide) ?_
      show Gz X 2 [.ref 33, .int (nI j + 1)] [] _
      rw [nI_1]
      exact ih (j + 1) _ (by omega) (fun a k h1 => by rw [mpg, if_neg (by omega)]; exact hA a k (by omega)) hB (fun k hk => by
        rw [mpg]
        by_cases e : k = j
        · rw [if_pos ⟨rfl, e⟩, hA 35 j (by omega), e]
        · rw [if_neg (by omega)]; exact hC k (by omega))
  refine r_iconst hO dX5_settles_0 ic_0 ?_
  refine s_istore_n hL hO dX5_settles_1 (Nat.le_of_ble_eq_true rfl) rfl ?_
  exact loop 41 0 M (by omega) (fun _ _ _ => rfl) rfl (fun k hk => by omega)
