/-! the class's Nut: days -/
theorem tiC_d : ∀ k, k < 4 → ∀ s, s < 21 → (if nI s + tirz k < 20 then nI s + tirz k else 20) = nI (min 20 (s + ti k)) := by decide +kernel
def toI (y : Int32) : Int32 := if 0 < (if y < 20 then y else 20) then (if y < 20 then y else 20) else 0
theorem toI_d : ∀ mo, mo < 21 → ∀ k : Nat, k < 3 → toI (nI mo + iI ((k : Int) - 1)) = nI (nmz mo ((k : Int) - 1)) := by decide +kernel
theorem toI_eq {mo : Nat} {z : Int} (hm : mo ≤ 20) : toI (nI mo + iI (sg z)) = nI (nmz mo (sg z)) := by
  obtain ⟨k, hk, e⟩ := sg_k z
  rw [e]
  exact toI_d mo (by omega) k hk
theorem amC_d : ∀ a, a < 1000 → (if nI a + 1 < 999 then nI a + 1 else 999) = nI (min 999 (a + 1)) := by decide +kernel
theorem CN.ptm {M : Mm} {p : Nat} (hp : nuP p) {ms : List Mb} {mo day am : Nat} (R : CN M p ms mo day am) {i : Nat} {b : Mb} (hb : ms[i]? = some b) {s : Nat} (hs : s ≤ 20) : CN (mput M (p + 1) (4 * i + 3) (nI s)) p (ms.set i (b.1, b.2.1, b.2.2.1, s)) mo day am := by
  obtain ⟨h1, h2, h3, h4, h5, h6⟩ := R
  have k : ∀ j, (mput M (p + 1) (4 * i + 3) (nI s)).1 p j = M.1 p j := fun j => by rw [mpg, if_neg (fun z => by omega)]
  exact ⟨by rw [List.length_set]; exact h1, by rw [mput_at]; exact h2.set3 hb hs, by rw [k, List.length_set]; exact h3, by rw [k]; exact h4, by rw [k]; exact h5, by rw [k]; exact h6⟩
theorem CN.change {M : Mm} {p : Nat} (hp : nuP p) {ms : List Mb} {mo day am : Nat} (R : CN M p ms mo day am) {m2 a2 : Nat} (hm : m2 ≤ 20) (ha : a2 ≤ 999) : CN (mput (mput M p 4 (nI m2)) p 6 (nI a2)) p ms m2 day a2 := by
  obtain ⟨h1, h2, h3, h4, h5, h6⟩ := R
  refine ⟨h1, ?_, by simp [mpg, h3], ⟨by simp [mpg], hm⟩, ⟨by simp [mpg, h5.1], h5.2⟩, ⟨by simp [mpg], ha⟩⟩
  rw [mput_ne _ (by omega), mput_ne _ (by omega)]; exact h2
theorem CN.day {M : Mm} {p : Nat} (hp : nuP p) {ms : List Mb} {mo day am : Nat} (R : CN M p ms mo day am) (hd : day < 100000) : CN (mput M p 5 (nI (day + 1))) p ms mo (day + 1) am := by
  obtain ⟨h1, h2, h3, h4, h5, h6⟩ := R
  refine ⟨h1, ?_, by simp [mpg, h3], ⟨by simp [mpg, h4.1], h4.2⟩, ⟨by simp [mpg], by omega⟩, ⟨by simp [mpg, h6.1], h6.2⟩⟩
  rw [mput_ne _ (by omega)]; exact h2
def CV (M : Mm) (p : Nat) (s : Ns) : Prop := CN M p s.1 s.2.1 s.2.2.1 s.2.2.2.1
theorem dayS_ch2 (s : Ns) : s.2.2.2.2 ≤ (dayS s).2.2.2.2 := by
  unfold dayS
  split
  · exact Nat.le_refl _
  · dsimp only
    split <;> omega
def dtC (j : Nat) : Option Nat → Int32
  | some k => nI (j + k)
  | none => 61
theorem dtC_s (j : Nat) (o : Option Nat) : dtC j (o.map (· + 1)) = dtC (j + 1) o := by
  cases o with
  | none => rfl
  | some k => show nI (j + (k + 1)) = nI (j + 1 + k); congr 1; omega
set_option maxHeartbeats 4000000 in
theorem zX0_tire (l : Launch) {M : Mm} {p : Nat} (hp : nuP p) {ms : List Mb} {mo day am : Nat} (R : CN M p ms mo day am) {x : Int32} {i : Nat} {b : Mb} (hb : ms[i]? = some b) (hx : x = nI i) : CFz l 1 yX0_tire cX0_tire 2 none [.ref p, .int x] M (none) (if vt b mo = true then M else mput M (p + 1) (4 * i + 3) (nI (min 20 (b.2.2.2 + ti b.1)))) := by
  refine Clz.on RX0 rfl (by decide +kernel) (Nat.le_of_ble_eq_true rfl) (fun X hL hO hr => ?_)
  show Gz X 0 [.ref p, .int x] [] M
  refine r_aload_n hO dX0_tire_0 rfl ?_
  refine r_iload_n hO dX0_tire_1 rfl ?_
  refine r_aload_n hO dX0_tire_2 rfl ?_
  refine r_getI hO dX0_tire_3 fRX0_25 (nu_I4 hp) ?_
  refine r_fV hO dX0_tire_6 kRX0_51 miX0_votesFor (zX0_votesR _ hp R mo hb hx R.2.2.2.1.1 R.2.2.2.1.2) ⟨Nat.le_of_ble_eq_true rfl, Nat.le_of_ble_eq_true rfl, rfl, Nat.le_of_ble_eq_true rfl⟩ (nu_o hp) rfl ?_
  refine r_if_ne 40 hO dX0_tire_9 (by decide) (fun h9 => ?_) (fun h9 => ?_)
  · rw [bI_n0] at h9
    exact r_return hO hr dX0_tire_40 ⟨rfl, by rw [if_pos h9]⟩
  · rw [bI_0] at h9
    refine r_aload_n hO dX0_tire_12 rfl ?_
    refine r_iload_n hO dX0_tire_13 rfl ?_
    refine r_iconst hO dX0_tire_14 ic_3 ?_
    refine r_bipush hO dX0_tire_15 bc_20 ?_
    refine r_aload_n hO dX0_tire_17 rfl ?_
    refine r_iload_n hO dX0_tire_18 rfl ?_
    refine r_iconst hO dX0_tire_19 ic_3 ?_
    refine r_fV hO dX0_tire_20 kRX0_47 miX0_part (zX0_partR _ hp R 3 hb hx rfl (by decide)) ⟨Nat.le_of_ble_eq_true rfl, Nat.le_of_ble_eq_true rfl, rfl, Nat.le_of_ble_eq_true rfl⟩ (nu_o hp) rfl ?_
    refine r_getTir hO dX0_tire_23 sRX0_92 ?_
    refine r_aload_n hO dX0_tire_26 rfl ?_
    refine r_iload_n hO dX0_tire_27 rfl ?_
    refine r_iconst hO dX0_tire_28 ic_0 ?_
    refine r_fV hO dX0_tire_29 kRX0_47 miX0_part (zX0_partR _ hp R 0 hb hx rfl (by decide)) ⟨Nat.le_of_ble_eq_true rfl, Nat.le_of_ble_eq_true rfl, rfl, Nat.le_of_ble_eq_true rfl⟩ (nu_o hp) rfl ?_
    refine s_tirld hO dX0_tire_32 b.1 rfl (by have := (R.2.1 i b hb).2.2.2.2.1; omega) ?_
    refine r_iadd hO dX0_tire_33 ?_
    refine r_mmin hO dX0_tire_34 xRX0_95 (Nat.le_of_ble_eq_true rfl) (Nat.le_of_ble_eq_true rfl) ?_
    rw [show fld 3 b = b.2.2.2 from rfl, tiC_d b.1 (by have := (R.2.1 i b hb).2.2.2.2.1; omega) _ (by have := (R.2.1 i b hb).2.2.2.2.2.2.2; omega)]
    refine r_fV hO dX0_tire_37 kRX0_43 miX0_put (zX0_put _ hp i 3 hx rfl (by have := R.a hb; omega) (by decide)) ⟨Nat.le_of_ble_eq_true rfl, Nat.le_of_ble_eq_true rfl, rfl, Nat.le_of_ble_eq_true rfl⟩ (nu_o hp) rfl ?_
    exact r_return hO hr dX0_tire_40 ⟨rfl, by rw [if_neg (by rw [h9]; decide)]⟩
set_option maxHeartbeats 4000000 in
theorem zX0_amend (l : Launch) {M : Mm} {p : Nat} (hp : nuP p) {ms : List Mb} {mo day am : Nat} (R : CN M p ms mo day am) {x : Int32} (z : Int) (hx : x = iI (sg z)) : CFz l 1 yX0_amend cX0_amend 3 (some .int) [.ref p, .int x] M (some (.int (if nmz mo (sg z) = mo then 0 else 1))) (if nmz mo (sg z) = mo then M else mput (mput M p 4 (nI (nmz mo (sg z)))) p 6 (nI (min 999 (am + 1)))) := by
  refine Clz.on RX0 rfl (by decide +kernel) (Nat.le_of_ble_eq_true rfl) (fun X hL hO hr => ?_)
  show Gz X 0 [.ref p, .int x, .null] [] M
  refine r_iconst hO dX0_amend_0 ic_0 ?_
  refine r_bipush hO dX0_amend_1 bc_20 ?_
  refine r_aload_n hO dX0_amend_3 rfl ?_
  refine r_getI hO dX0_amend_4 fRX0_25 (nu_I4 hp) ?_
  refine r_iload_n hO dX0_amend_7 rfl ?_
  refine r_iadd hO dX0_amend_8 ?_
  refine r_mmin hO dX0_amend_9 xRX0_95 (Nat.le_of_ble_eq_true rfl) (Nat.le_of_ble_eq_true rfl) ?_
  refine r_mmax hO dX0_amend_12 xRX0_98 (Nat.le_of_ble_eq_true rfl) (Nat.le_of_ble_eq_true rfl) ?_
  rw [R.2.2.2.1.1, hx]
  change Gz X _ _ (.int (toI (nI mo + iI (sg z))) :: _) _
  rw [toI_eq R.2.2.2.1.2]
  refine s_istore_n hL hO dX0_amend_15 (Nat.le_of_ble_eq_true rfl) rfl ?_
  refine r_iload_n hO dX0_amend_16 rfl ?_
  refine r_aload_n hO dX0_amend_17 rfl ?_
  refine r_getI hO dX0_amend_18 fRX0_25 (nu_I4 hp) ?_
  refine r_icmp_ne 26 hO dX0_amend_21 (by decide) (fun h21 => ?_) (fun h21 => ?_)
  · rw [R.2.2.2.1.1, nI_eq (by have := nmz_le (sg z) R.2.2.2.1.2; omega) (by have := R.2.2.2.1.2; omega)] at h21
    refine r_aload_n hO dX0_amend_26 rfl ?_
    refine r_iload_n hO dX0_amend_27 rfl ?_
    refine r_putI hO dX0_amend_28 fRX0_25 (nu_I4 hp) ?_
    refine r_aload_n hO dX0_amend_31 rfl ?_
    refine r_sipush hO dX0_amend_32 sc_999 ?_
    refine r_aload_n hO dX0_amend_35 rfl ?_
    refine r_getI hO dX0_amend_36 fRX0_31 (nu_I6 hp) ?_
    refine r_iconst hO dX0_amend_39 ic_1 ?_
    refine r_iadd hO dX0_amend_40 ?_
    refine r_mmin hO dX0_amend_41 xRX0_95 (Nat.le_of_ble_eq_true rfl) (Nat.le_of_ble_eq_true rfl) ?_
    rw [show (mput M p 4 (nI (nmz mo (sg z)))).1 p 6 = nI am from by rw [mpg, if_neg (by omega)]; exact R.2.2.2.2.2.1, amC_d am (by have := R.2.2.2.2.2.2; omega)]
    refine r_putI hO dX0_amend_44 fRX0_31 (nu_I6 hp) ?_
    refine r_iconst hO dX0_amend_47 ic_1 ?_
    exact r_ireturn hO hr dX0_amend_48 rfl ⟨by rw [if_neg h21], by rw [if_neg h21]⟩
  · rw [R.2.2.2.1.1, nI_eq (by have := nmz_le (sg z) R.2.2.2.1.2; omega) (by have := R.2.2.2.1.2; omega)] at h21
    refine r_iconst hO dX0_amend_24 ic_0 ?_
    exact r_ireturn hO hr dX0_amend_25 rfl ⟨by rw [if_pos h21], by rw [if_pos h21]⟩
set_option maxHeartbeats 4000000 in
theorem zX0_sit (l : Launch) {M : Mm} {p : Nat} (hp : nuP p) {ms : List Mb} {mo day am : Nat} (R : CN M p ms mo day am) {x : Int32} (h : Nat) (hx : x = nI h) (hh : h < 2) : Clz l 2 yX0_sit cX0_sit 4 (some .int) [.ref p, .int x] M (fun r M' => r = some (.int (if nmo h mo ms = mo then 0 else 1)) ∧ FN p M M' ∧ CN M' p (ms.map (sitB h mo)) (nmo h mo ms) day (if nmo h mo ms = mo then am else min 999 (am + 1))) := by
  refine Clz.on RX0 rfl (by decide +kernel) (Nat.le_of_ble_eq_true rfl) (fun X hL hO hr => ?_)
  show Gz X 0 [.ref p, .int x, .null, .null] [] M
  have hle := R.1
  have loop : ∀ (rest : List Mb) (i : Nat) (M1 : Mm) (cur : List Mb) (m : Int), cur.drop i = rest → i ≤ cur.length → CN M1 p cur mo day am → FN p M M1 → cur.take i ++ rest.map (sitB h mo) = ms.map (sitB h mo) → m + sP h mo rest = sP h mo ms → Gz X 4 [.ref p, .int x, .int (iI m), .int (nI i)] [] M1 := by
    intro rest
    induction rest with
    | nil =>
      intro i M1 cur m hd hi R1 hF hm hs
      have hi := drop_nil hd hi
      rw [hi, List.take_length, List.map_nil, List.append_nil] at hm
      refine r_iload_n hO dX0_sit_4 rfl ?_
      refine r_aload_n hO dX0_sit_5 rfl ?_
      refine r_getI hO dX0_sit_6 fRX0_21 (nu_I3 hp) ?_
      refine r_icmp_ge 41 hO dX0_sit_9 (by decide) (fun _ => ?_) (fun z => absurd (by rw [R1.2.2.1, hi]; exact nI_le (Nat.le_refl _) (by have := R1.1; omega)) z)
      refine r_aload_n hO dX0_sit_41 rfl ?_
      refine r_iload_n hO dX0_sit_42 rfl ?_
      refine r_fS hO dX0_sit_43 kRX0_63 msX4_sign (zX4_sign _) ⟨Nat.le_of_ble_eq_true rfl, Nat.le_of_ble_eq_true rfl, rfl, Nat.le_of_ble_eq_true rfl⟩ rfl ?_
      change Gz X _ _ (.int (sgI (iI m)) :: _) _
      rw [show m = sP h mo ms from by rw [← hs]; simp [sP], sgI_eq (by have := sP_in h mo ms; omega) (by have := sP_in h mo ms; omega)]
      refine r_fV hO dX0_sit_46 kRX0_89 miX0_amend (zX0_amend _ hp R1 (sP h mo ms) rfl) ⟨Nat.le_of_ble_eq_true rfl, Nat.le_of_ble_eq_true rfl, rfl, Nat.le_of_ble_eq_true rfl⟩ (nu_o hp) rfl ?_
      exact r_ireturn hO hr dX0_sit_49 (by split <;> rfl) ⟨rfl, by split <;> first | exact hF | exact (hF.tr (FN.putp (by decide) (by decide))).tr (FN.putp (by decide) (by decide)), by
        rw [← hm]
        by_cases hq : nmo h mo ms = mo
        · rw [if_pos hq, if_pos (show nmz mo (sg (sP h mo ms)) = mo from hq), hq]; exact R1
        · rw [if_neg hq, if_neg (show ¬ nmz mo (sg (sP h mo ms)) = mo from hq)]; exact R1.change hp (nmo_le R1.2.2.2.1.2) (by omega)⟩
    | cons b bs ih =>
      intro i M1 cur m hd hi R1 hF hm hs
      obtain ⟨hb, hd2, hlt⟩ := drop_cons hd
      refine r_iload_n hO dX0_sit_4 rfl ?_
      refine r_aload_n hO dX0_sit_5 rfl ?_
      refine r_getI hO dX0_sit_6 fRX0_21 (nu_I3 hp) ?_
      refine r_icmp_ge 41 hO dX0_sit_9 (by decide) (fun z => absurd z (by rw [R1.2.2.1]; exact nI_ge hlt (by have := R1.1; omega))) (fun _ => ?_)
      refine r_aload_n hO dX0_sit_12 rfl ?_
      refine r_iload_n hO dX0_sit_13 rfl ?_
      refine r_iconst hO dX0_sit_14 ic_1 ?_
      refine r_fV hO dX0_sit_15 kRX0_47 miX0_part (zX0_partR _ hp R1 1 hb rfl rfl (by decide)) ⟨Nat.le_of_ble_eq_true rfl, Nat.le_of_ble_eq_true rfl, rfl, Nat.le_of_ble_eq_true rfl⟩ (nu_o hp) rfl ?_
      refine r_iload_n hO dX0_sit_18 rfl ?_
      refine r_icmp_ne 35 hO dX0_sit_19 (by decide) (fun h19 => ?_) (fun h19 => ?_)
      · rw [hx, show fld 1 b = b.2.1 from rfl, nI_eq (by have := (R1.2.1 i b hb).2.2.2.2.2.1; omega) (by omega)] at h19
        have hq : inH h b = false := by simp [inH, h19]
        refine s_iinc hL hO dX0_sit_35 rfl ic_1 (Nat.le_of_ble_eq_true rfl) rfl ?_
        refine r_goto 4 hO dX0_sit_38 (by decide) ?_
        show Gz X 4 [.ref p, .int x, .int (iI m), .int (nI i + 1)] [] M1
        rw [nI_1]
        exact ih (i + 1) M1 cur m hd2 (by omega) R1 hF (by rw [← hm, takeS hb, List.append_assoc, List.map_cons, show sitB h mo b = b from by simp [sitB, hq]]; rfl) (by rw [← hs]; simp [sP, hq])
      · rw [hx, show fld 1 b = b.2.1 from rfl, nI_eq (by have := (R1.2.1 i b hb).2.2.2.2.2.1; omega) (by omega)] at h19
        have hq : inH h b = true := by simp [inH, h19]
        refine r_iload_n hO dX0_sit_22 rfl ?_
        refine r_aload_n hO dX0_sit_23 rfl ?_
        refine r_iload_n hO dX0_sit_24 rfl ?_
        refine r_fV hO dX0_sit_25 kRX0_72 miX0_pull (zX0_pullR _ hp R1 hb rfl) ⟨Nat.le_of_ble_eq_true rfl, Nat.le_of_ble_eq_true rfl, rfl, Nat.le_of_ble_eq_true rfl⟩ (nu_o hp) rfl ?_
        refine r_iadd hO dX0_sit_28 ?_
        refine s_istore_n hL hO dX0_sit_29 (Nat.le_of_ble_eq_true rfl) rfl ?_
        refine r_aload_n hO dX0_sit_30 rfl ?_
        refine r_iload_n hO dX0_sit_31 rfl ?_
        refine r_fV hO dX0_sit_32 kRX0_85 miX0_tire (zX0_tire _ hp R1 hb rfl) ⟨Nat.le_of_ble_eq_true rfl, Nat.le_of_ble_eq_true rfl, rfl, Nat.le_of_ble_eq_true rfl⟩ (nu_o hp) rfl ?_
        refine s_iinc hL hO dX0_sit_35 rfl ic_1 (Nat.le_of_ble_eq_true rfl) rfl ?_
        refine r_goto 4 hO dX0_sit_38 (by decide) ?_
        show Gz X 4 [.ref p, .int x, .int (iI m + iI (pl b mo)), .int (nI i + 1)] [] _
        rw [nI_1, iI_add]
        have es : m + pl b mo + sP h mo bs = sP h mo ms := by rw [← hs]; simp [sP, hq, Int.add_assoc]
        by_cases hv : vt b mo = true
        · rw [if_pos hv]
          exact ih (i + 1) M1 cur _ hd2 (by omega) R1 hF (by rw [← hm, takeS hb, List.append_assoc, List.map_cons, show sitB h mo b = b from by simp [sitB, hv]]; rfl) es
        · rw [if_neg hv]
          exact ih (i + 1) _ (cur.set i (tird b)) _ (by rw [List.drop_set_of_lt (by omega)]; exact hd2) (by rw [List.length_set]; omega) (R1.ptm hp hb (by omega)) (hF.tr FN.put) (by rw [← hm, takeS (ms := cur.set i (tird b)) (b := tird b) (List.getElem?_set_self hlt), List.append_assoc, List.take_set_of_le (Nat.le_refl i), List.map_cons, show sitB h mo b = tird b from by simp [sitB, hv, hq]]; rfl) es
  refine r_iconst hO dX0_sit_0 ic_0 ?_
  refine s_istore_n hL hO dX0_sit_1 (Nat.le_of_ble_eq_true rfl) rfl ?_
  refine r_iconst hO dX0_sit_2 ic_0 ?_
  refine s_istore_n hL hO dX0_sit_3 (Nat.le_of_ble_eq_true rfl) rfl ?_
  exact loop ms 0 M ms 0 rfl (Nat.zero_le _) R FN.rf rfl (by simp)
set_option maxHeartbeats 4000000 in
theorem zX0_passDay (l : Launch) {M : Mm} {p : Nat} (hp : nuP p) {s : Ns} (V : CV M p s) {x : Int32} (b : Bool) (hx : x = bI b) (hd : s.2.2.1 < 100000) : Clz l 3 yX0_passDay cX0_passDay 3 (some .int) [.ref p, .int x] M (fun r M' => r = some (.int (nI ((if b = true then dayS s else idlS s).2.2.2.2 - s.2.2.2.2))) ∧ FN p M M' ∧ CV M' p (if b = true then dayS s else idlS s)) := by
  refine Clz.on RX0 rfl (by decide +kernel) (Nat.le_of_ble_eq_true rfl) (fun X hL hO hr => ?_)
  show Gz X 0 [.ref p, .int x, .null] [] M
  obtain ⟨ms, mo, day, am, ch⟩ := s
  have R : CN M p ms mo day am := V
  dsimp only at hd
  have tail : ∀ (M1 : Mm) (v : Int32) (ms1 : List Mb) (mo1 am1 : Nat), CN M1 p ms1 mo1 day am1 → FN p M M1 → ∀ ch1 : Nat, (ms1, mo1, day + 1, am1, ch1) = (if b = true then dayS (ms, mo, day, am, ch) else idlS (ms, mo, day, am, ch)) → v = nI ((if b = true then dayS (ms, mo, day, am, ch) else idlS (ms, mo, day, am, ch)).2.2.2.2 - ch) → Gz X 25 [.ref p, .int x, .null] [.int v] M1 := by
    intro M1 v ms1 mo1 am1 R1 hF ch1 he hv
    refine s_istore_n hL hO dX0_passDay_25 (Nat.le_of_ble_eq_true rfl) rfl ?_
    refine r_aload_n hO dX0_passDay_26 rfl ?_
    refine r_dup hO dX0_passDay_27 rfl ?_
    refine r_getI hO dX0_passDay_28 fRX0_28 (nu_I5 hp) ?_
    refine r_iconst hO dX0_passDay_31 ic_1 ?_
    refine r_iadd hO dX0_passDay_32 ?_
    refine r_putI hO dX0_passDay_33 fRX0_28 (nu_I5 hp) ?_
    refine r_iload_n hO dX0_passDay_36 rfl ?_
    rw [R1.2.2.2.2.1.1, nI_1]
    exact r_ireturn hO hr dX0_passDay_37 rfl ⟨sI hv, hF.tr (FN.putp (by decide) (by decide)), by rw [← he]; exact R1.day hp hd⟩
  refine r_iload_n hO dX0_passDay_0 rfl ?_
  refine r_if_eq 24 hO dX0_passDay_1 (by decide) (fun h1 => ?_) (fun h1 => ?_)
  · have hb0 : b = false := by rw [hx] at h1; exact bI_0.mp h1
    refine r_iconst hO dX0_passDay_24 ic_0 ?_
    exact tail M 0 ms mo am R FN.rf ch (by rw [hb0]; rfl) (by rw [hb0]; show (0 : Int32) = nI (ch - ch); rw [Nat.sub_self]; rfl)
  · have hb1 : b = true := by rw [hx] at h1; exact bI_n0.mp h1
    refine r_aload_n hO dX0_passDay_4 rfl ?_
    refine r_fV hO dX0_passDay_5 kRX0_78 miX0_isCarried (zX0_isCarried _ hp R) ⟨Nat.le_of_ble_eq_true rfl, Nat.le_of_ble_eq_true rfl, rfl, Nat.le_of_ble_eq_true rfl⟩ (nu_o hp) rfl ?_
    refine r_if_ne 24 hO dX0_passDay_8 (by decide) (fun h8 => ?_) (fun h8 => ?_)
    · rw [bI_n0] at h8
      refine r_iconst hO dX0_passDay_24 ic_0 ?_
      exact tail M 0 ms mo am R FN.rf ch (by rw [hb1]; exact (dayS_t h8).symm) (by rw [hb1, if_pos rfl, dayS_t h8]; show (0 : Int32) = nI (ch - ch); rw [Nat.sub_self]; rfl)
    · rw [bI_0] at h8
      refine r_aload_n hO dX0_passDay_11 rfl ?_
      refine r_aload_n hO dX0_passDay_12 rfl ?_
      refine r_getI hO dX0_passDay_13 fRX0_28 (nu_I5 hp) ?_
      refine r_iconst hO dX0_passDay_16 ic_2 ?_
      refine r_irem hO dX0_passDay_17 (by decide) ?_
      refine r_callV hO dX0_passDay_18 kRX0_82 miX0_sit (zX0_sit _ hp R (day % 2) (by rw [R.2.2.2.2.1.1]; exact pk_rem (a := day) (d := 2) (by have := R.2.2.2.2.1.2; omega) (by decide) (by decide)) (by omega)) ⟨Nat.le_of_ble_eq_true rfl, Nat.le_of_ble_eq_true rfl, rfl, Nat.le_of_ble_eq_true rfl⟩ (nu_o hp) rfl (fun r M1 hpo => ?_)
      obtain ⟨rfl, hF1, R1⟩ := hpo
      change Gz X 21 [.ref p, .int x, .null] [.int (if nmo (day % 2) mo ms = mo then 0 else 1)] M1
      refine r_goto 25 hO dX0_passDay_21 (by decide) ?_
      exact tail _ _ _ _ _ R1 hF1 _ (by rw [hb1]; exact (dayS_f h8).symm) (by rw [hb1, if_pos rfl, dayS_f h8]; dsimp only; split <;> simp [Nat.add_sub_cancel_left] <;> rfl)
set_option maxHeartbeats 4000000 in
theorem zX0_passDays (l : Launch) {M : Mm} {p : Nat} (hp : nuP p) {s : Ns} (V : CV M p s) (h0 : s.2.2.2.2 = 0) {x : Int32} (k : Nat) (hx : x = nI k) (hk : k ≤ 1000) (hd : s.2.2.1 + k ≤ 100000) : Clz l 4 yX0_passDays cX0_passDays 4 (some .int) [.ref p, .int x] M (fun r M' => r = some (.int (nI (runS k s).2.2.2.2)) ∧ FN p M M' ∧ CV M' p (runS k s)) := by
  refine Clz.on RX0 rfl (by decide +kernel) (Nat.le_of_ble_eq_true rfl) (fun X hL hO hr => ?_)
  show Gz X 0 [.ref p, .int x, .null, .null] [] M
  have loop : ∀ (r j : Nat) (s1 : Ns) (M1 : Mm), j + r = k → FN p M M1 → CV M1 p s1 → s1.2.2.1 + r ≤ 100000 → runS r s1 = runS k s → Gz X 4 [.ref p, .int x, .int (nI s1.2.2.2.2), .int (nI j)] [] M1 := by
    intro r
    induction r with
    | zero =>
      intro j s1 M1 hj hF hV h1 he
      have hj : k = j := by omega
      refine r_iload_n hO dX0_passDays_4 rfl ?_
      refine r_iload_n hO dX0_passDays_5 rfl ?_
      refine r_icmp_ge 23 hO dX0_passDays_6 (by decide) (fun _ => ?_) (fun z => absurd (by rw [hx, hj]; exact nI_le (Nat.le_refl _) (by omega)) z)
      refine r_iload_n hO dX0_passDays_23 rfl ?_
      exact r_ireturn hO hr dX0_passDays_24 rfl ⟨sI (by rw [← he]; rfl), hF, by rw [← he]; exact hV⟩
    | succ r ih =>
      intro j s1 M1 hj hF hV h1 he
      refine r_iload_n hO dX0_passDays_4 rfl ?_
      refine r_iload_n hO dX0_passDays_5 rfl ?_
      refine r_icmp_ge 23 hO dX0_passDays_6 (by decide) (fun z => absurd z (by rw [hx]; exact nI_ge (by omega) (by omega))) (fun _ => ?_)
      refine r_iload_n hO dX0_passDays_9 rfl ?_
      refine r_aload_n hO dX0_passDays_10 rfl ?_
      refine r_iconst hO dX0_passDays_11 ic_1 ?_
      refine r_callV hO dX0_passDays_12 kRX0_75 miX0_passDay (zX0_passDay _ hp hV true rfl (by omega)) ⟨Nat.le_of_ble_eq_true rfl, Nat.le_of_ble_eq_true rfl, rfl, Nat.le_of_ble_eq_true rfl⟩ (nu_o hp) rfl (fun q M2 hpo => ?_)
      obtain ⟨rfl, hF2, hV2⟩ := hpo
      change Gz X 15 [.ref p, .int x, .int (nI s1.2.2.2.2), .int (nI j)] [.int (nI ((dayS s1).2.2.2.2 - s1.2.2.2.2)), .int (nI s1.2.2.2.2)] M2
      refine r_iadd hO dX0_passDays_15 ?_
      refine s_istore_n hL hO dX0_passDays_16 (Nat.le_of_ble_eq_true rfl) rfl ?_
      refine s_iinc hL hO dX0_passDays_17 rfl ic_1 (Nat.le_of_ble_eq_true rfl) rfl ?_
      refine r_goto 4 hO dX0_passDays_20 (by decide) ?_
      show Gz X 4 [.ref p, .int x, .int (nI s1.2.2.2.2 + nI ((dayS s1).2.2.2.2 - s1.2.2.2.2)), .int (nI j + 1)] [] M2
      rw [nI_1, nI_add, Nat.add_sub_cancel' (dayS_ch2 s1)]
      exact ih (j + 1) (dayS s1) M2 (by omega) (hF.tr hF2) hV2 (by rw [dayS_day]; omega) he
  refine r_iconst hO dX0_passDays_0 ic_0 ?_
  refine s_istore_n hL hO dX0_passDays_1 (Nat.le_of_ble_eq_true rfl) rfl ?_
  refine r_iconst hO dX0_passDays_2 ic_0 ?_
  refine s_istore_n hL hO dX0_passDays_3 (Nat.le_of_ble_eq_true rfl) rfl ?_
  have e0 : (0 : Int32) = nI s.2.2.2.2 := by rw [h0]; rfl
  change Gz X 4 [.ref p, .int x, .int 0, .int 0] [] M
  rw [show Gz X 4 [.ref p, .int x, .int 0, .int 0] [] M = Gz X 4 [.ref p, .int x, .int (nI s.2.2.2.2), .int (nI 0)] [] M from by rw [← e0]; rfl]
  exact loop k 0 s M (by omega) FN.rf V hd rfl
set_option maxHeartbeats 4000000 in
theorem zX0_daysToCarry (l : Launch) {M : Mm} {p : Nat} (hp : nuP p) {s : Ns} (V : CV M p s) (hd : s.2.2.1 ≤ 9000) : Clz l 4 yX0_daysToCarry cX0_daysToCarry 2 (some .int) [.ref p] M (fun r M' => r = some (.int (dtC 0 (dtS 61 s))) ∧ FN p M M') := by
  refine Clz.on RX0 rfl (by decide +kernel) (Nat.le_of_ble_eq_true rfl) (fun X hL hO hr => ?_)
  show Gz X 0 [.ref p, .null] [] M
  have loop : ∀ (r j : Nat) (s1 : Ns) (M1 : Mm), j + r = 61 → FN p M M1 → CV M1 p s1 → s1.2.2.1 + r ≤ 100000 → dtC j (dtS r s1) = dtC 0 (dtS 61 s) → Gz X 2 [.ref p, .int (nI j)] [] M1 := by
    intro r
    induction r with
    | zero =>
      intro j s1 M1 hj hF hV h1 he
      refine r_iload_n hO dX0_daysToCarry_2 rfl ?_
      refine r_bipush hO dX0_daysToCarry_3 bc_60 ?_
      refine r_icmp_gt 29 hO dX0_daysToCarry_5 (by decide) (fun _ => ?_) (fun z => absurd (by rw [show (60 : Int32) = nI 60 from rfl]; exact nI_lt (by omega) (by omega)) z)
      refine r_bipush hO dX0_daysToCarry_29 bc_61 ?_
      exact r_ireturn hO hr dX0_daysToCarry_31 rfl ⟨sI (by rw [← he]; rfl), hF⟩
    | succ r ih =>
      intro j s1 M1 hj hF hV h1 he
      refine r_iload_n hO dX0_daysToCarry_2 rfl ?_
      refine r_bipush hO dX0_daysToCarry_3 bc_60 ?_
      refine r_icmp_gt 29 hO dX0_daysToCarry_5 (by decide) (fun z => absurd z (by rw [show (60 : Int32) = nI 60 from rfl]; exact nI_nlt (by omega) (by omega))) (fun _ => ?_)
      refine r_aload_n hO dX0_daysToCarry_8 rfl ?_
      refine r_fV hO dX0_daysToCarry_9 kRX0_78 miX0_isCarried (zX0_isCarried _ hp hV) ⟨Nat.le_of_ble_eq_true rfl, Nat.le_of_ble_eq_true rfl, rfl, Nat.le_of_ble_eq_true rfl⟩ (nu_o hp) rfl ?_
      refine r_if_eq 17 hO dX0_daysToCarry_12 (by decide) (fun h12 => ?_) (fun h12 => ?_)
      · rw [bI_0] at h12
        refine r_aload_n hO dX0_daysToCarry_17 rfl ?_
        refine r_iconst hO dX0_daysToCarry_18 ic_1 ?_
        refine r_callV hO dX0_daysToCarry_19 kRX0_75 miX0_passDay (zX0_passDay _ hp hV true rfl (by omega)) ⟨Nat.le_of_ble_eq_true rfl, Nat.le_of_ble_eq_true rfl, rfl, Nat.le_of_ble_eq_true rfl⟩ (nu_o hp) rfl (fun q M2 hpo => ?_)
        obtain ⟨rfl, hF2, hV2⟩ := hpo
        change Gz X 22 [.ref p, .int (nI j)] [.int (nI ((dayS s1).2.2.2.2 - s1.2.2.2.2))] M2
        refine r_pop hO dX0_daysToCarry_22 rfl ?_
        refine s_iinc hL hO dX0_daysToCarry_23 rfl ic_1 (Nat.le_of_ble_eq_true rfl) rfl ?_
        refine r_goto 2 hO dX0_daysToCarry_26 (by decide) ?_
        show Gz X 2 [.ref p, .int (nI j + 1)] [] M2
        rw [nI_1]
        exact ih (j + 1) (dayS s1) M2 (by omega) (hF.tr hF2) hV2 (by rw [dayS_day]; omega) (by rw [← he, ← dtC_s]; congr 1; conv => rhs; unfold dtS; rw [if_neg (by rw [h12]; decide)])
      · rw [bI_n0] at h12
        refine r_iload_n hO dX0_daysToCarry_15 rfl ?_
        exact r_ireturn hO hr dX0_daysToCarry_16 rfl ⟨sI (by rw [← he]; unfold dtS; rw [if_pos h12]; rfl), hF⟩
  refine r_iconst hO dX0_daysToCarry_0 ic_0 ?_
  refine s_istore_n hL hO dX0_daysToCarry_1 (Nat.le_of_ble_eq_true rfl) rfl ?_
  exact loop 61 0 s M (by omega) FN.rf V (by omega) rfl
