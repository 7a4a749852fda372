/-! calls that change little: what they answer, what they leave -/
theorem zX5_inI (l : Launch) {M : Mm} {v lo hi : Int32} {a b : Int64} (ha : a = lo.toInt64) (hb : b = hi.toInt64) : CFz l 0 yX5_in cX5_in 6 (some .boolean) [.long v.toInt64, .long a, .long b] M (some (.int (bI (inI v lo hi)))) M := by
  rw [← inLc ha hb]; exact zX5_in l
def topN (k : Nat) : Nat := if k = 0 then 3 else if k = 1 then 1 else 20
def setF (k v : Nat) (b : Mb) : Mb := if k = 0 then (v, b.2.1, b.2.2.1, b.2.2.2) else if k = 1 then (b.1, v, b.2.2.1, b.2.2.2) else if k = 2 then (b.1, b.2.1, v, b.2.2.2) else (b.1, b.2.1, b.2.2.1, v)
theorem MbAt.setK {f : Nat → Int32} {ms : List Mb} (h : MbAt f ms) {i k : Nat} {b : Mb} (hb : ms[i]? = some b) {v : Nat} (hk : k < 4) (hv : v ≤ topN k) : MbAt (upd f (4 * i + k) (nI v)) (ms.set i (setF k v b)) := by
  rcases (show k = 0 ∨ k = 1 ∨ k = 2 ∨ k = 3 by omega) with rfl | rfl | rfl | rfl
  · exact h.set0 hb hv
  · exact h.set1 hb hv
  · exact h.set2 hb hv
  · exact h.set3 hb hv
theorem MbAt.push {f : Nat → Int32} {ms : List Mb} (h : MbAt f ms) {b : Mb} (ho : okB b) (h0 : f (4 * ms.length) = nI b.1) (h1 : f (4 * ms.length + 1) = nI b.2.1) (h2 : f (4 * ms.length + 2) = nI b.2.2.1) (h3 : f (4 * ms.length + 3) = nI b.2.2.2) : MbAt f (ms ++ [b]) := by
  intro i c hc
  rcases Nat.lt_or_ge i ms.length with q | q
  · rw [List.getElem?_append_left q] at hc; exact h i c hc
  · rw [List.getElem?_append_right q] at hc
    have hz := (List.getElem?_eq_some_iff.mp hc).1
    have hi : i = ms.length := by simp at hz; omega
    subst hi
    rw [Nat.sub_self] at hc
    cases hc
    exact ⟨h0, h1, h2, h3, ho⟩
theorem SlAt.push {f g : Nat → Int32} {sl : List (Nat × Nat)} (h : SlAt f g sl) {q : Nat × Nat} (h0 : f sl.length = nI q.1) (h1 : g sl.length = nI q.2) (h2 : q.1 ≤ 20) (h3 : q.2 ≤ 20) : SlAt f g (sl ++ [q]) := by
  intro i c hc
  rcases Nat.lt_or_ge i sl.length with z | z
  · rw [List.getElem?_append_left z] at hc; exact h i c hc
  · rw [List.getElem?_append_right z] at hc
    have hz := (List.getElem?_eq_some_iff.mp hc).1
    have hi : i = sl.length := by simp at hz; omega
    subst hi
    rw [Nat.sub_self] at hc
    cases hc
    exact ⟨h0, h1, h2, h3⟩
theorem TpC.push {M M' : Mm} {t : List Nat} {a : Nat} (h : TpC M t) (hl : t.length < 160) (ha : a ≤ 127) (e1 : M'.1 1 1 = nI (t.length + 1)) (e2 : ∀ k, M'.1 2 k = if k = t.length then nI a else M.1 2 k) : TpC M' (t ++ [a]) := by
  refine ⟨by simp; omega, by rw [e1]; simp, fun i b hb => ?_⟩
  rw [e2]
  rcases Nat.lt_or_ge i t.length with z | z
  · rw [List.getElem?_append_left z] at hb; rw [if_neg (by omega)]; exact h.2.2 i b hb
  · rw [List.getElem?_append_right z] at hb
    have hz := (List.getElem?_eq_some_iff.mp hb).1
    have hi : i = t.length := by simp at hz; omega
    subst hi
    rw [Nat.sub_self] at hb
    cases hb
    exact ⟨if_pos rfl, ha⟩
theorem TpD.push {M M' : Mm} {t : List Nat} {a : Nat} (h : TpD M t) (hl : t.length < 160) (ha : a ≤ 127) (e1 : M'.1 33 6 = nI (t.length + 1)) (e2 : ∀ k, M'.1 38 k = if k = t.length then nI a else M.1 38 k) : TpD M' (t ++ [a]) := by
  refine ⟨by simp; omega, by rw [e1]; simp, fun i b hb => ?_⟩
  rw [e2]
  rcases Nat.lt_or_ge i t.length with z | z
  · rw [List.getElem?_append_left z] at hb; rw [if_neg (by omega)]; exact h.2.2 i b hb
  · rw [List.getElem?_append_right z] at hb
    have hz := (List.getElem?_eq_some_iff.mp hb).1
    have hi : i = t.length := by simp at hz; omega
    subst hi
    rw [Nat.sub_self] at hb
    cases hb
    exact ⟨if_pos rfl, ha⟩
theorem TpC.cut {M : Mm} {t : List Nat} (h : TpC M t) {a : Nat} (ha : a ≤ t.length) : TpC (mput M 1 1 (nI a)) (t.take a) := by
  have hl := h.1
  refine ⟨by rw [List.length_take]; omega, by rw [List.length_take, Nat.min_eq_left ha]; simp [mpg], fun i b hb => ?_⟩
  rw [mpg, if_neg (by omega)]
  rw [List.getElem?_take] at hb
  split at hb
  · exact h.2.2 i b hb
  · cases hb
theorem TpD.cut {M : Mm} {t : List Nat} (h : TpD M t) {a : Nat} (ha : a ≤ t.length) : TpD (mput M 33 6 (nI a)) (t.take a) := by
  have hl := h.1
  refine ⟨by rw [List.length_take]; omega, by rw [List.length_take, Nat.min_eq_left ha]; simp [mpg], fun i b hb => ?_⟩
  rw [mpg, if_neg (by omega)]
  rw [List.getElem?_take] at hb
  split at hb
  · exact h.2.2 i b hb
  · cases hb
theorem nI_i8 : ∀ a, a < 128 → vp_nar .byte (nI a).toInt8.toInt32 = nI a := by decide +kernel
def p_feed (σ : Sta) (c : Int32) : Int32 × Sta := if inI c 0 127 = true then (if σ.2.2.1.length = 160 then (-3, σ) else (nI (σ.2.2.1.length + 1), σ.1, σ.2.1, σ.2.2.1 ++ [c.toNatClampNeg], σ.2.2.2)) else (-1, σ)
def p_end (σ : Sta) (n : Int32) : Int32 × Sta := if inI n 0 (nI σ.2.2.1.length) = true then (nI σ.2.2.1.length, σ.1, σ.2.1, σ.2.2.1.take n.toNatClampNeg, σ.2.2.2) else (-1, σ)
def p_word (σ : Sta) (v : Int32) : Int32 × Sta := if inI v 0 20 = true then (nI σ.1.2.1, (σ.1.1, v.toNatClampNeg, σ.1.2.2), σ.2) else (-1, σ)
def p_clear (σ : Sta) (n : Int32) : Int32 × Sta := if inI n 0 (nI σ.1.1.length) = true then (nI σ.1.1.length, (σ.1.1.take n.toNatClampNeg, σ.1.2), σ.2) else (-1, σ)
def p_forget (σ : Sta) (n : Int32) : Int32 × Sta := if inI n 0 (nI σ.1.2.2.2.2.length) = true then (nI σ.1.2.2.2.2.length, (σ.1.1, σ.1.2.1, σ.1.2.2.1, σ.1.2.2.2.1, σ.1.2.2.2.2.take n.toNatClampNeg), σ.2) else (-1, σ)
def p_see (σ : Sta) (n v : Int32) : Int32 × Sta := if inI n 0 20 = true ∧ inI v 0 20 = true then (if σ.1.2.2.2.2.length = 6 then (-3, σ) else (nI (σ.1.2.2.2.2.length + 1), (σ.1.1, σ.1.2.1, σ.1.2.2.1, σ.1.2.2.2.1, σ.1.2.2.2.2 ++ [(n.toNatClampNeg, v.toNatClampNeg)]), σ.2)) else (-1, σ)
def p_seat (σ : Sta) (h w : Int32) : Int32 × Sta := if inI h 0 1 = true ∧ inI w 0 20 = true then (if σ.1.1.length = 6 then (-3, σ) else (nI (σ.1.1.length + 1), (σ.1.1 ++ [(0, h.toNatClampNeg, w.toNatClampNeg, 0)], σ.1.2), σ.2)) else (-1, σ)
def p_alter (σ : Sta) (i w v : Int32) : Int32 × Sta := if inI i 0 (nI σ.1.1.length - 1) = true ∧ inI w 0 3 = true ∧ inI v 0 (nI (topN w.toNatClampNeg)) = true then (nI (fld w.toNatClampNeg (σ.1.1.getD i.toNatClampNeg (0, 0, 0, 0))), (σ.1.1.set i.toNatClampNeg (setF w.toNatClampNeg v.toNatClampNeg (σ.1.1.getD i.toNatClampNeg (0, 0, 0, 0))), σ.1.2), σ.2) else (-1, σ)
theorem take_len {α : Type} {l : List α} {n : Nat} (h : n ≤ l.length) : (l.take n).length = n := by rw [List.length_take]; omega
set_option maxHeartbeats 4000000 in
theorem zX4_fault (l : Launch) {M : Mm} {σ : Sta} (h : RC M σ)  : Clz l 0 yX4_fault cX4_fault 1 (some .int) [.ref 0] M (fun r M' => r = some (.int ((nI σ.2.2.2.1, σ)).1) ∧ RC M' ((nI σ.2.2.2.1, σ)).2 ∧ FCr M M') := by
  refine Clz.on RX4 rfl (by decide +kernel) (Nat.le_of_ble_eq_true rfl) (fun X hL hO hr => ?_)
  show Gz X 0 [.ref 0] [] M
  refine r_aload_n hO dX4_fault_0 rfl ?_
  refine r_getI hO dX4_fault_1 fRX4_54 rfl ?_
  exact r_ireturn hO hr dX4_fault_4 rfl ⟨sI h.2.2.2.1, h, FCr.rf⟩
set_option maxHeartbeats 4000000 in
theorem zX4_torn (l : Launch) {M : Mm} {σ : Sta} (h : RC M σ)  : Clz l 0 yX4_torn cX4_torn 1 (some .int) [.ref 0] M (fun r M' => r = some (.int ((nI σ.2.2.2.2.1, σ)).1) ∧ RC M' ((nI σ.2.2.2.2.1, σ)).2 ∧ FCr M M') := by
  refine Clz.on RX4 rfl (by decide +kernel) (Nat.le_of_ble_eq_true rfl) (fun X hL hO hr => ?_)
  show Gz X 0 [.ref 0] [] M
  refine r_aload_n hO dX4_torn_0 rfl ?_
  refine r_getI hO dX4_torn_1 fRX4_58 rfl ?_
  exact r_ireturn hO hr dX4_torn_4 rfl ⟨sI h.2.2.2.2.1, h, FCr.rf⟩
set_option maxHeartbeats 4000000 in
theorem zX5_fault (l : Launch) {M : Mm} {σ : Sta} (h : RD M σ)  : Clz l 0 yX5_fault cX5_fault 1 (some .int) [.ref 33] M (fun r M' => r = some (.int ((nI σ.2.2.2.1, σ)).1) ∧ RD M' ((nI σ.2.2.2.1, σ)).2 ∧ FDr M M') := by
  refine Clz.on RX5 rfl (by decide +kernel) (Nat.le_of_ble_eq_true rfl) (fun X hL hO hr => ?_)
  show Gz X 0 [.ref 33] [] M
  refine r_aload_n hO dX5_fault_0 rfl ?_
  refine r_getI hO dX5_fault_1 fRX5_64 rfl ?_
  exact r_ireturn hO hr dX5_fault_4 rfl ⟨sI h.2.2.2.1, h, FDr.rf⟩
set_option maxHeartbeats 4000000 in
theorem zX5_torn (l : Launch) {M : Mm} {σ : Sta} (h : RD M σ)  : Clz l 0 yX5_torn cX5_torn 1 (some .int) [.ref 33] M (fun r M' => r = some (.int ((nI σ.2.2.2.2.1, σ)).1) ∧ RD M' ((nI σ.2.2.2.2.1, σ)).2 ∧ FDr M M') := by
  refine Clz.on RX5 rfl (by decide +kernel) (Nat.le_of_ble_eq_true rfl) (fun X hL hO hr => ?_)
  show Gz X 0 [.ref 33] [] M
  refine r_aload_n hO dX5_torn_0 rfl ?_
  refine r_getI hO dX5_torn_1 fRX5_310 rfl ?_
  exact r_ireturn hO hr dX5_torn_4 rfl ⟨sI h.2.2.2.2.1, h, FDr.rf⟩
set_option maxHeartbeats 4000000 in
theorem zX4_feed (l : Launch) {M : Mm} {σ : Sta} (h : RC M σ) {c : Int32} : Clz l 1 yX4_feed cX4_feed 2 (some .int) [.ref 0, .int c] M (fun r M' => r = some (.int (p_feed σ c).1) ∧ RC M' (p_feed σ c).2 ∧ FCr M M') := by
  refine Clz.on RX4 rfl (by decide +kernel) (Nat.le_of_ble_eq_true rfl) (fun X hL hO hr => ?_)
  show Gz X 0 [.ref 0, .int c] [] M
  refine r_iload_n hO dX4_feed_0 rfl ?_
  refine r_bipush hO dX4_feed_1 bc_127 ?_
  refine r_fS hO dX4_feed_3 kRX4_62 msX4_within (zX4_within _) ⟨Nat.le_of_ble_eq_true rfl, Nat.le_of_ble_eq_true rfl, rfl, Nat.le_of_ble_eq_true rfl⟩ rfl ?_
  refine r_if_ne 11 hO dX4_feed_6 (by decide) (fun h6 => ?_) (fun h6 => ?_)
  · rw [bI_n0] at h6
    refine r_aload_n hO dX4_feed_11 rfl ?_
    refine r_getR 1 hO dX4_feed_12 fRX4_12 rfl ?_
    refine r_getI hO dX4_feed_15 fRX4_66 rfl ?_
    refine r_sipush hO dX4_feed_18 sc_160 ?_
    refine r_icmp_lt 27 hO dX4_feed_21 (by decide) (fun h21 => ?_) (fun h21 => ?_)
    · rw [h.2.2.1.2.1, show (160 : Int32) = nI 160 from rfl, nI_ltI (by have := h.2.2.1.1; omega) (by decide)] at h21
      have h6 : inI c 0 127 = true := h6
      refine r_aload_n hO dX4_feed_27 rfl ?_
      refine r_getR 1 hO dX4_feed_28 fRX4_12 rfl ?_
      refine r_getR 2 hO dX4_feed_31 fRX4_69 rfl ?_
      refine r_aload_n hO dX4_feed_34 rfl ?_
      refine r_getR 1 hO dX4_feed_35 fRX4_12 rfl ?_
      refine r_getI hO dX4_feed_38 fRX4_66 rfl ?_
      refine r_iload_n hO dX4_feed_41 rfl ?_
      refine r_i2b hO dX4_feed_42 ?_
      obtain ⟨a, ha, rfl⟩ := inI_nat (n := 127) (by decide) h6
      refine s_bast 160 hO dX4_feed_43 rfl (Nat.le_of_ble_eq_true rfl) σ.2.2.1.length h.2.2.1.2.1 (by omega) ?_
      refine r_aload_n hO dX4_feed_44 rfl ?_
      refine r_getR 1 hO dX4_feed_45 fRX4_12 rfl ?_
      refine r_dup hO dX4_feed_48 rfl ?_
      refine r_getI hO dX4_feed_49 fRX4_66 rfl ?_
      refine r_iconst hO dX4_feed_52 ic_1 ?_
      refine r_iadd hO dX4_feed_53 ?_
      refine r_putI hO dX4_feed_54 fRX4_66 rfl ?_
      refine r_aload_n hO dX4_feed_57 rfl ?_
      refine r_getR 1 hO dX4_feed_58 fRX4_12 rfl ?_
      refine r_getI hO dX4_feed_61 fRX4_66 rfl ?_
      have e : p_feed σ (nI a) = (nI (σ.2.2.1.length + 1), σ.1, σ.2.1, σ.2.2.1 ++ [a], σ.2.2.2) := by unfold p_feed; rw [if_pos h6, if_neg (by omega), nI_clamp (by omega)]
      rw [nI_i8 a (by omega), show (mput M 2 σ.2.2.1.length (nI a)).1 1 1 = nI σ.2.2.1.length from by rw [mpg, if_neg (by omega)]; exact h.2.2.1.2.1, nI_1]
      exact r_ireturn hO hr dX4_feed_64 rfl ⟨by rw [e]; exact sI (by simp [mpg]), by rw [e]; exact h.tp (fun a k h1 h2 _ => by rw [mpg, if_neg (by omega), mpg, if_neg (by omega)]) (h.2.2.1.push (by omega) ha (by simp [mpg]) (fun k => by rw [mpg, if_neg (by omega), mpg]; by_cases e2 : k = σ.2.2.1.length <;> simp [e2])), (FCr.put (by decide)).tr (FCr.put (by decide))⟩
    · rw [h.2.2.1.2.1, show (160 : Int32) = nI 160 from rfl, nI_ltI (by have := h.2.2.1.1; omega) (by decide)] at h21
      have h6 : inI c 0 127 = true := h6
      refine r_bipush hO dX4_feed_24 bc_m3 ?_
      have e : p_feed σ c = (-3, σ) := by unfold p_feed; rw [if_pos h6, if_pos (by have := h.2.2.1.1; omega)]
      exact r_ireturn hO hr dX4_feed_26 rfl ⟨by rw [e], by rw [e]; exact h, FCr.rf⟩
  · rw [bI_0] at h6
    refine r_iconst hO dX4_feed_9 ic_m1 ?_
    have e : p_feed σ c = (-1, σ) := if_neg (by rw [show inI c 0 127 = false from h6]; decide)
    exact r_ireturn hO hr dX4_feed_10 rfl ⟨by rw [e], by rw [e]; exact h, FCr.rf⟩
set_option maxHeartbeats 4000000 in
theorem zX5_feed (l : Launch) {M : Mm} {σ : Sta} (h : RD M σ) {c : Int32} : Clz l 1 yX5_feed cX5_feed 2 (some .int) [.ref 33, .int c] M (fun r M' => r = some (.int (p_feed σ c).1) ∧ RD M' (p_feed σ c).2 ∧ FDr M M') := by
  refine Clz.on RX5 rfl (by decide +kernel) (Nat.le_of_ble_eq_true rfl) (fun X hL hO hr => ?_)
  show Gz X 0 [.ref 33, .int c] [] M
  refine r_iload_n hO dX5_feed_0 rfl ?_
  refine r_i2l hO dX5_feed_1 ?_
  refine r_lconst hO dX5_feed_2 lc_0 ?_
  refine r_ldc2 hO dX5_feed_3 wRX5_54 ?_
  refine r_fS hO dX5_feed_6 kRX5_56 msX5_in (zX5_inI _ (lo := 0) (hi := 127) (by decide) (by decide)) ⟨Nat.le_of_ble_eq_true rfl, Nat.le_of_ble_eq_true rfl, rfl, Nat.le_of_ble_eq_true rfl⟩ rfl ?_
  refine r_if_ne 14 hO dX5_feed_9 (by decide) (fun h9 => ?_) (fun h9 => ?_)
  · rw [bI_n0] at h9
    refine r_aload_n hO dX5_feed_14 rfl ?_
    refine r_getI hO dX5_feed_15 fRX5_60 rfl ?_
    refine r_sipush hO dX5_feed_18 sc_160 ?_
    refine r_icmp_ne 27 hO dX5_feed_21 (by decide) (fun h21 => ?_) (fun h21 => ?_)
    · rw [h.2.2.1.2.1, show (160 : Int32) = nI 160 from rfl, nI_eq (by have := h.2.2.1.1; omega) (by decide)] at h21
      refine r_aload_n hO dX5_feed_27 rfl ?_
      refine r_getR 38 hO dX5_feed_28 fRX5_23 rfl ?_
      refine r_aload_n hO dX5_feed_31 rfl ?_
      refine r_getI hO dX5_feed_32 fRX5_60 rfl ?_
      refine r_iload_n hO dX5_feed_35 rfl ?_
      obtain ⟨a, ha, rfl⟩ := inI_nat (n := 127) (by decide) h9
      have hlen := h.2.2.1.1
      refine s_iast 160 hO dX5_feed_36 rfl (Nat.le_of_ble_eq_true rfl) σ.2.2.1.length h.2.2.1.2.1 (by omega) ?_
      refine r_aload_n hO dX5_feed_37 rfl ?_
      refine r_dup hO dX5_feed_38 rfl ?_
      refine r_getI hO dX5_feed_39 fRX5_60 rfl ?_
      refine r_iconst hO dX5_feed_42 ic_1 ?_
      refine r_iadd hO dX5_feed_43 ?_
      refine r_putI hO dX5_feed_44 fRX5_60 rfl ?_
      refine r_aload_n hO dX5_feed_47 rfl ?_
      refine r_getI hO dX5_feed_48 fRX5_60 rfl ?_
      have e : p_feed σ (nI a) = (nI (σ.2.2.1.length + 1), σ.1, σ.2.1, σ.2.2.1 ++ [a], σ.2.2.2) := by unfold p_feed; rw [if_pos h9, if_neg h21, nI_clamp (by omega)]
      rw [show (mput M 38 σ.2.2.1.length (nI a)).1 33 6 = nI σ.2.2.1.length from by rw [mpg, if_neg (by omega)]; exact h.2.2.1.2.1, nI_1]
      exact r_ireturn hO hr dX5_feed_51 rfl ⟨by rw [e]; exact sI (by simp [mpg]), by rw [e]; exact h.tp (fun a k h1 h2 h3 => by rw [mpg, if_neg (by omega), mpg, if_neg (by omega)]) (h.2.2.1.push (by omega) ha (by simp [mpg]) (fun k => by rw [mpg, if_neg (by omega), mpg]; by_cases e2 : k = σ.2.2.1.length <;> simp [e2])), (FDr.put (by decide)).tr (FDr.put (by decide))⟩
    · rw [h.2.2.1.2.1, show (160 : Int32) = nI 160 from rfl, nI_eq (by have := h.2.2.1.1; omega) (by decide)] at h21
      refine r_bipush hO dX5_feed_24 bc_m3 ?_
      have e : p_feed σ c = (-3, σ) := by unfold p_feed; rw [if_pos h9, if_pos h21]
      exact r_ireturn hO hr dX5_feed_26 rfl ⟨by rw [e], by rw [e]; exact h, FDr.rf⟩
  · rw [bI_0] at h9
    refine r_iconst hO dX5_feed_12 ic_m1 ?_
    have e : p_feed σ c = (-1, σ) := if_neg (by rw [h9]; decide)
    exact r_ireturn hO hr dX5_feed_13 rfl ⟨by rw [e], by rw [e]; exact h, FDr.rf⟩
set_option maxHeartbeats 4000000 in
theorem zX4_end (l : Launch) {M : Mm} {σ : Sta} (h : RC M σ) {n : Int32} : Clz l 1 yX4_end cX4_end 3 (some .int) [.ref 0, .int n] M (fun r M' => r = some (.int (p_end σ n).1) ∧ RC M' (p_end σ n).2 ∧ FCr M M') := by
  refine Clz.on RX4 rfl (by decide +kernel) (Nat.le_of_ble_eq_true rfl) (fun X hL hO hr => ?_)
  show Gz X 0 [.ref 0, .int n, .null] [] M
  refine r_iload_n hO dX4_end_0 rfl ?_
  refine r_aload_n hO dX4_end_1 rfl ?_
  refine r_getR 1 hO dX4_end_2 fRX4_12 rfl ?_
  refine r_getI hO dX4_end_5 fRX4_66 rfl ?_
  refine r_fS hO dX4_end_8 kRX4_62 msX4_within (zX4_within _) ⟨Nat.le_of_ble_eq_true rfl, Nat.le_of_ble_eq_true rfl, rfl, Nat.le_of_ble_eq_true rfl⟩ rfl ?_
  refine r_if_ne 16 hO dX4_end_11 (by decide) (fun h11 => ?_) (fun h11 => ?_)
  · rw [bI_n0, h.2.2.1.2.1] at h11
    refine r_aload_n hO dX4_end_16 rfl ?_
    refine r_getR 1 hO dX4_end_17 fRX4_12 rfl ?_
    refine r_getI hO dX4_end_20 fRX4_66 rfl ?_
    refine s_istore_n hL hO dX4_end_23 (Nat.le_of_ble_eq_true rfl) rfl ?_
    refine r_aload_n hO dX4_end_24 rfl ?_
    refine r_getR 1 hO dX4_end_25 fRX4_12 rfl ?_
    refine r_iload_n hO dX4_end_28 rfl ?_
    refine r_putI hO dX4_end_29 fRX4_66 rfl ?_
    refine r_iload_n hO dX4_end_32 rfl ?_
    have h11 : inI n 0 (nI σ.2.2.1.length) = true := h11
    have hl := h.2.2.1.1
    obtain ⟨a, ha, rfl⟩ := inI_nat (by omega) h11
    have e : p_end σ (nI a) = (nI σ.2.2.1.length, σ.1, σ.2.1, σ.2.2.1.take a, σ.2.2.2) := by unfold p_end; rw [if_pos h11, nI_clamp (by omega)]
    exact r_ireturn hO hr dX4_end_33 rfl ⟨by rw [e]; exact sI h.2.2.1.2.1, by rw [e]; exact h.tp (fun a k h1 h2 _ => by rw [mpg, if_neg (by omega)]) (h.2.2.1.cut ha), FCr.put (by decide)⟩
  · rw [bI_0, h.2.2.1.2.1] at h11
    refine r_iconst hO dX4_end_14 ic_m1 ?_
    have e : p_end σ n = (-1, σ) := if_neg (by rw [show inI n 0 (nI σ.2.2.1.length) = false from h11]; decide)
    exact r_ireturn hO hr dX4_end_15 rfl ⟨by rw [e], by rw [e]; exact h, FCr.rf⟩
set_option maxHeartbeats 4000000 in
theorem zX5_end (l : Launch) {M : Mm} {σ : Sta} (h : RD M σ) {n : Int32} : Clz l 1 yX5_end cX5_end 3 (some .int) [.ref 33, .int n] M (fun r M' => r = some (.int (p_end σ n).1) ∧ RD M' (p_end σ n).2 ∧ FDr M M') := by
  refine Clz.on RX5 rfl (by decide +kernel) (Nat.le_of_ble_eq_true rfl) (fun X hL hO hr => ?_)
  show Gz X 0 [.ref 33, .int n, .null] [] M
  refine r_iload_n hO dX5_end_0 rfl ?_
  refine r_i2l hO dX5_end_1 ?_
  refine r_lconst hO dX5_end_2 lc_0 ?_
  refine r_aload_n hO dX5_end_3 rfl ?_
  refine r_getI hO dX5_end_4 fRX5_60 rfl ?_
  refine r_i2l hO dX5_end_7 ?_
  refine r_fS hO dX5_end_8 kRX5_56 msX5_in (zX5_inI _ (lo := 0) (by decide) rfl) ⟨Nat.le_of_ble_eq_true rfl, Nat.le_of_ble_eq_true rfl, rfl, Nat.le_of_ble_eq_true rfl⟩ rfl ?_
  refine r_if_ne 16 hO dX5_end_11 (by decide) (fun h11 => ?_) (fun h11 => ?_)
  · rw [bI_n0, h.2.2.1.2.1] at h11
    refine r_aload_n hO dX5_end_16 rfl ?_
    refine r_getI hO dX5_end_17 fRX5_60 rfl ?_
    refine s_istore_n hL hO dX5_end_20 (Nat.le_of_ble_eq_true rfl) rfl ?_
    refine r_aload_n hO dX5_end_21 rfl ?_
    refine r_iload_n hO dX5_end_22 rfl ?_
    refine r_putI hO dX5_end_23 fRX5_60 rfl ?_
    refine r_iload_n hO dX5_end_26 rfl ?_
    have hl := h.2.2.1.1
    obtain ⟨a, ha, rfl⟩ := inI_nat (by omega) h11
    have e : p_end σ (nI a) = (nI σ.2.2.1.length, σ.1, σ.2.1, σ.2.2.1.take a, σ.2.2.2) := by unfold p_end; rw [if_pos h11, nI_clamp (by omega)]
    exact r_ireturn hO hr dX5_end_27 rfl ⟨by rw [e]; exact sI h.2.2.1.2.1, by rw [e]; exact h.tp (fun a k h1 h2 h3 => by rw [mpg, if_neg (by omega)]) (h.2.2.1.cut ha), FDr.put (by decide)⟩
  · rw [bI_0, h.2.2.1.2.1] at h11
    refine r_iconst hO dX5_end_14 ic_m1 ?_
    have e : p_end σ n = (-1, σ) := if_neg (by rw [h11]; decide)
    exact r_ireturn hO hr dX5_end_15 rfl ⟨by rw [e], by rw [e]; exact h, FDr.rf⟩
set_option maxHeartbeats 4000000 in
theorem zX5_becomes (l : Launch) {M : Mm} {x v : Int32} (k : Nat) (hx : x = nI k) (hk : k < 41) : CFz l 0 yX5_becomes cX5_becomes 4 (some .int) [.ref 33, .int x, .int v] M (some (.int (M.1 34 k))) (mput M 34 k v) := by
  refine Clz.on RX5 rfl (by decide +kernel) (Nat.le_of_ble_eq_true rfl) (fun X hL hO hr => ?_)
  show Gz X 0 [.ref 33, .int x, .int v, .null] [] M
  refine r_aload_n hO dX5_becomes_0 rfl ?_
  refine r_getR 34 hO dX5_becomes_1 fRX5_7 rfl ?_
  refine r_iload_n hO dX5_becomes_4 rfl ?_
  refine s_iald 123 hO dX5_becomes_5 rfl (Nat.le_of_ble_eq_true rfl) k hx (by omega) ?_
  refine s_istore_n hL hO dX5_becomes_6 (Nat.le_of_ble_eq_true rfl) rfl ?_
  refine r_aload_n hO dX5_becomes_7 rfl ?_
  refine r_getR 34 hO dX5_becomes_8 fRX5_7 rfl ?_
  refine r_iload_n hO dX5_becomes_11 rfl ?_
  refine r_iload_n hO dX5_becomes_12 rfl ?_
  refine s_iast 123 hO dX5_becomes_13 rfl (Nat.le_of_ble_eq_true rfl) k hx (by omega) ?_
  refine r_iload_n hO dX5_becomes_14 rfl ?_
  exact r_ireturn hO hr dX5_becomes_15 rfl ⟨rfl, rfl⟩
theorem RU.mo {f : Nat → Int32} {u : Nu} (h : RU f u) {v : Nat} (hv : v ≤ 20) : RU (upd f 25 (nI v)) (u.1, v, u.2.2) := by
  obtain ⟨h1, h2, h3, h4, h5, h6, h7, h8⟩ := h
  exact ⟨h1, h2.far h1 (by omega) _, by simp [upd, h3], ⟨by simp [upd], hv⟩, ⟨by simp [upd, h5.1], h5.2⟩, ⟨by simp [upd, h6.1], h6.2⟩, ⟨by simp [upd, h7.1], h7.2⟩, h8.eq h7.2 (fun k hk => by rw [pk_un (by omega)]) (fun k hk => by rw [pk_un (by omega)])⟩
theorem RU.many {f : Nat → Int32} {u : Nu} (h : RU f u) {n : Nat} (hn : n ≤ u.1.length) : RU (upd f 24 (nI n)) (u.1.take n, u.2) := by
  obtain ⟨h1, h2, h3, h4, h5, h6, h7, h8⟩ := h
  exact ⟨by rw [take_len hn]; omega, (h2.far h1 (by omega) _).take n, by rw [take_len hn]; simp [upd], ⟨by simp [upd, h4.1], h4.2⟩, ⟨by simp [upd, h5.1], h5.2⟩, ⟨by simp [upd, h6.1], h6.2⟩, ⟨by simp [upd, h7.1], h7.2⟩, h8.eq h7.2 (fun k hk => by rw [pk_un (by omega)]) (fun k hk => by rw [pk_un (by omega)])⟩
theorem RU.seen {f : Nat → Int32} {u : Nu} (h : RU f u) {n : Nat} (hn : n ≤ u.2.2.2.2.length) : RU (upd f 28 (nI n)) (u.1, u.2.1, u.2.2.1, u.2.2.2.1, u.2.2.2.2.take n) := by
  obtain ⟨h1, h2, h3, h4, h5, h6, h7, h8⟩ := h
  exact ⟨h1, h2.far h1 (by omega) _, by simp [upd, h3], ⟨by simp [upd, h4.1], h4.2⟩, ⟨by simp [upd, h5.1], h5.2⟩, ⟨by simp [upd, h6.1], h6.2⟩, ⟨by rw [take_len hn]; simp [upd], by rw [take_len hn]; omega⟩, (h8.eq h7.2 (fun k hk => by rw [pk_un (by omega)]) (fun k hk => by rw [pk_un (by omega)])).take n⟩
theorem RU.put {f : Nat → Int32} {u : Nu} (h : RU f u) {i k : Nat} {b : Mb} (hb : u.1[i]? = some b) {v : Nat} (hk : k < 4) (hv : v ≤ topN k) : RU (upd f (4 * i + k) (nI v)) (u.1.set i (setF k v b), u.2) := by
  obtain ⟨h1, h2, h3, h4, h5, h6, h7, h8⟩ := h
  have hi := (List.getElem?_eq_some_iff.mp hb).1
  exact ⟨by rw [List.length_set]; exact h1, h2.setK hb hk hv, by rw [pk_un (by omega), List.length_set]; exact h3, ⟨by rw [pk_un (by omega)]; exact h4.1, h4.2⟩, ⟨by rw [pk_un (by omega)]; exact h5.1, h5.2⟩, ⟨by rw [pk_un (by omega)]; exact h6.1, h6.2⟩, ⟨by rw [pk_un (by omega)]; exact h7.1, h7.2⟩, h8.eq h7.2 (fun k hk => by rw [pk_un (by omega)]) (fun k hk => by rw [pk_un (by omega)])⟩
theorem CU.mo {M : Mm} {u : Nu} (h : CU M 4 u) {v : Nat} (hv : v ≤ 20) : CU (mput M 4 4 (nI v)) 4 (u.1, v, u.2.2) := by
  obtain ⟨⟨h1, h2, h3, h4, h5, h6⟩, g2, g3, g4, g5⟩ := h
  exact ⟨⟨h1, h2.eq h1 (fun k _ => by simp [mpg]), by simp [mpg, h3], ⟨by simp [mpg], hv⟩, ⟨by simp [mpg, h5.1], h5.2⟩, ⟨by simp [mpg, h6.1], h6.2⟩⟩, g2, by simp [mpg, g3], g4, g5.eq g4 (fun k _ => by simp [mpg]) (fun k _ => by simp [mpg])⟩
theorem CU.many {M : Mm} {u : Nu} (h : CU M 4 u) {n : Nat} (hn : n ≤ u.1.length) : CU (mput M 4 3 (nI n)) 4 (u.1.take n, u.2) := by
  obtain ⟨⟨h1, h2, h3, h4, h5, h6⟩, g2, g3, g4, g5⟩ := h
  exact ⟨⟨by rw [take_len hn]; omega, (h2.eq h1 (fun k _ => by simp [mpg])).take n, by rw [take_len hn]; simp [mpg], ⟨by simp [mpg, h4.1], h4.2⟩, ⟨by simp [mpg, h5.1], h5.2⟩, ⟨by simp [mpg, h6.1], h6.2⟩⟩, g2, by simp [mpg, g3], g4, g5.eq g4 (fun k _ => by simp [mpg]) (fun k _ => by simp [mpg])⟩
theorem CU.seen {M : Mm} {u : Nu} (h : CU M 4 u) {n : Nat} (hn : n ≤ u.2.2.2.2.length) : CU (mput M 4 7 (nI n)) 4 (u.1, u.2.1, u.2.2.1, u.2.2.2.1, u.2.2.2.2.take n) := by
  obtain ⟨⟨h1, h2, h3, h4, h5, h6⟩, g2, g3, g4, g5⟩ := h
  exact ⟨⟨h1, h2.eq h1 (fun k _ => by simp [mpg]), by simp [mpg, h3], ⟨by simp [mpg, h4.1], h4.2⟩, ⟨by simp [mpg, h5.1], h5.2⟩, ⟨by simp [mpg, h6.1], h6.2⟩⟩, g2, by rw [take_len hn]; simp [mpg], by rw [take_len hn]; omega, (g5.eq g4 (fun k _ => by simp [mpg]) (fun k _ => by simp [mpg])).take n⟩
theorem CU.put {M : Mm} {p : Nat} {u : Nu} (h : CU M p u) {i k : Nat} {b : Mb} (hb : u.1[i]? = some b) {v : Nat} (hk : k < 4) (hv : v ≤ topN k) : CU (mput M (p + 1) (4 * i + k) (nI v)) p (u.1.set i (setF k v b), u.2) := by
  obtain ⟨⟨h1, h2, h3, h4, h5, h6⟩, g2, g3, g4, g5⟩ := h
  exact ⟨⟨by rw [List.length_set]; exact h1, by rw [mput_at]; exact h2.setK hb hk hv, by rw [mpg, if_neg (by omega), List.length_set]; exact h3, ⟨by rw [mpg, if_neg (by omega)]; exact h4.1, h4.2⟩, ⟨by rw [mpg, if_neg (by omega)]; exact h5.1, h5.2⟩, ⟨by rw [mpg, if_neg (by omega)]; exact h6.1, h6.2⟩⟩, g2, by rw [mpg, if_neg (by omega)]; exact g3, g4, g5.eq g4 (fun k _ => by rw [mpg, if_neg (by omega)]) (fun k _ => by rw [mpg, if_neg (by omega)])⟩
theorem FCr4 {M : Mm} {k : Nat} {x : Int32} : FCr M (mput M 4 k x) := FCr.put (by decide)
theorem ne4 {M : Mm} {p k : Nat} {x : Int32} (hp : 4 ≤ p ∧ p ≤ 11) : ∀ a j, ¬ (4 ≤ a ∧ a ≤ 11) → a < 33 → (mput M p k x).1 a j = M.1 a j := fun a j ha _ => by rw [mpg, if_neg (by omega)]
theorem ne34 {M : Mm} {k : Nat} {x : Int32} (hk : k < 41) : ∀ a j, a ≠ 35 → a ≠ 37 → a ≠ 39 → a ≠ 40 → a ≠ 44 → 33 ≤ a → (a ≠ 33 ∨ j = 6 ∨ j = 11 ∨ j = 25) → (a ≠ 34 ∨ 41 ≤ j) → (mput M 34 k x).1 a j = M.1 a j := fun a j _ _ _ _ _ _ _ h => by rw [mpg, if_neg (by omega)]
set_option maxHeartbeats 4000000 in
theorem zX4_word (l : Launch) {M : Mm} {σ : Sta} (h : RC M σ) {v : Int32} : Clz l 1 yX4_word cX4_word 3 (some .int) [.ref 0, .int v] M (fun r M' => r = some (.int (p_word σ v).1) ∧ RC M' (p_word σ v).2 ∧ FCr M M') := by
  refine Clz.on RX4 rfl (by decide +kernel) (Nat.le_of_ble_eq_true rfl) (fun X hL hO hr => ?_)
  show Gz X 0 [.ref 0, .int v, .null] [] M
  refine r_iload_n hO dX4_word_0 rfl ?_
  refine r_bipush hO dX4_word_1 bc_20 ?_
  refine r_fS hO dX4_word_3 kRX4_62 msX4_within (zX4_within _) ⟨Nat.le_of_ble_eq_true rfl, Nat.le_of_ble_eq_true rfl, rfl, Nat.le_of_ble_eq_true rfl⟩ rfl ?_
  refine r_if_ne 11 hO dX4_word_6 (by decide) (fun h6 => ?_) (fun h6 => ?_)
  · rw [bI_n0] at h6
    refine r_aload_n hO dX4_word_11 rfl ?_
    refine r_getR 4 hO dX4_word_12 fRX4_26 rfl ?_
    refine r_getI hO dX4_word_15 fRX4_90 rfl ?_
    refine s_istore_n hL hO dX4_word_18 (Nat.le_of_ble_eq_true rfl) rfl ?_
    refine r_aload_n hO dX4_word_19 rfl ?_
    refine r_getR 4 hO dX4_word_20 fRX4_26 rfl ?_
    refine r_iload_n hO dX4_word_23 rfl ?_
    refine r_putI hO dX4_word_24 fRX4_90 rfl ?_
    refine r_iload_n hO dX4_word_27 rfl ?_
    have h6 : inI v 0 20 = true := h6
    obtain ⟨a, ha, rfl⟩ := inI_nat (n := 20) (by decide) h6
    have e : p_word σ (nI a) = (nI σ.1.2.1, (σ.1.1, a, σ.1.2.2), σ.2) := by unfold p_word; rw [if_pos h6, nI_clamp (by omega)]
    exact r_ireturn hO hr dX4_word_28 rfl ⟨by rw [e]; exact sI h.1.1.2.2.2.1.1, by rw [e]; exact h.nut (ne4 (by decide)) (h.1.mo ha), FCr4⟩
  · rw [bI_0] at h6
    refine r_iconst hO dX4_word_9 ic_m1 ?_
    have e : p_word σ v = (-1, σ) := if_neg (by rw [show inI v 0 20 = false from h6]; decide)
    exact r_ireturn hO hr dX4_word_10 rfl ⟨by rw [e], by rw [e]; exact h, FCr.rf⟩
set_option maxHeartbeats 4000000 in
theorem zX5_word (l : Launch) {M : Mm} {σ : Sta} (h : RD M σ) {v : Int32} : Clz l 2 yX5_word cX5_word 2 (some .int) [.ref 33, .int v] M (fun r M' => r = some (.int (p_word σ v).1) ∧ RD M' (p_word σ v).2 ∧ FDr M M') := by
  refine Clz.on RX5 rfl (by decide +kernel) (Nat.le_of_ble_eq_true rfl) (fun X hL hO hr => ?_)
  show Gz X 0 [.ref 33, .int v] [] M
  refine r_iload_n hO dX5_word_0 rfl ?_
  refine r_fS hO dX5_word_1 kRX5_182 msX5_isMotion (zX5_isMotion _) ⟨Nat.le_of_ble_eq_true rfl, Nat.le_of_ble_eq_true rfl, rfl, Nat.le_of_ble_eq_true rfl⟩ rfl ?_
  refine r_if_eq 17 hO dX5_word_4 (by decide) (fun h4 => ?_) (fun h4 => ?_)
  · rw [bI_0] at h4
    refine r_iconst hO dX5_word_17 ic_m1 ?_
    have e : p_word σ v = (-1, σ) := if_neg (by rw [h4]; decide)
    exact r_ireturn hO hr dX5_word_18 rfl ⟨by rw [e], by rw [e]; exact h, FDr.rf⟩
  · rw [bI_n0] at h4
    refine r_aload_n hO dX5_word_7 rfl ?_
    refine r_bipush hO dX5_word_8 bc_25 ?_
    refine r_iload_n hO dX5_word_10 rfl ?_
    refine r_fV hO dX5_word_11 kRX5_212 miX5_becomes (zX5_becomes _ 25 (by decide) (by decide)) ⟨Nat.le_of_ble_eq_true rfl, Nat.le_of_ble_eq_true rfl, rfl, Nat.le_of_ble_eq_true rfl⟩ rfl rfl ?_
    refine r_goto 18 hO dX5_word_14 (by decide) ?_
    obtain ⟨a, ha, rfl⟩ := inI_nat (n := 20) (by decide) h4
    have e : p_word σ (nI a) = (nI σ.1.2.1, (σ.1.1, a, σ.1.2.2), σ.2) := by unfold p_word; rw [if_pos h4, nI_clamp (by omega)]
    exact r_ireturn hO hr dX5_word_18 rfl ⟨by rw [e]; exact sI h.1.2.2.2.1.1, by rw [e]; exact h.nut (ne34 (by decide)) (by rw [mput_at]; exact h.1.mo ha), FDr.put (by decide)⟩
set_option maxHeartbeats 4000000 in
theorem zX4_clear (l : Launch) {M : Mm} {σ : Sta} (h : RC M σ) {n : Int32} : Clz l 1 yX4_clear cX4_clear 3 (some .int) [.ref 0, .int n] M (fun r M' => r = some (.int (p_clear σ n).1) ∧ RC M' (p_clear σ n).2 ∧ FCr M M') := by
  refine Clz.on RX4 rfl (by decide +kernel) (Nat.le_of_ble_eq_true rfl) (fun X hL hO hr => ?_)
  show Gz X 0 [.ref 0, .int n, .null] [] M
  refine r_iload_n hO dX4_clear_0 rfl ?_
  refine r_aload_n hO dX4_clear_1 rfl ?_
  refine r_getR 4 hO dX4_clear_2 fRX4_26 rfl ?_
  refine r_getI hO dX4_clear_5 fRX4_84 rfl ?_
  refine r_fS hO dX4_clear_8 kRX4_62 msX4_within (zX4_within _) ⟨Nat.le_of_ble_eq_true rfl, Nat.le_of_ble_eq_true rfl, rfl, Nat.le_of_ble_eq_true rfl⟩ rfl ?_
  refine r_if_ne 16 hO dX4_clear_11 (by decide) (fun h11 => ?_) (fun h11 => ?_)
  · rw [bI_n0, h.1.1.2.2.1] at h11
    refine r_aload_n hO dX4_clear_16 rfl ?_
    refine r_getR 4 hO dX4_clear_17 fRX4_26 rfl ?_
    refine r_getI hO dX4_clear_20 fRX4_84 rfl ?_
    refine s_istore_n hL hO dX4_clear_23 (Nat.le_of_ble_eq_true rfl) rfl ?_
    refine r_aload_n hO dX4_clear_24 rfl ?_
    refine r_getR 4 hO dX4_clear_25 fRX4_26 rfl ?_
    refine r_iload_n hO dX4_clear_28 rfl ?_
    refine r_putI hO dX4_clear_29 fRX4_84 rfl ?_
    refine r_iload_n hO dX4_clear_32 rfl ?_
    have h11 : inI n 0 (nI σ.1.1.length) = true := h11
    have hl := h.1.1.1
    obtain ⟨a, ha, rfl⟩ := inI_nat (by omega) h11
    have e : p_clear σ (nI a) = (nI σ.1.1.length, (σ.1.1.take a, σ.1.2), σ.2) := by unfold p_clear; rw [if_pos h11, nI_clamp (by omega)]
    exact r_ireturn hO hr dX4_clear_33 rfl ⟨by rw [e]; exact sI h.1.1.2.2.1, by rw [e]; exact h.nut (ne4 (by decide)) (h.1.many ha), FCr4⟩
  · rw [bI_0, h.1.1.2.2.1] at h11
    refine r_iconst hO dX4_clear_14 ic_m1 ?_
    have e : p_clear σ n = (-1, σ) := if_neg (by rw [show inI n 0 (nI σ.1.1.length) = false from h11]; decide)
    exact r_ireturn hO hr dX4_clear_15 rfl ⟨by rw [e], by rw [e]; exact h, FCr.rf⟩
set_option maxHeartbeats 4000000 in
theorem zX4_forget (l : Launch) {M : Mm} {σ : Sta} (h : RC M σ) {n : Int32} : Clz l 1 yX4_forget cX4_forget 3 (some .int) [.ref 0, .int n] M (fun r M' => r = some (.int (p_forget σ n).1) ∧ RC M' (p_forget σ n).2 ∧ FCr M M') := by
  refine Clz.on RX4 rfl (by decide +kernel) (Nat.le_of_ble_eq_true rfl) (fun X hL hO hr => ?_)
  show Gz X 0 [.ref 0, .int n, .null] [] M
  refine r_iload_n hO dX4_forget_0 rfl ?_
  refine r_aload_n hO dX4_forget_1 rfl ?_
  refine r_getR 4 hO dX4_forget_2 fRX4_26 rfl ?_
  refine r_getI hO dX4_forget_5 fRX4_171 rfl ?_
  refine r_fS hO dX4_forget_8 kRX4_62 msX4_within (zX4_within _) ⟨Nat.le_of_ble_eq_true rfl, Nat.le_of_ble_eq_true rfl, rfl, Nat.le_of_ble_eq_true rfl⟩ rfl ?_
  refine r_if_ne 16 hO dX4_forget_11 (by decide) (fun h11 => ?_) (fun h11 => ?_)
  · rw [bI_n0, h.1.2.2.1] at h11
    refine r_aload_n hO dX4_forget_16 rfl ?_
    refine r_getR 4 hO dX4_forget_17 fRX4_26 rfl ?_
    refine r_getI hO dX4_forget_20 fRX4_171 rfl ?_
    refine s_istore_n hL hO dX4_forget_23 (Nat.le_of_ble_eq_true rfl) rfl ?_
    refine r_aload_n hO dX4_forget_24 rfl ?_
    refine r_getR 4 hO dX4_forget_25 fRX4_26 rfl ?_
    refine r_iload_n hO dX4_forget_28 rfl ?_
    refine r_putI hO dX4_forget_29 fRX4_171 rfl ?_
    refine r_iload_n hO dX4_forget_32 rfl ?_
    have h11 : inI n 0 (nI σ.1.2.2.2.2.length) = true := h11
    have hl := h.1.2.2.2.1
    obtain ⟨a, ha, rfl⟩ := inI_nat (by omega) h11
    have e : p_forget σ (nI a) = (nI σ.1.2.2.2.2.length, (σ.1.1, σ.1.2.1, σ.1.2.2.1, σ.1.2.2.2.1, σ.1.2.2.2.2.take a), σ.2) := by unfold p_forget; rw [if_pos h11, nI_clamp (by omega)]
    exact r_ireturn hO hr dX4_forget_33 rfl ⟨by rw [e]; exact sI h.1.2.2.1, by rw [e]; exact h.nut (ne4 (by decide)) (h.1.seen ha), FCr4⟩
  · rw [bI_0, h.1.2.2.1] at h11
    refine r_iconst hO dX4_forget_14 ic_m1 ?_
    have e : p_forget σ n = (-1, σ) := if_neg (by rw [show inI n 0 (nI σ.1.2.2.2.2.length) = false from h11]; decide)
    exact r_ireturn hO hr dX4_forget_15 rfl ⟨by rw [e], by rw [e]; exact h, FCr.rf⟩
set_option maxHeartbeats 4000000 in
theorem zX5_clear (l : Launch) {M : Mm} {σ : Sta} (h : RD M σ) {n : Int32} : Clz l 1 yX5_clear cX5_clear 2 (some .int) [.ref 33, .int n] M (fun r M' => r = some (.int (p_clear σ n).1) ∧ RD M' (p_clear σ n).2 ∧ FDr M M') := by
  refine Clz.on RX5 rfl (by decide +kernel) (Nat.le_of_ble_eq_true rfl) (fun X hL hO hr => ?_)
  show Gz X 0 [.ref 33, .int n] [] M
  refine r_iload_n hO dX5_clear_0 rfl ?_
  refine r_i2l hO dX5_clear_1 ?_
  refine r_lconst hO dX5_clear_2 lc_0 ?_
  refine r_aload_n hO dX5_clear_3 rfl ?_
  refine r_getR 34 hO dX5_clear_4 fRX5_7 rfl ?_
  refine r_bipush hO dX5_clear_7 bc_24 ?_
  refine s_iald 123 hO dX5_clear_9 rfl (Nat.le_of_ble_eq_true rfl) 24 (by decide) (by decide) ?_
  refine r_i2l hO dX5_clear_10 ?_
  refine r_fS hO dX5_clear_11 kRX5_56 msX5_in (zX5_inI _ (lo := 0) (by decide) rfl) ⟨Nat.le_of_ble_eq_true rfl, Nat.le_of_ble_eq_true rfl, rfl, Nat.le_of_ble_eq_true rfl⟩ rfl ?_
  refine r_if_eq 27 hO dX5_clear_14 (by decide) (fun h14 => ?_) (fun h14 => ?_)
  · rw [bI_0, h.1.2.2.1] at h14
    refine r_iconst hO dX5_clear_27 ic_m1 ?_
    have e : p_clear σ n = (-1, σ) := if_neg (by rw [h14]; decide)
    exact r_ireturn hO hr dX5_clear_28 rfl ⟨by rw [e], by rw [e]; exact h, FDr.rf⟩
  · rw [bI_n0, h.1.2.2.1] at h14
    refine r_aload_n hO dX5_clear_17 rfl ?_
    refine r_bipush hO dX5_clear_18 bc_24 ?_
    refine r_iload_n hO dX5_clear_20 rfl ?_
    refine r_fV hO dX5_clear_21 kRX5_212 miX5_becomes (zX5_becomes _ 24 (by decide) (by decide)) ⟨Nat.le_of_ble_eq_true rfl, Nat.le_of_ble_eq_true rfl, rfl, Nat.le_of_ble_eq_true rfl⟩ rfl rfl ?_
    refine r_goto 28 hO dX5_clear_24 (by decide) ?_
    have hl := h.1.1
    obtain ⟨a, ha, rfl⟩ := inI_nat (by omega) h14
    have e : p_clear σ (nI a) = (nI σ.1.1.length, (σ.1.1.take a, σ.1.2), σ.2) := by unfold p_clear; rw [if_pos h14, nI_clamp (by omega)]
    exact r_ireturn hO hr dX5_clear_28 rfl ⟨by rw [e]; exact sI h.1.2.2.1, by rw [e]; exact h.nut (ne34 (by decide)) (by rw [mput_at]; exact h.1.many ha), FDr.put (by decide)⟩
set_option maxHeartbeats 4000000 in
theorem zX5_forget (l : Launch) {M : Mm} {σ : Sta} (h : RD M σ) {n : Int32} : Clz l 1 yX5_forget cX5_forget 2 (some .int) [.ref 33, .int n] M (fun r M' => r = some (.int (p_forget σ n).1) ∧ RD M' (p_forget σ n).2 ∧ FDr M M') := by
  refine Clz.on RX5 rfl (by decide +kernel) (Nat.le_of_ble_eq_true rfl) (fun X hL hO hr => ?_)
  show Gz X 0 [.ref 33, .int n] [] M
  refine r_iload_n hO dX5_forget_0 rfl ?_
  refine r_i2l hO dX5_forget_1 ?_
  refine r_lconst hO dX5_forget_2 lc_0 ?_
  refine r_aload_n hO dX5_forget_3 rfl ?_
  refine r_getR 34 hO dX5_forget_4 fRX5_7 rfl ?_
  refine r_bipush hO dX5_forget_7 bc_28 ?_
  refine s_iald 123 hO dX5_forget_9 rfl (Nat.le_of_ble_eq_true rfl) 28 (by decide) (by decide) ?_
  refine r_i2l hO dX5_forget_10 ?_
  refine r_fS hO dX5_forget_11 kRX5_56 msX5_in (zX5_inI _ (lo := 0) (by decide) rfl) ⟨Nat.le_of_ble_eq_true rfl, Nat.le_of_ble_eq_true rfl, rfl, Nat.le_of_ble_eq_true rfl⟩ rfl ?_
  refine r_if_eq 27 hO dX5_forget_14 (by decide) (fun h14 => ?_) (fun h14 => ?_)
  · rw [bI_0, h.1.2.2.2.2.2.2.1.1] at h14
    refine r_iconst hO dX5_forget_27 ic_m1 ?_
    have e : p_forget σ n = (-1, σ) := if_neg (by rw [h14]; decide)
    exact r_ireturn hO hr dX5_forget_28 rfl ⟨by rw [e], by rw [e]; exact h, FDr.rf⟩
  · rw [bI_n0, h.1.2.2.2.2.2.2.1.1] at h14
    refine r_aload_n hO dX5_forget_17 rfl ?_
    refine r_bipush hO dX5_forget_18 bc_28 ?_
    refine r_iload_n hO dX5_forget_20 rfl ?_
    refine r_fV hO dX5_forget_21 kRX5_212 miX5_becomes (zX5_becomes _ 28 (by decide) (by decide)) ⟨Nat.le_of_ble_eq_true rfl, Nat.le_of_ble_eq_true rfl, rfl, Nat.le_of_ble_eq_true rfl⟩ rfl rfl ?_
    refine r_goto 28 hO dX5_forget_24 (by decide) ?_
    have hl := h.1.2.2.2.2.2.2.1.2
    obtain ⟨a, ha, rfl⟩ := inI_nat (by omega) h14
    have e : p_forget σ (nI a) = (nI σ.1.2.2.2.2.length, (σ.1.1, σ.1.2.1, σ.1.2.2.1, σ.1.2.2.2.1, σ.1.2.2.2.2.take a), σ.2) := by unfold p_forget; rw [if_pos h14, nI_clamp (by omega)]
    exact r_ireturn hO hr dX5_forget_28 rfl ⟨by rw [e]; exact sI h.1.2.2.2.2.2.2.1.1, by rw [e]; exact h.nut (ne34 (by decide)) (by rw [mput_at]; exact h.1.seen ha), FDr.put (by decide)⟩
