/-! what is best: the soonest of many trials -/
def bdC : Option Nat → Int32
  | some k => nI k
  | none => 61
def bdR : Option Nat → Int32
  | some k => nI k
  | none => 1000000
def cdI : Option Nat → Int32
  | some k => nI k
  | none => -4
abbrev Jg : Type := Option Nat × Option Nat
def ltO (k : Nat) : Option Nat → Bool
  | some m => decide (k < m)
  | none => true
def jg (acc : Jg) (v : Nat) : Option Nat → Jg
  | some k => if ltO k acc.2 = true then (some v, some k) else acc
  | none => acc
def jrun (f : Nat → Option Nat) : Nat → Nat → Jg → Jg
  | 0, _, acc => acc
  | r + 1, j, acc => jrun f r (j + 1) (jg acc j (f j))
def jres (acc : Jg) (w : Int32) : Int32 := match acc.1 with
  | none => -4
  | some c => if w = 0 then nI c else bdC acc.2
/-- bounds: what is best so far is at most 60, and stands where a code stands -/
def jok (acc : Jg) : Prop := (∀ m, acc.2 = some m → m ≤ 60) ∧ (∀ c, acc.1 = some c → c < 1000 ∧ ∃ m, acc.2 = some m)
def ook (o : Option Nat) : Prop := ∀ k, o = some k → k ≤ 60
theorem dt_ok (s : Ns) : ook (dtS 61 s) := fun k h => by have := dtS_lt _ _ _ h; omega
theorem jg_ok {acc : Jg} {v : Nat} {o : Option Nat} (h : jok acc) (ho : ook o) (hv : v < 1000) : jok (jg acc v o) := by
  cases o with
  | none => exact h
  | some k =>
    show jok (if _ then _ else _)
    split
    · exact ⟨fun m hm => by cases hm; exact ho k rfl, fun c hc => by cases hc; exact ⟨hv, k, rfl⟩⟩
    · exact h
theorem jc_no {acc : Jg} {v : Nat} {o : Option Nat} (h : jok acc) (ho : ook o) (q : bdC acc.2 ≤ dtC 0 o) : jg acc v o = acc := by
  cases o with
  | none => rfl
  | some k =>
    have hk := ho k rfl
    refine if_neg (fun z => ?_)
    cases ha : acc.2 with
    | none => rw [ha] at q; exact absurd (show nI 61 ≤ nI (0 + k) from q) (by rw [nI_leI (by decide) (by omega)]; omega)
    | some m =>
      rw [ha] at q z
      have hm := h.1 m ha
      have q : nI m ≤ nI (0 + k) := q
      rw [nI_leI (by omega) (by omega)] at q
      have z := of_decide_eq_true z
      omega
theorem jc_yes {acc : Jg} {v : Nat} {o : Option Nat} (h : jok acc) (ho : ook o) (q : ¬ bdC acc.2 ≤ dtC 0 o) : cdI (jg acc v o).1 = nI v ∧ bdC (jg acc v o).2 = dtC 0 o := by
  cases o with
  | none =>
    exfalso
    apply q
    show bdC acc.2 ≤ nI 61
    cases ha : acc.2 with
    | none => exact nI_le (Nat.le_refl _) (by decide)
    | some m => exact nI_le (by have := h.1 m ha; omega) (by decide)
  | some k =>
    have hk := ho k rfl
    have hz : ltO k acc.2 = true := by
      cases ha : acc.2 with
      | none => rfl
      | some m =>
        rw [ha] at q
        have hm := h.1 m ha
        have q : ¬ nI m ≤ nI (0 + k) := q
        rw [nI_leI (by omega) (by omega)] at q
        exact decide_eq_true (by omega)
    have e : jg acc v (some k) = (some v, some k) := if_pos hz
    rw [e]
    exact ⟨rfl, by show nI k = nI (0 + k); rw [Nat.zero_add]⟩
theorem jr_n {acc : Jg} {v : Nat} {o : Option Nat} (q : dtI 0 o = -4) (ho : ook o) : jg acc v o = acc := by
  cases o with
  | none => rfl
  | some k => exact absurd (show nI (0 + k) = -4 from q) (fun e => absurd (e ▸ nI_pos (n := 0 + k) (by have := ho k rfl; omega)) (by decide))
theorem jr_no {acc : Jg} {v : Nat} {o : Option Nat} (h : jok acc) (ho : ook o) (q0 : ¬ dtI 0 o = -4) (q : bdR acc.2 ≤ dtI 0 o) : jg acc v o = acc := by
  cases o with
  | none => rfl
  | some k =>
    have hk := ho k rfl
    refine if_neg (fun z => ?_)
    cases ha : acc.2 with
    | none => rw [ha] at q; exact absurd (show nI 1000000 ≤ nI (0 + k) from q) (by rw [nI_leI (by decide) (by omega)]; omega)
    | some m =>
      rw [ha] at q z
      have hm := h.1 m ha
      have q : nI m ≤ nI (0 + k) := q
      rw [nI_leI (by omega) (by omega)] at q
      have z := of_decide_eq_true z
      omega
theorem jr_yes {acc : Jg} {v : Nat} {o : Option Nat} (h : jok acc) (ho : ook o) (q0 : ¬ dtI 0 o = -4) (q : ¬ bdR acc.2 ≤ dtI 0 o) : cdI (jg acc v o).1 = nI v ∧ bdR (jg acc v o).2 = dtI 0 o := by
  cases o with
  | none => exact absurd rfl q0
  | some k =>
    have hk := ho k rfl
    have hz : ltO k acc.2 = true := by
      cases ha : acc.2 with
      | none => rfl
      | some m =>
        rw [ha] at q
        have hm := h.1 m ha
        have q : ¬ nI m ≤ nI (0 + k) := q
        rw [nI_leI (by omega) (by omega)] at q
        exact decide_eq_true (by omega)
    have e : jg acc v (some k) = (some v, some k) := if_pos hz
    rw [e]
    exact ⟨rfl, by show nI k = nI (0 + k); rw [Nat.zero_add]⟩
theorem cd_n {acc : Jg} {w : Int32} (h : jok acc) (q : cdI acc.1 = -4) : -4 = jres acc w := by
  unfold jres
  cases ha : acc.1 with
  | none => rfl
  | some c => rw [ha] at q; exact absurd (show nI c = -4 from q) (fun e => absurd (e ▸ nI_pos (n := c) (by have := (h.2 c ha).1; omega)) (by decide))
theorem cd_0 {acc : Jg} {w : Int32} (q : ¬ cdI acc.1 = -4) (hw : w = 0) : cdI acc.1 = jres acc w := by
  unfold jres
  cases ha : acc.1 with
  | none => rw [ha] at q; exact absurd rfl q
  | some c => exact (if_pos hw).symm
theorem cd_1 {acc : Jg} {w : Int32} (q : ¬ cdI acc.1 = -4) (hw : ¬ w = 0) : bdC acc.2 = jres acc w := by
  unfold jres
  cases ha : acc.1 with
  | none => rw [ha] at q; exact absurd rfl q
  | some c => exact (if_neg hw).symm
theorem bdRC {acc : Jg} (h : jok acc) (q : ¬ cdI acc.1 = -4) : bdR acc.2 = bdC acc.2 := by
  cases ha : acc.1 with
  | none => rw [ha] at q; exact absurd rfl q
  | some c => obtain ⟨-, m, hm⟩ := h.2 c ha; rw [hm]; rfl
theorem jok_0 : jok (none, none) := ⟨fun m h => (by cases h), fun c h => (by cases h)⟩
theorem jok_1 {o : Option Nat} (h : ook o) : jok (none, o) := ⟨fun m hm => h m hm, fun c h => by cases h⟩
/-- the trials -/
def sMo (s : Ns) (v : Nat) : Ns := (s.1, v, s.2.2)
def sMb (s : Ns) (i k v : Nat) : Ns := (s.1.set i (setF k v (s.1.getD i (0, 0, 0, 0))), s.2)
def p_soon (f : Nat → Option Nat) (n : Nat) (a : Option Nat) (w : Int32) : Int32 := jres (jrun f n 0 (none, a)) w
def p_wording (σ : Sta) (w : Int32) : Int32 := if inI w 0 1 = true then p_soon (fun v => dtS 61 (sMo (nuS σ.1) v)) 21 none w else -1
def p_best (σ : Sta) (k n : Nat) (i w : Int32) : Int32 := if inI i 0 (nI σ.1.1.length - 1) = true ∧ inI w 0 1 = true then p_soon (fun v => dtS 61 (sMb (nuS σ.1) i.toNatClampNeg k v)) n none w else -1
def sOut (s : Ns) (i : Nat) : Ns := (s.1.eraseIdx i, s.2)
def p_lose (σ : Sta) (w : Int32) : Int32 := if inI w 0 1 = true then p_soon (fun v => dtS 61 (sOut (nuS σ.1) v)) σ.1.1.length (dtS 61 (nuS σ.1)) w else -1
def p_cross (σ : Sta) (w : Int32) : Int32 := if inI w 0 1 = true then p_soon (fun v => dtS 61 (sMb (nuS σ.1) v 1 (1 - (σ.1.1.getD v (0, 0, 0, 0)).2.1))) σ.1.1.length (dtS 61 (nuS σ.1)) w else -1
set_option maxHeartbeats 4000000 in
theorem zX5_startsJudging (l : Launch) {M : Mm} {m : Int32} : CFz l 0 yX5_startsJudging cX5_startsJudging 2 none [.ref 33, .int m] M (none) (mput (mput M 33 15 (-4)) 33 16 (if m = -4 then 1000000 else m)) := by
  refine Clz.on RX5 rfl (by decide +kernel) (Nat.le_of_ble_eq_true rfl) (fun X hL hO hr => ?_)
  show Gz X 0 [.ref 33, .int m] [] M
  refine r_aload_n hO dX5_startsJudging_0 rfl ?_
  refine r_bipush hO dX5_startsJudging_1 bc_m4 ?_
  refine r_putI hO dX5_startsJudging_3 fRX5_236 rfl ?_
  refine r_aload_n hO dX5_startsJudging_6 rfl ?_
  refine r_iload_n hO dX5_startsJudging_7 rfl ?_
  refine r_bipush hO dX5_startsJudging_8 bc_m4 ?_
  refine r_icmp_ne 18 hO dX5_startsJudging_10 (by decide) (fun h10 => ?_) (fun h10 => ?_)
  · refine r_iload_n hO dX5_startsJudging_18 rfl ?_
    refine r_putI hO dX5_startsJudging_19 fRX5_240 rfl ?_
    exact r_return hO hr dX5_startsJudging_22 ⟨rfl, by simp [h10]⟩
  · refine r_ldc hO dX5_startsJudging_13 wRX5_239 ?_
    refine r_goto 19 hO dX5_startsJudging_15 (by decide) ?_
    refine r_putI hO dX5_startsJudging_19 fRX5_240 rfl ?_
    exact r_return hO hr dX5_startsJudging_22 ⟨rfl, by simp [h10]⟩
set_option maxHeartbeats 4000000 in
theorem zX5_judges (l : Launch) {M : Mm} {c m : Int32} : CFz l 0 yX5_judges cX5_judges 3 none [.ref 33, .int c, .int m] M (none) (if m = -4 ∨ M.1 33 16 ≤ m then M else mput (mput M 33 15 c) 33 16 m) := by
  refine Clz.on RX5 rfl (by decide +kernel) (Nat.le_of_ble_eq_true rfl) (fun X hL hO hr => ?_)
  show Gz X 0 [.ref 33, .int c, .int m] [] M
  refine r_iload_n hO dX5_judges_0 rfl ?_
  refine r_bipush hO dX5_judges_1 bc_m4 ?_
  refine r_icmp_eq 24 hO dX5_judges_3 (by decide) (fun h3 => ?_) (fun h3 => ?_)
  · exact r_return hO hr dX5_judges_24 ⟨rfl, by rw [if_pos (Or.inl h3)]⟩
  · refine r_iload_n hO dX5_judges_6 rfl ?_
    refine r_aload_n hO dX5_judges_7 rfl ?_
    refine r_getI hO dX5_judges_8 fRX5_240 rfl ?_
    refine r_icmp_ge 24 hO dX5_judges_11 (by decide) (fun h11 => ?_) (fun h11 => ?_)
    · exact r_return hO hr dX5_judges_24 ⟨rfl, by rw [if_pos (Or.inr h11)]⟩
    · refine r_aload_n hO dX5_judges_14 rfl ?_
      refine r_iload_n hO dX5_judges_15 rfl ?_
      refine r_putI hO dX5_judges_16 fRX5_236 rfl ?_
      refine r_aload_n hO dX5_judges_19 rfl ?_
      refine r_iload_n hO dX5_judges_20 rfl ?_
      refine r_putI hO dX5_judges_21 fRX5_240 rfl ?_
      exact r_return hO hr dX5_judges_24 ⟨rfl, by rw [if_neg (fun z => z.elim h3 h11)]⟩
set_option maxHeartbeats 4000000 in
theorem zX5_judged (l : Launch) {M : Mm} {w : Int32} : CFz l 0 yX5_judged cX5_judged 2 (some .int) [.ref 33, .int w] M (some (.int (if M.1 33 15 = -4 then -4 else if w = 0 then M.1 33 15 else M.1 33 16))) (M) := by
  refine Clz.on RX5 rfl (by decide +kernel) (Nat.le_of_ble_eq_true rfl) (fun X hL hO hr => ?_)
  show Gz X 0 [.ref 33, .int w] [] M
  refine r_aload_n hO dX5_judged_0 rfl ?_
  refine r_getI hO dX5_judged_1 fRX5_236 rfl ?_
  refine r_bipush hO dX5_judged_4 bc_m4 ?_
  refine r_icmp_ne 14 hO dX5_judged_6 (by decide) (fun h6 => ?_) (fun h6 => ?_)
  · refine r_iload_n hO dX5_judged_14 rfl ?_
    refine r_if_ne 25 hO dX5_judged_15 (by decide) (fun h15 => ?_) (fun h15 => ?_)
    · refine r_aload_n hO dX5_judged_25 rfl ?_
      refine r_getI hO dX5_judged_26 fRX5_240 rfl ?_
      exact r_ireturn hO hr dX5_judged_29 rfl ⟨sI (by simp [h6, h15]), rfl⟩
    · refine r_aload_n hO dX5_judged_18 rfl ?_
      refine r_getI hO dX5_judged_19 fRX5_236 rfl ?_
      refine r_goto 29 hO dX5_judged_22 (by decide) ?_
      exact r_ireturn hO hr dX5_judged_29 rfl ⟨sI (by simp [h6, h15]), rfl⟩
  · refine r_bipush hO dX5_judged_9 bc_m4 ?_
    refine r_goto 29 hO dX5_judged_11 (by decide) ?_
    exact r_ireturn hO hr dX5_judged_29 rfl ⟨sI (by simp [h6]), rfl⟩
def JR (M : Mm) (acc : Jg) : Prop := M.1 33 15 = cdI acc.1 ∧ M.1 33 16 = bdR acc.2
theorem JR.judge {M : Mm} {acc : Jg} {v : Nat} {o : Option Nat} (J : JR M acc) (h : jok acc) (ho : ook o) : JR (if dtI 0 o = -4 ∨ M.1 33 16 ≤ dtI 0 o then M else mput (mput M 33 15 (nI v)) 33 16 (dtI 0 o)) (jg acc v o) := by
  by_cases q0 : dtI 0 o = -4
  · rw [if_pos (Or.inl q0), jr_n q0 ho]; exact J
  · by_cases q : bdR acc.2 ≤ dtI 0 o
    · rw [if_pos (Or.inr (by rw [J.2]; exact q)), jr_no h ho q0 q]; exact J
    · rw [if_neg (fun z => z.elim q0 (by rw [J.2]; exact q))]
      obtain ⟨e1, e2⟩ := jr_yes (v := v) h ho q0 q
      exact ⟨by rw [e1]; simp [mpg], by rw [e2]; simp [mpg]⟩
theorem JR.judged {M : Mm} {acc : Jg} {w : Int32} (J : JR M acc) (h : jok acc) : (if M.1 33 15 = -4 then -4 else if w = 0 then M.1 33 15 else M.1 33 16) = jres acc w := by
  rw [J.1, J.2]
  by_cases q : cdI acc.1 = -4
  · rw [if_pos q]; exact cd_n h q
  · rw [if_neg q]
    by_cases hw : w = 0
    · rw [if_pos hw]; exact cd_0 q hw
    · rw [if_neg hw, bdRC h q]; exact cd_1 q hw
theorem JR.eq {M M' : Mm} {acc : Jg} (J : JR M acc) (e : ∀ k, k = 15 ∨ k = 16 → M'.1 33 k = M.1 33 k) : JR M' acc := ⟨by rw [e _ (Or.inl rfl)]; exact J.1, by rw [e _ (Or.inr rfl)]; exact J.2⟩
theorem FR.judge {M : Mm} {c : Prop} [Decidable c] {x y : Int32} : FR M (if c then M else mput (mput M 33 15 x) 33 16 y) := by
  split
  · exact FR.rf
  · exact (FR.put (by omega)).tr (FR.put (by omega))
theorem JR.start {M : Mm} {o : Option Nat} (h : ook o) : JR (mput (mput M 33 15 (-4)) 33 16 (if dtI 0 o = -4 then 1000000 else dtI 0 o)) (none, o) := by
  refine ⟨by simp [mpg, cdI], ?_⟩
  cases o with
  | none => simp [mpg, bdR, dtI]
  | some k =>
    have : ¬ dtI 0 (some k) = -4 := fun e => absurd (show nI (0 + k) = -4 from e) (fun e => absurd (e ▸ nI_pos (n := 0 + k) (by have := h k rfl; omega)) (by decide))
    rw [mpg, if_pos ⟨rfl, rfl⟩, if_neg this]
    show nI (0 + k) = nI k
    rw [Nat.zero_add]
/-- a trial of the reference: now after starts, one thing changed -/
theorem RU.rvMo {M M1 : Mm} {u : Nu} (h : RU (M.1 34) u) (s : StR M M1) {v : Nat} (hv : v ≤ 20) : RV (mput M1 35 25 (nI v)) (sMo (nuS u) v) (-4) u.1.length := by
  have R := h.rn s
  obtain ⟨h1, h2, h3, h4, h5, h6, h7, h8⟩ := R
  refine ⟨u.1, rfl, ⟨h1, by rw [mput35]; exact h2.far h1 (by omega) _, by simp [mpg, h3], ⟨by show (mput M1 35 25 (nI v)).1 35 25 = nI v; simp [mpg], hv⟩, ⟨by show (mput M1 35 25 (nI v)).1 35 26 = nI u.2.2.1; simp [mpg, h5.1], h5.2⟩, ⟨by show (mput M1 35 25 (nI v)).1 35 27 = nI u.2.2.2.1; simp [mpg, h6.1], h6.2⟩, by simp [mpg, h7], ⟨by show (mput M1 35 25 (nI v)).1 33 14 = nI 0; simp [mpg, h8.1], h8.2⟩⟩, act_none u.1 0 (by omega)⟩
theorem RU.rvMb {M M1 : Mm} {u : Nu} (h : RU (M.1 34) u) (s : StR M M1) {i k v : Nat} (hi : i < u.1.length) (hk : k < 4) (hv : v ≤ topN k) : RV (mput M1 35 (4 * i + k) (nI v)) (sMb (nuS u) i k v) (-4) u.1.length := by
  have R := h.rn s
  obtain ⟨h1, h2, h3, h4, h5, h6, h7, h8⟩ := R
  have hb : u.1[i]? = some (u.1.getD i (0, 0, 0, 0)) := by rw [List.getD_eq_getElem?_getD, List.getElem?_eq_getElem hi]; rfl
  have far : ∀ j, 24 ≤ j → (mput M1 35 (4 * i + k) (nI v)).1 35 j = M1.1 35 j := fun j hj => by rw [mpg, if_neg (by omega)]
  have far2 : ∀ j, (mput M1 35 (4 * i + k) (nI v)).1 33 j = M1.1 33 j := fun j => by rw [mpg, if_neg (by omega)]
  refine ⟨u.1.set i (setF k v (u.1.getD i (0, 0, 0, 0))), by rw [List.length_set], ⟨by rw [List.length_set]; exact h1, by rw [mput35]; exact h2.setK hb hk hv, by rw [far _ (by omega), List.length_set]; exact h3, by rw [far _ (by omega)]; exact h4, by rw [far _ (by omega)]; exact h5, by rw [far _ (by omega)]; exact h6, by rw [far2]; exact h7, by rw [far2]; exact h8⟩, act_none _ 0 (by rw [List.length_set]; omega)⟩
theorem act_erase : ∀ (ms : List Mb) (i j : Nat), j + ms.length < 2 ^ 31 → i < 2 ^ 31 → j ≤ i → act (nI i) j ms = ms.eraseIdx (i - j) := by
  intro ms
  induction ms with
  | nil => intro i j _ _ _; simp [act]
  | cons b ms ih =>
    intro i j hj hi hij
    simp only [List.length_cons] at hj
    rw [act_c]
    by_cases e : j = i
    · subst e
      rw [if_pos rfl, Nat.sub_self, List.eraseIdx_cons_zero]
      clear ih
      have key : ∀ (ms : List Mb) (a : Nat), a + ms.length < 2 ^ 31 → j < a → act (nI j) a ms = ms := by
        intro ms
        induction ms with
        | nil => intro a _ _; rfl
        | cons c ms ih =>
          intro a h1 h2
          simp only [List.length_cons] at h1
          rw [act_c, if_neg (fun z => by rw [nI_eq (by omega) (by omega)] at z; omega), ih (a + 1) (by omega) (by omega)]
      exact key ms (j + 1) (by omega) (by omega)
    · rw [if_neg (fun z => e (by rw [nI_eq (by omega) (by omega)] at z; exact z)), ih i (j + 1) (by omega) hi (by omega), show i - j = (i - (j + 1)) + 1 from by omega, List.eraseIdx_cons_succ]
theorem RU.rvOut {M M1 : Mm} {u : Nu} (h : RU (M.1 34) u) (s : StR M M1) {i : Nat} (hi : i < u.1.length) : RV (mput M1 33 13 (nI i)) (sOut (nuS u) i) (nI i) u.1.length := by
  have R := h.rn s
  obtain ⟨h1, h2, h3, h4, h5, h6, h7, h8⟩ := R
  refine ⟨u.1, rfl, ⟨h1, by rw [mput_ne _ (by decide)]; exact h2, by rw [mput_ne _ (by decide)]; exact h3, by rw [mput_ne _ (by decide)]; exact h4, by rw [mput_ne _ (by decide)]; exact h5, by rw [mput_ne _ (by decide)]; exact h6, by simp [mpg], by simp [mpg]; exact h8⟩, ?_⟩
  rw [act_erase u.1 i 0 (by omega) (by omega) (by omega)]; rfl
set_option maxHeartbeats 4000000 in
theorem zX5_wording (l : Launch) {M : Mm} {σ : Sta} (h : RD M σ) {w : Int32} : Clz l 8 yX5_wording cX5_wording 3 (some .int) [.ref 33, .int w] M (fun r M' => r = some (.int (p_wording σ w)) ∧ RD M' σ ∧ FDr M M') := by
  refine Clz.on RX5 rfl (by decide +kernel) (Nat.le_of_ble_eq_true rfl) (fun X hL hO hr => ?_)
  show Gz X 0 [.ref 33, .int w, .null] [] M
  refine r_iload_n hO dX5_wording_0 rfl ?_
  refine r_fS hO dX5_wording_1 kRX5_243 msX5_isPart (zX5_isPart _) ⟨Nat.le_of_ble_eq_true rfl, Nat.le_of_ble_eq_true rfl, rfl, Nat.le_of_ble_eq_true rfl⟩ rfl ?_
  refine r_if_ne 9 hO dX5_wording_4 (by decide) (fun h4 => ?_) (fun h4 => ?_)
  · rw [bI_n0] at h4
    refine r_aload_n hO dX5_wording_9 rfl ?_
    refine r_bipush hO dX5_wording_10 bc_m4 ?_
    refine r_fV hO dX5_wording_12 kRX5_246 miX5_startsJudging (zX5_startsJudging _) ⟨Nat.le_of_ble_eq_true rfl, Nat.le_of_ble_eq_true rfl, rfl, Nat.le_of_ble_eq_true rfl⟩ rfl rfl ?_
    refine r_iconst hO dX5_wording_15 ic_0 ?_
    refine s_istore_n hL hO dX5_wording_16 (Nat.le_of_ble_eq_true rfl) rfl ?_
    have e : p_wording σ w = p_soon (fun v => dtS 61 (sMo (nuS σ.1) v)) 21 none w := by unfold p_wording; rw [if_pos h4]
    obtain ⟨acc0, hacc⟩ : ∃ acc0 : Jg, acc0 = (none, none) := ⟨_, rfl⟩
    rw [e, show p_soon (fun v => dtS 61 (sMo (nuS σ.1) v)) 21 none w = jres (jrun (fun v => dtS 61 (sMo (nuS σ.1) v)) 21 0 acc0) w from by rw [hacc]; rfl] at hr
    have loop : ∀ (r j : Nat) (acc : Jg) (M1 : Mm), j + r = 21 → jok acc → JR M1 acc → FR M M1 → jrun (fun v => dtS 61 (sMo (nuS σ.1) v)) r j acc = jrun (fun v => dtS 61 (sMo (nuS σ.1) v)) (21) 0 acc0 → Gz X 17 [.ref 33, .int w, .int (nI j)] [] M1 := by
      intro r
      induction r with
      | zero =>
        intro j acc M1 hjr hj J hF he
        refine r_iload_n hO dX5_wording_17 rfl ?_
        refine r_bipush hO dX5_wording_18 bc_20 ?_
        refine r_icmp_gt 50 hO dX5_wording_20 (by decide) (fun _ => ?_) (fun z => absurd (by rw [show (20 : Int32) = nI 20 from rfl]; exact nI_lt (by omega) (by omega)) z)
        refine r_aload_n hO dX5_wording_50 rfl ?_
        refine r_iload_n hO dX5_wording_51 rfl ?_
        refine r_fV hO dX5_wording_52 kRX5_253 miX5_judged (zX5_judged _) ⟨Nat.le_of_ble_eq_true rfl, Nat.le_of_ble_eq_true rfl, rfl, Nat.le_of_ble_eq_true rfl⟩ rfl rfl ?_
        exact r_ireturn hO hr dX5_wording_55 rfl ⟨by rw [J.judged hj]; exact sI (by rw [← he]; rfl), h.q hF, hF.fd⟩
      | succ r ih =>
        intro j acc M1 hjr hj J hF he
        have hF1 := hF
        refine r_iload_n hO dX5_wording_17 rfl ?_
        refine r_bipush hO dX5_wording_18 bc_20 ?_
        refine r_icmp_gt 50 hO dX5_wording_20 (by decide) (fun z => absurd z (by rw [show (20 : Int32) = nI 20 from rfl]; exact nI_nlt (by omega) (by omega))) (fun _ => ?_)
        refine r_aload_n hO dX5_wording_23 rfl ?_
        refine r_callV hO dX5_wording_24 kRX5_196 miX5_starts (zX5_starts _) ⟨Nat.le_of_ble_eq_true rfl, Nat.le_of_ble_eq_true rfl, rfl, Nat.le_of_ble_eq_true rfl⟩ rfl rfl (fun q M2 hpo => ?_)
        obtain ⟨rfl, hst⟩ := hpo
        refine r_aload_n hO dX5_wording_27 rfl ?_
        refine r_getR 35 hO dX5_wording_28 fRX5_13 rfl ?_
        refine r_bipush hO dX5_wording_31 bc_25 ?_
        refine r_iload_n hO dX5_wording_33 rfl ?_
        refine s_iast 41 hO dX5_wording_34 rfl (Nat.le_of_ble_eq_true rfl) 25 (by decide) (by decide) ?_
        refine r_aload_n hO dX5_wording_35 rfl ?_
        refine r_iload_n hO dX5_wording_36 rfl ?_
        refine r_aload_n hO dX5_wording_37 rfl ?_
        refine r_callV hO dX5_wording_38 kRX5_233 miX5_daysTo (zX5_daysTo _ ((h.q hF).1.rvMo hst (by omega)) (by have := h.1.2.2.2.2.1.2; show σ.1.2.2.1 ≤ 9000; omega) (by show 0 ≤ 9000; omega)) ⟨Nat.le_of_ble_eq_true rfl, Nat.le_of_ble_eq_true rfl, rfl, Nat.le_of_ble_eq_true rfl⟩ rfl rfl (fun q M3 hpo => ?_)
        obtain ⟨rfl, F⟩ := hpo
        refine r_fV hO dX5_wording_41 kRX5_249 miX5_judges (zX5_judges _) ⟨Nat.le_of_ble_eq_true rfl, Nat.le_of_ble_eq_true rfl, rfl, Nat.le_of_ble_eq_true rfl⟩ rfl rfl ?_
        refine s_iinc hL hO dX5_wording_44 rfl ic_1 (Nat.le_of_ble_eq_true rfl) rfl ?_
        refine r_goto 17 hO dX5_wording_47 (by decide) ?_
        show Gz X 17 [.ref 33, .int w, .int (nI j + 1)] [] _
        rw [nI_1]
        exact ih (j + 1) _ _ (by omega) (jg_ok hj (dt_ok _) (by omega)) ((J.eq (fun k hk => by rw [F.1 _ _ (by omega) (by omega), mpg, if_neg (by omega), hst.1 _ _ (by decide) (by omega)])).judge hj (dt_ok _)) (((((hF.tr (FR.st hst)).tr (FR.put (Or.inl rfl))).tr (FR.f35 F)).tr FR.judge)) he
    exact loop 21 0 acc0 _ (by omega) (by rw [hacc]; exact jok_0) (by rw [hacc]; exact JR.start (o := none) (fun k hk => by cases hk)) ((FR.put (by omega)).tr (FR.put (by omega))) rfl
  · rw [bI_0] at h4
    refine r_iconst hO dX5_wording_7 ic_m1 ?_
    exact r_ireturn hO hr dX5_wording_8 rfl ⟨sI (show _ = p_wording σ w from by unfold p_wording; rw [if_neg (by rw [h4]; decide)]), h, FDr.rf⟩
set_option maxHeartbeats 4000000 in
theorem zX5_soonestBy (l : Launch) {M : Mm} {σ : Sta} (h : RD M σ) {x y t w : Int32} (a k n : Nat) (hx : x = nI a) (hy : y = nI k) (ht : t = nI n) (ha : a < σ.1.1.length) (hk : k < 4) (hn : n ≤ topN k) (hn2 : n ≤ 20) : Clz l 8 yX5_soonestBy cX5_soonestBy 6 (some .int) [.ref 33, .int x, .int y, .int t, .int w] M (fun r M' => r = some (.int (p_soon (fun v => dtS 61 (sMb (nuS σ.1) a k v)) (n + 1) none w)) ∧ RD M' σ ∧ FDr M M') := by
  refine Clz.on RX5 rfl (by decide +kernel) (Nat.le_of_ble_eq_true rfl) (fun X hL hO hr => ?_)
  show Gz X 0 [.ref 33, .int x, .int y, .int t, .int w, .null] [] M
  refine r_aload_n hO dX5_soonestBy_0 rfl ?_
  refine r_bipush hO dX5_soonestBy_1 bc_m4 ?_
  refine r_fV hO dX5_soonestBy_3 kRX5_246 miX5_startsJudging (zX5_startsJudging _) ⟨Nat.le_of_ble_eq_true rfl, Nat.le_of_ble_eq_true rfl, rfl, Nat.le_of_ble_eq_true rfl⟩ rfl rfl ?_
  refine r_iconst hO dX5_soonestBy_6 ic_0 ?_
  refine s_istore hL hO dX5_soonestBy_7 (Nat.le_of_ble_eq_true rfl) rfl ?_
  obtain ⟨acc0, hacc⟩ : ∃ acc0 : Jg, acc0 = (none, none) := ⟨_, rfl⟩
  rw [show p_soon (fun v => dtS 61 (sMb (nuS σ.1) a k v)) (n + 1) none w = jres (jrun (fun v => dtS 61 (sMb (nuS σ.1) a k v)) (n + 1) 0 acc0) w from by rw [hacc]; rfl] at hr
  have loop : ∀ (r j : Nat) (acc : Jg) (M1 : Mm), j + r = n + 1 → jok acc → JR M1 acc → FR M M1 → jrun (fun v => dtS 61 (sMb (nuS σ.1) a k v)) r j acc = jrun (fun v => dtS 61 (sMb (nuS σ.1) a k v)) (n + 1) 0 acc0 → Gz X 9 [.ref 33, .int x, .int y, .int t, .int w, .int (nI j)] [] M1 := by
    intro r
    induction r with
    | zero =>
      intro j acc M1 hjr hj J hF he
      refine r_iload hO dX5_soonestBy_9 rfl ?_
      refine r_iload_n hO dX5_soonestBy_11 rfl ?_
      refine r_icmp_gt 43 hO dX5_soonestBy_12 (by decide) (fun _ => ?_) (fun z => absurd (by rw [ht]; exact nI_lt (by omega) (by omega)) z)
      refine r_aload_n hO dX5_soonestBy_43 rfl ?_
      refine r_iload hO dX5_soonestBy_44 rfl ?_
      refine r_fV hO dX5_soonestBy_46 kRX5_253 miX5_judged (zX5_judged _) ⟨Nat.le_of_ble_eq_true rfl, Nat.le_of_ble_eq_true rfl, rfl, Nat.le_of_ble_eq_true rfl⟩ rfl rfl ?_
      exact r_ireturn hO hr dX5_soonestBy_49 rfl ⟨by rw [J.judged hj]; exact sI (by rw [← he]; rfl), h.q hF, hF.fd⟩
    | succ r ih =>
      intro j acc M1 hjr hj J hF he
      have hF1 := hF
      refine r_iload hO dX5_soonestBy_9 rfl ?_
      refine r_iload_n hO dX5_soonestBy_11 rfl ?_
      refine r_icmp_gt 43 hO dX5_soonestBy_12 (by decide) (fun z => absurd z (by rw [ht]; exact nI_nlt (by omega) (by omega))) (fun _ => ?_)
      refine r_aload_n hO dX5_soonestBy_15 rfl ?_
      refine r_callV hO dX5_soonestBy_16 kRX5_196 miX5_starts (zX5_starts _) ⟨Nat.le_of_ble_eq_true rfl, Nat.le_of_ble_eq_true rfl, rfl, Nat.le_of_ble_eq_true rfl⟩ rfl rfl (fun q M2 hpo => ?_)
      obtain ⟨rfl, hst⟩ := hpo
      refine r_aload_n hO dX5_soonestBy_19 rfl ?_
      refine r_iload_n hO dX5_soonestBy_20 rfl ?_
      refine r_iload_n hO dX5_soonestBy_21 rfl ?_
      refine r_iload hO dX5_soonestBy_22 rfl ?_
      refine r_fV hO dX5_soonestBy_24 kRX5_178 miX5_becomesOf (zX5_becomesOf _ a k hx hy (by have := h.1.1; omega)) ⟨Nat.le_of_ble_eq_true rfl, Nat.le_of_ble_eq_true rfl, rfl, Nat.le_of_ble_eq_true rfl⟩ rfl rfl ?_
      refine r_aload_n hO dX5_soonestBy_27 rfl ?_
      refine r_iload hO dX5_soonestBy_28 rfl ?_
      refine r_aload_n hO dX5_soonestBy_30 rfl ?_
      refine r_callV hO dX5_soonestBy_31 kRX5_233 miX5_daysTo (zX5_daysTo _ ((h.q hF).1.rvMb hst ha hk (by omega)) (by have := h.1.2.2.2.2.1.2; show σ.1.2.2.1 ≤ 9000; omega) (by show 0 ≤ 9000; omega)) ⟨Nat.le_of_ble_eq_true rfl, Nat.le_of_ble_eq_true rfl, rfl, Nat.le_of_ble_eq_true rfl⟩ rfl rfl (fun q M3 hpo => ?_)
      obtain ⟨rfl, F⟩ := hpo
      refine r_fV hO dX5_soonestBy_34 kRX5_249 miX5_judges (zX5_judges _) ⟨Nat.le_of_ble_eq_true rfl, Nat.le_of_ble_eq_true rfl, rfl, Nat.le_of_ble_eq_true rfl⟩ rfl rfl ?_
      refine s_iinc hL hO dX5_soonestBy_37 rfl ic_1 (Nat.le_of_ble_eq_true rfl) rfl ?_
      refine r_goto 9 hO dX5_soonestBy_40 (by decide) ?_
      show Gz X 9 [.ref 33, .int x, .int y, .int t, .int w, .int (nI j + 1)] [] _
      rw [nI_1]
      exact ih (j + 1) _ _ (by omega) (jg_ok hj (dt_ok _) (by omega)) ((J.eq (fun k hk => by rw [F.1 _ _ (by omega) (by omega), mpg, if_neg (by omega), hst.1 _ _ (by decide) (by omega)])).judge hj (dt_ok _)) (((((hF.tr (FR.st hst)).tr (FR.put (Or.inl rfl))).tr (FR.f35 F)).tr FR.judge)) he
  exact loop (n + 1) 0 acc0 _ (by omega) (by rw [hacc]; exact jok_0) (by rw [hacc]; exact JR.start (o := none) (fun k hk => by cases hk)) ((FR.put (by omega)).tr (FR.put (by omega))) rfl
set_option maxHeartbeats 4000000 in
theorem zX5_mind (l : Launch) {M : Mm} {σ : Sta} (h : RD M σ) {i w : Int32} : Clz l 9 yX5_mind cX5_mind 3 (some .int) [.ref 33, .int i, .int w] M (fun r M' => r = some (.int (p_best σ 2 21 i w)) ∧ RD M' σ ∧ FDr M M') := by
  refine Clz.on RX5 rfl (by decide +kernel) (Nat.le_of_ble_eq_true rfl) (fun X hL hO hr => ?_)
  show Gz X 0 [.ref 33, .int i, .int w] [] M
  refine r_aload_n hO dX5_mind_0 rfl ?_
  refine r_iload_n hO dX5_mind_1 rfl ?_
  refine r_fV hO dX5_mind_2 kRX5_205 miX5_isMember (zX5_isMember _) ⟨Nat.le_of_ble_eq_true rfl, Nat.le_of_ble_eq_true rfl, rfl, Nat.le_of_ble_eq_true rfl⟩ rfl rfl ?_
  refine r_if_eq 27 hO dX5_mind_5 (by decide) (fun h5 => ?_) (fun h5 => ?_)
  · rw [bI_0, h.1.2.2.1] at h5
    refine r_iconst hO dX5_mind_27 ic_m1 ?_
    exact r_ireturn hO hr dX5_mind_28 rfl ⟨sI (show _ = p_best σ 2 21 i w from by unfold p_best; rw [if_neg (ff (Q := True) h5)]), h, FDr.rf⟩
  · rw [bI_n0, h.1.2.2.1] at h5
    refine r_iload_n hO dX5_mind_8 rfl ?_
    refine r_fS hO dX5_mind_9 kRX5_243 msX5_isPart (zX5_isPart _) ⟨Nat.le_of_ble_eq_true rfl, Nat.le_of_ble_eq_true rfl, rfl, Nat.le_of_ble_eq_true rfl⟩ rfl ?_
    refine r_if_eq 27 hO dX5_mind_12 (by decide) (fun h12 => ?_) (fun h12 => ?_)
    · rw [bI_0] at h12
      refine r_iconst hO dX5_mind_27 ic_m1 ?_
      exact r_ireturn hO hr dX5_mind_28 rfl ⟨sI (show _ = p_best σ 2 21 i w from by unfold p_best; rw [if_neg (ff2 h12)]), h, FDr.rf⟩
    · rw [bI_n0] at h12
      obtain ⟨a, ha, rfl⟩ := inI_mem (by have := h.1.1; omega) h5
      refine r_aload_n hO dX5_mind_15 rfl ?_
      refine r_iload_n hO dX5_mind_16 rfl ?_
      refine r_iconst hO dX5_mind_17 ic_2 ?_
      refine r_bipush hO dX5_mind_18 bc_20 ?_
      refine r_iload_n hO dX5_mind_20 rfl ?_
      refine r_callV hO dX5_mind_21 kRX5_259 miX5_soonestBy (zX5_soonestBy _ h a 2 20 rfl rfl rfl ha (by decide) (by decide) (by decide)) ⟨Nat.le_of_ble_eq_true rfl, Nat.le_of_ble_eq_true rfl, rfl, Nat.le_of_ble_eq_true rfl⟩ rfl rfl (fun q M2 hpo => ?_)
      obtain ⟨rfl, h2, hF⟩ := hpo
      refine r_goto 28 hO dX5_mind_24 (by decide) ?_
      exact r_ireturn hO hr dX5_mind_28 rfl ⟨sI (by unfold p_best; rw [if_pos ⟨h5, h12⟩, nI_clamp (by have := h.1.1; omega)]), h2, hF⟩
set_option maxHeartbeats 4000000 in
theorem zX5_kind (l : Launch) {M : Mm} {σ : Sta} (h : RD M σ) {i w : Int32} : Clz l 9 yX5_kind cX5_kind 3 (some .int) [.ref 33, .int i, .int w] M (fun r M' => r = some (.int (p_best σ 0 4 i w)) ∧ RD M' σ ∧ FDr M M') := by
  refine Clz.on RX5 rfl (by decide +kernel) (Nat.le_of_ble_eq_true rfl) (fun X hL hO hr => ?_)
  show Gz X 0 [.ref 33, .int i, .int w] [] M
  refine r_aload_n hO dX5_kind_0 rfl ?_
  refine r_iload_n hO dX5_kind_1 rfl ?_
  refine r_fV hO dX5_kind_2 kRX5_205 miX5_isMember (zX5_isMember _) ⟨Nat.le_of_ble_eq_true rfl, Nat.le_of_ble_eq_true rfl, rfl, Nat.le_of_ble_eq_true rfl⟩ rfl rfl ?_
  refine r_if_eq 26 hO dX5_kind_5 (by decide) (fun h5 => ?_) (fun h5 => ?_)
  · rw [bI_0, h.1.2.2.1] at h5
    refine r_iconst hO dX5_kind_26 ic_m1 ?_
    exact r_ireturn hO hr dX5_kind_27 rfl ⟨sI (show _ = p_best σ 0 4 i w from by unfold p_best; rw [if_neg (ff (Q := True) h5)]), h, FDr.rf⟩
  · rw [bI_n0, h.1.2.2.1] at h5
    refine r_iload_n hO dX5_kind_8 rfl ?_
    refine r_fS hO dX5_kind_9 kRX5_243 msX5_isPart (zX5_isPart _) ⟨Nat.le_of_ble_eq_true rfl, Nat.le_of_ble_eq_true rfl, rfl, Nat.le_of_ble_eq_true rfl⟩ rfl ?_
    refine r_if_eq 26 hO dX5_kind_12 (by decide) (fun h12 => ?_) (fun h12 => ?_)
    · rw [bI_0] at h12
      refine r_iconst hO dX5_kind_26 ic_m1 ?_
      exact r_ireturn hO hr dX5_kind_27 rfl ⟨sI (show _ = p_best σ 0 4 i w from by unfold p_best; rw [if_neg (ff2 h12)]), h, FDr.rf⟩
    · rw [bI_n0] at h12
      obtain ⟨a, ha, rfl⟩ := inI_mem (by have := h.1.1; omega) h5
      refine r_aload_n hO dX5_kind_15 rfl ?_
      refine r_iload_n hO dX5_kind_16 rfl ?_
      refine r_iconst hO dX5_kind_17 ic_0 ?_
      refine r_iconst hO dX5_kind_18 ic_3 ?_
      refine r_iload_n hO dX5_kind_19 rfl ?_
      refine r_callV hO dX5_kind_20 kRX5_259 miX5_soonestBy (zX5_soonestBy _ h a 0 3 rfl rfl rfl ha (by decide) (by decide) (by decide)) ⟨Nat.le_of_ble_eq_true rfl, Nat.le_of_ble_eq_true rfl, rfl, Nat.le_of_ble_eq_true rfl⟩ rfl rfl (fun q M2 hpo => ?_)
      obtain ⟨rfl, h2, hF⟩ := hpo
      refine r_goto 27 hO dX5_kind_23 (by decide) ?_
      exact r_ireturn hO hr dX5_kind_27 rfl ⟨sI (by unfold p_best; rw [if_pos ⟨h5, h12⟩, nI_clamp (by have := h.1.1; omega)]), h2, hF⟩
set_option maxHeartbeats 4000000 in
theorem zX5_lose (l : Launch) {M : Mm} {σ : Sta} (h : RD M σ) {w : Int32} : Clz l 9 yX5_lose cX5_lose 3 (some .int) [.ref 33, .int w] M (fun r M' => r = some (.int (p_lose σ w)) ∧ RD M' σ ∧ FDr M M') := by
  refine Clz.on RX5 rfl (by decide +kernel) (Nat.le_of_ble_eq_true rfl) (fun X hL hO hr => ?_)
  show Gz X 0 [.ref 33, .int w, .null] [] M
  refine r_iload_n hO dX5_lose_0 rfl ?_
  refine r_fS hO dX5_lose_1 kRX5_243 msX5_isPart (zX5_isPart _) ⟨Nat.le_of_ble_eq_true rfl, Nat.le_of_ble_eq_true rfl, rfl, Nat.le_of_ble_eq_true rfl⟩ rfl ?_
  refine r_if_ne 9 hO dX5_lose_4 (by decide) (fun h4 => ?_) (fun h4 => ?_)
  · rw [bI_n0] at h4
    refine r_aload_n hO dX5_lose_9 rfl ?_
    refine r_aload_n hO dX5_lose_10 rfl ?_
    refine r_callV hO dX5_lose_11 kRX5_256 miX5_soonestNow (zX5_soonestNow _ h) ⟨Nat.le_of_ble_eq_true rfl, Nat.le_of_ble_eq_true rfl, rfl, Nat.le_of_ble_eq_true rfl⟩ rfl rfl (fun q M1 hpo => ?_)
    obtain ⟨rfl, M0, hst0, F0⟩ := hpo
    refine r_fV hO dX5_lose_14 kRX5_246 miX5_startsJudging (zX5_startsJudging _) ⟨Nat.le_of_ble_eq_true rfl, Nat.le_of_ble_eq_true rfl, rfl, Nat.le_of_ble_eq_true rfl⟩ rfl rfl ?_
    refine r_iconst hO dX5_lose_17 ic_0 ?_
    refine s_istore_n hL hO dX5_lose_18 (Nat.le_of_ble_eq_true rfl) rfl ?_
    have e : p_lose σ w = p_soon (fun v => dtS 61 (sOut (nuS σ.1) v)) σ.1.1.length (dtS 61 (nuS σ.1)) w := by unfold p_lose; rw [if_pos h4]
    obtain ⟨acc0, hacc⟩ : ∃ acc0 : Jg, acc0 = (none, dtS 61 (nuS σ.1)) := ⟨_, rfl⟩
    rw [e, show p_soon (fun v => dtS 61 (sOut (nuS σ.1) v)) σ.1.1.length (dtS 61 (nuS σ.1)) w = jres (jrun (fun v => dtS 61 (sOut (nuS σ.1) v)) σ.1.1.length 0 acc0) w from by rw [hacc]; rfl] at hr
    have hl6 := h.1.1
    have loop : ∀ (r j : Nat) (acc : Jg) (M1 : Mm), j + r = σ.1.1.length → jok acc → JR M1 acc → FR M M1 → jrun (fun v => dtS 61 (sOut (nuS σ.1) v)) r j acc = jrun (fun v => dtS 61 (sOut (nuS σ.1) v)) (σ.1.1.length) 0 acc0 → Gz X 19 [.ref 33, .int w, .int (nI j)] [] M1 := by
      intro r
      induction r with
      | zero =>
        intro j acc M1 hjr hj J hF he
        refine r_iload_n hO dX5_lose_19 rfl ?_
        refine r_aload_n hO dX5_lose_20 rfl ?_
        refine r_getR 34 hO dX5_lose_21 fRX5_7 rfl ?_
        refine r_bipush hO dX5_lose_24 bc_24 ?_
        refine s_iald 123 hO dX5_lose_26 rfl (Nat.le_of_ble_eq_true rfl) 24 (by decide) (by decide) ?_
        refine r_icmp_ge 54 hO dX5_lose_27 (by decide) (fun _ => ?_) (fun z => absurd (by rw [(h.q hF).1.2.2.1]; exact nI_le (by omega) (by have := h.1.1; omega)) z)
        refine r_aload_n hO dX5_lose_54 rfl ?_
        refine r_iload_n hO dX5_lose_55 rfl ?_
        refine r_fV hO dX5_lose_56 kRX5_253 miX5_judged (zX5_judged _) ⟨Nat.le_of_ble_eq_true rfl, Nat.le_of_ble_eq_true rfl, rfl, Nat.le_of_ble_eq_true rfl⟩ rfl rfl ?_
        exact r_ireturn hO hr dX5_lose_59 rfl ⟨by rw [J.judged hj]; exact sI (by rw [← he]; rfl), h.q hF, hF.fd⟩
      | succ r ih =>
        intro j acc M1 hjr hj J hF he
        have hF1 := hF
        refine r_iload_n hO dX5_lose_19 rfl ?_
        refine r_aload_n hO dX5_lose_20 rfl ?_
        refine r_getR 34 hO dX5_lose_21 fRX5_7 rfl ?_
        refine r_bipush hO dX5_lose_24 bc_24 ?_
        refine s_iald 123 hO dX5_lose_26 rfl (Nat.le_of_ble_eq_true rfl) 24 (by decide) (by decide) ?_
        refine r_icmp_ge 54 hO dX5_lose_27 (by decide) (fun z => absurd z (by rw [(h.q hF).1.2.2.1]; exact nI_ge (by omega) (by have := h.1.1; omega))) (fun _ => ?_)
        refine r_aload_n hO dX5_lose_30 rfl ?_
        refine r_callV hO dX5_lose_31 kRX5_196 miX5_starts (zX5_starts _) ⟨Nat.le_of_ble_eq_true rfl, Nat.le_of_ble_eq_true rfl, rfl, Nat.le_of_ble_eq_true rfl⟩ rfl rfl (fun q M2 hpo => ?_)
        obtain ⟨rfl, hst⟩ := hpo
        refine r_aload_n hO dX5_lose_34 rfl ?_
        refine r_iload_n hO dX5_lose_35 rfl ?_
        refine r_putI hO dX5_lose_36 fRX5_125 rfl ?_
        refine r_aload_n hO dX5_lose_39 rfl ?_
        refine r_iload_n hO dX5_lose_40 rfl ?_
        refine r_aload_n hO dX5_lose_41 rfl ?_
        refine r_callV hO dX5_lose_42 kRX5_233 miX5_daysTo (zX5_daysTo _ ((h.q hF).1.rvOut hst (by omega)) (by have := h.1.2.2.2.2.1.2; show σ.1.2.2.1 ≤ 9000; omega) (by show 0 ≤ 9000; omega)) ⟨Nat.le_of_ble_eq_true rfl, Nat.le_of_ble_eq_true rfl, rfl, Nat.le_of_ble_eq_true rfl⟩ rfl rfl (fun q M3 hpo => ?_)
        obtain ⟨rfl, F⟩ := hpo
        refine r_fV hO dX5_lose_45 kRX5_249 miX5_judges (zX5_judges _) ⟨Nat.le_of_ble_eq_true rfl, Nat.le_of_ble_eq_true rfl, rfl, Nat.le_of_ble_eq_true rfl⟩ rfl rfl ?_
        refine s_iinc hL hO dX5_lose_48 rfl ic_1 (Nat.le_of_ble_eq_true rfl) rfl ?_
        refine r_goto 19 hO dX5_lose_51 (by decide) ?_
        show Gz X 19 [.ref 33, .int w, .int (nI j + 1)] [] _
        rw [nI_1]
        exact ih (j + 1) _ _ (by omega) (jg_ok hj (dt_ok _) (by omega)) ((J.eq (fun k hk => by rw [F.1 _ _ (by omega) (by omega), mpg, if_neg (by omega), hst.1 _ _ (by decide) (by omega)])).judge hj (dt_ok _)) (((((hF.tr (FR.st hst)).tr (FR.put (by omega))).tr (FR.f35 F)).tr FR.judge)) he
    exact loop σ.1.1.length 0 acc0 _ (by omega) (by rw [hacc]; exact jok_1 (dt_ok _)) (by rw [hacc]; exact JR.start (dt_ok _)) ((((FR.st hst0).tr (FR.f35 F0)).tr (FR.put (by omega))).tr (FR.put (by omega))) rfl
  · rw [bI_0] at h4
    refine r_iconst hO dX5_lose_7 ic_m1 ?_
    exact r_ireturn hO hr dX5_lose_8 rfl ⟨sI (show _ = p_lose σ w from by unfold p_lose; rw [if_neg (by rw [h4]; decide)]), h, FDr.rf⟩
set_option maxHeartbeats 4000000 in
theorem zX5_cross (l : Launch) {M : Mm} {σ : Sta} (h : RD M σ) {w : Int32} : Clz l 9 yX5_cross cX5_cross 3 (some .int) [.ref 33, .int w] M (fun r M' => r = some (.int (p_cross σ w)) ∧ RD M' σ ∧ FDr M M') := by
  refine Clz.on RX5 rfl (by decide +kernel) (Nat.le_of_ble_eq_true rfl) (fun X hL hO hr => ?_)
  show Gz X 0 [.ref 33, .int w, .null] [] M
  refine r_iload_n hO dX5_cross_0 rfl ?_
  refine r_fS hO dX5_cross_1 kRX5_243 msX5_isPart (zX5_isPart _) ⟨Nat.le_of_ble_eq_true rfl, Nat.le_of_ble_eq_true rfl, rfl, Nat.le_of_ble_eq_true rfl⟩ rfl ?_
  refine r_if_ne 9 hO dX5_cross_4 (by decide) (fun h4 => ?_) (fun h4 => ?_)
  · rw [bI_n0] at h4
    refine r_aload_n hO dX5_cross_9 rfl ?_
    refine r_aload_n hO dX5_cross_10 rfl ?_
    refine r_callV hO dX5_cross_11 kRX5_256 miX5_soonestNow (zX5_soonestNow _ h) ⟨Nat.le_of_ble_eq_true rfl, Nat.le_of_ble_eq_true rfl, rfl, Nat.le_of_ble_eq_true rfl⟩ rfl rfl (fun q M1 hpo => ?_)
    obtain ⟨rfl, M0, hst0, F0⟩ := hpo
    refine r_fV hO dX5_cross_14 kRX5_246 miX5_startsJudging (zX5_startsJudging _) ⟨Nat.le_of_ble_eq_true rfl, Nat.le_of_ble_eq_true rfl, rfl, Nat.le_of_ble_eq_true rfl⟩ rfl rfl ?_
    refine r_iconst hO dX5_cross_17 ic_0 ?_
    refine s_istore_n hL hO dX5_cross_18 (Nat.le_of_ble_eq_true rfl) rfl ?_
    have e : p_cross σ w = p_soon (fun v => dtS 61 (sMb (nuS σ.1) v 1 (1 - (σ.1.1.getD v (0, 0, 0, 0)).2.1))) σ.1.1.length (dtS 61 (nuS σ.1)) w := by unfold p_cross; rw [if_pos h4]
    obtain ⟨acc0, hacc⟩ : ∃ acc0 : Jg, acc0 = (none, dtS 61 (nuS σ.1)) := ⟨_, rfl⟩
    rw [e, show p_soon (fun v => dtS 61 (sMb (nuS σ.1) v 1 (1 - (σ.1.1.getD v (0, 0, 0, 0)).2.1))) σ.1.1.length (dtS 61 (nuS σ.1)) w = jres (jrun (fun v => dtS 61 (sMb (nuS σ.1) v 1 (1 - (σ.1.1.getD v (0, 0, 0, 0)).2.1))) σ.1.1.length 0 acc0) w from by rw [hacc]; rfl] at hr
    have hl6 := h.1.1
    have loop : ∀ (r j : Nat) (acc : Jg) (M1 : Mm), j + r = σ.1.1.length → jok acc → JR M1 acc → FR M M1 → jrun (fun v => dtS 61 (sMb (nuS σ.1) v 1 (1 - (σ.1.1.getD v (0, 0, 0, 0)).2.1))) r j acc = jrun (fun v => dtS 61 (sMb (nuS σ.1) v 1 (1 - (σ.1.1.getD v (0, 0, 0, 0)).2.1))) (σ.1.1.length) 0 acc0 → Gz X 19 [.ref 33, .int w, .int (nI j)] [] M1 := by
      intro r
      induction r with
      | zero =>
        intro j acc M1 hjr hj J hF he
        refine r_iload_n hO dX5_cross_19 rfl ?_
        refine r_aload_n hO dX5_cross_20 rfl ?_
        refine r_getR 34 hO dX5_cross_21 fRX5_7 rfl ?_
        refine r_bipush hO dX5_cross_24 bc_24 ?_
        refine s_iald 123 hO dX5_cross_26 rfl (Nat.le_of_ble_eq_true rfl) 24 (by decide) (by decide) ?_
        refine r_icmp_ge 63 hO dX5_cross_27 (by decide) (fun _ => ?_) (fun z => absurd (by rw [(h.q hF).1.2.2.1]; exact nI_le (by omega) (by have := h.1.1; omega)) z)
        refine r_aload_n hO dX5_cross_63 rfl ?_
        refine r_iload_n hO dX5_cross_64 rfl ?_
        refine r_fV hO dX5_cross_65 kRX5_253 miX5_judged (zX5_judged _) ⟨Nat.le_of_ble_eq_true rfl, Nat.le_of_ble_eq_true rfl, rfl, Nat.le_of_ble_eq_true rfl⟩ rfl rfl ?_
        exact r_ireturn hO hr dX5_cross_68 rfl ⟨by rw [J.judged hj]; exact sI (by rw [← he]; rfl), h.q hF, hF.fd⟩
      | succ r ih =>
        intro j acc M1 hjr hj J hF he
        have hF1 := hF
        refine r_iload_n hO dX5_cross_19 rfl ?_
        refine r_aload_n hO dX5_cross_20 rfl ?_
        refine r_getR 34 hO dX5_cross_21 fRX5_7 rfl ?_
        refine r_bipush hO dX5_cross_24 bc_24 ?_
        refine s_iald 123 hO dX5_cross_26 rfl (Nat.le_of_ble_eq_true rfl) 24 (by decide) (by decide) ?_
        refine r_icmp_ge 63 hO dX5_cross_27 (by decide) (fun z => absurd z (by rw [(h.q hF).1.2.2.1]; exact nI_ge (by omega) (by have := h.1.1; omega))) (fun _ => ?_)
        refine r_aload_n hO dX5_cross_30 rfl ?_
        refine r_callV hO dX5_cross_31 kRX5_196 miX5_starts (zX5_starts _) ⟨Nat.le_of_ble_eq_true rfl, Nat.le_of_ble_eq_true rfl, rfl, Nat.le_of_ble_eq_true rfl⟩ rfl rfl (fun q M2 hpo => ?_)
        obtain ⟨rfl, hst⟩ := hpo
        refine r_aload_n hO dX5_cross_34 rfl ?_
        refine r_iload_n hO dX5_cross_35 rfl ?_
        refine r_iconst hO dX5_cross_36 ic_1 ?_
        refine r_iconst hO dX5_cross_37 ic_1 ?_
        refine r_aload_n hO dX5_cross_38 rfl ?_
        refine r_iload_n hO dX5_cross_39 rfl ?_
        refine r_iconst hO dX5_cross_40 ic_1 ?_
        have hjl : j < σ.1.1.length := by omega
        have hbj : σ.1.1[j]? = some (σ.1.1.getD j (0, 0, 0, 0)) := by rw [List.getD_eq_getElem?_getD, List.getElem?_eq_getElem hjl]; rfl
        have ec : 1 - M2.1 35 (4 * j + 1) = nI (1 - (σ.1.1.getD j (0, 0, 0, 0)).2.1) := by
          obtain ⟨-, k2, -, -, k5⟩ := ((h.q hF).1.rn hst).2.1 j _ hbj
          rw [k2, show (1 : Int32) = nI 1 from rfl, pk_sub k5.2.1]
        refine r_fV hO dX5_cross_41 kRX5_131 miX5_of (zX5_of _ j 1 rfl rfl (by have := h.1.1; omega)) ⟨Nat.le_of_ble_eq_true rfl, Nat.le_of_ble_eq_true rfl, rfl, Nat.le_of_ble_eq_true rfl⟩ rfl rfl ?_
        refine r_isub hO dX5_cross_44 ?_
        rw [show 1 - M2.1 35 (4 * j + 1) = nI (1 - (σ.1.1.getD j (0, 0, 0, 0)).2.1) from ec]
        refine r_fV hO dX5_cross_45 kRX5_178 miX5_becomesOf (zX5_becomesOf _ j 1 rfl rfl (by have := h.1.1; omega)) ⟨Nat.le_of_ble_eq_true rfl, Nat.le_of_ble_eq_true rfl, rfl, Nat.le_of_ble_eq_true rfl⟩ rfl rfl ?_
        refine r_aload_n hO dX5_cross_48 rfl ?_
        refine r_iload_n hO dX5_cross_49 rfl ?_
        refine r_aload_n hO dX5_cross_50 rfl ?_
        refine r_callV hO dX5_cross_51 kRX5_233 miX5_daysTo (zX5_daysTo _ ((h.q hF).1.rvMb hst hjl (by decide) (by show _ ≤ 1; omega)) (by have := h.1.2.2.2.2.1.2; show σ.1.2.2.1 ≤ 9000; omega) (by show 0 ≤ 9000; omega)) ⟨Nat.le_of_ble_eq_true rfl, Nat.le_of_ble_eq_true rfl, rfl, Nat.le_of_ble_eq_true rfl⟩ rfl rfl (fun q M3 hpo => ?_)
        obtain ⟨rfl, F⟩ := hpo
        refine r_fV hO dX5_cross_54 kRX5_249 miX5_judges (zX5_judges _) ⟨Nat.le_of_ble_eq_true rfl, Nat.le_of_ble_eq_true rfl, rfl, Nat.le_of_ble_eq_true rfl⟩ rfl rfl ?_
        refine s_iinc hL hO dX5_cross_57 rfl ic_1 (Nat.le_of_ble_eq_true rfl) rfl ?_
        refine r_goto 19 hO dX5_cross_60 (by decide) ?_
        show Gz X 19 [.ref 33, .int w, .int (nI j + 1)] [] _
        rw [nI_1]
        exact ih (j + 1) _ _ (by omega) (jg_ok hj (dt_ok _) (by omega)) ((J.eq (fun k hk => by rw [F.1 _ _ (by omega) (by omega), mpg, if_neg (by omega), hst.1 _ _ (by decide) (by omega)])).judge hj (dt_ok _)) (((((hF.tr (FR.st hst)).tr (FR.put (by omega))).tr (FR.f35 F)).tr FR.judge)) he
    exact loop σ.1.1.length 0 acc0 _ (by omega) (by rw [hacc]; exact jok_1 (dt_ok _)) (by rw [hacc]; exact JR.start (dt_ok _)) ((((FR.st hst0).tr (FR.f35 F0)).tr (FR.put (by omega))).tr (FR.put (by omega))) rfl
  · rw [bI_0] at h4
    refine r_iconst hO dX5_cross_7 ic_m1 ?_
    exact r_ireturn hO hr dX5_cross_8 rfl ⟨sI (show _ = p_cross σ w from by unfold p_cross; rw [if_neg (by rw [h4]; decide)]), h, FDr.rf⟩
