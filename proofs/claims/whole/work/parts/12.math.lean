/-! the days, as numbers: a MEMBER is (kind, house, want, slack) -/
abbrev Mb : Type := Nat × Nat × Nat × Nat
def okB (b : Mb) : Prop := b.1 ≤ 3 ∧ b.2.1 ≤ 1 ∧ b.2.2.1 ≤ 20 ∧ b.2.2.2 ≤ 20
def vt (b : Mb) (mo : Nat) : Bool := decide (b.2.2.1 ≤ mo + b.2.2.2 ∧ mo ≤ b.2.2.1 + b.2.2.2)
def inH (h : Nat) (b : Mb) : Bool := decide (b.2.1 = h)
def cY (h mo : Nat) (ms : List Mb) : Nat := ms.countP (fun b => inH h b && vt b mo)
def cN (h mo : Nat) (ms : List Mb) : Nat := ms.countP (fun b => inH h b && !vt b mo)
def agr (h mo : Nat) (ms : List Mb) : Bool := decide (cN h mo ms < cY h mo ms ∨ cY h mo ms + cN h mo ms = 0)
def car (mo : Nat) (ms : List Mb) : Bool := agr 0 mo ms && agr 1 mo ms
def sg (z : Int) : Int := if z > 0 then 1 else if z < 0 then -1 else 0
def db (z : Int) : Int := if -2 ≤ z ∧ z ≤ 2 then 0 else sg z
def plK (k : Nat) (z : Int) : Int := if k = 1 then 2 * sg z else if k = 2 then db z else if k = 3 then - db z else sg z
def pl (b : Mb) (mo : Nat) : Int := plK b.1 ((b.2.2.1 : Int) - mo)
def sP (h mo : Nat) : List Mb → Int
  | [] => 0
  | b :: bs => (if inH h b = true then pl b mo else 0) + sP h mo bs
def ti (k : Nat) : Nat := if k = 1 then 0 else if k = 2 then 2 else if k = 3 then 3 else 1
def tird (b : Mb) : Mb := (b.1, b.2.1, b.2.2.1, min 20 (b.2.2.2 + ti b.1))
def sitB (h mo : Nat) (b : Mb) : Mb := if (inH h b && !vt b mo) = true then tird b else b
def nmz (mo : Nat) (g : Int) : Nat := if 0 ≤ (mo : Int) + g ∧ (mo : Int) + g ≤ 20 then ((mo : Int) + g).toNat else mo
def nmo (h mo : Nat) (ms : List Mb) : Nat := nmz mo (sg (sP h mo ms))
/-- members, motion, day, amendments, changes -/
abbrev Ns : Type := List Mb × Nat × Nat × Nat × Nat
def dayS (s : Ns) : Ns := if car s.2.1 s.1 = true then (s.1, s.2.1, s.2.2.1 + 1, s.2.2.2.1, s.2.2.2.2) else
  (s.1.map (sitB (s.2.2.1 % 2) s.2.1), nmo (s.2.2.1 % 2) s.2.1 s.1, s.2.2.1 + 1, (if nmo (s.2.2.1 % 2) s.2.1 s.1 = s.2.1 then s.2.2.2.1 else min 999 (s.2.2.2.1 + 1)), (if nmo (s.2.2.1 % 2) s.2.1 s.1 = s.2.1 then s.2.2.2.2 else s.2.2.2.2 + 1))
def idlS (s : Ns) : Ns := (s.1, s.2.1, s.2.2.1 + 1, s.2.2.2.1, s.2.2.2.2)
def iI (z : Int) : Int32 := Int32.ofInt z
theorem iI_add (a b : Int) : iI a + iI b = iI (a + b) := (Int32.ofInt_add a b).symm
theorem iI_nat (n : Nat) : iI n = nI n := rfl
theorem vtI_d : ∀ w, w < 21 → ∀ m, m < 21 → ∀ s, s < 21 → vtI (nI w) (nI m) (nI s) = decide (w ≤ m + s ∧ m ≤ w + s) := by decide +kernel
theorem plI_d : ∀ k, k < 4 → ∀ w, w < 21 → ∀ m, m < 21 → plI (nI k) (nI w - nI m) = iI (plK k ((w : Int) - (m : Int))) := by decide +kernel
theorem sgI_d : ∀ n : Nat, n < 41 → sgI (iI ((n : Int) - 20)) = iI (sg ((n : Int) - 20)) := by decide +kernel
theorem tir_d : ∀ k, k < 4 → ∀ s, s < 21 → lsI 20 (nI s + tiI (nI k)) = nI (min 20 (s + ti k)) := by decide +kernel
theorem amd_d : ∀ a, a < 1000 → lsI 999 (nI a + 1) = nI (min 999 (a + 1)) := by decide +kernel
theorem sgI_eq {z : Int} (h1 : -20 ≤ z) (h2 : z ≤ 20) : sgI (iI z) = iI (sg z) := by
  have := sgI_d (z + 20).toNat (by omega)
  have e : (((z + 20).toNat : Nat) : Int) - 20 = z := by omega
  rw [e] at this
  exact this
theorem sg_in (z : Int) : sg z = -1 ∨ sg z = 0 ∨ sg z = 1 := by
  unfold sg
  by_cases h : z > 0
  · simp [h]
  · by_cases h2 : z < 0
    · simp [h, h2]
    · simp [h, h2]
theorem pl_in {b : Mb} (mo : Nat) : -2 ≤ pl b mo ∧ pl b mo ≤ 2 := by
  unfold pl plK db
  rcases sg_in ((b.2.2.1 : Int) - mo) with h | h | h <;> rw [h] <;> (repeat' split) <;> omega
theorem sP_in (h mo : Nat) : ∀ ms : List Mb, -(2 * (ms.length : Int)) ≤ sP h mo ms ∧ sP h mo ms ≤ 2 * (ms.length : Int) := by
  intro ms
  induction ms with
  | nil => simp [sP]
  | cons b ms ih =>
    have := pl_in (b := b) mo
    simp only [sP, List.length_cons]
    split <;> omega
theorem nmz_le {mo : Nat} (g : Int) (h : mo ≤ 20) : nmz mo g ≤ 20 := by unfold nmz; split <;> omega
theorem nmo_le {h mo : Nat} {ms : List Mb} (hm : mo ≤ 20) : nmo h mo ms ≤ 20 := nmz_le _ hm
theorem ti_le (k : Nat) : ti k ≤ 3 := by unfold ti; (repeat' split) <;> omega
theorem tird_ok {b : Mb} (h : okB b) : okB (tird b) := ⟨h.1, h.2.1, h.2.2.1, by show min 20 _ ≤ 20; omega⟩
theorem sitB_ok {h mo : Nat} {b : Mb} (hb : okB b) : okB (sitB h mo b) := by
  unfold sitB
  split
  · exact tird_ok hb
  · exact hb
/-- what a row of ints says of MEMBERS -/
def MbAt (f : Nat → Int32) (ms : List Mb) : Prop := ∀ i b, ms[i]? = some b → f (4 * i) = nI b.1 ∧ f (4 * i + 1) = nI b.2.1 ∧ f (4 * i + 2) = nI b.2.2.1 ∧ f (4 * i + 3) = nI b.2.2.2 ∧ okB b
theorem MbAt.set3 {f : Nat → Int32} {ms : List Mb} (h : MbAt f ms) {i : Nat} {b : Mb} (hb : ms[i]? = some b) {s : Nat} (hs : s ≤ 20) : MbAt (upd f (4 * i + 3) (nI s)) (ms.set i (b.1, b.2.1, b.2.2.1, s)) := by
  intro j c hc
  by_cases hj : j = i
  · subst hj
    rw [List.getElem?_set_self (List.getElem?_eq_some_iff.mp hb).1] at hc
    cases hc
    obtain ⟨h1, h2, h3, h4, h5⟩ := h j b hb
    refine ⟨by rw [pk_un (by omega)]; exact h1, by rw [pk_un (by omega)]; exact h2, by rw [pk_un (by omega)]; exact h3, by rw [pk_us], h5.1, h5.2.1, h5.2.2.1, hs⟩
  · rw [List.getElem?_set_ne (Ne.symm hj)] at hc
    obtain ⟨h1, h2, h3, h4, h5⟩ := h j c hc
    exact ⟨by rw [pk_un (by omega)]; exact h1, by rw [pk_un (by omega)]; exact h2, by rw [pk_un (by omega)]; exact h3, by rw [pk_un (by omega)]; exact h4, h5⟩
theorem MbAt.set2 {f : Nat → Int32} {ms : List Mb} (h : MbAt f ms) {i : Nat} {b : Mb} (hb : ms[i]? = some b) {w : Nat} (hs : w ≤ 20) : MbAt (upd f (4 * i + 2) (nI w)) (ms.set i (b.1, b.2.1, w, b.2.2.2)) := by
  intro j c hc
  by_cases hj : j = i
  · subst hj
    rw [List.getElem?_set_self (List.getElem?_eq_some_iff.mp hb).1] at hc
    cases hc
    obtain ⟨h1, h2, h3, h4, h5⟩ := h j b hb
    refine ⟨by rw [pk_un (by omega)]; exact h1, by rw [pk_un (by omega)]; exact h2, by rw [pk_us], by rw [pk_un (by omega)]; exact h4, h5.1, h5.2.1, hs, h5.2.2.2⟩
  · rw [List.getElem?_set_ne (Ne.symm hj)] at hc
    obtain ⟨h1, h2, h3, h4, h5⟩ := h j c hc
    exact ⟨by rw [pk_un (by omega)]; exact h1, by rw [pk_un (by omega)]; exact h2, by rw [pk_un (by omega)]; exact h3, by rw [pk_un (by omega)]; exact h4, h5⟩
theorem MbAt.set1 {f : Nat → Int32} {ms : List Mb} (h : MbAt f ms) {i : Nat} {b : Mb} (hb : ms[i]? = some b) {w : Nat} (hs : w ≤ 1) : MbAt (upd f (4 * i + 1) (nI w)) (ms.set i (b.1, w, b.2.2.1, b.2.2.2)) := by
  intro j c hc
  by_cases hj : j = i
  · subst hj
    rw [List.getElem?_set_self (List.getElem?_eq_some_iff.mp hb).1] at hc
    cases hc
    obtain ⟨h1, h2, h3, h4, h5⟩ := h j b hb
    refine ⟨by rw [pk_un (by omega)]; exact h1, by rw [pk_us], by rw [pk_un (by omega)]; exact h3, by rw [pk_un (by omega)]; exact h4, h5.1, hs, h5.2.2⟩
  · rw [List.getElem?_set_ne (Ne.symm hj)] at hc
    obtain ⟨h1, h2, h3, h4, h5⟩ := h j c hc
    exact ⟨by rw [pk_un (by omega)]; exact h1, by rw [pk_un (by omega)]; exact h2, by rw [pk_un (by omega)]; exact h3, by rw [pk_un (by omega)]; exact h4, h5⟩
theorem MbAt.set0 {f : Nat → Int32} {ms : List Mb} (h : MbAt f ms) {i : Nat} {b : Mb} (hb : ms[i]? = some b) {w : Nat} (hs : w ≤ 3) : MbAt (upd f (4 * i) (nI w)) (ms.set i (w, b.2.1, b.2.2.1, b.2.2.2)) := by
  intro j c hc
  by_cases hj : j = i
  · subst hj
    rw [List.getElem?_set_self (List.getElem?_eq_some_iff.mp hb).1] at hc
    cases hc
    obtain ⟨h1, h2, h3, h4, h5⟩ := h j b hb
    refine ⟨by rw [pk_us], by rw [pk_un (by omega)]; exact h2, by rw [pk_un (by omega)]; exact h3, by rw [pk_un (by omega)]; exact h4, hs, h5.2⟩
  · rw [List.getElem?_set_ne (Ne.symm hj)] at hc
    obtain ⟨h1, h2, h3, h4, h5⟩ := h j c hc
    exact ⟨by rw [pk_un (by omega)]; exact h1, by rw [pk_un (by omega)]; exact h2, by rw [pk_un (by omega)]; exact h3, by rw [pk_un (by omega)]; exact h4, h5⟩
theorem MbAt.far {f : Nat → Int32} {ms : List Mb} (h : MbAt f ms) (hl : ms.length ≤ 6) {k : Nat} (hk : 24 ≤ k) (x : Int32) : MbAt (upd f k x) ms := by
  intro j c hc
  have hj := (List.getElem?_eq_some_iff.mp hc).1
  obtain ⟨h1, h2, h3, h4, h5⟩ := h j c hc
  exact ⟨by rw [pk_un (by omega)]; exact h1, by rw [pk_un (by omega)]; exact h2, by rw [pk_un (by omega)]; exact h3, by rw [pk_un (by omega)]; exact h4, h5⟩
theorem MbAt.votes {f : Nat → Int32} {ms : List Mb} (h : MbAt f ms) {i : Nat} {b : Mb} (hb : ms[i]? = some b) {mo : Nat} (hm : mo ≤ 20) : vtI (f (4 * i + 2)) (nI mo) (f (4 * i + 3)) = vt b mo := by
  obtain ⟨h1, h2, h3, h4, h5⟩ := h i b hb
  rw [h3, h4, vtI_d _ (by have := h5.2.2.1; omega) _ (by omega) _ (by have := h5.2.2.2; omega)]; rfl
theorem MbAt.pull {f : Nat → Int32} {ms : List Mb} (h : MbAt f ms) {i : Nat} {b : Mb} (hb : ms[i]? = some b) {mo : Nat} (hm : mo ≤ 20) : plI (f (4 * i)) (f (4 * i + 2) - nI mo) = iI (pl b mo) := by
  obtain ⟨h1, h2, h3, h4, h5⟩ := h i b hb
  rw [h1, h3, plI_d _ (by have := h5.1; omega) _ (by have := h5.2.2.1; omega) _ (by omega)]; rfl
theorem MbAt.house {f : Nat → Int32} {ms : List Mb} (h : MbAt f ms) {i : Nat} {b : Mb} (hb : ms[i]? = some b) {g : Nat} (hg : g < 100) : (f (4 * i + 1) = nI g) ↔ inH g b = true := by
  obtain ⟨h1, h2, h3, h4, h5⟩ := h i b hb
  have := h5.2.1
  rw [h2, nI_eq (by omega) (by omega)]
  unfold inH
  rw [decide_eq_true_iff]
/-- the members but one that is out -/
def act (out : Int32) : Nat → List Mb → List Mb
  | _, [] => []
  | i, b :: bs => if nI i = out then act out (i + 1) bs else b :: act out (i + 1) bs
def sitA (out : Int32) (h mo : Nat) : Nat → List Mb → List Mb
  | _, [] => []
  | i, b :: bs => (if nI i = out then b else sitB h mo b) :: sitA out h mo (i + 1) bs
theorem act_sitA (out : Int32) (h mo : Nat) : ∀ (ms : List Mb) (i : Nat), act out i (sitA out h mo i ms) = (act out i ms).map (sitB h mo) := by
  intro ms
  induction ms with
  | nil => intro i; rfl
  | cons b ms ih =>
    intro i
    by_cases hi : nI i = out
    · simp [sitA, act, hi, ih]
    · simp [sitA, act, hi, ih]
theorem sitA_len (out : Int32) (h mo : Nat) : ∀ (ms : List Mb) (i : Nat), (sitA out h mo i ms).length = ms.length := by
  intro ms
  induction ms with
  | nil => intro i; rfl
  | cons b ms ih => intro i; simp [sitA, ih]
theorem act_none : ∀ (ms : List Mb) (i : Nat), i + ms.length < 2 ^ 31 → act (-4) i ms = ms := by
  intro ms
  induction ms with
  | nil => intro i _; rfl
  | cons b ms ih =>
    intro i hi
    simp only [List.length_cons] at hi
    have hne : ¬ nI i = -4 := by
      intro e
      have := nI_pos (n := i) (by omega)
      rw [e] at this
      exact this (by decide)
    simp only [act, hne, if_false]
    rw [ih (i + 1) (by omega)]
theorem act_len (out : Int32) : ∀ (ms : List Mb) (i : Nat), (act out i ms).length ≤ ms.length := by
  intro ms
  induction ms with
  | nil => intro i; exact Nat.le_refl _
  | cons b ms ih =>
    intro i
    have := ih (i + 1)
    unfold act
    split <;> simp only [List.length_cons] <;> omega
theorem cY_le (h mo : Nat) (ms : List Mb) : cY h mo ms ≤ ms.length := List.countP_le_length
theorem cN_le (h mo : Nat) (ms : List Mb) : cN h mo ms ≤ ms.length := List.countP_le_length
theorem drop_cons {ms : List Mb} {i : Nat} {b : Mb} {bs : List Mb} (h : ms.drop i = b :: bs) : ms[i]? = some b ∧ ms.drop (i + 1) = bs ∧ i < ms.length := by
  have hl : i < ms.length := by
    rcases Nat.lt_or_ge i ms.length with q | q
    · exact q
    · rw [List.drop_eq_nil_of_le q] at h; cases h
  rw [List.drop_eq_getElem_cons hl] at h
  have := List.cons.inj h
  exact ⟨by rw [List.getElem?_eq_getElem hl, this.1], this.2, hl⟩
theorem drop_nil {ms : List Mb} {i : Nat} (h : ms.drop i = []) (hi : i ≤ ms.length) : i = ms.length := by
  have := List.drop_eq_nil_iff.mp h
  omega
theorem act_c (out : Int32) (i : Nat) (b : Mb) (bs : List Mb) : act out i (b :: bs) = if nI i = out then act out (i + 1) bs else b :: act out (i + 1) bs := rfl
def isA (out : Int32) (i h : Nat) (b : Mb) : Bool := !decide (nI i = out) && inH h b
theorem cY_skip {out : Int32} {i h mo : Nat} {b : Mb} {bs : List Mb} (hq : isA out i h b = false) : cY h mo (act out i (b :: bs)) = cY h mo (act out (i + 1) bs) := by
  unfold isA at hq
  rw [act_c]
  by_cases ho : nI i = out
  · rw [if_pos ho]
  · rw [if_neg ho]
    simp [ho] at hq
    simp [cY, hq]
theorem cY_no {out : Int32} {i h mo : Nat} {b : Mb} {bs : List Mb} (hv : vt b mo = false) : cY h mo (act out i (b :: bs)) = cY h mo (act out (i + 1) bs) := by
  rw [act_c]
  by_cases ho : nI i = out
  · rw [if_pos ho]
  · rw [if_neg ho]
    simp [cY, hv]
theorem cY_yes {out : Int32} {i h mo : Nat} {b : Mb} {bs : List Mb} (hq : isA out i h b = true) (hv : vt b mo = true) : cY h mo (act out i (b :: bs)) = cY h mo (act out (i + 1) bs) + 1 := by
  unfold isA at hq
  rw [act_c]
  by_cases ho : nI i = out
  · simp [ho] at hq
  · rw [if_neg ho]
    simp [ho] at hq
    simp [cY, hv, hq]
theorem cN_skip {out : Int32} {i h mo : Nat} {b : Mb} {bs : List Mb} (hq : isA out i h b = false) : cN h mo (act out i (b :: bs)) = cN h mo (act out (i + 1) bs) := by
  unfold isA at hq
  rw [act_c]
  by_cases ho : nI i = out
  · rw [if_pos ho]
  · rw [if_neg ho]
    simp [ho] at hq
    simp [cN, hq]
theorem cN_no {out : Int32} {i h mo : Nat} {b : Mb} {bs : List Mb} (hv : vt b mo = true) : cN h mo (act out i (b :: bs)) = cN h mo (act out (i + 1) bs) := by
  rw [act_c]
  by_cases ho : nI i = out
  · rw [if_pos ho]
  · rw [if_neg ho]
    simp [cN, hv]
theorem cN_yes {out : Int32} {i h mo : Nat} {b : Mb} {bs : List Mb} (hq : isA out i h b = true) (hv : vt b mo = false) : cN h mo (act out i (b :: bs)) = cN h mo (act out (i + 1) bs) + 1 := by
  unfold isA at hq
  rw [act_c]
  by_cases ho : nI i = out
  · simp [ho] at hq
  · rw [if_neg ho]
    simp [ho] at hq
    simp [cN, hv, hq]
theorem sP_skip {out : Int32} {i h mo : Nat} {b : Mb} {bs : List Mb} (hq : isA out i h b = false) : sP h mo (act out i (b :: bs)) = sP h mo (act out (i + 1) bs) := by
  unfold isA at hq
  rw [act_c]
  by_cases ho : nI i = out
  · rw [if_pos ho]
  · rw [if_neg ho]
    simp [ho] at hq
    simp [sP, hq]
theorem sP_yes {out : Int32} {i h mo : Nat} {b : Mb} {bs : List Mb} (hq : isA out i h b = true) : sP h mo (act out i (b :: bs)) = pl b mo + sP h mo (act out (i + 1) bs) := by
  unfold isA at hq
  rw [act_c]
  by_cases ho : nI i = out
  · simp [ho] at hq
  · rw [if_neg ho]
    simp [ho] at hq
    simp [sP, hq]
theorem nI_bt (m : Nat) : nI m + bI true = nI (m + 1) := nI_1 m
theorem nI_bf (m : Nat) : nI m + bI false = nI m := by show nI m + 0 = nI m; rw [show (0 : Int32) = nI 0 from rfl, nI_add]; rfl
/-- the reference's row of now -/
def RN (M : Mm) (full : List Mb) (mo day am : Nat) (out : Int32) (ch : Nat) : Prop := full.length ≤ 6 ∧ MbAt (M.1 35) full ∧ M.1 35 24 = nI full.length ∧ (M.1 35 25 = nI mo ∧ mo ≤ 20) ∧ (M.1 35 26 = nI day ∧ day ≤ 100000) ∧ (M.1 35 27 = nI am ∧ am ≤ 999) ∧ M.1 33 13 = out ∧ (M.1 33 14 = nI ch ∧ ch ≤ 100000)
/-- nothing changes but now and changes -/
def F35 (M M' : Mm) : Prop := (∀ a k, (a ≠ 35 ∨ 28 ≤ k) → (a ≠ 33 ∨ k ≠ 14) → M'.1 a k = M.1 a k) ∧ M'.2 = M.2
theorem F35.rf {M : Mm} : F35 M M := ⟨fun _ _ _ _ => rfl, rfl⟩
theorem F35.tr {M M1 M2 : Mm} (h1 : F35 M M1) (h2 : F35 M1 M2) : F35 M M2 := ⟨fun a k ha hk => (h2.1 a k ha hk).trans (h1.1 a k ha hk), h2.2.trans h1.2⟩
theorem F35.put {M : Mm} {k : Nat} {x : Int32} (hk : k < 28 := by omega) : F35 M (mput M 35 k x) := ⟨fun a j ha _ => by rw [mpg, if_neg (by omega)], rfl⟩
theorem F35.put14 {M : Mm} {x : Int32} : F35 M (mput M 33 14 x) := ⟨fun a j ha hj => by rw [mpg]; rw [if_neg (fun z => by omega)], rfl⟩
theorem mput35 (M : Mm) (k : Nat) (x : Int32) : (mput M 35 k x).1 35 = upd (M.1 35) k x := mput_at M 35 k x
theorem takeS {ms : List Mb} {i : Nat} {b : Mb} (hb : ms[i]? = some b) : ms.take (i + 1) = ms.take i ++ [b] := by
  rw [List.take_succ, hb]; rfl
theorem sitA_c (out : Int32) (h mo i : Nat) (b : Mb) (bs : List Mb) : sitA out h mo i (b :: bs) = (if nI i = out then b else sitB h mo b) :: sitA out h mo (i + 1) bs := rfl
theorem sit_skip {out : Int32} {i h mo : Nat} {b : Mb} (hq : isA out i h b = false) : (if nI i = out then b else sitB h mo b) = b := by
  unfold isA at hq
  by_cases ho : nI i = out
  · rw [if_pos ho]
  · rw [if_neg ho]; simp [ho] at hq; simp [sitB, hq]
theorem sit_vt {out : Int32} {i h mo : Nat} {b : Mb} (hv : vt b mo = true) : (if nI i = out then b else sitB h mo b) = b := by
  by_cases ho : nI i = out
  · rw [if_pos ho]
  · rw [if_neg ho]; simp [sitB, hv]
theorem sit_yes {out : Int32} {i h mo : Nat} {b : Mb} (hq : isA out i h b = true) (hv : vt b mo = false) : (if nI i = out then b else sitB h mo b) = tird b := by
  unfold isA at hq
  by_cases ho : nI i = out
  · simp [ho] at hq
  · rw [if_neg ho]; simp [ho] at hq; simp [sitB, hv, hq]
theorem agr_1 {h mo : Nat} {ms : List Mb} (hl : ms.length ≤ 6) (q : nI (cN h mo ms) < nI (cY h mo ms)) : (1 : Int32) = bI (agr h mo ms) := by
  have := cY_le h mo ms
  have := cN_le h mo ms
  rw [nI_ltI (by omega) (by omega)] at q
  rw [agr, decide_eq_true (Or.inl q)]; rfl
theorem agr_2 {h mo : Nat} {ms : List Mb} (hl : ms.length ≤ 6) (q : ¬ nI (cN h mo ms) < nI (cY h mo ms)) (q2 : ¬ nI (cY h mo ms) + nI (cN h mo ms) = 0) : (0 : Int32) = bI (agr h mo ms) := by
  have := cY_le h mo ms
  have := cN_le h mo ms
  rw [nI_ltI (by omega) (by omega)] at q
  rw [agr, decide_eq_false (fun z => z.elim q (fun z => q2 (by rw [nI_add, z]; rfl)))]; rfl
theorem agr_3 {h mo : Nat} {ms : List Mb} (hl : ms.length ≤ 6) (q2 : nI (cY h mo ms) + nI (cN h mo ms) = 0) : (1 : Int32) = bI (agr h mo ms) := by
  have := cY_le h mo ms
  have := cN_le h mo ms
  rw [nI_add, show (0 : Int32) = nI 0 from rfl, nI_eq (by omega) (by omega)] at q2
  rw [agr, decide_eq_true (Or.inr q2)]; rfl
theorem mo1_d : ∀ mo, mo < 21 → ∀ k : Nat, k < 3 → nI mo + iI ((k : Int) - 1) = nI mo → nmz mo ((k : Int) - 1) = mo := by decide +kernel
theorem mo2_d : ∀ mo, mo < 21 → ∀ k : Nat, k < 3 → inI (nI mo + iI ((k : Int) - 1)) 0 20 = false → nmz mo ((k : Int) - 1) = mo := by decide +kernel
theorem mo3_d : ∀ mo, mo < 21 → ∀ k : Nat, k < 3 → ¬ (nI mo + iI ((k : Int) - 1) = nI mo) → inI (nI mo + iI ((k : Int) - 1)) 0 20 = true → nI mo + iI ((k : Int) - 1) = nI (nmz mo ((k : Int) - 1)) ∧ nmz mo ((k : Int) - 1) ≠ mo := by decide +kernel
theorem sg_k (z : Int) : ∃ k : Nat, k < 3 ∧ sg z = (k : Int) - 1 := by
  rcases sg_in z with h | h | h
  · exact ⟨0, by omega, by rw [h]; rfl⟩
  · exact ⟨1, by omega, by rw [h]; rfl⟩
  · exact ⟨2, by omega, by rw [h]; rfl⟩
theorem mo1 {mo : Nat} {z : Int} (hm : mo ≤ 20) (h : nI mo + iI (sg z) = nI mo) : nmz mo (sg z) = mo := by
  obtain ⟨k, hk, e⟩ := sg_k z
  rw [e] at h ⊢
  exact mo1_d mo (by omega) k hk h
theorem mo2 {mo : Nat} {z : Int} (hm : mo ≤ 20) (h : inI (nI mo + iI (sg z)) 0 20 = false) : nmz mo (sg z) = mo := by
  obtain ⟨k, hk, e⟩ := sg_k z
  rw [e] at h ⊢
  exact mo2_d mo (by omega) k hk h
theorem mo3 {mo : Nat} {z : Int} (hm : mo ≤ 20) (h : ¬ nI mo + iI (sg z) = nI mo) (h2 : inI (nI mo + iI (sg z)) 0 20 = true) : nI mo + iI (sg z) = nI (nmz mo (sg z)) ∧ nmz mo (sg z) ≠ mo := by
  obtain ⟨k, hk, e⟩ := sg_k z
  rw [e] at h h2 ⊢
  exact mo3_d mo (by omega) k hk h h2
theorem RN.ptm {M : Mm} {full : List Mb} {mo day am ch : Nat} {out : Int32} (R : RN M full mo day am out ch) {i : Nat} {b : Mb} (hb : full[i]? = some b) {s : Nat} (hs : s ≤ 20) : RN (mput M 35 (4 * i + 3) (nI s)) (full.set i (b.1, b.2.1, b.2.2.1, s)) mo day am out ch := by
  obtain ⟨h1, h2, h3, h4, h5, h6, h7, h8⟩ := R
  have hi := (List.getElem?_eq_some_iff.mp hb).1
  have k : ∀ j, 24 ≤ j → (mput M 35 (4 * i + 3) (nI s)).1 35 j = M.1 35 j := fun j hj => by rw [mpg, if_neg (fun z => by omega)]
  have k2 : ∀ j, (mput M 35 (4 * i + 3) (nI s)).1 33 j = M.1 33 j := fun j => by rw [mpg, if_neg (fun z => by omega)]
  exact ⟨by rw [List.length_set]; exact h1, by rw [mput35]; exact h2.set3 hb hs, by rw [k _ (by omega), List.length_set]; exact h3, by rw [k _ (by omega)]; exact h4, by rw [k _ (by omega)]; exact h5, by rw [k _ (by omega)]; exact h6, by rw [k2]; exact h7, by rw [k2]; exact h8⟩
theorem RN.change {M : Mm} {full : List Mb} {mo day am ch : Nat} {out : Int32} (R : RN M full mo day am out ch) {m2 a2 : Nat} (hm : m2 ≤ 20) (ha : a2 ≤ 999) (hc : ch < 100000) : RN (mput (mput (mput M 35 25 (nI m2)) 35 27 (nI a2)) 33 14 (nI (ch + 1))) full m2 day a2 out (ch + 1) := by
  obtain ⟨h1, h2, h3, h4, h5, h6, h7, h8⟩ := R
  have e : (mput (mput (mput M 35 25 (nI m2)) 35 27 (nI a2)) 33 14 (nI (ch + 1))).1 35 = upd (upd (M.1 35) 25 (nI m2)) 27 (nI a2) := by
    rw [mput_ne _ (by decide), mput35, mput35]
  refine ⟨h1, by rw [e]; exact (h2.far h1 (by omega) _).far h1 (by omega) _, ?_, ⟨?_, hm⟩, ⟨?_, h5.2⟩, ⟨?_, ha⟩, ?_, ⟨?_, by omega⟩⟩
  · rw [e]; simp [upd, h3]
  · rw [e]; simp [upd]
  · rw [e]; simp [upd, h5.1]
  · rw [e]; simp [upd]
  · simp [mpg, h7]
  · simp [mpg]
theorem RN.day {M : Mm} {full : List Mb} {mo day am ch : Nat} {out : Int32} (R : RN M full mo day am out ch) (hd : day < 100000) : RN (mput M 35 26 (nI (day + 1))) full mo (day + 1) am out ch := by
  obtain ⟨h1, h2, h3, h4, h5, h6, h7, h8⟩ := R
  refine ⟨h1, by rw [mput35]; exact h2.far h1 (by omega) _, ?_, ⟨?_, h4.2⟩, ⟨?_, by omega⟩, ⟨?_, h6.2⟩, ?_, ⟨?_, h8.2⟩⟩
  · simp [mpg, h3]
  · simp [mpg, h4.1]
  · simp [mpg]
  · simp [mpg, h6.1]
  · simp [mpg, h7]
  · simp [mpg, h8.1]
/-- the view: what the days see of now -/
def RV (M : Mm) (s : Ns) (out : Int32) (n : Nat) : Prop := ∃ full : List Mb, full.length = n ∧ RN M full s.2.1 s.2.2.1 s.2.2.2.1 out s.2.2.2.2 ∧ act out 0 full = s.1
def fld (k : Nat) (b : Mb) : Nat := if k = 0 then b.1 else if k = 1 then b.2.1 else if k = 2 then b.2.2.1 else b.2.2.2
def sumK (k : Nat) : List Mb → Nat
  | [] => 0
  | b :: bs => fld k b + sumK k bs
theorem fld_le {b : Mb} (h : okB b) (k : Nat) : fld k b ≤ 20 := by
  obtain ⟨h1, h2, h3, h4⟩ := h
  unfold fld; (repeat' split) <;> omega
theorem MbAt.fld {f : Nat → Int32} {ms : List Mb} (h : MbAt f ms) {i : Nat} {b : Mb} (hb : ms[i]? = some b) {k : Nat} (hk : k < 4) : f (4 * i + k) = nI (fld k b) := by
  obtain ⟨h1, h2, h3, h4, h5⟩ := h i b hb
  rcases (show k = 0 ∨ k = 1 ∨ k = 2 ∨ k = 3 by omega) with rfl | rfl | rfl | rfl
  · exact h1
  · exact h2
  · exact h3
  · exact h4
def orB (f : Mb → Bool) : Nat → Int32 → List Mb → Int32
  | _, acc, [] => acc
  | i, acc, b :: bs => orB f (i + 1) (acc ||| (bI (f b) <<< (nI i &&& 31))) bs
