/-! the state that both systems hold, and how each holds it -/
/-- a walnut: members, motion, day, amendments, what was seen -/
abbrev Nu : Type := List Mb × Nat × Nat × Nat × List (Nat × Nat)
abbrev Sh : Type := Option (Nat × Nat × (Nat → Int32))
/-- the walnut, its images (kept?), the tape, the text's fault, the reading's fault, the sheets -/
abbrev Sta : Type := Nu × (Nat → Bool × Nu) × List Nat × Nat × Nat × (Nat → Sh)
def SlAt (f g : Nat → Int32) (sl : List (Nat × Nat)) : Prop := ∀ i q, sl[i]? = some q → f i = nI q.1 ∧ g i = nI q.2 ∧ q.1 ≤ 20 ∧ q.2 ≤ 20
def CU (M : Mm) (p : Nat) (u : Nu) : Prop := CN M p u.1 u.2.1 u.2.2.1 u.2.2.2.1 ∧ u.2.2.1 ≤ 999 ∧ M.1 p 7 = nI u.2.2.2.2.length ∧ u.2.2.2.2.length ≤ 6 ∧ SlAt (M.1 (p + 2)) (M.1 (p + 3)) u.2.2.2.2
def RU (f : Nat → Int32) (u : Nu) : Prop := u.1.length ≤ 6 ∧ MbAt f u.1 ∧ f 24 = nI u.1.length ∧ (f 25 = nI u.2.1 ∧ u.2.1 ≤ 20) ∧ (f 26 = nI u.2.2.1 ∧ u.2.2.1 ≤ 999) ∧ (f 27 = nI u.2.2.2.1 ∧ u.2.2.2.1 ≤ 999) ∧ (f 28 = nI u.2.2.2.2.length ∧ u.2.2.2.2.length ≤ 6) ∧ SlAt (fun i => f (29 + 2 * i)) (fun i => f (30 + 2 * i)) u.2.2.2.2
def TpC (M : Mm) (t : List Nat) : Prop := t.length ≤ 160 ∧ M.1 1 1 = nI t.length ∧ ∀ i b, t[i]? = some b → M.1 2 i = nI b ∧ b ≤ 127
def TpD (M : Mm) (t : List Nat) : Prop := t.length ≤ 160 ∧ M.1 33 6 = nI t.length ∧ ∀ i b, t[i]? = some b → M.1 38 i = nI b ∧ b ≤ 127
def ShC (M : Mm) (p : Nat) (s : Sh) : Prop := match s with
  | none => M.1 p 2 = -1
  | some x => M.1 p 1 = nI x.1 ∧ x.1 ≤ 2 ∧ M.1 p 2 = nI x.2.1 ∧ x.2.1 ≤ 40 ∧ ∀ i, i < 40 → M.1 (p + 1) i = x.2.2 i
def ShD (M : Mm) (k : Nat) (s : Sh) : Prop := match s with
  | none => M.1 41 k = -4
  | some x => M.1 41 k = nI x.1 ∧ x.1 ≤ 2 ∧ M.1 42 k = nI x.2.1 ∧ x.2.1 ≤ 40 ∧ ∀ i, i < 40 → M.1 43 (40 * k + i) = x.2.2 i
def RC (M : Mm) (σ : Sta) : Prop := CU M 4 σ.1 ∧ (∀ k, k < 2 → M.1 13 k = bI (σ.2.1 k).1 ∧ ((σ.2.1 k).1 = true → CU M (16 + 4 * k) (σ.2.1 k).2)) ∧ TpC M σ.2.2.1 ∧ M.1 0 9 = nI σ.2.2.2.1 ∧ M.1 0 10 = nI σ.2.2.2.2.1 ∧ ∀ k, k < 4 → ShC M (24 + 2 * k) (σ.2.2.2.2.2 k)
def RD (M : Mm) (σ : Sta) : Prop := RU (M.1 34) σ.1 ∧ (∀ k, k < 2 → M.1 36 k = bI (σ.2.1 k).1 ∧ ((σ.2.1 k).1 = true → RU (fun j => M.1 34 (41 * (k + 1) + j)) (σ.2.1 k).2)) ∧ TpD M σ.2.2.1 ∧ M.1 33 11 = nI σ.2.2.2.1 ∧ M.1 33 25 = nI σ.2.2.2.2.1 ∧ ∀ k, k < 4 → ShD M k (σ.2.2.2.2.2 k)
/-- what a call of the class leaves alone, of the reference -/
def FCr (M M' : Mm) : Prop := (∀ a k, 33 ≤ a → M'.1 a k = M.1 a k) ∧ M'.2 = M.2
def FDr (M M' : Mm) : Prop := ∀ a k, a < 33 → M'.1 a k = M.1 a k
theorem FCr.rf {M : Mm} : FCr M M := ⟨fun _ _ _ => rfl, rfl⟩
theorem FDr.rf {M : Mm} : FDr M M := fun _ _ _ => rfl
theorem FCr.tr {M M1 M2 : Mm} (h1 : FCr M M1) (h2 : FCr M1 M2) : FCr M M2 := ⟨fun a k h => (h2.1 a k h).trans (h1.1 a k h), h2.2.trans h1.2⟩
theorem FDr.tr {M M1 M2 : Mm} (h1 : FDr M M1) (h2 : FDr M1 M2) : FDr M M2 := fun a k h => (h2 a k h).trans (h1 a k h)
theorem FCr.put {M : Mm} {p k : Nat} {x : Int32} (h : p < 33) : FCr M (mput M p k x) := ⟨fun a j ha => by rw [mpg, if_neg (by omega)], rfl⟩
theorem FDr.put {M : Mm} {p k : Nat} {x : Int32} (h : 33 ≤ p) : FDr M (mput M p k x) := fun a j ha => by rw [mpg, if_neg (by omega)]
theorem FDr.putL {M : Mm} {p k : Nat} {x : Int64} : FDr M (mputL M p k x) := fun _ _ _ => rfl
theorem MbAt.eq {f g : Nat → Int32} {ms : List Mb} (h : MbAt f ms) (hl : ms.length ≤ 6) (e : ∀ k, k < 24 → g k = f k) : MbAt g ms := by
  intro i b hb
  have hi := (List.getElem?_eq_some_iff.mp hb).1
  obtain ⟨h1, h2, h3, h4, h5⟩ := h i b hb
  exact ⟨by rw [e _ (by omega)]; exact h1, by rw [e _ (by omega)]; exact h2, by rw [e _ (by omega)]; exact h3, by rw [e _ (by omega)]; exact h4, h5⟩
theorem MbAt.take {f : Nat → Int32} {ms : List Mb} (h : MbAt f ms) (n : Nat) : MbAt f (ms.take n) := by
  intro i b hb
  rw [List.getElem?_take] at hb
  split at hb
  · exact h i b hb
  · cases hb
theorem SlAt.eq {f g f' g' : Nat → Int32} {sl : List (Nat × Nat)} (h : SlAt f g sl) (hl : sl.length ≤ 6) (e : ∀ k, k < 6 → f' k = f k) (e2 : ∀ k, k < 6 → g' k = g k) : SlAt f' g' sl := by
  intro i b hb
  have hi := (List.getElem?_eq_some_iff.mp hb).1
  obtain ⟨h1, h2, h3⟩ := h i b hb
  exact ⟨by rw [e _ (by omega)]; exact h1, by rw [e2 _ (by omega)]; exact h2, h3⟩
theorem SlAt.take {f g : Nat → Int32} {sl : List (Nat × Nat)} (h : SlAt f g sl) (n : Nat) : SlAt f g (sl.take n) := by
  intro i b hb
  rw [List.getElem?_take] at hb
  split at hb
  · exact h i b hb
  · cases hb
theorem CN.eq {M M' : Mm} {p : Nat} {ms : List Mb} {mo day am : Nat} (R : CN M p ms mo day am) (e : ∀ k, 3 ≤ k → k ≤ 6 → M'.1 p k = M.1 p k) (e1 : ∀ k, k < 24 → M'.1 (p + 1) k = M.1 (p + 1) k) : CN M' p ms mo day am := by
  obtain ⟨h1, h2, h3, h4, h5, h6⟩ := R
  exact ⟨h1, h2.eq h1 e1, by rw [e _ (by omega) (by omega)]; exact h3, by rw [e _ (by omega) (by omega)]; exact h4, by rw [e _ (by omega) (by omega)]; exact h5, by rw [e _ (by omega) (by omega)]; exact h6⟩
theorem CU.eq {M M' : Mm} {p : Nat} {u : Nu} (h : CU M p u) (e : ∀ a k, p ≤ a → a ≤ p + 3 → M'.1 a k = M.1 a k) : CU M' p u := by
  obtain ⟨h1, h2, h3, h4, h5⟩ := h
  exact ⟨h1.eq (fun k _ _ => e p k (by omega) (by omega)) (fun k _ => e (p + 1) k (by omega) (by omega)), h2, by rw [e _ _ (by omega) (by omega)]; exact h3, h4, h5.eq h4 (fun k _ => e _ _ (by omega) (by omega)) (fun k _ => e _ _ (by omega) (by omega))⟩
theorem CU.bec {M M' : Mm} {p q : Nat} {u : Nu} (h : CU M q u) (B : BecR p q M M') : CU M' p u := by
  obtain ⟨⟨h1, h2, h3, h4, h5, h6⟩, g2, g3, g4, g5⟩ := h
  obtain ⟨-, -, b1, b2, b3, b4⟩ := B
  exact ⟨⟨h1, h2.eq h1 b1, by rw [b4 _ (by omega) (by omega)]; exact h3, by rw [b4 _ (by omega) (by omega)]; exact h4, by rw [b4 _ (by omega) (by omega)]; exact h5, by rw [b4 _ (by omega) (by omega)]; exact h6⟩, g2, by rw [b4 _ (by omega) (by omega)]; exact g3, g4, g5.eq g4 b2 b3⟩
theorem RU.eq {f g : Nat → Int32} {u : Nu} (h : RU f u) (e : ∀ k, k < 41 → g k = f k) : RU g u := by
  obtain ⟨h1, h2, h3, h4, h5, h6, h7, h8⟩ := h
  exact ⟨h1, h2.eq h1 (fun k hk => e k (by omega)), by rw [e _ (by omega)]; exact h3, by rw [e _ (by omega)]; exact h4, by rw [e _ (by omega)]; exact h5, by rw [e _ (by omega)]; exact h6, by rw [e _ (by omega)]; exact h7, h8.eq h7.2 (fun k hk => e _ (by omega)) (fun k hk => e _ (by omega))⟩
theorem TpC.eq {M M' : Mm} {t : List Nat} (h : TpC M t) (e : M'.1 1 1 = M.1 1 1) (e2 : ∀ k, M'.1 2 k = M.1 2 k) : TpC M' t := ⟨h.1, by rw [e]; exact h.2.1, fun i b hb => by rw [e2]; exact h.2.2 i b hb⟩
theorem TpD.eq {M M' : Mm} {t : List Nat} (h : TpD M t) (e : M'.1 33 6 = M.1 33 6) (e2 : ∀ k, M'.1 38 k = M.1 38 k) : TpD M' t := ⟨h.1, by rw [e]; exact h.2.1, fun i b hb => by rw [e2]; exact h.2.2 i b hb⟩
theorem ShC.eq {M M' : Mm} {p : Nat} {s : Sh} (h : ShC M p s) (e : ∀ a k, a = p ∨ a = p + 1 → M'.1 a k = M.1 a k) : ShC M' p s := by
  cases s with
  | none => show M'.1 p 2 = -1; rw [e _ _ (Or.inl rfl)]; exact h
  | some x =>
    obtain ⟨h1, h2, h3, h4, h5⟩ := h
    exact ⟨by rw [e _ _ (Or.inl rfl)]; exact h1, h2, by rw [e _ _ (Or.inl rfl)]; exact h3, h4, fun i hi => by rw [e _ _ (Or.inr rfl)]; exact h5 i hi⟩
theorem ShD.eq {M M' : Mm} {k : Nat} {s : Sh} (h : ShD M k s) (e1 : M'.1 41 k = M.1 41 k) (e2 : M'.1 42 k = M.1 42 k) (e3 : ∀ i, i < 40 → M'.1 43 (40 * k + i) = M.1 43 (40 * k + i)) : ShD M' k s := by
  cases s with
  | none => show M'.1 41 k = -4; rw [e1]; exact h
  | some x =>
    obtain ⟨h1, h2, h3, h4, h5⟩ := h
    exact ⟨by rw [e1]; exact h1, h2, by rw [e2]; exact h3, h4, fun i hi => by rw [e3 i hi]; exact h5 i hi⟩
/-- RC after a change of some places -/
theorem RC.fq {M M' : Mm} {σ : Sta} (h : RC M σ) (e : ∀ a k, ¬ (8 ≤ a ∧ a ≤ 11) → a ≠ 15 → a ≠ 32 → a < 33 → (a ≠ 1 ∨ k = 1) → a ≠ 3 → M'.1 a k = M.1 a k) : RC M' σ := by
  obtain ⟨h1, h2, h3, h4, h5, h6⟩ := h
  exact ⟨h1.eq (fun a k _ _ => e a k (by omega) (by omega) (by omega) (by omega) (by omega) (by omega)), fun k hk => ⟨by rw [e _ _ (by omega) (by omega) (by omega) (by omega) (by omega) (by omega)]; exact (h2 k hk).1, fun z => ((h2 k hk).2 z).eq (fun a j _ _ => e a j (by omega) (by omega) (by omega) (by omega) (by omega) (by omega))⟩, h3.eq (e _ _ (by omega) (by omega) (by omega) (by omega) (by omega) (by omega)) (fun k => e _ _ (by omega) (by omega) (by omega) (by omega) (by omega) (by omega)), by rw [e _ _ (by omega) (by omega) (by omega) (by omega) (by omega) (by omega)]; exact h4, by rw [e _ _ (by omega) (by omega) (by omega) (by omega) (by omega) (by omega)]; exact h5, fun k hk => (h6 k hk).eq (fun a j ha => e a j (by omega) (by omega) (by omega) (by omega) (by omega) (by omega))⟩
theorem RC.nut {M M' : Mm} {σ : Sta} {u : Nu} (h : RC M σ) (e : ∀ a k, ¬ (4 ≤ a ∧ a ≤ 11) → a < 33 → M'.1 a k = M.1 a k) (hu : CU M' 4 u) : RC M' (u, σ.2) := by
  obtain ⟨h1, h2, h3, h4, h5, h6⟩ := h
  exact ⟨hu, fun k hk => ⟨by rw [e _ _ (by omega) (by omega)]; exact (h2 k hk).1, fun z => ((h2 k hk).2 z).eq (fun a j _ _ => e a j (by omega) (by omega))⟩, h3.eq (e _ _ (by omega) (by omega)) (fun k => e _ _ (by omega) (by omega)), by rw [e _ _ (by omega) (by omega)]; exact h4, by rw [e _ _ (by omega) (by omega)]; exact h5, fun k hk => (h6 k hk).eq (fun a j ha => e a j (by omega) (by omega))⟩
theorem RC.tp {M M' : Mm} {σ : Sta} {t : List Nat} (h : RC M σ) (e : ∀ a k, a ≠ 1 → a ≠ 2 → a < 33 → M'.1 a k = M.1 a k) (ht : TpC M' t) : RC M' (σ.1, σ.2.1, t, σ.2.2.2) := by
  obtain ⟨h1, h2, h3, h4, h5, h6⟩ := h
  exact ⟨h1.eq (fun a k _ _ => e a k (by omega) (by omega) (by omega)), fun k hk => ⟨by rw [e _ _ (by omega) (by omega) (by omega)]; exact (h2 k hk).1, fun z => ((h2 k hk).2 z).eq (fun a j _ _ => e a j (by omega) (by omega) (by omega))⟩, ht, by rw [e _ _ (by omega) (by omega) (by omega)]; exact h4, by rw [e _ _ (by omega) (by omega) (by omega)]; exact h5, fun k hk => (h6 k hk).eq (fun a j ha => e a j (by omega) (by omega) (by omega))⟩
theorem RC.sh {M M' : Mm} {σ : Sta} {j : Nat} {s : Sh} (h : RC M σ) (hj : j < 4) (e : ∀ a k, a ≠ 24 + 2 * j → a ≠ 25 + 2 * j → a < 33 → M'.1 a k = M.1 a k) (hs : ShC M' (24 + 2 * j) s) : RC M' (σ.1, σ.2.1, σ.2.2.1, σ.2.2.2.1, σ.2.2.2.2.1, fun i => if i = j then s else σ.2.2.2.2.2 i) := by
  obtain ⟨h1, h2, h3, h4, h5, h6⟩ := h
  refine ⟨h1.eq (fun a k _ _ => e a k (by omega) (by omega) (by omega)), fun k hk => ⟨by rw [e _ _ (by omega) (by omega) (by omega)]; exact (h2 k hk).1, fun z => ((h2 k hk).2 z).eq (fun a j _ _ => e a j (by omega) (by omega) (by omega))⟩, h3.eq (e _ _ (by omega) (by omega) (by omega)) (fun k => e _ _ (by omega) (by omega) (by omega)), by rw [e _ _ (by omega) (by omega) (by omega)]; exact h4, by rw [e _ _ (by omega) (by omega) (by omega)]; exact h5, fun k hk => ?_⟩
  by_cases hk2 : k = j
  · subst hk2; dsimp only; rw [if_pos rfl]; exact hs
  · dsimp only; rw [if_neg hk2]; exact (h6 k hk).eq (fun a i ha => e a i (by omega) (by omega) (by omega))
theorem RC.img {M M' : Mm} {σ : Sta} {j : Nat} {x : Bool × Nu} (h : RC M σ) (hj : j < 2) (e : ∀ a k, (a ≠ 13 ∨ k ≠ j) → ¬ (16 + 4 * j ≤ a ∧ a ≤ 19 + 4 * j) → a < 33 → M'.1 a k = M.1 a k) (h13 : M'.1 13 j = bI x.1) (hu : x.1 = true → CU M' (16 + 4 * j) x.2) : RC M' (σ.1, (fun i => if i = j then x else σ.2.1 i), σ.2.2) := by
  obtain ⟨h1, h2, h3, h4, h5, h6⟩ := h
  refine ⟨h1.eq (fun a k _ _ => e a k (by omega) (by omega) (by omega)), fun k hk => ?_, h3.eq (e _ _ (by omega) (by omega) (by omega)) (fun k => e _ _ (by omega) (by omega) (by omega)), by rw [e _ _ (by omega) (by omega) (by omega)]; exact h4, by rw [e _ _ (by omega) (by omega) (by omega)]; exact h5, fun k hk => (h6 k hk).eq (fun a j ha => e a j (by omega) (by omega) (by omega))⟩
  by_cases hk2 : k = j
  · subst hk2; dsimp only; rw [if_pos rfl]; exact ⟨h13, hu⟩
  · dsimp only; rw [if_neg hk2]; exact ⟨by rw [e _ _ (Or.inr hk2) (by omega) (by omega)]; exact (h2 k hk).1, fun z => ((h2 k hk).2 z).eq (fun a i _ _ => e a i (by omega) (by omega) (by omega))⟩
theorem RD.fr {M M' : Mm} {σ : Sta} (h : RD M σ) (e : ∀ a k, a ≠ 35 → a ≠ 37 → a ≠ 39 → a ≠ 40 → a ≠ 44 → 33 ≤ a → (a ≠ 33 ∨ k = 6 ∨ k = 11 ∨ k = 25) → M'.1 a k = M.1 a k) : RD M' σ := by
  obtain ⟨h1, h2, h3, h4, h5, h6⟩ := h
  have e34 : ∀ k, M'.1 34 k = M.1 34 k := fun k => e _ _ (by omega) (by omega) (by omega) (by omega) (by omega) (by omega) (by omega)
  exact ⟨h1.eq (fun k _ => e34 k), fun k hk => ⟨by rw [e _ _ (by omega) (by omega) (by omega) (by omega) (by omega) (by omega) (by omega)]; exact (h2 k hk).1, fun z => ((h2 k hk).2 z).eq (fun j _ => e34 _)⟩, h3.eq (e _ _ (by omega) (by omega) (by omega) (by omega) (by omega) (by omega) (by omega)) (fun k => e _ _ (by omega) (by omega) (by omega) (by omega) (by omega) (by omega) (by omega)), by rw [e _ _ (by omega) (by omega) (by omega) (by omega) (by omega) (by omega) (by omega)]; exact h4, by rw [e _ _ (by omega) (by omega) (by omega) (by omega) (by omega) (by omega) (by omega)]; exact h5, fun k hk => (h6 k hk).eq (e _ _ (by omega) (by omega) (by omega) (by omega) (by omega) (by omega) (by omega)) (e _ _ (by omega) (by omega) (by omega) (by omega) (by omega) (by omega) (by omega)) (fun i _ => e _ _ (by omega) (by omega) (by omega) (by omega) (by omega) (by omega) (by omega))⟩
theorem RD.nut {M M' : Mm} {σ : Sta} {u : Nu} (h : RD M σ) (e : ∀ a k, a ≠ 35 → a ≠ 37 → a ≠ 39 → a ≠ 40 → a ≠ 44 → 33 ≤ a → (a ≠ 33 ∨ k = 6 ∨ k = 11 ∨ k = 25) → (a ≠ 34 ∨ 41 ≤ k) → M'.1 a k = M.1 a k) (hu : RU (M'.1 34) u) : RD M' (u, σ.2) := by
  obtain ⟨h1, h2, h3, h4, h5, h6⟩ := h
  exact ⟨hu, fun k hk => ⟨by rw [e _ _ (by omega) (by omega) (by omega) (by omega) (by omega) (by omega) (by omega) (by omega)]; exact (h2 k hk).1, fun z => ((h2 k hk).2 z).eq (fun j _ => e _ _ (by omega) (by omega) (by omega) (by omega) (by omega) (by omega) (by omega) (by omega))⟩, h3.eq (e _ _ (by omega) (by omega) (by omega) (by omega) (by omega) (by omega) (by omega) (by omega)) (fun k => e _ _ (by omega) (by omega) (by omega) (by omega) (by omega) (by omega) (by omega) (by omega)), by rw [e _ _ (by omega) (by omega) (by omega) (by omega) (by omega) (by omega) (by omega) (by omega)]; exact h4, by rw [e _ _ (by omega) (by omega) (by omega) (by omega) (by omega) (by omega) (by omega) (by omega)]; exact h5, fun k hk => (h6 k hk).eq (e _ _ (by omega) (by omega) (by omega) (by omega) (by omega) (by omega) (by omega) (by omega)) (e _ _ (by omega) (by omega) (by omega) (by omega) (by omega) (by omega) (by omega) (by omega)) (fun i _ => e _ _ (by omega) (by omega) (by omega) (by omega) (by omega) (by omega) (by omega) (by omega))⟩
theorem RD.tp {M M' : Mm} {σ : Sta} {t : List Nat} (h : RD M σ) (e : ∀ a k, a ≠ 38 → 33 ≤ a → (a ≠ 33 ∨ k ≠ 6) → M'.1 a k = M.1 a k) (ht : TpD M' t) : RD M' (σ.1, σ.2.1, t, σ.2.2.2) := by
  obtain ⟨h1, h2, h3, h4, h5, h6⟩ := h
  exact ⟨h1.eq (fun k _ => e _ _ (by omega) (by omega) (by omega)), fun k hk => ⟨by rw [e _ _ (by omega) (by omega) (by omega)]; exact (h2 k hk).1, fun z => ((h2 k hk).2 z).eq (fun j _ => e _ _ (by omega) (by omega) (by omega))⟩, ht, by rw [e _ _ (by omega) (by omega) (by omega)]; exact h4, by rw [e _ _ (by omega) (by omega) (by omega)]; exact h5, fun k hk => (h6 k hk).eq (e _ _ (by omega) (by omega) (by omega)) (e _ _ (by omega) (by omega) (by omega)) (fun i _ => e _ _ (by omega) (by omega) (by omega))⟩
theorem RD.sh {M M' : Mm} {σ : Sta} {j : Nat} {s : Sh} (h : RD M σ) (hj : j < 4) (e : ∀ a k, ((a ≠ 41 ∧ a ≠ 42) ∨ k ≠ j) → (a ≠ 43 ∨ k < 40 * j ∨ 40 * j + 40 ≤ k) → 33 ≤ a → M'.1 a k = M.1 a k) (hs : ShD M' j s) : RD M' (σ.1, σ.2.1, σ.2.2.1, σ.2.2.2.1, σ.2.2.2.2.1, fun i => if i = j then s else σ.2.2.2.2.2 i) := by
  obtain ⟨h1, h2, h3, h4, h5, h6⟩ := h
  refine ⟨h1.eq (fun k _ => e _ _ (by omega) (by omega) (by omega)), fun k hk => ⟨by rw [e _ _ (by omega) (by omega) (by omega)]; exact (h2 k hk).1, fun z => ((h2 k hk).2 z).eq (fun j _ => e _ _ (by omega) (by omega) (by omega))⟩, h3.eq (e _ _ (by omega) (by omega) (by omega)) (fun k => e _ _ (by omega) (by omega) (by omega)), by rw [e _ _ (by omega) (by omega) (by omega)]; exact h4, by rw [e _ _ (by omega) (by omega) (by omega)]; exact h5, fun k hk => ?_⟩
  by_cases hk2 : k = j
  · subst hk2; dsimp only; rw [if_pos rfl]; exact hs
  · dsimp only; rw [if_neg hk2]; exact (h6 k hk).eq (e _ _ (Or.inr hk2) (by omega) (by omega)) (e _ _ (Or.inr hk2) (by omega) (by omega)) (fun i hi => e _ _ (by omega) (by omega) (by omega))
theorem RD.img {M M' : Mm} {σ : Sta} {j : Nat} {x : Bool × Nu} (h : RD M σ) (hj : j < 2) (e : ∀ a k, (a ≠ 36 ∨ k ≠ j) → (a ≠ 34 ∨ k < 41 * (j + 1) ∨ 41 * (j + 1) + 41 ≤ k) → 33 ≤ a → M'.1 a k = M.1 a k) (h13 : M'.1 36 j = bI x.1) (hu : x.1 = true → RU (fun i => M'.1 34 (41 * (j + 1) + i)) x.2) : RD M' (σ.1, (fun i => if i = j then x else σ.2.1 i), σ.2.2) := by
  obtain ⟨h1, h2, h3, h4, h5, h6⟩ := h
  refine ⟨h1.eq (fun k _ => e _ _ (by omega) (by omega) (by omega)), fun k hk => ?_, h3.eq (e _ _ (by omega) (by omega) (by omega)) (fun k => e _ _ (by omega) (by omega) (by omega)), by rw [e _ _ (by omega) (by omega) (by omega)]; exact h4, by rw [e _ _ (by omega) (by omega) (by omega)]; exact h5, fun k hk => (h6 k hk).eq (e _ _ (by omega) (by omega) (by omega)) (e _ _ (by omega) (by omega) (by omega)) (fun i _ => e _ _ (by omega) (by omega) (by omega))⟩
  by_cases hk2 : k = j
  · subst hk2; dsimp only; rw [if_pos rfl]; exact ⟨h13, hu⟩
  · dsimp only; rw [if_neg hk2]; exact ⟨by rw [e _ _ (Or.inr hk2) (by omega) (by omega)]; exact (h2 k hk).1, fun z => ((h2 k hk).2 z).eq (fun i _ => e _ _ (by omega) (by omega) (by omega))⟩
theorem RC.eqv {M M' : Mm} {σ : Sta} (h : RC M σ) (e : FDr M M') : RC M' σ := h.fq (fun a k _ _ _ ha _ _ => e a k ha)
theorem RD.eqv {M M' : Mm} {σ : Sta} (h : RD M σ) (e : FCr M M') : RD M' σ := h.fr (fun a k _ _ _ _ _ ha _ => e.1 a k ha)
/-- is it a member's number, and which -/
theorem inI_nat {i : Int32} {n : Nat} (hn : n < 2 ^ 31) (h : inI i 0 (nI n) = true) : ∃ a, a ≤ n ∧ i = nI a := by
  have h := of_decide_eq_true h
  have h0 : ¬ i < 0 := by rw [Int32.lt_iff_toInt_lt]; have := h.1; rw [Int32.le_iff_toInt_le] at this; omega
  obtain ⟨j, hj, e⟩ := nI_of h0
  refine ⟨j, ?_, e⟩
  have h2 := h.2
  rw [e, nI_leI hj hn] at h2
  exact h2
theorem inI_mem {i : Int32} {n : Nat} (hn : n < 2 ^ 31) (h : inI i 0 (nI n - 1) = true) : ∃ a, a < n ∧ i = nI a := by
  cases n with
  | zero =>
    exfalso
    have h := of_decide_eq_true h
    have h1 := h.1
    have h2 := h.2
    rw [Int32.le_iff_toInt_le] at h1 h2
    rw [show (nI 0 - 1).toInt = -1 from by decide] at h2
    rw [show (0 : Int32).toInt = 0 from by decide] at h1
    omega
  | succ n =>
    rw [nI_pred] at h
    obtain ⟨a, ha, e⟩ := inI_nat (by omega) h
    exact ⟨a, by omega, e⟩
theorem nI_inI {a n : Nat} (h : a ≤ n) (hn : n < 2 ^ 31) : inI (nI a) 0 (nI n) = true := decide_eq_true ⟨nI_pos' (by omega), nI_le h hn⟩
