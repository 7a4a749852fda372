theorem sw_0_3 (x : Int32) : x = 0 ∨ x = 1 ∨ x = 2 ∨ x = 3 ∨ (x.toInt < 0 ∨ 3 < x.toInt) := by
  by_cases h0 : x = 0
  · exact Or.inl h0
  · have a0 := lv_neT (a := 0) h0 rfl
    by_cases h1 : x = 1
    · exact Or.inr (Or.inl h1)
    · have a1 := lv_neT (a := 1) h1 rfl
      by_cases h2 : x = 2
      · exact Or.inr (Or.inr (Or.inl h2))
      · have a2 := lv_neT (a := 2) h2 rfl
        by_cases h3 : x = 3
        · exact Or.inr (Or.inr (Or.inr (Or.inl h3)))
        · have a3 := lv_neT (a := 3) h3 rfl
          right; right; right; right; omega
theorem sw_0_5 (x : Int32) : x = 0 ∨ x = 1 ∨ x = 2 ∨ x = 3 ∨ x = 4 ∨ x = 5 ∨ (x.toInt < 0 ∨ 5 < x.toInt) := by
  by_cases h0 : x = 0
  · exact Or.inl h0
  · have a0 := lv_neT (a := 0) h0 rfl
    by_cases h1 : x = 1
    · exact Or.inr (Or.inl h1)
    · have a1 := lv_neT (a := 1) h1 rfl
      by_cases h2 : x = 2
      · exact Or.inr (Or.inr (Or.inl h2))
      · have a2 := lv_neT (a := 2) h2 rfl
        by_cases h3 : x = 3
        · exact Or.inr (Or.inr (Or.inr (Or.inl h3)))
        · have a3 := lv_neT (a := 3) h3 rfl
          by_cases h4 : x = 4
          · exact Or.inr (Or.inr (Or.inr (Or.inr (Or.inl h4))))
          · have a4 := lv_neT (a := 4) h4 rfl
            by_cases h5 : x = 5
            · exact Or.inr (Or.inr (Or.inr (Or.inr (Or.inr (Or.inl h5)))))
            · have a5 := lv_neT (a := 5) h5 rfl
              right; right; right; right; right; right; omega
theorem sw_0_6 (x : Int32) : x = 0 ∨ x = 1 ∨ x = 2 ∨ x = 3 ∨ x = 4 ∨ x = 5 ∨ x = 6 ∨ (x.toInt < 0 ∨ 6 < x.toInt) := by
  by_cases h0 : x = 0
  · exact Or.inl h0
  · have a0 := lv_neT (a := 0) h0 rfl
    by_cases h1 : x = 1
    · exact Or.inr (Or.inl h1)
    · have a1 := lv_neT (a := 1) h1 rfl
      by_cases h2 : x = 2
      · exact Or.inr (Or.inr (Or.inl h2))
      · have a2 := lv_neT (a := 2) h2 rfl
        by_cases h3 : x = 3
        · exact Or.inr (Or.inr (Or.inr (Or.inl h3)))
        · have a3 := lv_neT (a := 3) h3 rfl
          by_cases h4 : x = 4
          · exact Or.inr (Or.inr (Or.inr (Or.inr (Or.inl h4))))
          · have a4 := lv_neT (a := 4) h4 rfl
            by_cases h5 : x = 5
            · exact Or.inr (Or.inr (Or.inr (Or.inr (Or.inr (Or.inl h5)))))
            · have a5 := lv_neT (a := 5) h5 rfl
              by_cases h6 : x = 6
              · exact Or.inr (Or.inr (Or.inr (Or.inr (Or.inr (Or.inr (Or.inl h6))))))
              · have a6 := lv_neT (a := 6) h6 rfl
                right; right; right; right; right; right; right; omega
/-! a table of answers -/
def tabI (x : Int32) (n : Nat) (l : List Int32) : Int32 := if inI x 0 (nI n) = true then l.getD x.toNatClampNeg 0 else -1
theorem tab_at {x : Int32} (k n : Nat) (l : List Int32) (hx : x = nI k) (hk : k ≤ n) (hn : n < 2 ^ 31) : tabI x n l = l.getD k 0 := by
  rw [hx, tabI, if_pos (nI_inI hk hn), nI_clamp (by omega)]
theorem inI_out {x : Int32} {n : Nat} (hn : n < 2 ^ 31) (h : x.toInt < 0 ∨ (n : Int) < x.toInt) : inI x 0 (nI n) = false := by
  rw [inI, decide_eq_false]
  intro z
  rw [Int32.le_iff_toInt_le, Int32.le_iff_toInt_le, nI_toInt hn, show (0 : Int32).toInt = 0 from by decide] at z
  omega
theorem tab_out {x : Int32} {n : Nat} (l : List Int32) (hn : n < 2 ^ 31) (h : x.toInt < 0 ∨ (n : Int) < x.toInt) : tabI x n l = -1 := by
  rw [tabI, if_neg (by rw [inI_out hn h]; decide)]
/-- the class's scratch, the reference's -/
def FQ (M M' : Mm) : Prop := (∀ a k, ¬ (8 ≤ a ∧ a ≤ 11) → a ≠ 15 → a ≠ 32 → M'.1 a k = M.1 a k) ∧ M'.2 = M.2
theorem FQ.rf {M : Mm} : FQ M M := ⟨fun _ _ _ _ _ => rfl, rfl⟩
theorem FQ.tr {M M1 M2 : Mm} (h1 : FQ M M1) (h2 : FQ M1 M2) : FQ M M2 := ⟨fun a k x y z => (h2.1 a k x y z).trans (h1.1 a k x y z), h2.2.trans h1.2⟩
theorem FQ.bec {q : Nat} {M M' : Mm} (B : BecR 8 q M M') : FQ M M' := ⟨fun a k h _ _ => B.1 a k (by omega), B.2.1⟩
theorem FQ.fn {M M' : Mm} (B : FN 8 M M') : FQ M M' := ⟨fun a k h _ _ => B.1 a k (by omega) (by omega), B.2⟩
theorem FQ.put {M : Mm} {p k : Nat} {x : Int32} (h : (8 ≤ p ∧ p ≤ 11) ∨ p = 15 ∨ p = 32) : FQ M (mput M p k x) := ⟨fun a j h1 h2 h3 => by rw [mpg, if_neg (by omega)], rfl⟩
theorem FQ.fc {M M' : Mm} (h : FQ M M') : FCr M M' := ⟨fun a k ha => h.1 a k (by omega) (by omega) (by omega), h.2⟩
theorem RC.q {M M' : Mm} {σ : Sta} (h : RC M σ) (e : FQ M M') : RC M' σ := h.fq (fun a k h1 h2 h3 _ _ _ => e.1 a k h1 h2 h3)
def FR (M M' : Mm) : Prop := ∀ a k, a ≠ 35 → a ≠ 39 → a ≠ 40 → a ≠ 44 → (a ≠ 33 ∨ k = 6 ∨ k = 11 ∨ k = 25) → M'.1 a k = M.1 a k
theorem FR.rf {M : Mm} : FR M M := fun _ _ _ _ _ _ _ => rfl
theorem FR.tr {M M1 M2 : Mm} (h1 : FR M M1) (h2 : FR M1 M2) : FR M M2 := fun a k x y z w v => (h2 a k x y z w v).trans (h1 a k x y z w v)
theorem FR.st {M M' : Mm} (h : StR M M') : FR M M' := fun a k h1 _ _ _ h5 => h.1 a k h1 (by omega)
theorem FR.f35 {M M' : Mm} (h : F35 M M') : FR M M' := fun a k h1 _ _ _ h5 => h.1 a k (Or.inl h1) (by omega)
theorem FR.put {M : Mm} {p k : Nat} {x : Int32} (h : p = 35 ∨ p = 39 ∨ p = 40 ∨ p = 44 ∨ (p = 33 ∧ 12 ≤ k ∧ k ≤ 24)) : FR M (mput M p k x) := fun a j h1 h2 h3 h4 h5 => by rw [mpg, if_neg (by omega)]
theorem FR.fd {M M' : Mm} (h : FR M M') : FDr M M' := fun a k ha => h a k (by omega) (by omega) (by omega) (by omega) (by omega)
theorem RD.q {M M' : Mm} {σ : Sta} (h : RD M σ) (e : FR M M') : RD M' σ := h.fr (fun a k h1 _ h3 h4 h5 _ h7 => e a k h1 h3 h4 h5 h7)
def nuS (u : Nu) : Ns := (u.1, u.2.1, u.2.2.1, u.2.2.2.1, 0)
theorem CU.cv {M : Mm} {p : Nat} {u : Nu} (h : CU M p u) : CV M p (nuS u) := h.1
theorem RU.rn {M M1 : Mm} {u : Nu} (h : RU (M.1 34) u) (s : StR M M1) : RN M1 u.1 u.2.1 u.2.2.1 u.2.2.2.1 (-4) 0 := by
  obtain ⟨h1, h2, h3, h4, h5, h6, h7, h8⟩ := h
  obtain ⟨-, -, s3, s4, s5⟩ := s
  exact ⟨h1, h2.eq h1 (fun k hk => s3 k (by omega)), by rw [s3 _ (by omega)]; exact h3, ⟨by rw [s3 _ (by omega)]; exact h4.1, h4.2⟩, ⟨by rw [s3 _ (by omega)]; exact h5.1, by omega⟩, ⟨by rw [s3 _ (by omega)]; exact h6.1, h6.2⟩, s4, ⟨by rw [s5]; rfl, by omega⟩⟩
theorem RN.v {M : Mm} {u : Nu} {mo day am ch : Nat} (R : RN M u.1 mo day am (-4) ch) : RV M (u.1, mo, day, am, ch) (-4) u.1.length := ⟨u.1, rfl, R, act_none u.1 0 (by have := R.1; omega)⟩
theorem RU.rv {M M1 : Mm} {u : Nu} (h : RU (M.1 34) u) (s : StR M M1) : RV M1 (nuS u) (-4) u.1.length := (h.rn s).v
theorem RV.rn {M : Mm} {s : Ns} {n : Nat} (V : RV M s (-4) n) : RN M s.1 s.2.1 s.2.2.1 s.2.2.2.1 (-4) s.2.2.2.2 ∧ s.1.length = n := by
  obtain ⟨full, h1, R, h2⟩ := V
  rw [act_none full 0 (by have := R.1; omega)] at h2
  subst h2
  exact ⟨R, h1⟩
theorem runS_day : ∀ (k : Nat) (s : Ns), (runS k s).2.2.1 = s.2.2.1 + k := by
  intro k
  induction k with
  | zero => intro s; rfl
  | succ k ih => intro s; show (runS k (dayS s)).2.2.1 = _; rw [ih, dayS_day]; omega
def mbD (u : Nu) (i : Int32) : Mb := u.1.getD i.toNatClampNeg (0, 0, 0, 0)
theorem mbD_at {u : Nu} {a : Nat} {b : Mb} (hb : u.1[a]? = some b) (ha : a < 2 ^ 31) : mbD u (nI a) = b := by
  unfold mbD; rw [nI_clamp ha, List.getD_eq_getElem?_getD, hb]; rfl
def p_rule (σ : Sta) (w : Int32) : Int32 := tabI w 6 [nI σ.1.1.length, nI σ.1.2.2.1, nI σ.1.2.1, bI (car σ.1.2.1 σ.1.1), bI (agr 0 σ.1.2.1 σ.1.1) + 2 * bI (agr 1 σ.1.2.1 σ.1.1), orB (fun b => vt b σ.1.2.1) 0 0 σ.1.1, nI σ.1.2.2.2.1]
def p_member (σ : Sta) (i w : Int32) : Int32 := if inI i 0 (nI σ.1.1.length - 1) = true then tabI w 5 [nI (mbD σ.1 i).1, nI (mbD σ.1 i).2.1, nI (mbD σ.1 i).2.2.1, nI (mbD σ.1 i).2.2.2, bI (vt (mbD σ.1 i) σ.1.2.1), 2 + iI (pl (mbD σ.1 i) σ.1.2.1)] else -1
def p_house (σ : Sta) (h w : Int32) : Int32 := if inI h 0 1 = true then tabI w 3 [orB (inH h.toNatClampNeg) 0 0 σ.1.1, nI (cY h.toNatClampNeg σ.1.2.1 σ.1.1), nI (cN h.toNatClampNeg σ.1.2.1 σ.1.1), 20 + iI (sP h.toNatClampNeg σ.1.2.1 σ.1.1)] else -1
def szI (s : Sh) : Int32 := match s with
  | none => -4
  | some x => nI x.2.1
def p_count (σ : Sta) (w : Int32) : Int32 := tabI w 5 [nI σ.1.2.2.2.2.length, bI (σ.2.1 0).1 + bI (σ.2.1 1).1, nI σ.2.2.1.length, szI (σ.2.2.2.2.2 0), nI (sumK 2 σ.1.1), nI (sumK 3 σ.1.1)]
/-- how many bits -/
def usI (x y : Int32) : Int32 := (x.toUInt32 >>> (y.toUInt32 &&& Int32.toUInt32 31)).toInt32
def bc1 (x : Int32) : Int32 := x - (usI x 1 &&& 1431655765)
def bc2 (x : Int32) : Int32 := (x &&& 858993459) + (usI x 2 &&& 858993459)
def bc3 (x : Int32) : Int32 := (x + usI x 4) &&& 252645135
def bc4 (x : Int32) : Int32 := x + usI x 8
def bc5 (x : Int32) : Int32 := x + usI x 16
def bcI (x : Int32) : Int32 := bc5 (bc4 (bc3 (bc2 (bc1 x)))) &&& 63
def pop : Nat → Nat → Nat
  | 0, _ => 0
  | k + 1, n => n % 2 + pop k (n / 2)
theorem bc_d : ∀ n, n < 64 → bcI (nI n) = nI (pop 6 n) := by decide +kernel
def num (f : Mb → Bool) : List Mb → Nat
  | [] => 0
  | b :: bs => (if f b = true then 1 else 0) + 2 * num f bs
theorem num_lt (f : Mb → Bool) : ∀ ms : List Mb, num f ms < 2 ^ ms.length := by
  intro ms
  induction ms with
  | nil => show 0 < 1; decide
  | cons b ms ih => simp only [num, List.length_cons, Nat.pow_succ]; split <;> omega
theorem pop_num (f : Mb → Bool) : ∀ (k : Nat) (ms : List Mb), ms.length ≤ k → pop k (num f ms) = ms.countP f := by
  intro k
  induction k with
  | zero => intro ms h; have : ms = [] := List.length_eq_zero_iff.mp (by omega); subst this; rfl
  | succ k ih =>
    intro ms h
    cases ms with
    | nil =>
      have h0 : ∀ k, pop k 0 = 0 := by
        intro k
        induction k with
        | zero => rfl
        | succ k ih => show 0 % 2 + pop k (0 / 2) = 0; rw [Nat.zero_div, ih]
      exact h0 _
    | cons b ms =>
      simp only [num, pop, List.countP_cons]
      have e1 : ((if f b = true then 1 else 0) + 2 * num f ms) % 2 = if f b = true then 1 else 0 := by split <;> omega
      have e2 : ((if f b = true then 1 else 0) + 2 * num f ms) / 2 = num f ms := by split <;> omega
      rw [e1, e2, ih ms (by simpa using h)]
      omega
theorem or_d : ∀ i, i < 6 → ∀ a, a < 64 → a < 2 ^ i → (nI a ||| 1 <<< (nI i &&& 31) = nI (a + 2 ^ i)) := by decide +kernel
theorem orB_num (f : Mb → Bool) : ∀ (ms : List Mb) (i a : Nat), i + ms.length ≤ 6 → a < 2 ^ i → orB f i (nI a) ms = nI (a + 2 ^ i * num f ms) := by
  intro ms
  induction ms with
  | nil => intro i a _ _; simp [orB, num]
  | cons b ms ih =>
    intro i a hi ha
    simp only [List.length_cons] at hi
    have hp : 2 ^ i ≤ 2 ^ 5 := Nat.pow_le_pow_right (by decide) (by omega)
    cases hb : f b with
    | true =>
      rw [orB_t hb, or_d i (by omega) a (by omega) ha, ih (i + 1) _ (by omega) (by rw [Nat.pow_succ]; omega)]
      simp only [num, hb, if_true, Nat.pow_succ]
      congr 1
      rw [Nat.mul_add, Nat.mul_one, Nat.mul_assoc, Nat.add_assoc]
    | false =>
      rw [orB_f hb, ih (i + 1) a (by omega) (by rw [Nat.pow_succ]; omega)]
      simp only [num, hb, Nat.pow_succ]
      congr 1
      simp [Nat.mul_assoc]
theorem orB_n {f : Mb → Bool} {ms : List Mb} (h : ms.length ≤ 6) : orB f 0 0 ms = nI (num f ms) := by
  have := orB_num f ms 0 0 (by omega) (by decide)
  rw [show (0 : Int32) = nI 0 from rfl, this]
  congr 1
  omega
theorem and_d : ∀ a, a < 64 → ∀ b, b < 64 → nI a &&& nI b = nI (a &&& b) := by decide +kernel
theorem xor_d : ∀ a, a < 64 → ∀ b, b < 64 → nI a &&& (nI b ^^^ -1) = nI (a - (a &&& b)) := by decide +kernel
theorem land_d : ∀ a, a < 32 → ∀ b, b < 32 → ∀ x, x < 2 → ∀ y, y < 2 → (x + 2 * a) &&& (y + 2 * b) = x * y + 2 * (a &&& b) := by decide +kernel
theorem num_and (f g : Mb → Bool) : ∀ ms : List Mb, ms.length ≤ 6 → num f ms &&& num g ms = num (fun b => f b && g b) ms := by
  intro ms
  induction ms with
  | nil => intro _; show 0 &&& 0 = 0; decide
  | cons b ms ih =>
    intro h
    simp only [List.length_cons] at h
    have hf := num_lt f ms
    have hg := num_lt g ms
    have hp : 2 ^ ms.length ≤ 2 ^ 5 := Nat.pow_le_pow_right (by decide) (by omega)
    simp only [num]
    rw [land_d _ (by omega) _ (by omega) _ (by split <;> omega) _ (by split <;> omega), ih (by omega)]
    by_cases q1 : f b = true <;> by_cases q2 : g b = true <;> simp [q1, q2]
theorem num_sub (f g : Mb → Bool) : ∀ ms : List Mb, num f ms - num (fun b => f b && g b) ms = num (fun b => f b && !g b) ms ∧ num (fun b => f b && g b) ms ≤ num f ms := by
  intro ms
  induction ms with
  | nil => exact ⟨rfl, Nat.le_refl _⟩
  | cons b ms ih =>
    obtain ⟨h1, h2⟩ := ih
    simp only [num]
    by_cases q1 : f b = true <;> by_cases q2 : g b = true <;> simp [q1, q2] <;> omega
theorem num_64 {f : Mb → Bool} {ms : List Mb} (h : ms.length ≤ 6) : num f ms < 64 := by
  have := num_lt f ms
  have hp : 2 ^ ms.length ≤ 2 ^ 6 := Nat.pow_le_pow_right (by decide) (by omega)
  omega
theorem bc_and {f g : Mb → Bool} {ms : List Mb} (h : ms.length ≤ 6) : bcI (orB f 0 0 ms &&& orB g 0 0 ms) = nI (ms.countP (fun b => f b && g b)) := by
  rw [orB_n h, orB_n h, and_d _ (num_64 h) _ (num_64 h), num_and f g ms h, bc_d _ (num_64 h), pop_num _ 6 ms h]
theorem bc_not {f g : Mb → Bool} {ms : List Mb} (h : ms.length ≤ 6) : bcI (orB f 0 0 ms &&& (orB g 0 0 ms ^^^ -1)) = nI (ms.countP (fun b => f b && !g b)) := by
  rw [orB_n h, orB_n h, xor_d _ (num_64 h) _ (num_64 h), num_and f g ms h, (num_sub f g ms).1, bc_d _ (num_64 h), pop_num _ 6 ms h]
theorem bc_one {f : Mb → Bool} {ms : List Mb} (h : ms.length ≤ 6) : bcI (orB f 0 0 ms) = nI (ms.countP f) := by
  rw [orB_n h, bc_d _ (num_64 h), pop_num _ 6 ms h]
set_option maxHeartbeats 4000000 in
theorem zJ6_bitCount_0f7a4 (l : Launch) {M : Mm} {x : Int32} : CFz l 0 yJ6_bitCount_0f7a4 cJ6_bitCount_0f7a4 1 (some .int) [.int x] M (some (.int (bcI x))) (M) := by
  refine Clz.on RJ6 rfl (by decide +kernel) (Nat.le_of_ble_eq_true rfl) (fun X hL hO hr => ?_)
  show Gz X 0 [.int x] [] M
  refine r_iload_n hO dJ6_bitCount_0f7a4_0 rfl ?_
  refine r_iload_n hO dJ6_bitCount_0f7a4_1 rfl ?_
  refine r_iconst hO dJ6_bitCount_0f7a4_2 ic_1 ?_
  refine r_iushr hO dJ6_bitCount_0f7a4_3 ?_
  refine r_ldcw hO dJ6_bitCount_0f7a4_4 wRJ6_265 ?_
  refine r_iand hO dJ6_bitCount_0f7a4_7 ?_
  refine r_isub hO dJ6_bitCount_0f7a4_8 ?_
  refine s_istore_n hL hO dJ6_bitCount_0f7a4_9 (Nat.le_of_ble_eq_true rfl) rfl ?_
  refine r_iload_n hO dJ6_bitCount_0f7a4_10 rfl ?_
  refine r_ldcw hO dJ6_bitCount_0f7a4_11 wRJ6_266 ?_
  refine r_iand hO dJ6_bitCount_0f7a4_14 ?_
  refine r_iload_n hO dJ6_bitCount_0f7a4_15 rfl ?_
  refine r_iconst hO dJ6_bitCount_0f7a4_16 ic_2 ?_
  refine r_iushr hO dJ6_bitCount_0f7a4_17 ?_
  refine r_ldcw hO dJ6_bitCount_0f7a4_18 wRJ6_266 ?_
  refine r_iand hO dJ6_bitCount_0f7a4_21 ?_
  refine r_iadd hO dJ6_bitCount_0f7a4_22 ?_
  refine s_istore_n hL hO dJ6_bitCount_0f7a4_23 (Nat.le_of_ble_eq_true rfl) rfl ?_
  refine r_iload_n hO dJ6_bitCount_0f7a4_24 rfl ?_
  refine r_iload_n hO dJ6_bitCount_0f7a4_25 rfl ?_
  refine r_iconst hO dJ6_bitCount_0f7a4_26 ic_4 ?_
  refine r_iushr hO dJ6_bitCount_0f7a4_27 ?_
  refine r_iadd hO dJ6_bitCount_0f7a4_28 ?_
  refine r_ldcw hO dJ6_bitCount_0f7a4_29 wRJ6_267 ?_
  refine r_iand hO dJ6_bitCount_0f7a4_32 ?_
  refine s_istore_n hL hO dJ6_bitCount_0f7a4_33 (Nat.le_of_ble_eq_true rfl) rfl ?_
  refine r_iload_n hO dJ6_bitCount_0f7a4_34 rfl ?_
  refine r_iload_n hO dJ6_bitCount_0f7a4_35 rfl ?_
  refine r_bipush hO dJ6_bitCount_0f7a4_36 bc_8 ?_
  refine r_iushr hO dJ6_bitCount_0f7a4_38 ?_
  refine r_iadd hO dJ6_bitCount_0f7a4_39 ?_
  refine s_istore_n hL hO dJ6_bitCount_0f7a4_40 (Nat.le_of_ble_eq_true rfl) rfl ?_
  refine r_iload_n hO dJ6_bitCount_0f7a4_41 rfl ?_
  refine r_iload_n hO dJ6_bitCount_0f7a4_42 rfl ?_
  refine r_bipush hO dJ6_bitCount_0f7a4_43 bc_16 ?_
  refine r_iushr hO dJ6_bitCount_0f7a4_45 ?_
  refine r_iadd hO dJ6_bitCount_0f7a4_46 ?_
  refine s_istore_n hL hO dJ6_bitCount_0f7a4_47 (Nat.le_of_ble_eq_true rfl) rfl ?_
  refine r_iload_n hO dJ6_bitCount_0f7a4_48 rfl ?_
  refine r_bipush hO dJ6_bitCount_0f7a4_49 bc_63 ?_
  refine r_iand hO dJ6_bitCount_0f7a4_51 ?_
  exact r_ireturn hO hr dJ6_bitCount_0f7a4_52 rfl ⟨rfl, rfl⟩
set_option maxHeartbeats 4000000 in
theorem zX4_rule (l : Launch) {M : Mm} {σ : Sta} (h : RC M σ) {w : Int32} : Clz l 3 yX4_rule cX4_rule 2 (some .int) [.ref 0, .int w] M (fun r M' => r = some (.int (p_rule σ w)) ∧ RC M' σ ∧ FCr M M') := by
  refine Clz.on RX4 rfl (by decide +kernel) (Nat.le_of_ble_eq_true rfl) (fun X hL hO hr => ?_)
  show Gz X 0 [.ref 0, .int w] [] M
  refine r_iload_n hO dX4_rule_0 rfl ?_
  rcases sw_0_6 (w) with sw1 | sw1 | sw1 | sw1 | sw1 | sw1 | sw1 | sw1
  · refine r_tabIn 44 hO dX4_rule_1 (by rw [sw1]; decide) (by rw [sw1]; decide) (by rw [sw1]; rfl) (by decide) ?_
    refine r_aload_n hO dX4_rule_44 rfl ?_
    refine r_getR 4 hO dX4_rule_45 fRX4_26 rfl ?_
    refine r_getI hO dX4_rule_48 fRX4_84 rfl ?_
    exact r_ireturn hO hr dX4_rule_51 rfl ⟨sI (by (first | unfold p_rule | unfold p_count); rw [tab_at 0 6 _ (show _ = nI 0 from sw1) (by decide) (by decide)]; exact h.1.1.2.2.1), h, FCr.rf⟩
  · refine r_tabIn 52 hO dX4_rule_1 (by rw [sw1]; decide) (by rw [sw1]; decide) (by rw [sw1]; rfl) (by decide) ?_
    refine r_aload_n hO dX4_rule_52 rfl ?_
    refine r_getR 4 hO dX4_rule_53 fRX4_26 rfl ?_
    refine r_getI hO dX4_rule_56 fRX4_87 rfl ?_
    exact r_ireturn hO hr dX4_rule_59 rfl ⟨sI (by (first | unfold p_rule | unfold p_count); rw [tab_at 1 6 _ (show _ = nI 1 from sw1) (by decide) (by decide)]; exact h.1.1.2.2.2.2.1.1), h, FCr.rf⟩
  · refine r_tabIn 60 hO dX4_rule_1 (by rw [sw1]; decide) (by rw [sw1]; decide) (by rw [sw1]; rfl) (by decide) ?_
    refine r_aload_n hO dX4_rule_60 rfl ?_
    refine r_getR 4 hO dX4_rule_61 fRX4_26 rfl ?_
    refine r_getI hO dX4_rule_64 fRX4_90 rfl ?_
    exact r_ireturn hO hr dX4_rule_67 rfl ⟨sI (by (first | unfold p_rule | unfold p_count); rw [tab_at 2 6 _ (show _ = nI 2 from sw1) (by decide) (by decide)]; exact h.1.1.2.2.2.1.1), h, FCr.rf⟩
  · refine r_tabIn 68 hO dX4_rule_1 (by rw [sw1]; decide) (by rw [sw1]; decide) (by rw [sw1]; rfl) (by decide) ?_
    refine r_aload_n hO dX4_rule_68 rfl ?_
    refine r_getR 4 hO dX4_rule_69 fRX4_26 rfl ?_
    refine r_fV hO dX4_rule_72 kRX4_93 miX0_isCarried (zX0_isCarried _ (show nuP 4 from Or.inl rfl) h.1.1) ⟨Nat.le_of_ble_eq_true rfl, Nat.le_of_ble_eq_true rfl, rfl, Nat.le_of_ble_eq_true rfl⟩ rfl rfl ?_
    refine r_fS hO dX4_rule_75 kRX4_97 msX4_bit (zX4_bit _ (car σ.1.2.1 σ.1.1) rfl) ⟨Nat.le_of_ble_eq_true rfl, Nat.le_of_ble_eq_true rfl, rfl, Nat.le_of_ble_eq_true rfl⟩ rfl ?_
    exact r_ireturn hO hr dX4_rule_78 rfl ⟨sI (by (first | unfold p_rule | unfold p_count); rw [tab_at 3 6 _ (show _ = nI 3 from sw1) (by decide) (by decide)]; exact rfl), h, FCr.rf⟩
  · refine r_tabIn 79 hO dX4_rule_1 (by rw [sw1]; decide) (by rw [sw1]; decide) (by rw [sw1]; rfl) (by decide) ?_
    refine r_aload_n hO dX4_rule_79 rfl ?_
    refine r_getR 4 hO dX4_rule_80 fRX4_26 rfl ?_
    refine r_fV hO dX4_rule_83 kRX4_101 miX0_agreeingHouses (zX0_agreeingHouses _ (show nuP 4 from Or.inl rfl) h.1.1) ⟨Nat.le_of_ble_eq_true rfl, Nat.le_of_ble_eq_true rfl, rfl, Nat.le_of_ble_eq_true rfl⟩ rfl rfl ?_
    exact r_ireturn hO hr dX4_rule_86 rfl ⟨sI (by (first | unfold p_rule | unfold p_count); rw [tab_at 4 6 _ (show _ = nI 4 from sw1) (by decide) (by decide)]; exact rfl), h, FCr.rf⟩
  · refine r_tabIn 87 hO dX4_rule_1 (by rw [sw1]; decide) (by rw [sw1]; decide) (by rw [sw1]; rfl) (by decide) ?_
    refine r_aload_n hO dX4_rule_87 rfl ?_
    refine r_getR 4 hO dX4_rule_88 fRX4_26 rfl ?_
    refine r_aload_n hO dX4_rule_91 rfl ?_
    refine r_getR 4 hO dX4_rule_92 fRX4_26 rfl ?_
    refine r_getI hO dX4_rule_95 fRX4_90 rfl ?_
    refine r_fV hO dX4_rule_98 kRX4_105 miX0_votersFor (zX0_votersFor _ (show nuP 4 from Or.inl rfl) h.1.1 σ.1.2.1 h.1.1.2.2.2.1.1 h.1.1.2.2.2.1.2) ⟨Nat.le_of_ble_eq_true rfl, Nat.le_of_ble_eq_true rfl, rfl, Nat.le_of_ble_eq_true rfl⟩ rfl rfl ?_
    exact r_ireturn hO hr dX4_rule_101 rfl ⟨sI (by (first | unfold p_rule | unfold p_count); rw [tab_at 5 6 _ (show _ = nI 5 from sw1) (by decide) (by decide)]; exact rfl), h, FCr.rf⟩
  · refine r_tabIn 102 hO dX4_rule_1 (by rw [sw1]; decide) (by rw [sw1]; decide) (by rw [sw1]; rfl) (by decide) ?_
    refine r_aload_n hO dX4_rule_102 rfl ?_
    refine r_getR 4 hO dX4_rule_103 fRX4_26 rfl ?_
    refine r_getI hO dX4_rule_106 fRX4_109 rfl ?_
    exact r_ireturn hO hr dX4_rule_109 rfl ⟨sI (by (first | unfold p_rule | unfold p_count); rw [tab_at 6 6 _ (show _ = nI 6 from sw1) (by decide) (by decide)]; exact h.1.1.2.2.2.2.2.1), h, FCr.rf⟩
  · refine r_tabOut 110 hO dX4_rule_1 sw1 (by decide) ?_
    refine r_iconst hO dX4_rule_110 ic_m1 ?_
    exact r_ireturn hO hr dX4_rule_111 rfl ⟨sI (by (first | unfold p_rule | unfold p_count); rw [tab_out _ (by decide) sw1]), h, FCr.rf⟩
set_option maxHeartbeats 4000000 in
theorem zX5_rule (l : Launch) {M : Mm} {σ : Sta} (h : RD M σ) {w : Int32} : Clz l 6 yX5_rule cX5_rule 2 (some .int) [.ref 33, .int w] M (fun r M' => r = some (.int (p_rule σ w)) ∧ RD M' σ ∧ FDr M M') := by
  refine Clz.on RX5 rfl (by decide +kernel) (Nat.le_of_ble_eq_true rfl) (fun X hL hO hr => ?_)
  show Gz X 0 [.ref 33, .int w] [] M
  refine r_aload_n hO dX5_rule_0 rfl ?_
  refine r_callV hO dX5_rule_1 kRX5_196 miX5_starts (zX5_starts _) ⟨Nat.le_of_ble_eq_true rfl, Nat.le_of_ble_eq_true rfl, rfl, Nat.le_of_ble_eq_true rfl⟩ rfl rfl (fun r M1 hpo => ?_)
  obtain ⟨rfl, hst⟩ := hpo
  have R := h.1.rn hst
  have ha : act (-4) 0 σ.1.1 = σ.1.1 := act_none _ 0 (by have := R.1; omega)
  refine r_iload_n hO dX5_rule_4 rfl ?_
  rcases sw_0_6 (w) with sw5 | sw5 | sw5 | sw5 | sw5 | sw5 | sw5 | sw5
  · refine r_tabIn 48 hO dX5_rule_5 (by rw [sw5]; decide) (by rw [sw5]; decide) (by rw [sw5]; rfl) (by decide) ?_
    refine r_aload_n hO dX5_rule_48 rfl ?_
    refine r_getR 34 hO dX5_rule_49 fRX5_7 rfl ?_
    refine r_bipush hO dX5_rule_52 bc_24 ?_
    refine s_iald 123 hO dX5_rule_54 rfl (Nat.le_of_ble_eq_true rfl) 24 (by decide) (by decide) ?_
    exact r_ireturn hO hr dX5_rule_55 rfl ⟨sI (by (first | unfold p_rule | unfold p_count); rw [tab_at 0 6 _ (show _ = nI 0 from sw5) (by decide) (by decide)]; exact (by rw [hst.1 _ _ (by decide) (by decide)]; exact h.1.2.2.1)), h.q (FR.st hst), (FR.st hst).fd⟩
  · refine r_tabIn 56 hO dX5_rule_5 (by rw [sw5]; decide) (by rw [sw5]; decide) (by rw [sw5]; rfl) (by decide) ?_
    refine r_aload_n hO dX5_rule_56 rfl ?_
    refine r_getR 34 hO dX5_rule_57 fRX5_7 rfl ?_
    refine r_bipush hO dX5_rule_60 bc_26 ?_
    refine s_iald 123 hO dX5_rule_62 rfl (Nat.le_of_ble_eq_true rfl) 26 (by decide) (by decide) ?_
    exact r_ireturn hO hr dX5_rule_63 rfl ⟨sI (by (first | unfold p_rule | unfold p_count); rw [tab_at 1 6 _ (show _ = nI 1 from sw5) (by decide) (by decide)]; exact (by rw [hst.1 _ _ (by decide) (by decide)]; exact h.1.2.2.2.2.1.1)), h.q (FR.st hst), (FR.st hst).fd⟩
  · refine r_tabIn 64 hO dX5_rule_5 (by rw [sw5]; decide) (by rw [sw5]; decide) (by rw [sw5]; rfl) (by decide) ?_
    refine r_aload_n hO dX5_rule_64 rfl ?_
    refine r_getR 34 hO dX5_rule_65 fRX5_7 rfl ?_
    refine r_bipush hO dX5_rule_68 bc_25 ?_
    refine s_iald 123 hO dX5_rule_70 rfl (Nat.le_of_ble_eq_true rfl) 25 (by decide) (by decide) ?_
    exact r_ireturn hO hr dX5_rule_71 rfl ⟨sI (by (first | unfold p_rule | unfold p_count); rw [tab_at 2 6 _ (show _ = nI 2 from sw5) (by decide) (by decide)]; exact (by rw [hst.1 _ _ (by decide) (by decide)]; exact h.1.2.2.2.1.1)), h.q (FR.st hst), (FR.st hst).fd⟩
  · refine r_tabIn 72 hO dX5_rule_5 (by rw [sw5]; decide) (by rw [sw5]; decide) (by rw [sw5]; rfl) (by decide) ?_
    refine r_aload_n hO dX5_rule_72 rfl ?_
    refine r_fV hO dX5_rule_73 kRX5_185 miX5_isCarried (zX5_isCarried _ R) ⟨Nat.le_of_ble_eq_true rfl, Nat.le_of_ble_eq_true rfl, rfl, Nat.le_of_ble_eq_true rfl⟩ rfl rfl ?_
    refine r_fS hO dX5_rule_76 kRX5_153 msX5_flag (zX5_flag _ (car σ.1.2.1 (act (-4) 0 σ.1.1)) rfl) ⟨Nat.le_of_ble_eq_true rfl, Nat.le_of_ble_eq_true rfl, rfl, Nat.le_of_ble_eq_true rfl⟩ rfl ?_
    exact r_ireturn hO hr dX5_rule_79 rfl ⟨sI (by (first | unfold p_rule | unfold p_count); rw [tab_at 3 6 _ (show _ = nI 3 from sw5) (by decide) (by decide)]; exact (by rw [ha]; rfl)), h.q (FR.st hst), (FR.st hst).fd⟩
  · refine r_tabIn 80 hO dX5_rule_5 (by rw [sw5]; decide) (by rw [sw5]; decide) (by rw [sw5]; rfl) (by decide) ?_
    refine r_aload_n hO dX5_rule_80 rfl ?_
    refine r_fV hO dX5_rule_81 kRX5_199 miX5_agreeing (zX5_agreeing _ R) ⟨Nat.le_of_ble_eq_true rfl, Nat.le_of_ble_eq_true rfl, rfl, Nat.le_of_ble_eq_true rfl⟩ rfl rfl ?_
    exact r_ireturn hO hr dX5_rule_84 rfl ⟨sI (by (first | unfold p_rule | unfold p_count); rw [tab_at 4 6 _ (show _ = nI 4 from sw5) (by decide) (by decide)]; exact (by rw [ha]; rfl)), h.q (FR.st hst), (FR.st hst).fd⟩
  · refine r_tabIn 85 hO dX5_rule_5 (by rw [sw5]; decide) (by rw [sw5]; decide) (by rw [sw5]; rfl) (by decide) ?_
    refine r_aload_n hO dX5_rule_85 rfl ?_
    refine r_fV hO dX5_rule_86 kRX5_202 miX5_votingNow (zX5_votingNow _ R) ⟨Nat.le_of_ble_eq_true rfl, Nat.le_of_ble_eq_true rfl, rfl, Nat.le_of_ble_eq_true rfl⟩ rfl rfl ?_
    exact r_ireturn hO hr dX5_rule_89 rfl ⟨sI (by (first | unfold p_rule | unfold p_count); rw [tab_at 5 6 _ (show _ = nI 5 from sw5) (by decide) (by decide)]; exact rfl), h.q (FR.st hst), (FR.st hst).fd⟩
  · refine r_tabIn 90 hO dX5_rule_5 (by rw [sw5]; decide) (by rw [sw5]; decide) (by rw [sw5]; rfl) (by decide) ?_
    refine r_aload_n hO dX5_rule_90 rfl ?_
    refine r_getR 34 hO dX5_rule_91 fRX5_7 rfl ?_
    refine r_bipush hO dX5_rule_94 bc_27 ?_
    refine s_iald 123 hO dX5_rule_96 rfl (Nat.le_of_ble_eq_true rfl) 27 (by decide) (by decide) ?_
    exact r_ireturn hO hr dX5_rule_97 rfl ⟨sI (by (first | unfold p_rule | unfold p_count); rw [tab_at 6 6 _ (show _ = nI 6 from sw5) (by decide) (by decide)]; exact (by rw [hst.1 _ _ (by decide) (by decide)]; exact h.1.2.2.2.2.2.1.1)), h.q (FR.st hst), (FR.st hst).fd⟩
  · refine r_tabOut 98 hO dX5_rule_5 sw5 (by decide) ?_
    refine r_iconst hO dX5_rule_98 ic_m1 ?_
    exact r_ireturn hO hr dX5_rule_99 rfl ⟨sI (by (first | unfold p_rule | unfold p_count); rw [tab_out _ (by decide) sw5]), h.q (FR.st hst), (FR.st hst).fd⟩
set_option maxHeartbeats 4000000 in
theorem zX4_member (l : Launch) {M : Mm} {σ : Sta} (h : RC M σ) {i w : Int32} : Clz l 2 yX4_member cX4_member 3 (some .int) [.ref 0, .int i, .int w] M (fun r M' => r = some (.int (p_member σ i w)) ∧ RC M' σ ∧ FCr M M') := by
  refine Clz.on RX4 rfl (by decide +kernel) (Nat.le_of_ble_eq_true rfl) (fun X hL hO hr => ?_)
  show Gz X 0 [.ref 0, .int i, .int w] [] M
  refine r_aload_n hO dX4_member_0 rfl ?_
  refine r_iload_n hO dX4_member_1 rfl ?_
  refine r_fV hO dX4_member_2 kRX4_112 miX4_isMember (zX4_isMember _ h) ⟨Nat.le_of_ble_eq_true rfl, Nat.le_of_ble_eq_true rfl, rfl, Nat.le_of_ble_eq_true rfl⟩ rfl rfl ?_
  refine r_if_ne 10 hO dX4_member_5 (by decide) (fun h5 => ?_) (fun h5 => ?_)
  · rw [bI_n0] at h5
    obtain ⟨a, ha, rfl⟩ := inI_mem (by have := h.1.1.1; omega) h5
    have hb : σ.1.1[a]? = some σ.1.1[a] := List.getElem?_eq_getElem ha
    have e : p_member σ (nI a) w = tabI w 5 [nI (σ.1.1[a]).1, nI (σ.1.1[a]).2.1, nI (σ.1.1[a]).2.2.1, nI (σ.1.1[a]).2.2.2, bI (vt (σ.1.1[a]) σ.1.2.1), 2 + iI (pl (σ.1.1[a]) σ.1.2.1)] := by unfold p_member; rw [if_pos h5, mbD_at hb (by have := h.1.1.1; omega)]
    refine r_iload_n hO dX4_member_10 rfl ?_
    rcases sw_0_5 (w) with sw11 | sw11 | sw11 | sw11 | sw11 | sw11 | sw11
    · refine r_tabIn 48 hO dX4_member_11 (by rw [sw11]; decide) (by rw [sw11]; decide) (by rw [sw11]; rfl) (by decide) ?_
      refine r_aload_n hO dX4_member_48 rfl ?_
      refine r_getR 4 hO dX4_member_49 fRX4_26 rfl ?_
      refine r_iload_n hO dX4_member_52 rfl ?_
      refine r_iload_n hO dX4_member_53 rfl ?_
      refine r_fV hO dX4_member_54 kRX4_116 miX0_part (zX0_partR _ (show nuP 4 from Or.inl rfl) h.1.1 0 hb rfl sw11 (by decide)) ⟨Nat.le_of_ble_eq_true rfl, Nat.le_of_ble_eq_true rfl, rfl, Nat.le_of_ble_eq_true rfl⟩ rfl rfl ?_
      exact r_ireturn hO hr dX4_member_57 rfl ⟨sI (by rw [e, tab_at 0 5 _ (show _ = nI 0 from sw11) (by decide) (by decide)]; exact rfl), h, FCr.rf⟩
    · refine r_tabIn 48 hO dX4_member_11 (by rw [sw11]; decide) (by rw [sw11]; decide) (by rw [sw11]; rfl) (by decide) ?_
      refine r_aload_n hO dX4_member_48 rfl ?_
      refine r_getR 4 hO dX4_member_49 fRX4_26 rfl ?_
      refine r_iload_n hO dX4_member_52 rfl ?_
      refine r_iload_n hO dX4_member_53 rfl ?_
      refine r_fV hO dX4_member_54 kRX4_116 miX0_part (zX0_partR _ (show nuP 4 from Or.inl rfl) h.1.1 1 hb rfl sw11 (by decide)) ⟨Nat.le_of_ble_eq_true rfl, Nat.le_of_ble_eq_true rfl, rfl, Nat.le_of_ble_eq_true rfl⟩ rfl rfl ?_
      exact r_ireturn hO hr dX4_member_57 rfl ⟨sI (by rw [e, tab_at 1 5 _ (show _ = nI 1 from sw11) (by decide) (by decide)]; exact rfl), h, FCr.rf⟩
    · refine r_tabIn 48 hO dX4_member_11 (by rw [sw11]; decide) (by rw [sw11]; decide) (by rw [sw11]; rfl) (by decide) ?_
      refine r_aload_n hO dX4_member_48 rfl ?_
      refine r_getR 4 hO dX4_member_49 fRX4_26 rfl ?_
      refine r_iload_n hO dX4_member_52 rfl ?_
      refine r_iload_n hO dX4_member_53 rfl ?_
      refine r_fV hO dX4_member_54 kRX4_116 miX0_part (zX0_partR _ (show nuP 4 from Or.inl rfl) h.1.1 2 hb rfl sw11 (by decide)) ⟨Nat.le_of_ble_eq_true rfl, Nat.le_of_ble_eq_true rfl, rfl, Nat.le_of_ble_eq_true rfl⟩ rfl rfl ?_
      exact r_ireturn hO hr dX4_member_57 rfl ⟨sI (by rw [e, tab_at 2 5 _ (show _ = nI 2 from sw11) (by decide) (by decide)]; exact rfl), h, FCr.rf⟩
    · refine r_tabIn 48 hO dX4_member_11 (by rw [sw11]; decide) (by rw [sw11]; decide) (by rw [sw11]; rfl) (by decide) ?_
      refine r_aload_n hO dX4_member_48 rfl ?_
      refine r_getR 4 hO dX4_member_49 fRX4_26 rfl ?_
      refine r_iload_n hO dX4_member_52 rfl ?_
      refine r_iload_n hO dX4_member_53 rfl ?_
      refine r_fV hO dX4_member_54 kRX4_116 miX0_part (zX0_partR _ (show nuP 4 from Or.inl rfl) h.1.1 3 hb rfl sw11 (by decide)) ⟨Nat.le_of_ble_eq_true rfl, Nat.le_of_ble_eq_true rfl, rfl, Nat.le_of_ble_eq_true rfl⟩ rfl rfl ?_
      exact r_ireturn hO hr dX4_member_57 rfl ⟨sI (by rw [e, tab_at 3 5 _ (show _ = nI 3 from sw11) (by decide) (by decide)]; exact rfl), h, FCr.rf⟩
    · refine r_tabIn 58 hO dX4_member_11 (by rw [sw11]; decide) (by rw [sw11]; decide) (by rw [sw11]; rfl) (by decide) ?_
      refine r_aload_n hO dX4_member_58 rfl ?_
      refine r_getR 4 hO dX4_member_59 fRX4_26 rfl ?_
      refine r_iload_n hO dX4_member_62 rfl ?_
      refine r_aload_n hO dX4_member_63 rfl ?_
      refine r_getR 4 hO dX4_member_64 fRX4_26 rfl ?_
      refine r_getI hO dX4_member_67 fRX4_90 rfl ?_
      refine r_fV hO dX4_member_70 kRX4_120 miX0_votesFor (zX0_votesR _ (show nuP 4 from Or.inl rfl) h.1.1 σ.1.2.1 hb rfl h.1.1.2.2.2.1.1 h.1.1.2.2.2.1.2) ⟨Nat.le_of_ble_eq_true rfl, Nat.le_of_ble_eq_true rfl, rfl, Nat.le_of_ble_eq_true rfl⟩ rfl rfl ?_
      refine r_fS hO dX4_member_73 kRX4_97 msX4_bit (zX4_bit _ (vt (σ.1.1[a]) σ.1.2.1) rfl) ⟨Nat.le_of_ble_eq_true rfl, Nat.le_of_ble_eq_true rfl, rfl, Nat.le_of_ble_eq_true rfl⟩ rfl ?_
      exact r_ireturn hO hr dX4_member_76 rfl ⟨sI (by rw [e, tab_at 4 5 _ (show _ = nI 4 from sw11) (by decide) (by decide)]; exact rfl), h, FCr.rf⟩
    · refine r_tabIn 77 hO dX4_member_11 (by rw [sw11]; decide) (by rw [sw11]; decide) (by rw [sw11]; rfl) (by decide) ?_
      refine r_iconst hO dX4_member_77 ic_2 ?_
      refine r_aload_n hO dX4_member_78 rfl ?_
      refine r_getR 4 hO dX4_member_79 fRX4_26 rfl ?_
      refine r_iload_n hO dX4_member_82 rfl ?_
      refine r_fV hO dX4_member_83 kRX4_123 miX0_pull (zX0_pullR _ (show nuP 4 from Or.inl rfl) h.1.1 hb rfl) ⟨Nat.le_of_ble_eq_true rfl, Nat.le_of_ble_eq_true rfl, rfl, Nat.le_of_ble_eq_true rfl⟩ rfl rfl ?_
      refine r_iadd hO dX4_member_86 ?_
      exact r_ireturn hO hr dX4_member_87 rfl ⟨sI (by rw [e, tab_at 5 5 _ (show _ = nI 5 from sw11) (by decide) (by decide)]; exact rfl), h, FCr.rf⟩
    · refine r_tabOut 88 hO dX4_member_11 sw11 (by decide) ?_
      refine r_iconst hO dX4_member_88 ic_m1 ?_
      exact r_ireturn hO hr dX4_member_89 rfl ⟨sI (by rw [e, tab_out _ (by decide) sw11]), h, FCr.rf⟩
  · rw [bI_0] at h5
    refine r_iconst hO dX4_member_8 ic_m1 ?_
    exact r_ireturn hO hr dX4_member_9 rfl ⟨sI (show _ = p_member σ i w from by unfold p_member; rw [if_neg (by rw [h5]; decide)]), h, FCr.rf⟩
set_option maxHeartbeats 4000000 in
theorem zX5_member (l : Launch) {M : Mm} {σ : Sta} (h : RD M σ) {i w : Int32} : Clz l 3 yX5_member cX5_member 3 (some .int) [.ref 33, .int i, .int w] M (fun r M' => r = some (.int (p_member σ i w)) ∧ RD M' σ ∧ FDr M M') := by
  refine Clz.on RX5 rfl (by decide +kernel) (Nat.le_of_ble_eq_true rfl) (fun X hL hO hr => ?_)
  show Gz X 0 [.ref 33, .int i, .int w] [] M
  refine r_aload_n hO dX5_member_0 rfl ?_
  refine r_iload_n hO dX5_member_1 rfl ?_
  refine r_fV hO dX5_member_2 kRX5_205 miX5_isMember (zX5_isMember _) ⟨Nat.le_of_ble_eq_true rfl, Nat.le_of_ble_eq_true rfl, rfl, Nat.le_of_ble_eq_true rfl⟩ rfl rfl ?_
  refine r_if_eq 20 hO dX5_member_5 (by decide) (fun h5 => ?_) (fun h5 => ?_)
  · rw [bI_0, h.1.2.2.1] at h5
    refine r_iconst hO dX5_member_20 ic_m1 ?_
    exact r_ireturn hO hr dX5_member_21 rfl ⟨sI (show _ = p_member σ i w from by unfold p_member; rw [if_neg (by rw [h5]; decide)]), h, FDr.rf⟩
  · rw [bI_n0, h.1.2.2.1] at h5
    refine r_iload_n hO dX5_member_8 rfl ?_
    refine r_i2l hO dX5_member_9 ?_
    refine r_lconst hO dX5_member_10 lc_0 ?_
    refine r_ldc2 hO dX5_member_11 wRX5_208 ?_
    refine r_fS hO dX5_member_14 kRX5_56 msX5_in (zX5_inI _ (lo := 0) (hi := 5) (by decide) (by decide)) ⟨Nat.le_of_ble_eq_true rfl, Nat.le_of_ble_eq_true rfl, rfl, Nat.le_of_ble_eq_true rfl⟩ rfl ?_
    refine r_if_ne 22 hO dX5_member_17 (by decide) (fun h17 => ?_) (fun h17 => ?_)
    · rw [bI_n0] at h17
      obtain ⟨a, ha, rfl⟩ := inI_mem (by have := h.1.1; omega) h5
      have hb : σ.1.1[a]? = some σ.1.1[a] := List.getElem?_eq_getElem ha
      have e : p_member σ (nI a) w = tabI w 5 [nI (σ.1.1[a]).1, nI (σ.1.1[a]).2.1, nI (σ.1.1[a]).2.2.1, nI (σ.1.1[a]).2.2.2, bI (vt (σ.1.1[a]) σ.1.2.1), 2 + iI (pl (σ.1.1[a]) σ.1.2.1)] := by unfold p_member; rw [if_pos h5, mbD_at hb (by have := h.1.1; omega)]
      obtain ⟨k, hk, rfl⟩ := inI_nat (n := 5) (by decide) h17
      refine r_aload_n hO dX5_member_22 rfl ?_
      refine r_callV hO dX5_member_23 kRX5_196 miX5_starts (zX5_starts _) ⟨Nat.le_of_ble_eq_true rfl, Nat.le_of_ble_eq_true rfl, rfl, Nat.le_of_ble_eq_true rfl⟩ rfl rfl (fun r M1 hpo => ?_)
      obtain ⟨rfl, hst⟩ := hpo
      have R := h.1.rn hst
      refine r_iload_n hO dX5_member_26 rfl ?_
      refine r_iconst hO dX5_member_27 ic_4 ?_
      refine r_icmp_ge 40 hO dX5_member_28 (by decide) (fun h28 => ?_) (fun h28 => ?_)
      · rw [show (4 : Int32) = nI 4 from rfl, nI_leI (by decide) (by omega)] at h28
        refine r_iload_n hO dX5_member_40 rfl ?_
        refine r_iconst hO dX5_member_41 ic_4 ?_
        refine r_icmp_ne 56 hO dX5_member_42 (by decide) (fun h42 => ?_) (fun h42 => ?_)
        · rw [show (4 : Int32) = nI 4 from rfl, nI_eq (by omega) (by decide)] at h42
          refine r_iconst hO dX5_member_56 ic_2 ?_
          refine r_aload_n hO dX5_member_57 rfl ?_
          refine r_iload_n hO dX5_member_58 rfl ?_
          refine r_fV hO dX5_member_59 kRX5_157 miX5_pull (zX5_pullR _ R hb rfl) ⟨Nat.le_of_ble_eq_true rfl, Nat.le_of_ble_eq_true rfl, rfl, Nat.le_of_ble_eq_true rfl⟩ rfl rfl ?_
          refine r_iadd hO dX5_member_62 ?_
          exact r_ireturn hO hr dX5_member_63 rfl ⟨sI (by rw [e, tab_at k 5 _ rfl (by omega) (by decide)]; rw [show k = 5 by omega]; rfl), h.q (FR.st hst), (FR.st hst).fd⟩
        · rw [show (4 : Int32) = nI 4 from rfl, nI_eq (by omega) (by decide)] at h42
          refine r_aload_n hO dX5_member_45 rfl ?_
          refine r_iload_n hO dX5_member_46 rfl ?_
          refine r_fV hO dX5_member_47 kRX5_149 miX5_votes (zX5_votesR _ R hb rfl) ⟨Nat.le_of_ble_eq_true rfl, Nat.le_of_ble_eq_true rfl, rfl, Nat.le_of_ble_eq_true rfl⟩ rfl rfl ?_
          refine r_fS hO dX5_member_50 kRX5_153 msX5_flag (zX5_flag _ (vt (σ.1.1[a]) σ.1.2.1) rfl) ⟨Nat.le_of_ble_eq_true rfl, Nat.le_of_ble_eq_true rfl, rfl, Nat.le_of_ble_eq_true rfl⟩ rfl ?_
          refine r_goto 63 hO dX5_member_53 (by decide) ?_
          exact r_ireturn hO hr dX5_member_63 rfl ⟨sI (by rw [e, tab_at k 5 _ rfl (by omega) (by decide)]; rw [h42]; rfl), h.q (FR.st hst), (FR.st hst).fd⟩
      · rw [show (4 : Int32) = nI 4 from rfl, nI_leI (by decide) (by omega)] at h28
        refine r_aload_n hO dX5_member_31 rfl ?_
        refine r_iload_n hO dX5_member_32 rfl ?_
        refine r_iload_n hO dX5_member_33 rfl ?_
        refine r_fV hO dX5_member_34 kRX5_131 miX5_of (zX5_of _ a k rfl rfl (by have := h.1.1; omega)) ⟨Nat.le_of_ble_eq_true rfl, Nat.le_of_ble_eq_true rfl, rfl, Nat.le_of_ble_eq_true rfl⟩ rfl rfl ?_
        refine r_goto 63 hO dX5_member_37 (by decide) ?_
        exact r_ireturn hO hr dX5_member_63 rfl ⟨sI (by rw [e, tab_at k 5 _ rfl (by omega) (by decide)]; rw [R.2.1.fld hb (by omega)]; rcases (show k = 0 ∨ k = 1 ∨ k = 2 ∨ k = 3 by omega) with rfl | rfl | rfl | rfl <;> rfl), h.q (FR.st hst), (FR.st hst).fd⟩
    · rw [bI_0] at h17
      refine r_iconst hO dX5_member_20 ic_m1 ?_
      exact r_ireturn hO hr dX5_member_21 rfl ⟨sI (show _ = p_member σ i w from by unfold p_member; rw [if_pos h5, tabI, if_neg (by rw [show inI w 0 (nI 5) = false from h17]; decide)]), h, FDr.rf⟩
set_option maxHeartbeats 4000000 in
theorem zX4_house (l : Launch) {M : Mm} {σ : Sta} (h : RC M σ) {x w : Int32} : Clz l 3 yX4_house cX4_house 5 (some .int) [.ref 0, .int x, .int w] M (fun r M' => r = some (.int (p_house σ x w)) ∧ RC M' σ ∧ FCr M M') := by
  refine Clz.on RX4 rfl (by decide +kernel) (Nat.le_of_ble_eq_true rfl) (fun X hL hO hr => ?_)
  show Gz X 0 [.ref 0, .int x, .int w, .null, .null] [] M
  refine r_iload_n hO dX4_house_0 rfl ?_
  refine r_iconst hO dX4_house_1 ic_1 ?_
  refine r_fS hO dX4_house_2 kRX4_62 msX4_within (zX4_within _) ⟨Nat.le_of_ble_eq_true rfl, Nat.le_of_ble_eq_true rfl, rfl, Nat.le_of_ble_eq_true rfl⟩ rfl ?_
  refine r_if_ne 10 hO dX4_house_5 (by decide) (fun h5 => ?_) (fun h5 => ?_)
  · rw [bI_n0] at h5
    obtain ⟨g, hg, rfl⟩ := inI_nat (n := 1) (by decide) (show inI x 0 1 = true from h5)
    have e : p_house σ (nI g) w = tabI w 3 [orB (inH g) 0 0 σ.1.1, nI (cY g σ.1.2.1 σ.1.1), nI (cN g σ.1.2.1 σ.1.1), 20 + iI (sP g σ.1.2.1 σ.1.1)] := by unfold p_house; rw [if_pos (show inI (nI g) 0 1 = true from h5), nI_clamp (by omega)]
    refine r_aload_n hO dX4_house_10 rfl ?_
    refine r_getR 4 hO dX4_house_11 fRX4_26 rfl ?_
    refine r_iload_n hO dX4_house_14 rfl ?_
    refine r_fV hO dX4_house_15 kRX4_126 miX0_membersOf (zX0_membersOf _ (show nuP 4 from Or.inl rfl) h.1.1 g rfl (by omega)) ⟨Nat.le_of_ble_eq_true rfl, Nat.le_of_ble_eq_true rfl, rfl, Nat.le_of_ble_eq_true rfl⟩ rfl rfl ?_
    refine s_istore_n hL hO dX4_house_18 (Nat.le_of_ble_eq_true rfl) rfl ?_
    refine r_aload_n hO dX4_house_19 rfl ?_
    refine r_getR 4 hO dX4_house_20 fRX4_26 rfl ?_
    refine r_aload_n hO dX4_house_23 rfl ?_
    refine r_getR 4 hO dX4_house_24 fRX4_26 rfl ?_
    refine r_getI hO dX4_house_27 fRX4_90 rfl ?_
    refine r_fV hO dX4_house_30 kRX4_105 miX0_votersFor (zX0_votersFor _ (show nuP 4 from Or.inl rfl) h.1.1 σ.1.2.1 h.1.1.2.2.2.1.1 h.1.1.2.2.2.1.2) ⟨Nat.le_of_ble_eq_true rfl, Nat.le_of_ble_eq_true rfl, rfl, Nat.le_of_ble_eq_true rfl⟩ rfl rfl ?_
    refine s_istore hL hO dX4_house_33 (Nat.le_of_ble_eq_true rfl) rfl ?_
    refine r_iload_n hO dX4_house_35 rfl ?_
    rcases sw_0_3 (w) with sw36 | sw36 | sw36 | sw36 | sw36
    · refine r_tabIn 68 hO dX4_house_36 (by rw [sw36]; decide) (by rw [sw36]; decide) (by rw [sw36]; rfl) (by decide) ?_
      refine r_iload_n hO dX4_house_68 rfl ?_
      exact r_ireturn hO hr dX4_house_69 rfl ⟨sI (by rw [e, tab_at 0 3 _ (show _ = nI 0 from sw36) (by decide) (by decide)]; exact rfl), h, FCr.rf⟩
    · refine r_tabIn 70 hO dX4_house_36 (by rw [sw36]; decide) (by rw [sw36]; decide) (by rw [sw36]; rfl) (by decide) ?_
      refine r_iload_n hO dX4_house_70 rfl ?_
      refine r_iload hO dX4_house_71 rfl ?_
      refine r_iand hO dX4_house_73 ?_
      refine r_fS hO dX4_house_74 kRX4_129 msJ6_bitCount_0f7a4 (zJ6_bitCount_0f7a4 _) ⟨Nat.le_of_ble_eq_true rfl, Nat.le_of_ble_eq_true rfl, rfl, Nat.le_of_ble_eq_true rfl⟩ rfl ?_
      exact r_ireturn hO hr dX4_house_77 rfl ⟨sI (by rw [e, tab_at 1 3 _ (show _ = nI 1 from sw36) (by decide) (by decide)]; exact bc_and h.1.1.1), h, FCr.rf⟩
    · refine r_tabIn 78 hO dX4_house_36 (by rw [sw36]; decide) (by rw [sw36]; decide) (by rw [sw36]; rfl) (by decide) ?_
      refine r_iload_n hO dX4_house_78 rfl ?_
      refine r_iload hO dX4_house_79 rfl ?_
      refine r_iconst hO dX4_house_81 ic_m1 ?_
      refine r_ixor hO dX4_house_82 ?_
      refine r_iand hO dX4_house_83 ?_
      refine r_fS hO dX4_house_84 kRX4_129 msJ6_bitCount_0f7a4 (zJ6_bitCount_0f7a4 _) ⟨Nat.le_of_ble_eq_true rfl, Nat.le_of_ble_eq_true rfl, rfl, Nat.le_of_ble_eq_true rfl⟩ rfl ?_
      exact r_ireturn hO hr dX4_house_87 rfl ⟨sI (by rw [e, tab_at 2 3 _ (show _ = nI 2 from sw36) (by decide) (by decide)]; exact bc_not h.1.1.1), h, FCr.rf⟩
    · refine r_tabIn 88 hO dX4_house_36 (by rw [sw36]; decide) (by rw [sw36]; decide) (by rw [sw36]; rfl) (by decide) ?_
      refine r_bipush hO dX4_house_88 bc_20 ?_
      refine r_aload_n hO dX4_house_90 rfl ?_
      refine r_getR 4 hO dX4_house_91 fRX4_26 rfl ?_
      refine r_iload_n hO dX4_house_94 rfl ?_
      refine r_fV hO dX4_house_95 kRX4_134 miX0_pullOf (zX0_pullOf _ (show nuP 4 from Or.inl rfl) h.1.1 g rfl (by omega)) ⟨Nat.le_of_ble_eq_true rfl, Nat.le_of_ble_eq_true rfl, rfl, Nat.le_of_ble_eq_true rfl⟩ rfl rfl ?_
      refine r_iadd hO dX4_house_98 ?_
      exact r_ireturn hO hr dX4_house_99 rfl ⟨sI (by rw [e, tab_at 3 3 _ (show _ = nI 3 from sw36) (by decide) (by decide)]; exact rfl), h, FCr.rf⟩
    · refine r_tabOut 100 hO dX4_house_36 sw36 (by decide) ?_
      refine r_iconst hO dX4_house_100 ic_m1 ?_
      exact r_ireturn hO hr dX4_house_101 rfl ⟨sI (by rw [e, tab_out _ (by decide) sw36]), h, FCr.rf⟩
  · rw [bI_0] at h5
    refine r_iconst hO dX4_house_8 ic_m1 ?_
    exact r_ireturn hO hr dX4_house_9 rfl ⟨sI (show _ = p_house σ x w from by unfold p_house; rw [if_neg (by rw [show inI x 0 1 = false from h5]; decide)]), h, FCr.rf⟩
set_option maxHeartbeats 4000000 in
theorem zX5_house (l : Launch) {M : Mm} {σ : Sta} (h : RD M σ) {x w : Int32} : Clz l 4 yX5_house cX5_house 5 (some .int) [.ref 33, .int x, .int w] M (fun r M' => r = some (.int (p_house σ x w)) ∧ RD M' σ ∧ FDr M M') := by
  refine Clz.on RX5 rfl (by decide +kernel) (Nat.le_of_ble_eq_true rfl) (fun X hL hO hr => ?_)
  show Gz X 0 [.ref 33, .int x, .int w, .null, .null] [] M
  refine r_iload_n hO dX5_house_0 rfl ?_
  refine r_i2l hO dX5_house_1 ?_
  refine r_lconst hO dX5_house_2 lc_0 ?_
  refine r_lconst hO dX5_house_3 lc_1 ?_
  refine r_fS hO dX5_house_4 kRX5_56 msX5_in (zX5_inI _ (lo := 0) (hi := 1) (by decide) (by decide)) ⟨Nat.le_of_ble_eq_true rfl, Nat.le_of_ble_eq_true rfl, rfl, Nat.le_of_ble_eq_true rfl⟩ rfl ?_
  refine r_if_ne 12 hO dX5_house_7 (by decide) (fun h7 => ?_) (fun h7 => ?_)
  · rw [bI_n0] at h7
    obtain ⟨g, hg, rfl⟩ := inI_nat (n := 1) (by decide) (show inI x 0 1 = true from h7)
    have e : p_house σ (nI g) w = tabI w 3 [orB (inH g) 0 0 σ.1.1, nI (cY g σ.1.2.1 σ.1.1), nI (cN g σ.1.2.1 σ.1.1), 20 + iI (sP g σ.1.2.1 σ.1.1)] := by unfold p_house; rw [if_pos (show inI (nI g) 0 1 = true from h7), nI_clamp (by omega)]
    refine r_aload_n hO dX5_house_12 rfl ?_
    refine r_callV hO dX5_house_13 kRX5_196 miX5_starts (zX5_starts _) ⟨Nat.le_of_ble_eq_true rfl, Nat.le_of_ble_eq_true rfl, rfl, Nat.le_of_ble_eq_true rfl⟩ rfl rfl (fun r M1 hpo => ?_)
    obtain ⟨rfl, hst⟩ := hpo
    have R := h.1.rn hst
    have ha : act (-4) 0 σ.1.1 = σ.1.1 := act_none _ 0 (by have := R.1; omega)
    refine r_iconst hO dX5_house_16 ic_0 ?_
    refine s_istore_n hL hO dX5_house_17 (Nat.le_of_ble_eq_true rfl) rfl ?_
    refine r_iconst hO dX5_house_18 ic_0 ?_
    refine s_istore hL hO dX5_house_19 (Nat.le_of_ble_eq_true rfl) rfl ?_
    have loop : ∀ (rest : List Mb) (i : Nat) (m : Int32), σ.1.1.drop i = rest → i ≤ σ.1.1.length → orB (inH g) i m rest = orB (inH g) 0 0 σ.1.1 → Gz X 21 [.ref 33, .int (nI g), .int w, .int m, .int (nI i)] [] M1 := by
      intro rest
      induction rest with
      | nil =>
        intro i m hd hi hm
        have hi := drop_nil hd hi
        refine r_iload hO dX5_house_21 rfl ?_
        refine r_aload_n hO dX5_house_23 rfl ?_
        refine r_getR 34 hO dX5_house_24 fRX5_7 rfl ?_
        refine r_bipush hO dX5_house_27 bc_24 ?_
        refine s_iald 123 hO dX5_house_29 rfl (Nat.le_of_ble_eq_true rfl) 24 (by decide) (by decide) ?_
        refine r_icmp_ge 55 hO dX5_house_30 (by decide) (fun _ => ?_) (fun z => absurd (by rw [hst.1 _ _ (by decide) (by decide), h.1.2.2.1, hi]; exact nI_le (Nat.le_refl _) (by have := R.1; omega)) z)
        refine r_iload_n hO dX5_house_55 rfl ?_
        rcases sw_0_3 (w) with sw56 | sw56 | sw56 | sw56 | sw56
        · refine r_tabIn 88 hO dX5_house_56 (by rw [sw56]; decide) (by rw [sw56]; decide) (by rw [sw56]; rfl) (by decide) ?_
          refine r_iload_n hO dX5_house_88 rfl ?_
          exact r_ireturn hO hr dX5_house_89 rfl ⟨sI (by rw [e, tab_at 0 3 _ (show _ = nI 0 from sw56) (by decide) (by decide)]; exact hm), h.q (FR.st hst), (FR.st hst).fd⟩
        · refine r_tabIn 90 hO dX5_house_56 (by rw [sw56]; decide) (by rw [sw56]; decide) (by rw [sw56]; rfl) (by decide) ?_
          refine r_aload_n hO dX5_house_90 rfl ?_
          refine r_iload_n hO dX5_house_91 rfl ?_
          refine r_fV hO dX5_house_92 kRX5_160 miX5_votesFor (zX5_votesFor _ R g rfl (by omega)) ⟨Nat.le_of_ble_eq_true rfl, Nat.le_of_ble_eq_true rfl, rfl, Nat.le_of_ble_eq_true rfl⟩ rfl rfl ?_
          exact r_ireturn hO hr dX5_house_95 rfl ⟨sI (by rw [e, tab_at 1 3 _ (show _ = nI 1 from sw56) (by decide) (by decide)]; exact (by rw [ha]; rfl)), h.q (FR.st hst), (FR.st hst).fd⟩
        · refine r_tabIn 96 hO dX5_house_56 (by rw [sw56]; decide) (by rw [sw56]; decide) (by rw [sw56]; rfl) (by decide) ?_
          refine r_aload_n hO dX5_house_96 rfl ?_
          refine r_iload_n hO dX5_house_97 rfl ?_
          refine r_fV hO dX5_house_98 kRX5_163 miX5_votesAgainst (zX5_votesAgainst _ R g rfl (by omega)) ⟨Nat.le_of_ble_eq_true rfl, Nat.le_of_ble_eq_true rfl, rfl, Nat.le_of_ble_eq_true rfl⟩ rfl rfl ?_
          exact r_ireturn hO hr dX5_house_101 rfl ⟨sI (by rw [e, tab_at 2 3 _ (show _ = nI 2 from sw56) (by decide) (by decide)]; exact (by rw [ha]; rfl)), h.q (FR.st hst), (FR.st hst).fd⟩
        · refine r_tabIn 102 hO dX5_house_56 (by rw [sw56]; decide) (by rw [sw56]; decide) (by rw [sw56]; rfl) (by decide) ?_
          refine r_bipush hO dX5_house_102 bc_20 ?_
          refine r_aload_n hO dX5_house_104 rfl ?_
          refine r_iload_n hO dX5_house_105 rfl ?_
          refine r_fV hO dX5_house_106 kRX5_169 miX5_pullOfAll (zX5_pullOfAll _ R g rfl (by omega)) ⟨Nat.le_of_ble_eq_true rfl, Nat.le_of_ble_eq_true rfl, rfl, Nat.le_of_ble_eq_true rfl⟩ rfl rfl ?_
          refine r_iadd hO dX5_house_109 ?_
          exact r_ireturn hO hr dX5_house_110 rfl ⟨sI (by rw [e, tab_at 3 3 _ (show _ = nI 3 from sw56) (by decide) (by decide)]; exact (by rw [ha]; rfl)), h.q (FR.st hst), (FR.st hst).fd⟩
        · refine r_tabOut 111 hO dX5_house_56 sw56 (by decide) ?_
          refine r_iconst hO dX5_house_111 ic_m1 ?_
          exact r_ireturn hO hr dX5_house_112 rfl ⟨sI (by rw [e, tab_out _ (by decide) sw56]), h.q (FR.st hst), (FR.st hst).fd⟩
      | cons b bs ih =>
        intro i m hd hi hm
        obtain ⟨hb, hd2, hlt⟩ := drop_cons hd
        refine r_iload hO dX5_house_21 rfl ?_
        refine r_aload_n hO dX5_house_23 rfl ?_
        refine r_getR 34 hO dX5_house_24 fRX5_7 rfl ?_
        refine r_bipush hO dX5_house_27 bc_24 ?_
        refine s_iald 123 hO dX5_house_29 rfl (Nat.le_of_ble_eq_true rfl) 24 (by decide) (by decide) ?_
        refine r_icmp_ge 55 hO dX5_house_30 (by decide) (fun z => absurd z (by rw [hst.1 _ _ (by decide) (by decide), h.1.2.2.1]; exact nI_ge hlt (by have := R.1; omega))) (fun _ => ?_)
        refine r_iload_n hO dX5_house_33 rfl ?_
        refine r_aload_n hO dX5_house_34 rfl ?_
        refine r_iload hO dX5_house_35 rfl ?_
        refine r_iload_n hO dX5_house_37 rfl ?_
        refine r_fV hO dX5_house_38 kRX5_145 miX5_isOf (zX5_isOfR _ R g hb rfl rfl (by omega)) ⟨Nat.le_of_ble_eq_true rfl, Nat.le_of_ble_eq_true rfl, rfl, Nat.le_of_ble_eq_true rfl⟩ rfl rfl ?_
        refine r_fS hO dX5_house_41 kRX5_153 msX5_flag (zX5_flag _ (isA (-4) i g b) rfl) ⟨Nat.le_of_ble_eq_true rfl, Nat.le_of_ble_eq_true rfl, rfl, Nat.le_of_ble_eq_true rfl⟩ rfl ?_
        refine r_iload hO dX5_house_44 rfl ?_
        refine r_ishl hO dX5_house_46 ?_
        refine r_ior hO dX5_house_47 ?_
        refine s_istore_n hL hO dX5_house_48 (Nat.le_of_ble_eq_true rfl) rfl ?_
        refine s_iinc hL hO dX5_house_49 rfl ic_1 (Nat.le_of_ble_eq_true rfl) rfl ?_
        refine r_goto 21 hO dX5_house_52 (by decide) ?_
        show Gz X 21 [.ref 33, .int (nI g), .int w, .int (m ||| bI (isA (-4) i g b) <<< (nI i &&& 31)), .int (nI i + 1)] [] M1
        rw [nI_1, show isA (-4) i g b = inH g b from by unfold isA; rw [decide_eq_false (fun z => absurd (z ▸ nI_pos (n := i) (by have := R.1; omega)) (by decide))]; rfl]
        exact ih (i + 1) _ hd2 (by omega) hm
    exact loop σ.1.1 0 0 rfl (Nat.zero_le _) rfl
  · rw [bI_0] at h7
    refine r_iconst hO dX5_house_10 ic_m1 ?_
    exact r_ireturn hO hr dX5_house_11 rfl ⟨sI (show _ = p_house σ x w from by unfold p_house; rw [if_neg (by rw [h7]; decide)]), h, FDr.rf⟩
theorem szC {M : Mm} {p : Nat} {s : Sh} (h : ShC M p s) (q : M.1 p 2 = -1) : (-4 : Int32) = szI s := by
  cases s with
  | none => rfl
  | some x => exact absurd (h.2.2.1.symm.trans q) (sh_pos h.2.2.2.1)
theorem szC2 {M : Mm} {p : Nat} {s : Sh} (h : ShC M p s) (q : ¬ M.1 p 2 = -1) : M.1 p 2 = szI s := by
  cases s with
  | none => exact absurd h q
  | some x => exact h.2.2.1
theorem szD {M : Mm} {p : Nat} {s : Sh} (h : ShD M p s) (q : M.1 41 p = -4) : (-4 : Int32) = szI s := by
  cases s with
  | none => rfl
  | some x => exact absurd (h.1.symm.trans q) (ne_m4 h.2.1)
theorem szD2 {M : Mm} {p : Nat} {s : Sh} (h : ShD M p s) (q : ¬ M.1 41 p = -4) : M.1 42 p = szI s := by
  cases s with
  | none => exact absurd h q
  | some x => exact h.2.2.1
set_option maxHeartbeats 4000000 in
theorem zX4_count (l : Launch) {M : Mm} {σ : Sta} (h : RC M σ) {w : Int32} : Clz l 2 yX4_count cX4_count 2 (some .int) [.ref 0, .int w] M (fun r M' => r = some (.int (p_count σ w)) ∧ RC M' σ ∧ FCr M M') := by
  refine Clz.on RX4 rfl (by decide +kernel) (Nat.le_of_ble_eq_true rfl) (fun X hL hO hr => ?_)
  show Gz X 0 [.ref 0, .int w] [] M
  refine r_iload_n hO dX4_count_0 rfl ?_
  rcases sw_0_5 (w) with sw1 | sw1 | sw1 | sw1 | sw1 | sw1 | sw1
  · refine r_tabIn 40 hO dX4_count_1 (by rw [sw1]; decide) (by rw [sw1]; decide) (by rw [sw1]; rfl) (by decide) ?_
    refine r_aload_n hO dX4_count_40 rfl ?_
    refine r_getR 4 hO dX4_count_41 fRX4_26 rfl ?_
    refine r_getI hO dX4_count_44 fRX4_171 rfl ?_
    exact r_ireturn hO hr dX4_count_47 rfl ⟨sI (by (first | unfold p_rule | unfold p_count); rw [tab_at 0 5 _ (show _ = nI 0 from sw1) (by decide) (by decide)]; exact h.1.2.2.1), h, FCr.rf⟩
  · refine r_tabIn 48 hO dX4_count_1 (by rw [sw1]; decide) (by rw [sw1]; decide) (by rw [sw1]; rfl) (by decide) ?_
    refine r_aload_n hO dX4_count_48 rfl ?_
    refine r_getR 13 hO dX4_count_49 fRX4_37 rfl ?_
    refine r_iconst hO dX4_count_52 ic_0 ?_
    refine s_zald 2 hO dX4_count_53 rfl (Nat.le_of_ble_eq_true rfl) 0 rfl (by decide) ?_
    refine r_fS hO dX4_count_54 kRX4_97 msX4_bit (zX4_bit _ (σ.2.1 0).1 (h.2.1 0 (by decide)).1) ⟨Nat.le_of_ble_eq_true rfl, Nat.le_of_ble_eq_true rfl, rfl, Nat.le_of_ble_eq_true rfl⟩ rfl ?_
    refine r_aload_n hO dX4_count_57 rfl ?_
    refine r_getR 13 hO dX4_count_58 fRX4_37 rfl ?_
    refine r_iconst hO dX4_count_61 ic_1 ?_
    refine s_zald 2 hO dX4_count_62 rfl (Nat.le_of_ble_eq_true rfl) 1 rfl (by decide) ?_
    refine r_fS hO dX4_count_63 kRX4_97 msX4_bit (zX4_bit _ (σ.2.1 1).1 (h.2.1 1 (by decide)).1) ⟨Nat.le_of_ble_eq_true rfl, Nat.le_of_ble_eq_true rfl, rfl, Nat.le_of_ble_eq_true rfl⟩ rfl ?_
    refine r_iadd hO dX4_count_66 ?_
    exact r_ireturn hO hr dX4_count_67 rfl ⟨sI (by (first | unfold p_rule | unfold p_count); rw [tab_at 1 5 _ (show _ = nI 1 from sw1) (by decide) (by decide)]; exact rfl), h, FCr.rf⟩
  · refine r_tabIn 68 hO dX4_count_1 (by rw [sw1]; decide) (by rw [sw1]; decide) (by rw [sw1]; rfl) (by decide) ?_
    refine r_aload_n hO dX4_count_68 rfl ?_
    refine r_getR 1 hO dX4_count_69 fRX4_12 rfl ?_
    refine r_getI hO dX4_count_72 fRX4_66 rfl ?_
    exact r_ireturn hO hr dX4_count_75 rfl ⟨sI (by (first | unfold p_rule | unfold p_count); rw [tab_at 2 5 _ (show _ = nI 2 from sw1) (by decide) (by decide)]; exact h.2.2.1.2.1), h, FCr.rf⟩
  · refine r_tabIn 76 hO dX4_count_1 (by rw [sw1]; decide) (by rw [sw1]; decide) (by rw [sw1]; rfl) (by decide) ?_
    refine r_aload_n hO dX4_count_76 rfl ?_
    refine r_getR 14 hO dX4_count_77 fRX4_43 rfl ?_
    refine r_iconst hO dX4_count_80 ic_0 ?_
    refine s_aald 14 4 24 hO dX4_count_81 0 rfl rfl (by decide) (by decide) ?_
    refine r_getI hO dX4_count_82 fRX4_209 rfl ?_
    refine r_iconst hO dX4_count_85 ic_m1 ?_
    refine r_icmp_ne 94 hO dX4_count_86 (by decide) (fun h86 => ?_) (fun h86 => ?_)
    · refine r_aload_n hO dX4_count_94 rfl ?_
      refine r_getR 14 hO dX4_count_95 fRX4_43 rfl ?_
      refine r_iconst hO dX4_count_98 ic_0 ?_
      refine s_aald 14 4 24 hO dX4_count_99 0 rfl rfl (by decide) (by decide) ?_
      refine r_getI hO dX4_count_100 fRX4_209 rfl ?_
      exact r_ireturn hO hr dX4_count_103 rfl ⟨sI (by (first | unfold p_rule | unfold p_count); rw [tab_at 3 5 _ (show _ = nI 3 from sw1) (by decide) (by decide)]; exact szC2 (h.2.2.2.2.2 0 (by decide)) h86), h, FCr.rf⟩
    · refine r_bipush hO dX4_count_89 bc_m4 ?_
      refine r_goto 103 hO dX4_count_91 (by decide) ?_
      exact r_ireturn hO hr dX4_count_103 rfl ⟨sI (by (first | unfold p_rule | unfold p_count); rw [tab_at 3 5 _ (show _ = nI 3 from sw1) (by decide) (by decide)]; exact szC (h.2.2.2.2.2 0 (by decide)) h86), h, FCr.rf⟩
  · refine r_tabIn 104 hO dX4_count_1 (by rw [sw1]; decide) (by rw [sw1]; decide) (by rw [sw1]; rfl) (by decide) ?_
    refine r_aload_n hO dX4_count_104 rfl ?_
    refine r_getR 4 hO dX4_count_105 fRX4_26 rfl ?_
    refine r_iconst hO dX4_count_108 ic_2 ?_
    refine r_fV hO dX4_count_109 kRX4_151 miX0_sumOf (zX0_sumOf _ (show nuP 4 from Or.inl rfl) h.1.1 2 rfl (by decide)) ⟨Nat.le_of_ble_eq_true rfl, Nat.le_of_ble_eq_true rfl, rfl, Nat.le_of_ble_eq_true rfl⟩ rfl rfl ?_
    exact r_ireturn hO hr dX4_count_112 rfl ⟨sI (by (first | unfold p_rule | unfold p_count); rw [tab_at 4 5 _ (show _ = nI 4 from sw1) (by decide) (by decide)]; exact rfl), h, FCr.rf⟩
  · refine r_tabIn 113 hO dX4_count_1 (by rw [sw1]; decide) (by rw [sw1]; decide) (by rw [sw1]; rfl) (by decide) ?_
    refine r_aload_n hO dX4_count_113 rfl ?_
    refine r_getR 4 hO dX4_count_114 fRX4_26 rfl ?_
    refine r_iconst hO dX4_count_117 ic_3 ?_
    refine r_fV hO dX4_count_118 kRX4_151 miX0_sumOf (zX0_sumOf _ (show nuP 4 from Or.inl rfl) h.1.1 3 rfl (by decide)) ⟨Nat.le_of_ble_eq_true rfl, Nat.le_of_ble_eq_true rfl, rfl, Nat.le_of_ble_eq_true rfl⟩ rfl rfl ?_
    exact r_ireturn hO hr dX4_count_121 rfl ⟨sI (by (first | unfold p_rule | unfold p_count); rw [tab_at 5 5 _ (show _ = nI 5 from sw1) (by decide) (by decide)]; exact rfl), h, FCr.rf⟩
  · refine r_tabOut 122 hO dX4_count_1 sw1 (by decide) ?_
    refine r_iconst hO dX4_count_122 ic_m1 ?_
    exact r_ireturn hO hr dX4_count_123 rfl ⟨sI (by (first | unfold p_rule | unfold p_count); rw [tab_out _ (by decide) sw1]), h, FCr.rf⟩
set_option maxHeartbeats 4000000 in
theorem zX5_count (l : Launch) {M : Mm} {σ : Sta} (h : RD M σ) {w : Int32} : Clz l 2 yX5_count cX5_count 2 (some .int) [.ref 33, .int w] M (fun r M' => r = some (.int (p_count σ w)) ∧ RD M' σ ∧ FDr M M') := by
  refine Clz.on RX5 rfl (by decide +kernel) (Nat.le_of_ble_eq_true rfl) (fun X hL hO hr => ?_)
  show Gz X 0 [.ref 33, .int w] [] M
  refine r_aload_n hO dX5_count_0 rfl ?_
  refine r_callV hO dX5_count_1 kRX5_196 miX5_starts (zX5_starts _) ⟨Nat.le_of_ble_eq_true rfl, Nat.le_of_ble_eq_true rfl, rfl, Nat.le_of_ble_eq_true rfl⟩ rfl rfl (fun r M1 hpo => ?_)
  obtain ⟨rfl, hst⟩ := hpo
  have R := h.1.rn hst
  have ha : act (-4) 0 σ.1.1 = σ.1.1 := act_none _ 0 (by have := R.1; omega)
  refine r_iload_n hO dX5_count_4 rfl ?_
  rcases sw_0_5 (w) with sw5 | sw5 | sw5 | sw5 | sw5 | sw5 | sw5
  · refine r_tabIn 44 hO dX5_count_5 (by rw [sw5]; decide) (by rw [sw5]; decide) (by rw [sw5]; rfl) (by decide) ?_
    refine r_aload_n hO dX5_count_44 rfl ?_
    refine r_getR 34 hO dX5_count_45 fRX5_7 rfl ?_
    refine r_bipush hO dX5_count_48 bc_28 ?_
    refine s_iald 123 hO dX5_count_50 rfl (Nat.le_of_ble_eq_true rfl) 28 (by decide) (by decide) ?_
    exact r_ireturn hO hr dX5_count_51 rfl ⟨sI (by (first | unfold p_rule | unfold p_count); rw [tab_at 0 5 _ (show _ = nI 0 from sw5) (by decide) (by decide)]; exact ((h.q (FR.st hst)).1.2.2.2.2.2.2.1.1)), h.q (FR.st hst), (FR.st hst).fd⟩
  · refine r_tabIn 52 hO dX5_count_5 (by rw [sw5]; decide) (by rw [sw5]; decide) (by rw [sw5]; rfl) (by decide) ?_
    refine r_aload_n hO dX5_count_52 rfl ?_
    refine r_getR 36 hO dX5_count_53 fRX5_16 rfl ?_
    refine r_iconst hO dX5_count_56 ic_0 ?_
    refine s_zald 2 hO dX5_count_57 rfl (Nat.le_of_ble_eq_true rfl) 0 rfl (by decide) ?_
    refine r_fS hO dX5_count_58 kRX5_153 msX5_flag (zX5_flag _ (σ.2.1 0).1 ((h.q (FR.st hst)).2.1 0 (by decide)).1) ⟨Nat.le_of_ble_eq_true rfl, Nat.le_of_ble_eq_true rfl, rfl, Nat.le_of_ble_eq_true rfl⟩ rfl ?_
    refine r_aload_n hO dX5_count_61 rfl ?_
    refine r_getR 36 hO dX5_count_62 fRX5_16 rfl ?_
    refine r_iconst hO dX5_count_65 ic_1 ?_
    refine s_zald 2 hO dX5_count_66 rfl (Nat.le_of_ble_eq_true rfl) 1 rfl (by decide) ?_
    refine r_fS hO dX5_count_67 kRX5_153 msX5_flag (zX5_flag _ (σ.2.1 1).1 ((h.q (FR.st hst)).2.1 1 (by decide)).1) ⟨Nat.le_of_ble_eq_true rfl, Nat.le_of_ble_eq_true rfl, rfl, Nat.le_of_ble_eq_true rfl⟩ rfl ?_
    refine r_iadd hO dX5_count_70 ?_
    exact r_ireturn hO hr dX5_count_71 rfl ⟨sI (by (first | unfold p_rule | unfold p_count); rw [tab_at 1 5 _ (show _ = nI 1 from sw5) (by decide) (by decide)]; exact rfl), h.q (FR.st hst), (FR.st hst).fd⟩
  · refine r_tabIn 72 hO dX5_count_5 (by rw [sw5]; decide) (by rw [sw5]; decide) (by rw [sw5]; rfl) (by decide) ?_
    refine r_aload_n hO dX5_count_72 rfl ?_
    refine r_getI hO dX5_count_73 fRX5_60 rfl ?_
    exact r_ireturn hO hr dX5_count_76 rfl ⟨sI (by (first | unfold p_rule | unfold p_count); rw [tab_at 2 5 _ (show _ = nI 2 from sw5) (by decide) (by decide)]; exact (h.q (FR.st hst)).2.2.1.2.1), h.q (FR.st hst), (FR.st hst).fd⟩
  · refine r_tabIn 77 hO dX5_count_5 (by rw [sw5]; decide) (by rw [sw5]; decide) (by rw [sw5]; rfl) (by decide) ?_
    refine r_aload_n hO dX5_count_77 rfl ?_
    refine r_getR 41 hO dX5_count_78 fRX5_32 rfl ?_
    refine r_iconst hO dX5_count_81 ic_0 ?_
    refine s_iald 4 hO dX5_count_82 rfl (Nat.le_of_ble_eq_true rfl) 0 rfl (by decide) ?_
    refine r_bipush hO dX5_count_83 bc_m4 ?_
    refine r_icmp_ne 93 hO dX5_count_85 (by decide) (fun h85 => ?_) (fun h85 => ?_)
    · refine r_aload_n hO dX5_count_93 rfl ?_
      refine r_getR 42 hO dX5_count_94 fRX5_35 rfl ?_
      refine r_iconst hO dX5_count_97 ic_0 ?_
      refine s_iald 4 hO dX5_count_98 rfl (Nat.le_of_ble_eq_true rfl) 0 rfl (by decide) ?_
      exact r_ireturn hO hr dX5_count_99 rfl ⟨sI (by (first | unfold p_rule | unfold p_count); rw [tab_at 3 5 _ (show _ = nI 3 from sw5) (by decide) (by decide)]; exact szD2 ((h.q (FR.st hst)).2.2.2.2.2 0 (by decide)) h85), h.q (FR.st hst), (FR.st hst).fd⟩
    · refine r_bipush hO dX5_count_88 bc_m4 ?_
      refine r_goto 99 hO dX5_count_90 (by decide) ?_
      exact r_ireturn hO hr dX5_count_99 rfl ⟨sI (by (first | unfold p_rule | unfold p_count); rw [tab_at 3 5 _ (show _ = nI 3 from sw5) (by decide) (by decide)]; exact szD ((h.q (FR.st hst)).2.2.2.2.2 0 (by decide)) h85), h.q (FR.st hst), (FR.st hst).fd⟩
  · refine r_tabIn 100 hO dX5_count_5 (by rw [sw5]; decide) (by rw [sw5]; decide) (by rw [sw5]; rfl) (by decide) ?_
    refine r_aload_n hO dX5_count_100 rfl ?_
    refine r_iconst hO dX5_count_101 ic_2 ?_
    refine r_fV hO dX5_count_102 kRX5_230 miX5_sumOf (zX5_sumOf _ R 2 rfl (by decide)) ⟨Nat.le_of_ble_eq_true rfl, Nat.le_of_ble_eq_true rfl, rfl, Nat.le_of_ble_eq_true rfl⟩ rfl rfl ?_
    exact r_ireturn hO hr dX5_count_105 rfl ⟨sI (by (first | unfold p_rule | unfold p_count); rw [tab_at 4 5 _ (show _ = nI 4 from sw5) (by decide) (by decide)]; exact rfl), h.q (FR.st hst), (FR.st hst).fd⟩
  · refine r_tabIn 106 hO dX5_count_5 (by rw [sw5]; decide) (by rw [sw5]; decide) (by rw [sw5]; rfl) (by decide) ?_
    refine r_aload_n hO dX5_count_106 rfl ?_
    refine r_iconst hO dX5_count_107 ic_3 ?_
    refine r_fV hO dX5_count_108 kRX5_230 miX5_sumOf (zX5_sumOf _ R 3 rfl (by decide)) ⟨Nat.le_of_ble_eq_true rfl, Nat.le_of_ble_eq_true rfl, rfl, Nat.le_of_ble_eq_true rfl⟩ rfl rfl ?_
    exact r_ireturn hO hr dX5_count_111 rfl ⟨sI (by (first | unfold p_rule | unfold p_count); rw [tab_at 5 5 _ (show _ = nI 5 from sw5) (by decide) (by decide)]; exact rfl), h.q (FR.st hst), (FR.st hst).fd⟩
  · refine r_tabOut 112 hO dX5_count_5 sw5 (by decide) ?_
    refine r_iconst hO dX5_count_112 ic_m1 ?_
    exact r_ireturn hO hr dX5_count_113 rfl ⟨sI (by (first | unfold p_rule | unfold p_count); rw [tab_out _ (by decide) sw5]), h.q (FR.st hst), (FR.st hst).fd⟩
