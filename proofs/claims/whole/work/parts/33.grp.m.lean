/-! read -/
def fpN (s : Sh) (w : Nat) (P : Int) : Nat := match s with
  | none => 1
  | some x => if x.1 = w then (if 0 ≤ P ∧ P + 1 < (x.2.1 : Int) then 0 else 2) else 3
def cellS (s : Sh) (i : Nat) : Int32 := match s with
  | none => 0
  | some x => x.2.2 i
def rdOk (n : Nat) (i v : Int32) : Bool := inI i 0 (nI n - 1) && inI v 0 20
def rdU (u : Nu) (i v : Int32) : Nu := (u.1.set i.toNatClampNeg (setF 2 v.toNatClampNeg (u.1.getD i.toNatClampNeg (0, 0, 0, 0))), u.2)
def rdR (s : Sh) (w n : Nat) (f : Int32) : Nat → Nat → Nu → Int32 × Nu × Option Nat
  | 0, j, u => (nI j, u, some 0)
  | r + 1, j, u => if fpN s w (f.toInt + 2 * j) = 0 then (if rdOk n (cellS s (f.toInt + 2 * j).toNat) (cellS s ((f.toInt + 2 * j).toNat + 1)) = true then rdR s w n f r (j + 1) (rdU u (cellS s (f.toInt + 2 * j).toNat) (cellS s ((f.toInt + 2 * j).toNat + 1))) else (-20 - nI j, u, none)) else (nI j, u, some (fpN s w (f.toInt + 2 * j)))
def rdA (σ : Sta) (x : Int32 × Nu × Option Nat) : Int32 × Sta := match x.2.2 with
  | none => (x.1, σ)
  | some t => (x.1, x.2.1, σ.2.1, σ.2.2.1, σ.2.2.2.1, t, σ.2.2.2.2.2)
def p_read (σ : Sta) (k w f n : Int32) : Int32 × Sta := if inI k 0 3 = true ∧ inI w 0 2 = true ∧ inI n 0 20 = true then rdA σ (rdR (σ.2.2.2.2.2 k.toNatClampNeg) w.toNatClampNeg σ.1.1.length f n.toNatClampNeg 0 σ.1) else (-1, σ)
theorem rd_f {s : Sh} {w n : Nat} {f : Int32} {r j : Nat} {u : Nu} (h : ¬ fpN s w (f.toInt + 2 * j) = 0) : rdR s w n f (r + 1) j u = (nI j, u, some (fpN s w (f.toInt + 2 * j))) := if_neg h
theorem rd_b {s : Sh} {w n : Nat} {f : Int32} {r j m : Nat} {u : Nu} (h : fpN s w (f.toInt + 2 * j) = 0) (hm : f.toInt + 2 * j = (m : Int)) (h2 : rdOk n (cellS s m) (cellS s (m + 1)) = false) : rdR s w n f (r + 1) j u = (-20 - nI j, u, none) := by
  show (if _ then (if _ then _ else _) else _) = _
  rw [if_pos h, hm, Int.toNat_natCast, if_neg (by rw [h2]; decide)]
theorem rd_t {s : Sh} {w n : Nat} {f : Int32} {r j m : Nat} {u : Nu} (h : fpN s w (f.toInt + 2 * j) = 0) (hm : f.toInt + 2 * j = (m : Int)) (h2 : rdOk n (cellS s m) (cellS s (m + 1)) = true) : rdR s w n f (r + 1) j u = rdR s w n f r (j + 1) (rdU u (cellS s m) (cellS s (m + 1))) := by
  show (if _ then (if _ then _ else _) else _) = _
  rw [if_pos h, hm, Int.toNat_natCast, if_pos h2]
theorem fp_3 (s : Sh) (w : Nat) (P : Int) : fpN s w P ≤ 3 := by
  cases s with
  | none => show 1 ≤ 3; omega
  | some x => show (if _ then (if _ then _ else _) else _) ≤ 3; split; split <;> omega; omega
theorem fp_0 {s : Sh} {w : Nat} {P : Int} (h : fpN s w P = 0) : ∃ (x : Nat × Nat × (Nat → Int32)) (m : Nat), s = some x ∧ x.1 = w ∧ P = (m : Int) ∧ m + 1 < x.2.1 := by
  cases s with
  | none => cases h
  | some x =>
    have h : (if x.1 = w then (if 0 ≤ P ∧ P + 1 < (x.2.1 : Int) then 0 else 2) else 3) = 0 := h
    split at h
    · split at h
      · rename_i h1 h2
        exact ⟨x, P.toNat, rfl, h1, by omega, by omega⟩
      · cases h
    · cases h
theorem ad_i (f : Int32) {m : Nat} (hm : m ≤ 1000) : (f + nI m).toInt = f.toInt + m ∨ (f.toInt + m ≥ 2147483648 ∧ (f + nI m).toInt = f.toInt + m - 4294967296) := by
  have h1 := Int32.toInt_lt f
  have h2 := Int32.le_toInt f
  rw [Int32.toInt_add, nI_toInt (by omega)]
  unfold Int.bmod
  simp only [Nat.reducePow] at *
  split <;> omega
theorem in_s {i : Int32} {n : Nat} (hn : n ≤ 40) : inI i 0 (nI n - 1) = true ↔ 0 ≤ i.toInt ∧ i.toInt < n := by
  unfold inI
  rw [decide_eq_true_iff, Int32.le_iff_toInt_le, Int32.le_iff_toInt_le]
  have h0 : (0 : Int32).toInt = 0 := by decide
  cases n with
  | zero =>
    have : (nI 0 - 1).toInt = -1 := by decide
    rw [this, h0]; omega
  | succ n => rw [nI_pred, nI_toInt (by omega), h0]; omega
def fpI (s : Sh) (w : Nat) (i : Int32) : Int32 := match s with
  | none => 1
  | some x => if x.1 = w then (if fcI (some x) i = 0 then fcI (some x) (i + 1) else fcI (some x) i) else 3
theorem fp_eq {s : Sh} {w : Nat} {f : Int32} {j : Nat} (hj : j ≤ 20) (hs : ∀ x, s = some x → x.2.1 ≤ 40) : fpI s w (f + 2 * nI j) = nI (fpN s w (f.toInt + 2 * j)) := by
  cases s with
  | none => rfl
  | some x =>
    have hx := hs x rfl
    show (if x.1 = w then (if fcI (some x) (f + 2 * nI j) = 0 then fcI (some x) (f + 2 * nI j + 1) else fcI (some x) (f + 2 * nI j)) else 3) = nI (if x.1 = w then (if 0 ≤ f.toInt + 2 * j ∧ f.toInt + 2 * j + 1 < (x.2.1 : Int) then 0 else 2) else 3)
    by_cases hw : x.1 = w
    · rw [if_pos hw, if_pos hw, show (2 : Int32) * nI j = nI (2 * j) from by rw [show (2 : Int32) = nI 2 from rfl, pk_mul], Int32.add_assoc, nI_1]
      have e1 := ad_i f (m := 2 * j) (by omega)
      have e2 := ad_i f (m := 2 * j + 1) (by omega)
      have hf1 := Int32.toInt_lt f
      have hf2 := Int32.le_toInt f
      by_cases q : 0 ≤ f.toInt + 2 * j ∧ f.toInt + 2 * j + 1 < (x.2.1 : Int)
      · have c1 : fcI (some x) (f + nI (2 * j)) = 0 := if_pos ((in_s hx).mpr (by omega))
        have c2 : fcI (some x) (f + nI (2 * j + 1)) = 0 := if_pos ((in_s hx).mpr (by omega))
        rw [if_pos q, if_pos c1, c2]; rfl
      · rw [if_neg q]
        by_cases q1 : inI (f + nI (2 * j)) 0 (nI x.2.1 - 1) = true
        · have c1 : fcI (some x) (f + nI (2 * j)) = 0 := if_pos q1
          have c2 : fcI (some x) (f + nI (2 * j + 1)) = 2 := if_neg (fun z => by have z1 := (in_s hx).mp q1; have z2 := (in_s hx).mp z; omega)
          rw [if_pos c1, c2]; rfl
        · have c1 : fcI (some x) (f + nI (2 * j)) = 2 := if_neg q1
          rw [c1, if_neg (by decide)]; rfl
    · rw [if_neg hw, if_neg hw]; rfl
theorem at_n {f : Int32} {j m : Nat} (hj : j ≤ 20) (h : f.toInt + 2 * j = (m : Int)) (hm : m ≤ 40) : f + 2 * nI j = nI m := by
  rw [show (2 : Int32) * nI j = nI (2 * j) from by rw [show (2 : Int32) = nI 2 from rfl, pk_mul]]
  apply Int32.toInt_inj.mp
  rw [nI_toInt (by omega)]
  have e1 := ad_i f (m := 2 * j) (by omega)
  omega
theorem okA_2 {σ : Sta} {i v : Int32} : okA σ i 2 v = rdOk σ.1.1.length i v := by
  unfold okA rdOk
  rw [show inI (2 : Int32) 0 3 = true from by decide, Bool.true_and]
  rfl
theorem rdOk_sp {n : Nat} {i v : Int32} (hn : n ≤ 6) (h : rdOk n i v = true) : ∃ a x, a < n ∧ x ≤ 20 ∧ i = nI a ∧ v = nI x := by
  unfold rdOk at h
  rw [Bool.and_eq_true] at h
  obtain ⟨a, ha, e1⟩ := inI_mem (by omega) h.1
  obtain ⟨x, hx, e2⟩ := inI_nat (n := 20) (by decide) h.2
  exact ⟨a, x, ha, hx, e1, e2⟩
theorem RC.tn {M M' : Mm} {σ : Sta} {t : Nat} (h : RC M σ) (e : ∀ a k, (a ≠ 0 ∨ k ≠ 10) → a < 33 → M'.1 a k = M.1 a k) (ht : M'.1 0 10 = nI t) : RC M' (σ.1, σ.2.1, σ.2.2.1, σ.2.2.2.1, t, σ.2.2.2.2.2) := by
  obtain ⟨h1, h2, h3, h4, h5, h6⟩ := h
  exact ⟨h1.eq (fun a k _ _ => e a k (by omega) (by omega)), fun k hk => ⟨by rw [e _ _ (by omega) (by omega)]; exact (h2 k hk).1, fun z => ((h2 k hk).2 z).eq (fun a j _ _ => e a j (by omega) (by omega))⟩, h3.eq (e _ _ (by omega) (by omega)) (fun k => e _ _ (by omega) (by omega)), by rw [e _ _ (by omega) (by omega)]; exact h4, ht, fun k hk => (h6 k hk).eq (fun a j ha => e a j (by omega) (by omega))⟩
theorem RD.tn {M M' : Mm} {σ : Sta} {t : Nat} (h : RD M σ) (e : ∀ a k, (a ≠ 33 ∨ k ≠ 25) → 33 ≤ a → M'.1 a k = M.1 a k) (ht : M'.1 33 25 = nI t) : RD M' (σ.1, σ.2.1, σ.2.2.1, σ.2.2.2.1, t, σ.2.2.2.2.2) := by
  obtain ⟨h1, h2, h3, h4, h5, h6⟩ := h
  exact ⟨h1.eq (fun k _ => e _ _ (by omega) (by omega)), fun k hk => ⟨by rw [e _ _ (by omega) (by omega)]; exact (h2 k hk).1, fun z => ((h2 k hk).2 z).eq (fun j _ => e _ _ (by omega) (by omega))⟩, h3.eq (e _ _ (by omega) (by omega)) (fun k => e _ _ (by omega) (by omega)), by rw [e _ _ (by omega) (by omega)]; exact h4, ht, fun k hk => (h6 k hk).eq (e _ _ (by omega) (by omega)) (e _ _ (by omega) (by omega)) (fun i _ => e _ _ (by omega) (by omega))⟩
theorem ShC.sz {M : Mm} {p : Nat} {s : Sh} (h : ShC M p s) : ∀ x, s = some x → x.2.1 ≤ 40 := fun x e => by rw [e] at h; exact h.2.2.2.1
theorem ShD.sz {M : Mm} {p : Nat} {s : Sh} (h : ShD M p s) : ∀ x, s = some x → x.2.1 ≤ 40 := fun x e => by rw [e] at h; exact h.2.2.2.1
theorem ShC.cell {M : Mm} {p : Nat} {s : Sh} (h : ShC M p s) {x : Nat × Nat × (Nat → Int32)} (e : s = some x) {i : Nat} (hi : i < 40) : M.1 (p + 1) i = cellS s i := by rw [e] at h ⊢; exact h.2.2.2.2 i hi
theorem ShD.cell {M : Mm} {p : Nat} {s : Sh} (h : ShD M p s) {x : Nat × Nat × (Nat → Int32)} (e : s = some x) {i : Nat} (hi : i < 40) : M.1 43 (40 * p + i) = cellS s i := by rw [e] at h ⊢; exact h.2.2.2.2 i hi
set_option maxHeartbeats 4000000 in
theorem zX1_faultOfPairN (l : Launch) {M : Mm} {p : Nat} (hp : shP p) (hs : ShC M p none) {y i : Int32} : CFz l 2 yX1_faultOfPair cX1_faultOfPair 4 (some .int) [.ref p, .int y, .int i] M (some (.int 1)) (M) := by
  refine Clz.on RX1 rfl (by decide +kernel) (Nat.le_of_ble_eq_true rfl) (fun X hL hO hr => ?_)
  show Gz X 0 [.ref p, .int y, .int i, .null] [] M
  refine r_aload_n hO dX1_faultOfPair_0 rfl ?_
  refine r_getI hO dX1_faultOfPair_1 fRX1_19 (sh_I2 hp) ?_
  refine r_iconst hO dX1_faultOfPair_4 ic_m1 ?_
  refine r_icmp_eq 18 hO dX1_faultOfPair_5 (by decide) (fun _ => ?_) (fun z => absurd hs z)
  refine r_aload_n hO dX1_faultOfPair_18 rfl ?_
  refine r_iload_n hO dX1_faultOfPair_19 rfl ?_
  refine r_fV hO dX1_faultOfPair_20 kRX1_32 miX1_faultOfCell (zX1_faultOfCell _ hp hs) ⟨Nat.le_of_ble_eq_true rfl, Nat.le_of_ble_eq_true rfl, rfl, Nat.le_of_ble_eq_true rfl⟩ (sh_o hp) rfl ?_
  refine s_istore_n hL hO dX1_faultOfPair_23 (Nat.le_of_ble_eq_true rfl) rfl ?_
  refine r_iload_n hO dX1_faultOfPair_24 rfl ?_
  refine r_if_eq 32 hO dX1_faultOfPair_25 (by decide) (fun z => absurd z (show ¬ (1 : Int32) = 0 by decide)) (fun _ => ?_)
  refine r_iload_n hO dX1_faultOfPair_28 rfl ?_
  refine r_goto 39 hO dX1_faultOfPair_29 (by decide) ?_
  exact r_ireturn hO hr dX1_faultOfPair_39 rfl ⟨rfl, rfl⟩
set_option maxHeartbeats 4000000 in
theorem zX1_faultOfPairS (l : Launch) {M : Mm} {p : Nat} (hp : shP p) {x : Nat × Nat × (Nat → Int32)} (hs : ShC M p (some x)) {y i : Int32} (w : Nat) (hy : y = nI w) (hw : w ≤ 2) : CFz l 2 yX1_faultOfPair cX1_faultOfPair 4 (some .int) [.ref p, .int y, .int i] M (some (.int (fpI (some x) w i))) (M) := by
  refine Clz.on RX1 rfl (by decide +kernel) (Nat.le_of_ble_eq_true rfl) (fun X hL hO hr => ?_)
  show Gz X 0 [.ref p, .int y, .int i, .null] [] M
  refine r_aload_n hO dX1_faultOfPair_0 rfl ?_
  refine r_getI hO dX1_faultOfPair_1 fRX1_19 (sh_I2 hp) ?_
  refine r_iconst hO dX1_faultOfPair_4 ic_m1 ?_
  refine r_icmp_eq 18 hO dX1_faultOfPair_5 (by decide) (fun z => absurd z (by rw [hs.2.2.1]; exact sh_pos hs.2.2.2.1)) (fun _ => ?_)
  refine r_iload_n hO dX1_faultOfPair_8 rfl ?_
  refine r_aload_n hO dX1_faultOfPair_9 rfl ?_
  refine r_getI hO dX1_faultOfPair_10 fRX1_15 (sh_I1 hp) ?_
  refine r_icmp_eq 18 hO dX1_faultOfPair_13 (by decide) (fun h13 => ?_) (fun h13 => ?_)
  · rw [hy, hs.1, nI_eq (by omega) (by have := hs.2.1; omega)] at h13
    refine r_aload_n hO dX1_faultOfPair_18 rfl ?_
    refine r_iload_n hO dX1_faultOfPair_19 rfl ?_
    refine r_fV hO dX1_faultOfPair_20 kRX1_32 miX1_faultOfCell (zX1_faultOfCell _ hp hs) ⟨Nat.le_of_ble_eq_true rfl, Nat.le_of_ble_eq_true rfl, rfl, Nat.le_of_ble_eq_true rfl⟩ (sh_o hp) rfl ?_
    refine s_istore_n hL hO dX1_faultOfPair_23 (Nat.le_of_ble_eq_true rfl) rfl ?_
    refine r_iload_n hO dX1_faultOfPair_24 rfl ?_
    refine r_if_eq 32 hO dX1_faultOfPair_25 (by decide) (fun h25 => ?_) (fun h25 => ?_)
    · refine r_aload_n hO dX1_faultOfPair_32 rfl ?_
      refine r_iload_n hO dX1_faultOfPair_33 rfl ?_
      refine r_iconst hO dX1_faultOfPair_34 ic_1 ?_
      refine r_iadd hO dX1_faultOfPair_35 ?_
      refine r_fV hO dX1_faultOfPair_36 kRX1_32 miX1_faultOfCell (zX1_faultOfCell _ hp hs) ⟨Nat.le_of_ble_eq_true rfl, Nat.le_of_ble_eq_true rfl, rfl, Nat.le_of_ble_eq_true rfl⟩ (sh_o hp) rfl ?_
      exact r_ireturn hO hr dX1_faultOfPair_39 rfl ⟨sI (show _ = (if x.1 = w then (if fcI (some x) i = 0 then fcI (some x) (i + 1) else fcI (some x) i) else (3 : Int32)) from by rw [if_pos h13.symm, if_pos h25]), rfl⟩
    · refine r_iload_n hO dX1_faultOfPair_28 rfl ?_
      refine r_goto 39 hO dX1_faultOfPair_29 (by decide) ?_
      exact r_ireturn hO hr dX1_faultOfPair_39 rfl ⟨sI (show _ = (if x.1 = w then (if fcI (some x) i = 0 then fcI (some x) (i + 1) else fcI (some x) i) else (3 : Int32)) from by rw [if_pos h13.symm, if_neg h25]), rfl⟩
  · rw [hy, hs.1, nI_eq (by omega) (by have := hs.2.1; omega)] at h13
    refine r_iconst hO dX1_faultOfPair_16 ic_3 ?_
    exact r_ireturn hO hr dX1_faultOfPair_17 rfl ⟨sI (show _ = (if x.1 = w then _ else (3 : Int32)) from by rw [if_neg (fun z => h13 z.symm)]), rfl⟩
theorem zX1_faultOfPair (l : Launch) {M : Mm} {p : Nat} (hp : shP p) {s : Sh} (hs : ShC M p s) {y i : Int32} (w : Nat) (hy : y = nI w) (hw : w ≤ 2) : CFz l 2 yX1_faultOfPair cX1_faultOfPair 4 (some .int) [.ref p, .int y, .int i] M (some (.int (fpI s w i))) M := by
  cases s with
  | none => exact zX1_faultOfPairN l hp hs
  | some x => exact zX1_faultOfPairS l hp hs w hy hw
set_option maxHeartbeats 4000000 in
theorem zX4_read (l : Launch) {M : Mm} {σ : Sta} (h : RC M σ) {k0 w0 f n0 : Int32} : Clz l 3 yX4_read cX4_read 12 (some .int) [.ref 0, .int k0, .int w0, .int f, .int n0] M (fun r M' => r = some (.int (p_read σ k0 w0 f n0).1) ∧ RC M' (p_read σ k0 w0 f n0).2 ∧ FCr M M') := by
  refine Clz.on RX4 rfl (by decide +kernel) (Nat.le_of_ble_eq_true rfl) (fun X hL hO hr => ?_)
  show Gz X 0 [.ref 0, .int k0, .int w0, .int f, .int n0, .null, .null, .null, .null, .null, .null, .null] [] M
  refine r_iload_n hO dX4_read_0 rfl ?_
  refine r_iconst hO dX4_read_1 ic_3 ?_
  refine r_fS hO dX4_read_2 kRX4_62 msX4_within (zX4_within _) ⟨Nat.le_of_ble_eq_true rfl, Nat.le_of_ble_eq_true rfl, rfl, Nat.le_of_ble_eq_true rfl⟩ rfl ?_
  refine r_if_eq 26 hO dX4_read_5 (by decide) (fun h5 => ?_) (fun h5 => ?_)
  · rw [bI_0] at h5
    refine r_iconst hO dX4_read_26 ic_m1 ?_
    have e : p_read σ k0 w0 f n0 = (-1, σ) := if_neg (ff (Q := True) (b := inI k0 0 3) h5)
    exact r_ireturn hO hr dX4_read_27 rfl ⟨by rw [e], by rw [e]; exact h, FCr.rf⟩
  · rw [bI_n0] at h5
    refine r_iload_n hO dX4_read_8 rfl ?_
    refine r_iconst hO dX4_read_9 ic_2 ?_
    refine r_fS hO dX4_read_10 kRX4_62 msX4_within (zX4_within _) ⟨Nat.le_of_ble_eq_true rfl, Nat.le_of_ble_eq_true rfl, rfl, Nat.le_of_ble_eq_true rfl⟩ rfl ?_
    refine r_if_eq 26 hO dX4_read_13 (by decide) (fun h13 => ?_) (fun h13 => ?_)
    · rw [bI_0] at h13
      refine r_iconst hO dX4_read_26 ic_m1 ?_
      have e : p_read σ k0 w0 f n0 = (-1, σ) := if_neg (fun q => ff (Q := True) (b := inI w0 0 2) h13 q.2)
      exact r_ireturn hO hr dX4_read_27 rfl ⟨by rw [e], by rw [e]; exact h, FCr.rf⟩
    · rw [bI_n0] at h13
      refine r_iload hO dX4_read_16 rfl ?_
      refine r_bipush hO dX4_read_18 bc_20 ?_
      refine r_fS hO dX4_read_20 kRX4_62 msX4_within (zX4_within _) ⟨Nat.le_of_ble_eq_true rfl, Nat.le_of_ble_eq_true rfl, rfl, Nat.le_of_ble_eq_true rfl⟩ rfl ?_
      refine r_if_ne 28 hO dX4_read_23 (by decide) (fun h23 => ?_) (fun h23 => ?_)
      · rw [bI_n0] at h23
        have h5 : inI k0 0 3 = true := h5
        have h13 : inI w0 0 2 = true := h13
        have h23 : inI n0 0 20 = true := h23
        obtain ⟨k, hk, rfl⟩ := inI_nat (n := 3) (by decide) h5
        obtain ⟨w, hw, rfl⟩ := inI_nat (n := 2) (by decide) h13
        obtain ⟨n, hn, rfl⟩ := inI_nat (n := 20) (by decide) h23
        have hk4 : k < 4 := by omega
        have hp := shP_a hk4
        have hl6 := h.1.1.1
        have e : p_read σ (nI k) (nI w) f (nI n) = rdA σ (rdR (σ.2.2.2.2.2 k) w σ.1.1.length f n 0 σ.1) := by unfold p_read; rw [if_pos ⟨h5, h13, h23⟩, nI_clamp (by omega), nI_clamp (by omega), nI_clamp (by omega)]
        refine r_aload_n hO dX4_read_28 rfl ?_
        refine r_getR 14 hO dX4_read_29 fRX4_43 rfl ?_
        refine r_iload_n hO dX4_read_32 rfl ?_
        refine s_aald 14 4 (24 + 2 * k) hO dX4_read_33 k rfl (shR hk4) hk4 (by decide) ?_
        refine s_astore hL hO dX4_read_34 (Nat.le_of_ble_eq_true rfl) rfl ?_
        refine r_aload_n hO dX4_read_36 rfl ?_
        refine r_getR 8 hO dX4_read_37 fRX4_30 rfl ?_
        refine r_aload_n hO dX4_read_40 rfl ?_
        refine r_getR 4 hO dX4_read_41 fRX4_26 rfl ?_
        refine r_callV hO dX4_read_44 kRX4_80 miX0_become (zX0_become _ (show nuP 8 from Or.inr (Or.inl rfl)) (show nuP 4 from Or.inl rfl) (by decide)) ⟨Nat.le_of_ble_eq_true rfl, Nat.le_of_ble_eq_true rfl, rfl, Nat.le_of_ble_eq_true rfl⟩ rfl rfl (fun q M0 hpo => ?_)
        obtain ⟨rfl, B0⟩ := hpo
        refine r_iconst hO dX4_read_47 ic_0 ?_
        refine s_istore hL hO dX4_read_48 (Nat.le_of_ble_eq_true rfl) rfl ?_
        refine r_iconst hO dX4_read_50 ic_0 ?_
        refine s_istore hL hO dX4_read_51 (Nat.le_of_ble_eq_true rfl) rfl ?_
        refine r_iconst hO dX4_read_53 ic_0 ?_
        refine s_istore hL hO dX4_read_54 (Nat.le_of_ble_eq_true rfl) rfl ?_
        have fin : ∀ (t j : Nat) (u : Nu) (pr : Int32) (M1 : Mm), CU M1 8 u → FQ M M1 → rdR (σ.2.2.2.2.2 k) w σ.1.1.length f n 0 σ.1 = (nI j, u, some t) → Gz X 152 [.ref 0, .int (nI k), .int (nI w), .int f, .int (nI n), .ref (24 + 2 * k), .int (nI t), .int (nI j), .int pr, .null, .null, .null] [] M1 := by
          intro t j u pr M1 hU hF hr1
          refine r_aload_n hO dX4_read_152 rfl ?_
          refine r_getR 4 hO dX4_read_153 fRX4_26 rfl ?_
          refine r_aload_n hO dX4_read_156 rfl ?_
          refine r_getR 8 hO dX4_read_157 fRX4_30 rfl ?_
          refine r_callV hO dX4_read_160 kRX4_80 miX0_become (zX0_become _ (show nuP 4 from Or.inl rfl) (show nuP 8 from Or.inr (Or.inl rfl)) (by decide)) ⟨Nat.le_of_ble_eq_true rfl, Nat.le_of_ble_eq_true rfl, rfl, Nat.le_of_ble_eq_true rfl⟩ rfl rfl (fun q M2 hpo => ?_)
          obtain ⟨rfl, B⟩ := hpo
          refine r_aload_n hO dX4_read_163 rfl ?_
          refine r_iload hO dX4_read_164 rfl ?_
          refine r_putI hO dX4_read_166 fRX4_58 rfl ?_
          refine r_iload hO dX4_read_169 rfl ?_
          exact r_ireturn hO hr dX4_read_171 rfl ⟨by rw [e, hr1]; rfl, by rw [e, hr1]; exact ((h.q hF).nut (fun a j h1 _ => B.1 a j (by omega)) (hU.bec B)).tn (fun a j h1 _ => by rw [mpg, if_neg (by omega)]) (by rw [mpg, if_pos ⟨rfl, rfl⟩]), (hF.fc.tr (B.fc (by decide))).tr (FCr.put (by decide))⟩
        have flt : ∀ (t j : Nat) (u : Nu) (pr : Int32) (M1 : Mm), ¬ nI t = 0 → CU M1 8 u → FQ M M1 → rdR (σ.2.2.2.2.2 k) w σ.1.1.length f n 0 σ.1 = (nI j, u, some t) → Gz X 56 [.ref 0, .int (nI k), .int (nI w), .int f, .int (nI n), .ref (24 + 2 * k), .int (nI t), .int (nI j), .int pr, .null, .null, .null] [] M1 := by
          intro t j u pr M1 ht hU hF hr1
          refine r_iload hO dX4_read_56 rfl ?_
          refine r_iload hO dX4_read_58 rfl ?_
          refine r_icmp_ge 152 hO dX4_read_60 (by decide) (fun h60 => ?_) (fun h60 => ?_)
          · exact fin t j u _ M1 hU hF hr1
          · refine r_iload hO dX4_read_63 rfl ?_
            refine r_if_ne 152 hO dX4_read_65 (by decide) (fun _ => ?_) (fun z => absurd z ht)
            exact fin t j u _ M1 hU hF hr1
        have loop : ∀ (r j : Nat) (u : Nu) (M1 : Mm), j + r = n → CU M1 8 u → FQ M M1 → u.1.length = σ.1.1.length → rdR (σ.2.2.2.2.2 k) w σ.1.1.length f r j u = rdR (σ.2.2.2.2.2 k) w σ.1.1.length f n 0 σ.1 → Gz X 56 [.ref 0, .int (nI k), .int (nI w), .int f, .int (nI n), .ref (24 + 2 * k), .int 0, .int (nI j), .int (nI j), .null, .null, .null] [] M1 := by
          intro r
          induction r with
          | zero =>
            intro j u M1 hjr hU hF hl he
            refine r_iload hO dX4_read_56 rfl ?_
            refine r_iload hO dX4_read_58 rfl ?_
            refine r_icmp_ge 152 hO dX4_read_60 (by decide) (fun _ => ?_) (fun z => absurd (nI_le (by omega) (by omega)) z)
            exact fin 0 j u _ M1 hU hF (by rw [← he]; rfl)
          | succ r ih =>
            intro j u M1 hjr hU hF hl he
            have hs1 : ShC M1 (24 + 2 * k) (σ.2.2.2.2.2 k) := (h.q hF).2.2.2.2.2 k hk4
            refine r_iload hO dX4_read_56 rfl ?_
            refine r_iload hO dX4_read_58 rfl ?_
            refine r_icmp_ge 152 hO dX4_read_60 (by decide) (fun z => absurd z (nI_ge (by omega) (by omega))) (fun _ => ?_)
            refine r_iload hO dX4_read_63 rfl ?_
            refine r_if_ne 152 hO dX4_read_65 (by decide) (fun z => absurd rfl z) (fun _ => ?_)
            refine r_iload_n hO dX4_read_68 rfl ?_
            refine r_iconst hO dX4_read_69 ic_2 ?_
            refine r_iload hO dX4_read_70 rfl ?_
            refine r_imul hO dX4_read_72 ?_
            refine r_iadd hO dX4_read_73 ?_
            refine s_istore hL hO dX4_read_74 (Nat.le_of_ble_eq_true rfl) rfl ?_
            refine r_aload hO dX4_read_76 rfl ?_
            refine r_iload_n hO dX4_read_78 rfl ?_
            refine r_iload hO dX4_read_79 rfl ?_
            refine r_fV hO dX4_read_81 kRX4_203 miX1_faultOfPair (zX1_faultOfPair _ hp hs1 w rfl hw) ⟨Nat.le_of_ble_eq_true rfl, Nat.le_of_ble_eq_true rfl, rfl, Nat.le_of_ble_eq_true rfl⟩ (sh_o hp) rfl ?_
            rw [fp_eq (by omega) hs1.sz]
            have hf3 := fp_3 (σ.2.2.2.2.2 k) w (f.toInt + 2 * j)
            refine s_istore hL hO dX4_read_84 (Nat.le_of_ble_eq_true rfl) rfl ?_
            refine r_iload hO dX4_read_86 rfl ?_
            refine r_if_ne 146 hO dX4_read_88 (by decide) (fun h88 => ?_) (fun h88 => ?_)
            · have hz : ¬ fpN (σ.2.2.2.2.2 k) w (f.toInt + 2 * j) = 0 := fun z => h88 (by rw [z]; rfl)
              refine s_iinc hL hO dX4_read_146 rfl ic_1 (Nat.le_of_ble_eq_true rfl) rfl ?_
              refine r_goto 56 hO dX4_read_149 (by decide) ?_
              refine r_null 9 ?_
              show Gz X 56 [.ref 0, .int (nI k), .int (nI w), .int f, .int (nI n), .ref (24 + 2 * k), .int (nI (fpN (σ.2.2.2.2.2 k) w (f.toInt + 2 * j))), .int (nI j), .int (nI j + 1), .null, .null, .null] [] M1
              exact flt _ j u _ M1 h88 hU hF (by rw [← he, rd_f hz])
            · have hz0 : fpN (σ.2.2.2.2.2 k) w (f.toInt + 2 * j) = 0 := by rw [← nI_0, nI_eq (by omega) (by omega)] at h88; exact h88
              obtain ⟨x, m, hsx, hxw, hP, hm⟩ := fp_0 hz0
              have hx40 := hs1.sz x hsx
              have hat : f + 2 * nI j = nI m := at_n (by omega) hP (by omega)
              have hc1 := hs1.cell hsx (i := m) (by omega)
              have hc2 := hs1.cell hsx (i := m + 1) (by omega)
              show Gz X 91 [.ref 0, .int (nI k), .int (nI w), .int f, .int (nI n), .ref (24 + 2 * k), .int (nI (fpN (σ.2.2.2.2.2 k) w (f.toInt + 2 * j))), .int (nI j), .int (nI j), .int (f + 2 * nI j), .null, .null] [] M1
              refine r_aload hO dX4_read_91 rfl ?_
              refine r_getR ((24 + 2 * k) + 1) hO dX4_read_93 fRX4_206 (sh_R0 hp) ?_
              refine r_iload hO dX4_read_96 rfl ?_
              refine s_iald 40 hO dX4_read_98 (sh_A hp) (Nat.le_of_ble_eq_true rfl) m hat (by omega) ?_
              refine s_istore hL hO dX4_read_99 (Nat.le_of_ble_eq_true rfl) rfl ?_
              refine r_aload hO dX4_read_101 rfl ?_
              refine r_getR ((24 + 2 * k) + 1) hO dX4_read_103 fRX4_206 (sh_R0 hp) ?_
              refine r_iload hO dX4_read_106 rfl ?_
              refine r_iconst hO dX4_read_108 ic_1 ?_
              refine r_iadd hO dX4_read_109 ?_
              refine s_iald 40 hO dX4_read_110 (sh_A hp) (Nat.le_of_ble_eq_true rfl) (m + 1) (by rw [hat, nI_1]) (by omega) ?_
              refine s_istore hL hO dX4_read_111 (Nat.le_of_ble_eq_true rfl) rfl ?_
              show Gz X 113 [.ref 0, .int (nI k), .int (nI w), .int f, .int (nI n), .ref (24 + 2 * k), .int (nI (fpN (σ.2.2.2.2.2 k) w (f.toInt + 2 * j))), .int (nI j), .int (nI j), .int (f + 2 * nI j), .int (M1.1 (24 + 2 * k + 1) m), .int (M1.1 (24 + 2 * k + 1) (m + 1))] [] M1
              refine r_aload_n hO dX4_read_113 rfl ?_
              refine r_iload hO dX4_read_114 rfl ?_
              refine r_iconst hO dX4_read_116 ic_2 ?_
              refine r_iload hO dX4_read_117 rfl ?_
              refine r_fV hO dX4_read_119 kRX4_137 miX4_canAlter (zX4_canAlter _ (h.q hF)) ⟨Nat.le_of_ble_eq_true rfl, Nat.le_of_ble_eq_true rfl, rfl, Nat.le_of_ble_eq_true rfl⟩ rfl rfl ?_
              refine r_if_ne 131 hO dX4_read_122 (by decide) (fun h122 => ?_) (fun h122 => ?_)
              · rw [bI_n0, okA_2, hc1, hc2] at h122
                obtain ⟨a, v, ha, hv, ei, ev⟩ := rdOk_sp hl6 h122
                refine r_aload_n hO dX4_read_131 rfl ?_
                refine r_getR 8 hO dX4_read_132 fRX4_30 rfl ?_
                refine r_iload hO dX4_read_135 rfl ?_
                refine r_iconst hO dX4_read_137 ic_2 ?_
                refine r_iload hO dX4_read_138 rfl ?_
                refine r_fV hO dX4_read_140 kRX4_141 miX0_put (zX0_put _ (show nuP 8 from Or.inr (Or.inl rfl)) a 2 (by rw [hc1, ei]) rfl (by omega) (by decide)) ⟨Nat.le_of_ble_eq_true rfl, Nat.le_of_ble_eq_true rfl, rfl, Nat.le_of_ble_eq_true rfl⟩ rfl rfl ?_
                rw [hc2, ev]
                refine s_iinc hL hO dX4_read_143 rfl ic_1 (Nat.le_of_ble_eq_true rfl) rfl ?_
                refine s_iinc hL hO dX4_read_146 rfl ic_1 (Nat.le_of_ble_eq_true rfl) rfl ?_
                refine r_goto 56 hO dX4_read_149 (by decide) ?_
                refine r_null 9 (r_null 10 (r_null 11 ?_))
                show Gz X 56 [.ref 0, .int (nI k), .int (nI w), .int f, .int (nI n), .ref (24 + 2 * k), .int (nI (fpN (σ.2.2.2.2.2 k) w (f.toInt + 2 * j))), .int (nI j + 1), .int (nI j + 1), .null, .null, .null] [] _
                rw [nI_1, hz0]
                exact ih (j + 1) (rdU u (cellS (σ.2.2.2.2.2 k) m) (cellS (σ.2.2.2.2.2 k) (m + 1))) _ (by omega) (by rw [ei, ev]; unfold rdU; rw [nI_clamp (by omega), nI_clamp (by omega)]; exact hU.put (gD (by omega)) (by decide) (by show v ≤ 20; omega)) (hF.tr (FQ.put (by omega))) (by unfold rdU; rw [List.length_set]; exact hl) (by rw [← he, rd_t hz0 hP h122])
              · rw [bI_0, okA_2, hc1, hc2] at h122
                refine r_bipush hO dX4_read_125 bc_m20 ?_
                refine r_iload hO dX4_read_127 rfl ?_
                refine r_isub hO dX4_read_129 ?_
                exact r_ireturn hO hr dX4_read_130 rfl ⟨by rw [e, ← he, rd_b hz0 hP h122]; rfl, by rw [e, ← he, rd_b hz0 hP h122]; exact h.q hF, hF.fc⟩
        exact loop n 0 σ.1 M0 (by omega) (h.1.bec B0) (FQ.bec B0) rfl rfl
      · rw [bI_0] at h23
        refine r_iconst hO dX4_read_26 ic_m1 ?_
        have e : p_read σ k0 w0 f n0 = (-1, σ) := if_neg (fun q => ff2 (b := inI n0 0 20) h23 q.2)
        exact r_ireturn hO hr dX4_read_27 rfl ⟨by rw [e], by rw [e]; exact h, FCr.rf⟩
