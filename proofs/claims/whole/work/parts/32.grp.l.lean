/-! luck, mean -/
def bitN (way d : Nat) : Bool := decide (way / 2 ^ d % 2 = 1)
theorem bit_d : ∀ way, way < 256 → ∀ d, d < 8 → (nI way >>> (nI d &&& 31)) &&& 1 = bI (bitN way d) := by decide +kernel
theorem pow_d : ∀ n, n < 9 → (1 : Int32) <<< (nI n &&& 31) = nI (2 ^ n) := by decide +kernel
theorem pow_256 {n : Nat} (h : n ≤ 8) : 2 ^ n ≤ 256 := Nat.pow_le_pow_right (n := 2) (by decide) h
def wtR (v way : Nat) : Nat → Nat → Nat → Nat
  | 0, _, w => w
  | r + 1, d, w => wtR v way r (d + 1) (w * (if bitN way d = true then v else 10 - v))
def swR (way : Nat) : Nat → Nat → Ns → Ns
  | 0, _, s => s
  | r + 1, d, s => swR way r (d + 1) (if bitN way d = true then idlS s else dayS s)
def odT (v n : Nat) : Nat → Nat → Nat → Nat
  | 0, _, t => t
  | r + 1, j, t => odT v n r (j + 1) (t + wtR v j n 0 1)
def odV (c : Bool) (s : Ns) : Nat := if c = true then (if car s.2.1 s.1 = true then 1 else 0) else s.2.1
def odS (s : Ns) (c : Bool) (v n : Nat) : Nat → Nat → Nat → Nat
  | 0, _, t => t
  | r + 1, j, t => odS s c v n r (j + 1) (t + wtR v j n 0 1 * odV c (swR j n 0 s))
theorem odT_d : ∀ v, v < 11 → ∀ n, n < 9 → odT v n (2 ^ n) 0 0 = 10 ^ n := by decide +kernel
theorem wtR_le {v way : Nat} (hv : v ≤ 10) : ∀ (r d w : Nat), wtR v way r d w ≤ w * 10 ^ r := by
  intro r
  induction r with
  | zero => intro d w; show w ≤ w * 1; omega
  | succ r ih =>
    intro d w
    refine Nat.le_trans (ih (d + 1) _) ?_
    rw [Nat.pow_succ, Nat.mul_comm (10 ^ r) 10, ← Nat.mul_assoc]
    exact Nat.mul_le_mul_right _ (Nat.mul_le_mul_left _ (by split <;> omega))
theorem ten_le {n : Nat} (h : n ≤ 8) : 10 ^ n ≤ 10 ^ 8 := Nat.pow_le_pow_right (by decide) h
theorem dayS_lm {s : Ns} (h : s.2.1 ≤ 20) : (dayS s).2.1 ≤ 20 := dayS_mo h
theorem swR_mo (way : Nat) : ∀ (r d : Nat) (s : Ns), s.2.1 ≤ 20 → (swR way r d s).2.1 ≤ 20 := by
  intro r
  induction r with
  | zero => intro d s h; exact h
  | succ r ih => intro d s h; exact ih _ _ (by split; exact h; exact dayS_mo h)
theorem odV_le {c : Bool} {s : Ns} (h : s.2.1 ≤ 20) : odV c s ≤ 20 := by unfold odV; split; split <;> omega; exact h
theorem odS_le {s : Ns} (hs : s.2.1 ≤ 20) {c : Bool} {v n : Nat} (hv : v ≤ 10) (hn : n ≤ 8) : ∀ (r j t : Nat), odS s c v n r j t ≤ t + r * (20 * 10 ^ 8) := by
  intro r
  induction r with
  | zero => intro j t; show t ≤ _; omega
  | succ r ih =>
    intro j t
    refine Nat.le_trans (ih (j + 1) _) ?_
    have h1 := wtR_le (way := j) hv n 0 1
    have h2 := ten_le hn
    have h3 : wtR v j n 0 1 * odV c (swR j n 0 s) ≤ 10 ^ 8 * 20 := Nat.mul_le_mul (by omega) (odV_le (swR_mo _ _ _ _ hs))
    rw [Nat.succ_mul]
    omega
def p_odds (σ : Sta) (c : Bool) (v n w : Int32) : Int64 := if inI v 0 10 = true ∧ inI n 0 8 = true ∧ inI w 0 1 = true then (if w = 0 then lN (odS (nuS σ.1) c v.toNatClampNeg n.toNatClampNeg (2 ^ n.toNatClampNeg) 0 0 / Nat.gcd (10 ^ n.toNatClampNeg) (odS (nuS σ.1) c v.toNatClampNeg n.toNatClampNeg (2 ^ n.toNatClampNeg) 0 0)) else lN (10 ^ n.toNatClampNeg / Nat.gcd (10 ^ n.toNatClampNeg) (odS (nuS σ.1) c v.toNatClampNeg n.toNatClampNeg (2 ^ n.toNatClampNeg) 0 0))) else -1
theorem sL {a b : Int64} (h : a = b) : some (Value.long a) = some (Value.long b) := by rw [h]
theorem gcd_st {a b : Nat} : Nat.gcd b (a % b) = Nat.gcd a b := by rw [Nat.gcd_comm a b, Nat.gcd_rec b a, Nat.gcd_comm]
theorem eu_half {a b k : Nat} (hb : 0 < b) (hab : b ≤ a) (h : a * b < 2 ^ (k + 1)) : b * (a % b) < 2 ^ k := by
  have h1 := Nat.div_add_mod a b
  have h2 := Nat.mod_lt a hb
  have h3 : 1 ≤ a / b := (Nat.one_le_div_iff hb).mpr hab
  have h4 : b * 1 ≤ b * (a / b) := Nat.mul_le_mul_left _ h3
  have h5 : 2 * (a % b) ≤ a := by omega
  have h6 : b * (2 * (a % b)) ≤ b * a := Nat.mul_le_mul_left _ h5
  rw [Nat.mul_comm b a, Nat.mul_left_comm] at h6
  rw [Nat.pow_succ] at h
  omega
theorem eu_le {a b k : Nat} (h : a * b < 2 ^ k) : b * (a % b) < 2 ^ k := by
  refine Nat.lt_of_le_of_lt ?_ h
  rw [Nat.mul_comm a b]
  exact Nat.mul_le_mul_left _ (Nat.mod_le _ _)
theorem nI_sub {a b : Nat} (h : b ≤ a) : nI a - nI b = nI (a - b) := by
  have : nI (a - b) + nI b = nI a := by rw [nI_add]; congr 1; omega
  rw [← this, Int32.add_sub_cancel]
set_option maxHeartbeats 4000000 in
theorem zX4_weightOf (l : Launch) {M : Mm} {x y z : Int32} (j v n : Nat) (hx : x = nI j) (hy : y = nI v) (hz : z = nI n) (hj : j < 256) (hv : v ≤ 10) (hn : n ≤ 8) : CFz l 0 yX4_weightOf cX4_weightOf 6 (some .long) [.int x, .int y, .int z] M (some (.long (lN (wtR v j n 0 1)))) (M) := by
  refine Clz.on RX4 rfl (by decide +kernel) (Nat.le_of_ble_eq_true rfl) (fun X hL hO hr => ?_)
  show Gz X 0 [.int x, .int y, .int z, .null, .null, .null] [] M
  refine r_lconst hO dX4_weightOf_0 lc_1 ?_
  refine s_lstore_n hL hO dX4_weightOf_1 (Nat.le_of_ble_eq_true rfl) rfl ?_
  refine r_iconst hO dX4_weightOf_2 ic_0 ?_
  refine s_istore hL hO dX4_weightOf_3 (Nat.le_of_ble_eq_true rfl) rfl ?_
  have loop : ∀ (r d w : Nat), d + r = n → wtR v j r d w = wtR v j n 0 1 → Gz X 5 [.int x, .int y, .int z, .long (lN w), .null, .int (nI d)] [] M := by
    intro r
    induction r with
    | zero =>
      intro d w hdr he
      refine r_iload hO dX4_weightOf_5 rfl ?_
      refine r_iload_n hO dX4_weightOf_7 rfl ?_
      refine r_icmp_ge 40 hO dX4_weightOf_8 (by decide) (fun _ => ?_) (fun z => absurd (by rw [hz]; exact nI_le (by omega) (by omega)) z)
      refine r_lload_n hO dX4_weightOf_40 rfl ?_
      exact r_lreturn hO hr dX4_weightOf_41 ⟨sL (by rw [← he]; rfl), rfl⟩
    | succ r ih =>
      intro d w hdr he
      refine r_iload hO dX4_weightOf_5 rfl ?_
      refine r_iload_n hO dX4_weightOf_7 rfl ?_
      refine r_icmp_ge 40 hO dX4_weightOf_8 (by decide) (fun z => absurd z (by rw [hz]; exact nI_ge (by omega) (by omega))) (fun _ => ?_)
      refine r_lload_n hO dX4_weightOf_11 rfl ?_
      refine r_iload_n hO dX4_weightOf_12 rfl ?_
      refine r_iload hO dX4_weightOf_13 rfl ?_
      refine r_ishr hO dX4_weightOf_15 ?_
      refine r_iconst hO dX4_weightOf_16 ic_1 ?_
      refine r_iand hO dX4_weightOf_17 ?_
      refine r_iconst hO dX4_weightOf_18 ic_1 ?_
      refine r_icmp_ne 27 hO dX4_weightOf_19 (by decide) (fun h19 => ?_) (fun h19 => ?_)
      · rw [hx, bit_d j hj d (by omega)] at h19
        have h19 : bitN j d = false := by revert h19; cases bitN j d <;> decide
        refine r_bipush hO dX4_weightOf_27 bc_10 ?_
        refine r_iload_n hO dX4_weightOf_29 rfl ?_
        refine r_isub hO dX4_weightOf_30 ?_
        refine r_i2l hO dX4_weightOf_31 ?_
        refine r_lmul hO dX4_weightOf_32 ?_
        refine s_lstore_n hL hO dX4_weightOf_33 (Nat.le_of_ble_eq_true rfl) rfl ?_
        refine s_iinc hL hO dX4_weightOf_34 rfl ic_1 (Nat.le_of_ble_eq_true rfl) rfl ?_
        refine r_goto 5 hO dX4_weightOf_37 (by decide) ?_
        show Gz X 5 [.int x, .int y, .int z, .long (lN w * (10 - y).toInt64), .null, .int (nI d + 1)] [] M
        rw [nI_1, show (10 - y).toInt64 = lN (10 - v) from by rw [hy, show (10 : Int32) = nI 10 from rfl, nI_sub hv, nI_l (by omega)], lN_mul]
        exact ih (d + 1) _ (by omega) (by rw [← he]; show _ = wtR _ _ _ _ (w * (if _ then _ else _)); rw [h19, if_neg (by decide)])
      · rw [hx, bit_d j hj d (by omega)] at h19
        have h19 : bitN j d = true := by revert h19; cases bitN j d <;> decide
        refine r_iload_n hO dX4_weightOf_22 rfl ?_
        refine r_i2l hO dX4_weightOf_23 ?_
        refine r_goto 32 hO dX4_weightOf_24 (by decide) ?_
        refine r_lmul hO dX4_weightOf_32 ?_
        refine s_lstore_n hL hO dX4_weightOf_33 (Nat.le_of_ble_eq_true rfl) rfl ?_
        refine s_iinc hL hO dX4_weightOf_34 rfl ic_1 (Nat.le_of_ble_eq_true rfl) rfl ?_
        refine r_goto 5 hO dX4_weightOf_37 (by decide) ?_
        show Gz X 5 [.int x, .int y, .int z, .long (lN w * y.toInt64), .null, .int (nI d + 1)] [] M
        rw [nI_1, show y.toInt64 = lN v from by rw [hy, nI_l (by omega)], lN_mul]
        exact ih (d + 1) _ (by omega) (by rw [← he]; show _ = wtR _ _ _ _ (w * (if _ then _ else _)); rw [h19, if_pos rfl])
  exact loop n 0 1 (by omega) rfl
theorem cmp0 {b : Nat} (hb : b < 2 ^ 63) : lg_cmp (lN b) 0 = 0 ↔ b = 0 := by
  rw [lg_cmp_eq, show (0 : Int64) = lN 0 from rfl, pk_lEQ hb (by omega)]
theorem mulP {a b k : Nat} (h : a * b < 2 ^ k) (hk : k = 0) (hab : b ≤ a) : b = 0 := by
  subst hk
  rcases Nat.eq_zero_or_pos b with h0 | h0
  · exact h0
  · have : 1 * 1 ≤ a * b := Nat.mul_le_mul (by omega) h0
    omega
set_option maxHeartbeats 4000000 in
theorem zX4_commonDivisor (l : Launch) {M : Mm} {x0 y0 : Int64} (a0 b0 : Nat) (hx : x0 = lN a0) (hy : y0 = lN b0) (ha0 : a0 < 2 ^ 63) (hb0 : b0 < 2 ^ 63) (hab0 : a0 * b0 < 2 ^ 100) : CFz l 0 yX4_commonDivisor cX4_commonDivisor 11 (some .long) [.long x0, .long y0] M (some (.long (lN (Nat.gcd a0 b0)))) (M) := by
  refine Clz.on RX4 rfl (by decide +kernel) (Nat.le_of_ble_eq_true rfl) (fun X hL hO hr => ?_)
  show Gz X 0 [.long x0, .null, .long y0, .null, .null, .null, .null, .null, .null, .null, .null] [] M
  refine r_lload_n hO dX4_commonDivisor_0 rfl ?_
  refine s_lstore hL hO dX4_commonDivisor_1 (Nat.le_of_ble_eq_true rfl) rfl ?_
  refine r_lload_n hO dX4_commonDivisor_3 rfl ?_
  refine s_lstore hL hO dX4_commonDivisor_4 (Nat.le_of_ble_eq_true rfl) rfl ?_
  refine r_iconst hO dX4_commonDivisor_6 ic_0 ?_
  refine s_istore hL hO dX4_commonDivisor_7 (Nat.le_of_ble_eq_true rfl) rfl ?_
  obtain ⟨x, hxx⟩ : ∃ x, x = x0 := ⟨_, rfl⟩
  obtain ⟨y, hyy⟩ : ∃ y, y = y0 := ⟨_, rfl⟩
  have loop : ∀ (r : Nat) (a b j k : Nat), a < 2 ^ 63 → b < 2 ^ 63 → (b ≤ a ∨ j = 0) → a * b < 2 ^ k → j + r = 200 → (if j = 0 then k + 1 else k) ≤ r → Nat.gcd a b = Nat.gcd a0 b0 → Gz X 9 [.long x, .null, .long y, .null, .long (lN a), .null, .long (lN b), .null, .int (nI j), .null, .null] [] M := by
    intro r
    induction r with
    | zero =>
      intro a b j k ha hb hab hlt hjr hk hg
      have hk0 : k = 0 := by split at hk <;> omega
      refine r_iload hO dX4_commonDivisor_9 rfl ?_
      refine r_sipush hO dX4_commonDivisor_11 sc_200 ?_
      refine r_icmp_ge 45 hO dX4_commonDivisor_14 (by decide) (fun _ => ?_) (fun z => absurd (by rw [show (200 : Int32) = nI 200 from rfl]; exact nI_le (by omega) (by omega)) z)
      refine r_lload hO dX4_commonDivisor_45 rfl ?_
      have hb0 : b = 0 := by rcases hab with hab | hab
                             · exact mulP hlt hk0 hab
                             · omega
      exact r_lreturn hO hr dX4_commonDivisor_47 ⟨sL (by rw [← hg, hb0, Nat.gcd_zero_right]), rfl⟩
    | succ r ih =>
      intro a b j k ha hb hab hlt hjr hk hg
      have hj1 : ¬ j + 1 = 0 := by omega
      refine r_iload hO dX4_commonDivisor_9 rfl ?_
      refine r_sipush hO dX4_commonDivisor_11 sc_200 ?_
      refine r_icmp_ge 45 hO dX4_commonDivisor_14 (by decide) (fun z => absurd z (by rw [show (200 : Int32) = nI 200 from rfl]; exact nI_ge (by omega) (by omega))) (fun _ => ?_)
      refine r_lload hO dX4_commonDivisor_17 rfl ?_
      refine r_lconst hO dX4_commonDivisor_19 lc_0 ?_
      refine r_lcmp hO dX4_commonDivisor_20 ?_
      refine r_if_eq 45 hO dX4_commonDivisor_21 (by decide) (fun h21 => ?_) (fun h21 => ?_)
      · rw [cmp0 hb] at h21
        refine r_lload hO dX4_commonDivisor_45 rfl ?_
        exact r_lreturn hO hr dX4_commonDivisor_47 ⟨sL (by rw [← hg, h21, Nat.gcd_zero_right]), rfl⟩
      · rw [cmp0 hb] at h21
        refine r_lload hO dX4_commonDivisor_24 rfl ?_
        refine r_lload hO dX4_commonDivisor_26 rfl ?_
        refine r_lrem hO dX4_commonDivisor_28 (by rw [show (0 : Int64) = lN 0 from rfl, pk_lEQ hb (by omega)]; exact h21) ?_
        refine s_lstore hL hO dX4_commonDivisor_29 (Nat.le_of_ble_eq_true rfl) rfl ?_
        refine r_lload hO dX4_commonDivisor_31 rfl ?_
        refine s_lstore hL hO dX4_commonDivisor_33 (Nat.le_of_ble_eq_true rfl) rfl ?_
        refine r_lload hO dX4_commonDivisor_35 rfl ?_
        refine s_lstore hL hO dX4_commonDivisor_37 (Nat.le_of_ble_eq_true rfl) rfl ?_
        refine s_iinc hL hO dX4_commonDivisor_39 rfl ic_1 (Nat.le_of_ble_eq_true rfl) rfl ?_
        refine r_goto 9 hO dX4_commonDivisor_42 (by decide) ?_
        refine r_null 9 ?_
        show Gz X 9 [.long x, .null, .long y, .null, .long (lN b), .null, .long (lN a - lN a / lN b * lN b), .null, .int (nI j + 1), .null, .null] [] M
        rw [nI_1, pk_lRem ha (by omega) hb]
        have hm := Nat.mod_lt a (show 0 < b by omega)
        rcases hab with hab | hab
        · cases k with
          | zero => exact absurd (mulP hlt rfl hab) h21
          | succ k => exact ih b (a % b) (j + 1) k hb (by omega) (Or.inl (by omega)) (eu_half (by omega) hab hlt) (by omega) (by rw [if_neg hj1]; split at hk <;> omega) (by rw [gcd_st]; exact hg)
        · exact ih b (a % b) (j + 1) k hb (by omega) (Or.inl (by omega)) (eu_le hlt) (by omega) (by rw [if_neg hj1]; rw [if_pos hab] at hk; omega) (by rw [gcd_st]; exact hg)
  have := loop 200 a0 b0 0 100 ha0 hb0 (Or.inr rfl) hab0 (by omega) (by rw [if_pos rfl]; omega) rfl
  rw [← hx, ← hy, hxx, hyy] at this
  exact this
set_option maxHeartbeats 4000000 in
theorem zX4_byOdds (l : Launch) {M : Mm} {σ : Sta} (h : RC M σ) {x y w z : Int32} (v n : Nat) (c : Bool) (S : Nat) (hSe : S = (odS (nuS σ.1) c v n (2 ^ n) 0 0)) (hx : x = nI v) (hy : y = nI n) (hz : z = bI c) (hv : v ≤ 10) (hn : n ≤ 8) : Clz l 4 yX4_byOdds cX4_byOdds 13 (some .long) [.ref 0, .int x, .int y, .int w, .int z] M (fun r M' => r = some (.long (if w = 0 then lN (S / Nat.gcd (10 ^ n) S) else lN (10 ^ n / Nat.gcd (10 ^ n) S))) ∧ FQ M M') := by
  refine Clz.on RX4 rfl (by decide +kernel) (Nat.le_of_ble_eq_true rfl) (fun X hL hO hr => ?_)
  show Gz X 0 [.ref 0, .int x, .int y, .int w, .int z, .null, .null, .null, .null, .null, .null, .null, .null] [] M
  refine r_lconst hO dX4_byOdds_0 lc_0 ?_
  refine s_lstore hL hO dX4_byOdds_1 (Nat.le_of_ble_eq_true rfl) rfl ?_
  refine r_lconst hO dX4_byOdds_3 lc_0 ?_
  refine s_lstore hL hO dX4_byOdds_4 (Nat.le_of_ble_eq_true rfl) rfl ?_
  refine r_iconst hO dX4_byOdds_6 ic_0 ?_
  refine s_istore hL hO dX4_byOdds_7 (Nat.le_of_ble_eq_true rfl) rfl ?_
  have hS1 : S ≤ 0 + 2 ^ n * (20 * 10 ^ 8) := by rw [hSe]; exact odS_le h.1.1.2.2.2.1.2 hv hn _ _ _
  have h256 := pow_256 hn
  have hS2 : S ≤ 256 * (20 * 10 ^ 8) := Nat.le_trans hS1 (by rw [Nat.zero_add]; exact Nat.mul_le_mul_right _ h256)
  have h10 := ten_le hn
  have hp0 : 0 < 10 ^ n := Nat.pow_pos (by decide)
  have hTS : 10 ^ n * S < 2 ^ 100 := Nat.lt_of_le_of_lt (Nat.mul_le_mul h10 hS2) (by decide)
  have hg0 : 0 < Nat.gcd (10 ^ n) S := Nat.gcd_pos_of_pos_left _ hp0
  have hg1 : Nat.gcd (10 ^ n) S ≤ 10 ^ n := Nat.gcd_le_left _ hp0
  have hg63 : Nat.gcd (10 ^ n) S < 2 ^ 63 := by omega
  have loop : ∀ (r j u t : Nat) (M1 : Mm), j + r = 2 ^ n → FQ M M1 → odS (nuS σ.1) c v n r j u = S → odT v n r j t = odT v n (2 ^ n) 0 0 → Gz X 9 [.ref 0, .int x, .int y, .int w, .int z, .long (lN u), .null, .long (lN t), .null, .int (nI j), .null, .null, .null] [] M1 := by
    intro r
    induction r with
    | zero =>
      intro j u t M1 hjr hF hU hT
      refine r_iload hO dX4_byOdds_9 rfl ?_
      refine r_iconst hO dX4_byOdds_11 ic_1 ?_
      refine r_iload_n hO dX4_byOdds_12 rfl ?_
      refine r_ishl hO dX4_byOdds_13 ?_
      refine r_icmp_ge 129 hO dX4_byOdds_14 (by decide) (fun _ => ?_) (fun z => absurd (by rw [hy, pow_d n (by omega)]; exact nI_le (by omega) (by omega)) z)
      have et : t = 10 ^ n := by rw [← odT_d v (by omega) n (by omega), ← hT]; rfl
      have eu : u = S := by rw [← hU]; rfl
      rw [et, eu]
      show Gz X 129 [.ref 0, .int x, .int y, .int w, .int z, .long (lN S), .null, .long (lN (10 ^ n)), .null, .int (nI j), .null, .null, .null] [] M1
      refine r_lload hO dX4_byOdds_129 rfl ?_
      refine r_lload hO dX4_byOdds_131 rfl ?_
      refine r_fS hO dX4_byOdds_133 kRX4_223 msX4_commonDivisor (zX4_commonDivisor _ (10 ^ n) S rfl rfl (by omega) (by omega) hTS) ⟨Nat.le_of_ble_eq_true rfl, Nat.le_of_ble_eq_true rfl, rfl, Nat.le_of_ble_eq_true rfl⟩ rfl ?_
      refine s_lstore hL hO dX4_byOdds_136 (Nat.le_of_ble_eq_true rfl) rfl ?_
      refine r_lload hO dX4_byOdds_138 rfl ?_
      refine r_lconst hO dX4_byOdds_140 lc_1 ?_
      refine r_lcmp hO dX4_byOdds_141 ?_
      refine r_if_ge 148 hO dX4_byOdds_142 (by decide) (fun _ => ?_) (fun z => absurd ((lg_cmp_ge _ _).mpr (by rw [show (1 : Int64) = lN 1 from rfl, pk_lLE (by omega) hg63]; exact hg0)) z)
      refine r_iload_n hO dX4_byOdds_148 rfl ?_
      refine r_if_ne 160 hO dX4_byOdds_149 (by decide) (fun h149 => ?_) (fun h149 => ?_)
      · refine r_lload hO dX4_byOdds_160 rfl ?_
        refine r_lload hO dX4_byOdds_162 rfl ?_
        refine r_ldiv hO dX4_byOdds_164 (by rw [show (0 : Int64) = lN 0 from rfl, pk_lEQ hg63 (by omega)]; omega) ?_
        exact r_lreturn hO hr dX4_byOdds_165 ⟨sL (by rw [pk_lDiv (by omega) hg0 hg63, if_neg h149]), hF⟩
      · refine r_lload hO dX4_byOdds_152 rfl ?_
        refine r_lload hO dX4_byOdds_154 rfl ?_
        refine r_ldiv hO dX4_byOdds_156 (by rw [show (0 : Int64) = lN 0 from rfl, pk_lEQ hg63 (by omega)]; omega) ?_
        refine r_goto 165 hO dX4_byOdds_157 (by decide) ?_
        exact r_lreturn hO hr dX4_byOdds_165 ⟨sL (by rw [pk_lDiv (by omega) hg0 hg63, if_pos h149]), hF⟩
    | succ r ih =>
      intro j u t M1 hjr hF hU hT
      refine r_iload hO dX4_byOdds_9 rfl ?_
      refine r_iconst hO dX4_byOdds_11 ic_1 ?_
      refine r_iload_n hO dX4_byOdds_12 rfl ?_
      refine r_ishl hO dX4_byOdds_13 ?_
      refine r_icmp_ge 129 hO dX4_byOdds_14 (by decide) (fun z => absurd z (by rw [hy, pow_d n (by omega)]; exact nI_ge (by omega) (by omega))) (fun _ => ?_)
      have hj256 : j < 256 := by omega
      have hw := wtR_le (way := j) hv n 0 1
      refine r_iload hO dX4_byOdds_17 rfl ?_
      refine r_iload_n hO dX4_byOdds_19 rfl ?_
      refine r_iload_n hO dX4_byOdds_20 rfl ?_
      refine r_fS hO dX4_byOdds_21 kRX4_219 msX4_weightOf (zX4_weightOf _ j v n rfl hx hy hj256 hv hn) ⟨Nat.le_of_ble_eq_true rfl, Nat.le_of_ble_eq_true rfl, rfl, Nat.le_of_ble_eq_true rfl⟩ rfl ?_
      refine s_lstore hL hO dX4_byOdds_24 (Nat.le_of_ble_eq_true rfl) rfl ?_
      refine r_lload hO dX4_byOdds_26 rfl ?_
      refine r_lload hO dX4_byOdds_28 rfl ?_
      refine r_ladd hO dX4_byOdds_30 ?_
      refine s_lstore hL hO dX4_byOdds_31 (Nat.le_of_ble_eq_true rfl) rfl ?_
      refine r_lload hO dX4_byOdds_33 rfl ?_
      refine r_lconst hO dX4_byOdds_35 lc_0 ?_
      refine r_lcmp hO dX4_byOdds_36 ?_
      refine r_if_le 123 hO dX4_byOdds_37 (by decide) (fun h37 => ?_) (fun h37 => ?_)
      · rw [lg_cmp_le, show (0 : Int64) = lN 0 from rfl, pk_lLE (by omega) (by omega)] at h37
        refine s_iinc hL hO dX4_byOdds_123 rfl ic_1 (Nat.le_of_ble_eq_true rfl) rfl ?_
        refine r_goto 9 hO dX4_byOdds_126 (by decide) ?_
        refine r_null 10 (r_null 11 ?_)
        show Gz X 9 [.ref 0, .int x, .int y, .int w, .int z, .long (lN u), .null, .long (lN t + lN (wtR v j n 0 1)), .null, .int (nI j + 1), .null, .null, .null] [] M1
        rw [nI_1, lN_add]
        exact ih (j + 1) _ _ M1 (by omega) hF (by rw [← hU]; show _ = odS _ _ _ _ _ _ (u + wtR v j n 0 1 * _); rw [show wtR v j n 0 1 = 0 from by omega, Nat.zero_mul]; rfl) hT
      · rw [lg_cmp_le, show (0 : Int64) = lN 0 from rfl, pk_lLE (by omega) (by omega)] at h37
        refine r_aload_n hO dX4_byOdds_40 rfl ?_
        refine r_getR 8 hO dX4_byOdds_41 fRX4_30 rfl ?_
        refine r_aload_n hO dX4_byOdds_44 rfl ?_
        refine r_getR 4 hO dX4_byOdds_45 fRX4_26 rfl ?_
        refine r_callV hO dX4_byOdds_48 kRX4_80 miX0_become (zX0_become _ (show nuP 8 from Or.inr (Or.inl rfl)) (show nuP 4 from Or.inl rfl) (by decide)) ⟨Nat.le_of_ble_eq_true rfl, Nat.le_of_ble_eq_true rfl, rfl, Nat.le_of_ble_eq_true rfl⟩ rfl rfl (fun q M4 hpo => ?_)
        obtain ⟨rfl, B⟩ := hpo
        refine r_iconst hO dX4_byOdds_51 ic_0 ?_
        refine s_istore hL hO dX4_byOdds_52 (Nat.le_of_ble_eq_true rfl) rfl ?_
        have loop2 : ∀ (r2 d : Nat) (s : Ns) (M2 : Mm), d + r2 = n → CV M2 8 s → FQ M M2 → s.2.2.1 ≤ 999 + d → swR j r2 d s = swR j n 0 (nuS σ.1) → Gz X 54 [.ref 0, .int x, .int y, .int w, .int z, .long (lN u), .null, .long (lN t + lN (wtR v j n 0 1)), .null, .int (nI j), .long (lN (wtR v j n 0 1)), .null, .int (nI d)] [] M2 := by
          intro r2
          induction r2 with
          | zero =>
            intro d s M2 hdr V hF2 hd hs
            refine r_iload hO dX4_byOdds_54 rfl ?_
            refine r_iload_n hO dX4_byOdds_56 rfl ?_
            refine r_icmp_ge 89 hO dX4_byOdds_57 (by decide) (fun _ => ?_) (fun z => absurd (by rw [hy]; exact nI_le (by omega) (by omega)) z)
            have es : s = swR j n 0 (nuS σ.1) := by rw [← hs]; rfl
            refine r_lload hO dX4_byOdds_89 rfl ?_
            refine r_lload hO dX4_byOdds_91 rfl ?_
            refine r_iload hO dX4_byOdds_93 rfl ?_
            refine r_if_eq 111 hO dX4_byOdds_95 (by decide) (fun h95 => ?_) (fun h95 => ?_)
            · rw [hz, bI_0] at h95
              refine r_aload_n hO dX4_byOdds_111 rfl ?_
              refine r_getR 8 hO dX4_byOdds_112 fRX4_30 rfl ?_
              refine r_getI hO dX4_byOdds_115 fRX4_90 rfl ?_
              refine r_i2l hO dX4_byOdds_118 ?_
              refine r_lmul hO dX4_byOdds_119 ?_
              refine r_ladd hO dX4_byOdds_120 ?_
              refine s_lstore hL hO dX4_byOdds_121 (Nat.le_of_ble_eq_true rfl) rfl ?_
              refine s_iinc hL hO dX4_byOdds_123 rfl ic_1 (Nat.le_of_ble_eq_true rfl) rfl ?_
              refine r_goto 9 hO dX4_byOdds_126 (by decide) ?_
              refine r_null 10 (r_null 11 (r_null 12 ?_))
              show Gz X 9 [.ref 0, .int x, .int y, .int w, .int z, .long (lN u + lN (wtR v j n 0 1) * (M2.1 8 4).toInt64), .null, .long (lN t + lN (wtR v j n 0 1)), .null, .int (nI j + 1), .null, .null, .null] [] M2
              rw [nI_1, show (M2.1 8 4).toInt64 = lN (odV c (swR j n 0 (nuS σ.1))) from by rw [← es]; unfold odV; rw [h95, if_neg (by decide), V.2.2.2.1.1, nI_l (by have := V.2.2.2.1.2; omega)], lN_mul, lN_add, lN_add]
              exact ih (j + 1) _ _ M2 (by omega) hF2 hU hT
            · rw [hz, bI_n0] at h95
              refine r_aload_n hO dX4_byOdds_98 rfl ?_
              refine r_getR 8 hO dX4_byOdds_99 fRX4_30 rfl ?_
              refine r_fV hO dX4_byOdds_102 kRX4_93 miX0_isCarried (zX0_isCarried _ (show nuP 8 from Or.inr (Or.inl rfl)) V) ⟨Nat.le_of_ble_eq_true rfl, Nat.le_of_ble_eq_true rfl, rfl, Nat.le_of_ble_eq_true rfl⟩ rfl rfl ?_
              refine r_fS hO dX4_byOdds_105 kRX4_97 msX4_bit (zX4_bit _ (car s.2.1 s.1) rfl) ⟨Nat.le_of_ble_eq_true rfl, Nat.le_of_ble_eq_true rfl, rfl, Nat.le_of_ble_eq_true rfl⟩ rfl ?_
              refine r_goto 118 hO dX4_byOdds_108 (by decide) ?_
              refine r_i2l hO dX4_byOdds_118 ?_
              refine r_lmul hO dX4_byOdds_119 ?_
              refine r_ladd hO dX4_byOdds_120 ?_
              refine s_lstore hL hO dX4_byOdds_121 (Nat.le_of_ble_eq_true rfl) rfl ?_
              refine s_iinc hL hO dX4_byOdds_123 rfl ic_1 (Nat.le_of_ble_eq_true rfl) rfl ?_
              refine r_goto 9 hO dX4_byOdds_126 (by decide) ?_
              refine r_null 10 (r_null 11 (r_null 12 ?_))
              show Gz X 9 [.ref 0, .int x, .int y, .int w, .int z, .long (lN u + lN (wtR v j n 0 1) * (bI (car s.2.1 s.1)).toInt64), .null, .long (lN t + lN (wtR v j n 0 1)), .null, .int (nI j + 1), .null, .null, .null] [] M2
              rw [nI_1, show (bI (car s.2.1 s.1)).toInt64 = lN (odV c (swR j n 0 (nuS σ.1))) from by rw [← es]; unfold odV; rw [h95, if_pos rfl]; cases car s.2.1 s.1 <;> rfl, lN_mul, lN_add, lN_add]
              exact ih (j + 1) _ _ M2 (by omega) hF2 hU hT
          | succ r2 ih2 =>
            intro d s M2 hdr V hF2 hd hs
            refine r_iload hO dX4_byOdds_54 rfl ?_
            refine r_iload_n hO dX4_byOdds_56 rfl ?_
            refine r_icmp_ge 89 hO dX4_byOdds_57 (by decide) (fun z => absurd z (by rw [hy]; exact nI_ge (by omega) (by omega))) (fun _ => ?_)
            refine r_aload_n hO dX4_byOdds_60 rfl ?_
            refine r_getR 8 hO dX4_byOdds_61 fRX4_30 rfl ?_
            refine r_iload hO dX4_byOdds_64 rfl ?_
            refine r_iload hO dX4_byOdds_66 rfl ?_
            refine r_ishr hO dX4_byOdds_68 ?_
            refine r_iconst hO dX4_byOdds_69 ic_1 ?_
            refine r_iand hO dX4_byOdds_70 ?_
            refine r_if_ne 78 hO dX4_byOdds_71 (by decide) (fun h71 => ?_) (fun h71 => ?_)
            · rw [bit_d j hj256 d (by omega), bI_n0] at h71
              refine r_iconst hO dX4_byOdds_78 ic_0 ?_
              refine r_callV hO dX4_byOdds_79 kRX4_190 miX0_passDay (zX0_passDay _ (show nuP 8 from Or.inr (Or.inl rfl)) V false rfl (by omega)) ⟨Nat.le_of_ble_eq_true rfl, Nat.le_of_ble_eq_true rfl, rfl, Nat.le_of_ble_eq_true rfl⟩ rfl rfl (fun q M3 hpo => ?_)
              obtain ⟨rfl, F, V3⟩ := hpo
              rw [if_neg (by decide)] at V3
              refine r_pop hO dX4_byOdds_82 rfl ?_
              refine s_iinc hL hO dX4_byOdds_83 rfl ic_1 (Nat.le_of_ble_eq_true rfl) rfl ?_
              refine r_goto 54 hO dX4_byOdds_86 (by decide) ?_
              show Gz X 54 [.ref 0, .int x, .int y, .int w, .int z, .long (lN u), .null, .long (lN t + lN (wtR v j n 0 1)), .null, .int (nI j), .long (lN (wtR v j n 0 1)), .null, .int (nI d + 1)] [] M3
              rw [nI_1]
              exact ih2 (d + 1) _ M3 (by omega) V3 (hF2.tr (FQ.fn F)) (by show s.2.2.1 + 1 ≤ _; omega) (by rw [← hs]; show _ = swR _ _ _ (if _ then _ else _); rw [h71, if_pos rfl])
            · rw [bit_d j hj256 d (by omega), bI_0] at h71
              refine r_iconst hO dX4_byOdds_74 ic_1 ?_
              refine r_goto 79 hO dX4_byOdds_75 (by decide) ?_
              refine r_callV hO dX4_byOdds_79 kRX4_190 miX0_passDay (zX0_passDay _ (show nuP 8 from Or.inr (Or.inl rfl)) V true rfl (by omega)) ⟨Nat.le_of_ble_eq_true rfl, Nat.le_of_ble_eq_true rfl, rfl, Nat.le_of_ble_eq_true rfl⟩ rfl rfl (fun q M3 hpo => ?_)
              obtain ⟨rfl, F, V3⟩ := hpo
              rw [if_pos rfl] at V3
              refine r_pop hO dX4_byOdds_82 rfl ?_
              refine s_iinc hL hO dX4_byOdds_83 rfl ic_1 (Nat.le_of_ble_eq_true rfl) rfl ?_
              refine r_goto 54 hO dX4_byOdds_86 (by decide) ?_
              show Gz X 54 [.ref 0, .int x, .int y, .int w, .int z, .long (lN u), .null, .long (lN t + lN (wtR v j n 0 1)), .null, .int (nI j), .long (lN (wtR v j n 0 1)), .null, .int (nI d + 1)] [] M3
              rw [nI_1]
              exact ih2 (d + 1) _ M3 (by omega) V3 (hF2.tr (FQ.fn F)) (by rw [dayS_day]; omega) (by rw [← hs]; show _ = swR _ _ _ (if _ then _ else _); rw [h71, if_neg (by decide)])
        exact loop2 n 0 (nuS σ.1) M4 (by omega) ((h.q hF).1.bec B).cv (hF.tr (FQ.bec B)) (by have := h.1.2.1; show σ.1.2.2.1 ≤ _; omega) rfl
  exact loop (2 ^ n) 0 0 0 M (by omega) FQ.rf hSe.symm rfl
set_option maxHeartbeats 4000000 in
theorem zX4_luck (l : Launch) {M : Mm} {σ : Sta} (h : RC M σ) {x y w : Int32} : Clz l 5 yX4_luck cX4_luck 4 (some .long) [.ref 0, .int x, .int y, .int w] M (fun r M' => r = some (.long (p_odds σ true x y w)) ∧ RC M' σ ∧ FCr M M') := by
  refine Clz.on RX4 rfl (by decide +kernel) (Nat.le_of_ble_eq_true rfl) (fun X hL hO hr => ?_)
  show Gz X 0 [.ref 0, .int x, .int y, .int w] [] M
  refine r_iload_n hO dX4_luck_0 rfl ?_
  refine r_bipush hO dX4_luck_1 bc_10 ?_
  refine r_fS hO dX4_luck_3 kRX4_62 msX4_within (zX4_within _) ⟨Nat.le_of_ble_eq_true rfl, Nat.le_of_ble_eq_true rfl, rfl, Nat.le_of_ble_eq_true rfl⟩ rfl ?_
  refine r_if_eq 26 hO dX4_luck_6 (by decide) (fun h6 => ?_) (fun h6 => ?_)
  · rw [bI_0] at h6
    refine r_ldc2 hO dX4_luck_26 wRX4_165 ?_
    exact r_lreturn hO hr dX4_luck_29 ⟨sL (show _ = p_odds σ true x y w from by unfold p_odds; rw [if_neg (ff (Q := True) (b := inI x 0 10) h6)]), h, FCr.rf⟩
  · rw [bI_n0] at h6
    refine r_iload_n hO dX4_luck_9 rfl ?_
    refine r_bipush hO dX4_luck_10 bc_8 ?_
    refine r_fS hO dX4_luck_12 kRX4_62 msX4_within (zX4_within _) ⟨Nat.le_of_ble_eq_true rfl, Nat.le_of_ble_eq_true rfl, rfl, Nat.le_of_ble_eq_true rfl⟩ rfl ?_
    refine r_if_eq 26 hO dX4_luck_15 (by decide) (fun h15 => ?_) (fun h15 => ?_)
    · rw [bI_0] at h15
      refine r_ldc2 hO dX4_luck_26 wRX4_165 ?_
      exact r_lreturn hO hr dX4_luck_29 ⟨sL (show _ = p_odds σ true x y w from by unfold p_odds; rw [if_neg (fun q => ff (Q := True) (b := inI y 0 8) h15 q.2)]), h, FCr.rf⟩
    · rw [bI_n0] at h15
      refine r_iload_n hO dX4_luck_18 rfl ?_
      refine r_iconst hO dX4_luck_19 ic_1 ?_
      refine r_fS hO dX4_luck_20 kRX4_62 msX4_within (zX4_within _) ⟨Nat.le_of_ble_eq_true rfl, Nat.le_of_ble_eq_true rfl, rfl, Nat.le_of_ble_eq_true rfl⟩ rfl ?_
      refine r_if_ne 30 hO dX4_luck_23 (by decide) (fun h23 => ?_) (fun h23 => ?_)
      · rw [bI_n0] at h23
        have h6 : inI x 0 10 = true := h6
        have h15 : inI y 0 8 = true := h15
        have h23 : inI w 0 1 = true := h23
        obtain ⟨v, hv, rfl⟩ := inI_nat (n := 10) (by decide) h6
        obtain ⟨n, hn, rfl⟩ := inI_nat (n := 8) (by decide) h15
        have e : p_odds σ true (nI v) (nI n) w = if w = 0 then lN (odS (nuS σ.1) true v n (2 ^ n) 0 0 / Nat.gcd (10 ^ n) (odS (nuS σ.1) true v n (2 ^ n) 0 0)) else lN (10 ^ n / Nat.gcd (10 ^ n) (odS (nuS σ.1) true v n (2 ^ n) 0 0)) := by unfold p_odds; rw [if_pos ⟨h6, h15, h23⟩, nI_clamp (by omega), nI_clamp (by omega)]
        refine r_aload_n hO dX4_luck_30 rfl ?_
        refine r_iload_n hO dX4_luck_31 rfl ?_
        refine r_iload_n hO dX4_luck_32 rfl ?_
        refine r_iload_n hO dX4_luck_33 rfl ?_
        refine r_iconst hO dX4_luck_34 ic_1 ?_
        refine r_callV hO dX4_luck_35 kRX4_167 miX4_byOdds (zX4_byOdds _ h v n true _ rfl rfl rfl rfl hv hn) ⟨Nat.le_of_ble_eq_true rfl, Nat.le_of_ble_eq_true rfl, rfl, Nat.le_of_ble_eq_true rfl⟩ rfl rfl (fun q M1 hpo => ?_)
        obtain ⟨rfl, hF⟩ := hpo
        exact r_lreturn hO hr dX4_luck_38 ⟨sL e.symm, h.q hF, hF.fc⟩
      · rw [bI_0] at h23
        refine r_ldc2 hO dX4_luck_26 wRX4_165 ?_
        exact r_lreturn hO hr dX4_luck_29 ⟨sL (show _ = p_odds σ true x y w from by unfold p_odds; rw [if_neg (fun q => ff2 (b := inI w 0 1) h23 q.2)]), h, FCr.rf⟩
set_option maxHeartbeats 4000000 in
theorem zX4_mean (l : Launch) {M : Mm} {σ : Sta} (h : RC M σ) {x y w : Int32} : Clz l 5 yX4_mean cX4_mean 4 (some .long) [.ref 0, .int x, .int y, .int w] M (fun r M' => r = some (.long (p_odds σ false x y w)) ∧ RC M' σ ∧ FCr M M') := by
  refine Clz.on RX4 rfl (by decide +kernel) (Nat.le_of_ble_eq_true rfl) (fun X hL hO hr => ?_)
  show Gz X 0 [.ref 0, .int x, .int y, .int w] [] M
  refine r_iload_n hO dX4_mean_0 rfl ?_
  refine r_bipush hO dX4_mean_1 bc_10 ?_
  refine r_fS hO dX4_mean_3 kRX4_62 msX4_within (zX4_within _) ⟨Nat.le_of_ble_eq_true rfl, Nat.le_of_ble_eq_true rfl, rfl, Nat.le_of_ble_eq_true rfl⟩ rfl ?_
  refine r_if_eq 26 hO dX4_mean_6 (by decide) (fun h6 => ?_) (fun h6 => ?_)
  · rw [bI_0] at h6
    refine r_ldc2 hO dX4_mean_26 wRX4_165 ?_
    exact r_lreturn hO hr dX4_mean_29 ⟨sL (show _ = p_odds σ false x y w from by unfold p_odds; rw [if_neg (ff (Q := True) (b := inI x 0 10) h6)]), h, FCr.rf⟩
  · rw [bI_n0] at h6
    refine r_iload_n hO dX4_mean_9 rfl ?_
    refine r_bipush hO dX4_mean_10 bc_8 ?_
    refine r_fS hO dX4_mean_12 kRX4_62 msX4_within (zX4_within _) ⟨Nat.le_of_ble_eq_true rfl, Nat.le_of_ble_eq_true rfl, rfl, Nat.le_of_ble_eq_true rfl⟩ rfl ?_
    refine r_if_eq 26 hO dX4_mean_15 (by decide) (fun h15 => ?_) (fun h15 => ?_)
    · rw [bI_0] at h15
      refine r_ldc2 hO dX4_mean_26 wRX4_165 ?_
      exact r_lreturn hO hr dX4_mean_29 ⟨sL (show _ = p_odds σ false x y w from by unfold p_odds; rw [if_neg (fun q => ff (Q := True) (b := inI y 0 8) h15 q.2)]), h, FCr.rf⟩
    · rw [bI_n0] at h15
      refine r_iload_n hO dX4_mean_18 rfl ?_
      refine r_iconst hO dX4_mean_19 ic_1 ?_
      refine r_fS hO dX4_mean_20 kRX4_62 msX4_within (zX4_within _) ⟨Nat.le_of_ble_eq_true rfl, Nat.le_of_ble_eq_true rfl, rfl, Nat.le_of_ble_eq_true rfl⟩ rfl ?_
      refine r_if_ne 30 hO dX4_mean_23 (by decide) (fun h23 => ?_) (fun h23 => ?_)
      · rw [bI_n0] at h23
        have h6 : inI x 0 10 = true := h6
        have h15 : inI y 0 8 = true := h15
        have h23 : inI w 0 1 = true := h23
        obtain ⟨v, hv, rfl⟩ := inI_nat (n := 10) (by decide) h6
        obtain ⟨n, hn, rfl⟩ := inI_nat (n := 8) (by decide) h15
        have e : p_odds σ false (nI v) (nI n) w = if w = 0 then lN (odS (nuS σ.1) false v n (2 ^ n) 0 0 / Nat.gcd (10 ^ n) (odS (nuS σ.1) false v n (2 ^ n) 0 0)) else lN (10 ^ n / Nat.gcd (10 ^ n) (odS (nuS σ.1) false v n (2 ^ n) 0 0)) := by unfold p_odds; rw [if_pos ⟨h6, h15, h23⟩, nI_clamp (by omega), nI_clamp (by omega)]
        refine r_aload_n hO dX4_mean_30 rfl ?_
        refine r_iload_n hO dX4_mean_31 rfl ?_
        refine r_iload_n hO dX4_mean_32 rfl ?_
        refine r_iload_n hO dX4_mean_33 rfl ?_
        refine r_iconst hO dX4_mean_34 ic_0 ?_
        refine r_callV hO dX4_mean_35 kRX4_167 miX4_byOdds (zX4_byOdds _ h v n false _ rfl rfl rfl rfl hv hn) ⟨Nat.le_of_ble_eq_true rfl, Nat.le_of_ble_eq_true rfl, rfl, Nat.le_of_ble_eq_true rfl⟩ rfl rfl (fun q M1 hpo => ?_)
        obtain ⟨rfl, hF⟩ := hpo
        exact r_lreturn hO hr dX4_mean_38 ⟨sL e.symm, h.q hF, hF.fc⟩
      · rw [bI_0] at h23
        refine r_ldc2 hO dX4_mean_26 wRX4_165 ?_
        exact r_lreturn hO hr dX4_mean_29 ⟨sL (show _ = p_odds σ false x y w from by unfold p_odds; rw [if_neg (fun q => ff2 (b := inI w 0 1) h23 q.2)]), h, FCr.rf⟩
set_option maxHeartbeats 4000000 in
theorem zX5_common (l : Launch) {M : Mm} {x0 y0 : Int64} (a0 b0 : Nat) (hx : x0 = lN a0) (hy : y0 = lN b0) (ha0 : a0 < 2 ^ 63) (hb0 : b0 < 2 ^ 63) : CFz l 0 yX5_common cX5_common 10 (some .long) [.long x0, .long y0] M (some (.long (lN (Nat.gcd a0 b0)))) (M) := by
  refine Clz.on RX5 rfl (by decide +kernel) (Nat.le_of_ble_eq_true rfl) (fun X hL hO hr => ?_)
  show Gz X 0 [.long x0, .null, .long y0, .null, .null, .null, .null, .null, .null, .null] [] M
  refine r_lload_n hO dX5_common_0 rfl ?_
  refine s_lstore hL hO dX5_common_1 (Nat.le_of_ble_eq_true rfl) rfl ?_
  refine r_lload_n hO dX5_common_3 rfl ?_
  refine s_lstore hL hO dX5_common_4 (Nat.le_of_ble_eq_true rfl) rfl ?_
  obtain ⟨x, hxx⟩ : ∃ x, x = x0 := ⟨_, rfl⟩
  obtain ⟨y, hyy⟩ : ∃ y, y = y0 := ⟨_, rfl⟩
  have loop : ∀ (b a : Nat), a < 2 ^ 63 → b < 2 ^ 63 → Nat.gcd a b = Nat.gcd a0 b0 → Gz X 6 [.long x, .null, .long y, .null, .long (lN a), .null, .long (lN b), .null, .null, .null] [] M := by
    intro b
    induction b using Nat.strongRecOn with
    | ind b ih =>
    intro a ha hb hg
    refine r_lload hO dX5_common_6 rfl ?_
    refine r_lconst hO dX5_common_8 lc_0 ?_
    refine r_lcmp hO dX5_common_9 ?_
    refine r_if_eq 31 hO dX5_common_10 (by decide) (fun h10 => ?_) (fun h10 => ?_)
    · rw [cmp0 hb] at h10
      refine r_lload hO dX5_common_31 rfl ?_
      exact r_lreturn hO hr dX5_common_33 ⟨sL (by rw [← hg, h10, Nat.gcd_zero_right]), rfl⟩
    · rw [cmp0 hb] at h10
      refine r_lload hO dX5_common_13 rfl ?_
      refine r_lload hO dX5_common_15 rfl ?_
      refine r_lrem hO dX5_common_17 (by rw [show (0 : Int64) = lN 0 from rfl, pk_lEQ hb (by omega)]; exact h10) ?_
      refine s_lstore hL hO dX5_common_18 (Nat.le_of_ble_eq_true rfl) rfl ?_
      refine r_lload hO dX5_common_20 rfl ?_
      refine s_lstore hL hO dX5_common_22 (Nat.le_of_ble_eq_true rfl) rfl ?_
      refine r_lload hO dX5_common_24 rfl ?_
      refine s_lstore hL hO dX5_common_26 (Nat.le_of_ble_eq_true rfl) rfl ?_
      refine r_goto 6 hO dX5_common_28 (by decide) ?_
      refine r_null 8 ?_
      show Gz X 6 [.long x, .null, .long y, .null, .long (lN b), .null, .long (lN a - lN a / lN b * lN b), .null, .null, .null] [] M
      rw [pk_lRem ha (by omega) hb]
      have hm := Nat.mod_lt a (show 0 < b by omega)
      exact ih (a % b) (by omega) b hb (by omega) (by rw [gcd_st]; exact hg)
  have := loop b0 a0 ha0 hb0 rfl
  rw [← hx, ← hy, hxx, hyy] at this
  exact this
set_option maxHeartbeats 4000000 in
theorem zX5_told (l : Launch) {M : Mm} {x y : Int64} {w : Int32} (S T : Nat) (hx : x = lN S) (hy : y = lN T) (hS : S < 2 ^ 63) (hT : T < 2 ^ 63) (hT0 : 0 < T) : CFz l 1 yX5_told cX5_told 7 (some .long) [.long x, .long y, .int w] M (some (.long (if w = 0 then lN (S / Nat.gcd T S) else lN (T / Nat.gcd T S)))) (M) := by
  refine Clz.on RX5 rfl (by decide +kernel) (Nat.le_of_ble_eq_true rfl) (fun X hL hO hr => ?_)
  show Gz X 0 [.long x, .null, .long y, .null, .int w, .null, .null] [] M
  refine r_lload_n hO dX5_told_0 rfl ?_
  refine r_lload_n hO dX5_told_1 rfl ?_
  refine r_fS hO dX5_told_2 kRX5_263 msX5_common (zX5_common _ T S hy hx hT hS) ⟨Nat.le_of_ble_eq_true rfl, Nat.le_of_ble_eq_true rfl, rfl, Nat.le_of_ble_eq_true rfl⟩ rfl ?_
  have hg0 : 0 < Nat.gcd T S := Nat.gcd_pos_of_pos_left _ hT0
  have hg1 : Nat.gcd T S ≤ T := Nat.gcd_le_left _ hT0
  have hgn : ¬ lN (Nat.gcd T S) = 0 := by rw [show (0 : Int64) = lN 0 from rfl, pk_lEQ (by omega) (by omega)]; omega
  refine s_lstore hL hO dX5_told_5 (Nat.le_of_ble_eq_true rfl) rfl ?_
  refine r_iload hO dX5_told_7 rfl ?_
  refine r_if_ne 19 hO dX5_told_9 (by decide) (fun h9 => ?_) (fun h9 => ?_)
  · refine r_lload_n hO dX5_told_19 rfl ?_
    refine r_lload hO dX5_told_20 rfl ?_
    refine r_ldiv hO dX5_told_22 hgn ?_
    exact r_lreturn hO hr dX5_told_23 ⟨sL (by rw [hy, pk_lDiv (by omega) hg0 (by omega), if_neg h9]), rfl⟩
  · refine r_lload_n hO dX5_told_12 rfl ?_
    refine r_lload hO dX5_told_13 rfl ?_
    refine r_ldiv hO dX5_told_15 hgn ?_
    refine r_goto 23 hO dX5_told_16 (by decide) ?_
    exact r_lreturn hO hr dX5_told_23 ⟨sL (by rw [hx, pk_lDiv (by omega) hg0 (by omega), if_pos h9]), rfl⟩
theorem mpgL (M : Mm) (p k : Nat) (x : Int64) (q j : Nat) : (mputL M p k x).2 q j = if q = p ∧ j = k then x else M.2 q j := by
  unfold mputL vp_updL
  by_cases h : q = p
  · subst h
    by_cases h2 : j = k
    · subst h2; simp
    · simp [h2]
  · simp [h]
theorem FR.putL {M : Mm} {p k : Nat} {x : Int64} : FR M (mputL M p k x) := fun _ _ _ _ _ _ _ => rfl
def OdL (M : Mm) (a b c : Nat) : Prop := M.2 33 17 = lN a ∧ M.2 33 18 = lN b ∧ M.2 33 19 = lN c
theorem OdL.eq {M M' : Mm} {a b c : Nat} (h : OdL M a b c) (e : M'.2 = M.2) : OdL M' a b c := by unfold OdL; rw [e]; exact h
set_option maxHeartbeats 4000000 in
theorem zX5_findOdds (l : Launch) {M : Mm} {σ : Sta} (h : RD M σ) {x y : Int32} (v n : Nat) (hx : x = nI v) (hy : y = nI n) (hv : v ≤ 10) (hn : n ≤ 8) : Clz l 7 yX5_findOdds cX5_findOdds 8 none [.ref 33, .int x, .int y] M (fun r M' => r = none ∧ FR M M' ∧ OdL M' (odS (nuS σ.1) true v n (2 ^ n) 0 0) (odS (nuS σ.1) false v n (2 ^ n) 0 0) (10 ^ n)) := by
  refine Clz.on RX5 rfl (by decide +kernel) (Nat.le_of_ble_eq_true rfl) (fun X hL hO hr => ?_)
  show Gz X 0 [.ref 33, .int x, .int y, .null, .null, .null, .null, .null] [] M
  refine r_aload_n hO dX5_findOdds_0 rfl ?_
  refine r_lconst hO dX5_findOdds_1 lc_0 ?_
  refine r_putL hO dX5_findOdds_2 fRX5_267 rfl ?_
  refine r_aload_n hO dX5_findOdds_5 rfl ?_
  refine r_lconst hO dX5_findOdds_6 lc_0 ?_
  refine r_putL hO dX5_findOdds_7 fRX5_271 rfl ?_
  refine r_aload_n hO dX5_findOdds_10 rfl ?_
  refine r_lconst hO dX5_findOdds_11 lc_1 ?_
  refine r_putL hO dX5_findOdds_12 fRX5_274 rfl ?_
  refine r_iconst hO dX5_findOdds_15 ic_0 ?_
  refine s_istore_n hL hO dX5_findOdds_16 (Nat.le_of_ble_eq_true rfl) rfl ?_
  have h256 := pow_256 hn
  have part2 : ∀ (M0 : Mm), FR M M0 → OdL M0 0 0 (10 ^ n) → Gz X 40 [.ref 33, .int x, .int y, .null, .null, .null, .null, .null] [] M0 := by
    intro M0 hF0 hO0
    refine r_iconst hO dX5_findOdds_40 ic_0 ?_
    refine s_istore_n hL hO dX5_findOdds_41 (Nat.le_of_ble_eq_true rfl) rfl ?_
    have loop : ∀ (r j u1 u2 : Nat) (M1 : Mm), j + r = 2 ^ n → FR M M1 → OdL M1 u1 u2 (10 ^ n) → odS (nuS σ.1) true v n r j u1 = odS (nuS σ.1) true v n (2 ^ n) 0 0 → odS (nuS σ.1) false v n r j u2 = odS (nuS σ.1) false v n (2 ^ n) 0 0 → Gz X 42 [.ref 33, .int x, .int y, .int (nI j), .null, .null, .null, .null] [] M1 := by
      intro r
      induction r with
      | zero =>
        intro j u1 u2 M1 hjr hF hO1 hU hV
        refine r_iload_n hO dX5_findOdds_42 rfl ?_
        refine r_iconst hO dX5_findOdds_43 ic_1 ?_
        refine r_iload_n hO dX5_findOdds_44 rfl ?_
        refine r_ishl hO dX5_findOdds_45 ?_
        refine r_icmp_ge 162 hO dX5_findOdds_46 (by decide) (fun _ => ?_) (fun z => absurd (by rw [hy, pow_d n (by omega)]; exact nI_le (by omega) (by omega)) z)
        exact r_return hO hr dX5_findOdds_162 ⟨rfl, hF, hO1.1.trans (by rw [← hU]; rfl), hO1.2.1.trans (by rw [← hV]; rfl), hO1.2.2⟩
      | succ r ih =>
        intro j u1 u2 M1 hjr hF hO1 hU hV
        refine r_iload_n hO dX5_findOdds_42 rfl ?_
        refine r_iconst hO dX5_findOdds_43 ic_1 ?_
        refine r_iload_n hO dX5_findOdds_44 rfl ?_
        refine r_ishl hO dX5_findOdds_45 ?_
        refine r_icmp_ge 162 hO dX5_findOdds_46 (by decide) (fun z => absurd z (by rw [hy, pow_d n (by omega)]; exact nI_ge (by omega) (by omega))) (fun _ => ?_)
        refine r_lconst hO dX5_findOdds_49 lc_1 ?_
        refine s_lstore hL hO dX5_findOdds_50 (Nat.le_of_ble_eq_true rfl) rfl ?_
        refine r_aload_n hO dX5_findOdds_52 rfl ?_
        refine r_callV hO dX5_findOdds_53 kRX5_196 miX5_starts (zX5_starts _) ⟨Nat.le_of_ble_eq_true rfl, Nat.le_of_ble_eq_true rfl, rfl, Nat.le_of_ble_eq_true rfl⟩ rfl rfl (fun o M4 hpo => ?_)
        obtain ⟨rfl, hst⟩ := hpo
        refine r_iconst hO dX5_findOdds_56 ic_0 ?_
        refine s_istore hL hO dX5_findOdds_57 (Nat.le_of_ble_eq_true rfl) rfl ?_
        have hj256 : j < 256 := by omega
        have loop3 : ∀ (r2 d q : Nat) (s : Ns) (M2 : Mm), d + r2 = n → RV M2 s (-4) σ.1.1.length → FR M M2 → OdL M2 u1 u2 (10 ^ n) → s.2.2.1 ≤ 999 + d → s.2.2.2.2 ≤ d → swR j r2 d s = swR j n 0 (nuS σ.1) → wtR v j r2 d q = wtR v j n 0 1 → Gz X 59 [.ref 33, .int x, .int y, .int (nI j), .long (lN q), .null, .int (nI d), .null] [] M2 := by
          intro r2
          induction r2 with
          | zero =>
            intro d q s M2 hdr V hF2 hO2 hd hc hs hq
            refine r_iload hO dX5_findOdds_59 rfl ?_
            refine r_iload_n hO dX5_findOdds_61 rfl ?_
            refine r_icmp_ge 114 hO dX5_findOdds_62 (by decide) (fun _ => ?_) (fun z => absurd (by rw [hy]; exact nI_le (by omega) (by omega)) z)
            obtain ⟨R, hl⟩ := V.rn
            have hac : act (-4) 0 s.1 = s.1 := act_none _ 0 (by have := R.1; omega)
            refine r_aload_n hO dX5_findOdds_114 rfl ?_
            refine r_dup hO dX5_findOdds_115 rfl ?_
            refine r_getL hO dX5_findOdds_116 fRX5_267 rfl ?_
            refine r_aload_n hO dX5_findOdds_119 rfl ?_
            refine r_fV hO dX5_findOdds_120 kRX5_185 miX5_isCarried (zX5_isCarried _ R) ⟨Nat.le_of_ble_eq_true rfl, Nat.le_of_ble_eq_true rfl, rfl, Nat.le_of_ble_eq_true rfl⟩ rfl rfl ?_
            refine r_if_eq 131 hO dX5_findOdds_123 (by decide) (fun h123 => ?_) (fun h123 => ?_)
            · rw [hac, bI_0] at h123
              refine r_lconst hO dX5_findOdds_131 lc_0 ?_
              refine r_ladd hO dX5_findOdds_132 ?_
              refine r_putL hO dX5_findOdds_133 fRX5_267 rfl ?_
              refine r_aload_n hO dX5_findOdds_136 rfl ?_
              refine r_dup hO dX5_findOdds_137 rfl ?_
              refine r_getL hO dX5_findOdds_138 fRX5_271 rfl ?_
              refine r_lload hO dX5_findOdds_141 rfl ?_
              refine r_aload_n hO dX5_findOdds_143 rfl ?_
              refine r_getR 35 hO dX5_findOdds_144 fRX5_13 rfl ?_
              refine r_bipush hO dX5_findOdds_147 bc_25 ?_
              refine s_iald 41 hO dX5_findOdds_149 rfl (Nat.le_of_ble_eq_true rfl) 25 (by decide) (by decide) ?_
              refine r_i2l hO dX5_findOdds_150 ?_
              refine r_lmul hO dX5_findOdds_151 ?_
              refine r_ladd hO dX5_findOdds_152 ?_
              refine r_putL hO dX5_findOdds_153 fRX5_271 rfl ?_
              refine s_iinc hL hO dX5_findOdds_156 rfl ic_1 (Nat.le_of_ble_eq_true rfl) rfl ?_
              refine r_goto 42 hO dX5_findOdds_159 (by decide) ?_
              have es : s = swR j n 0 (nuS σ.1) := by rw [← hs]; rfl
              have eq : q = wtR v j n 0 1 := by rw [← hq]; rfl
              refine r_null 4 (r_null 5 (r_null 6 ?_))
              show Gz X 42 [.ref 33, .int x, .int y, .int (nI j + 1), .null, .null, .null, .null] [] (mputL (mputL M2 33 17 (M2.2 33 17 + 0)) 33 18 ((mputL M2 33 17 (M2.2 33 17 + 0)).2 33 18 + lN q * (M2.1 35 25).toInt64))
              rw [nI_1]
              exact ih (j + 1) (u1 + wtR v j n 0 1 * odV true (swR j n 0 (nuS σ.1))) (u2 + wtR v j n 0 1 * odV false (swR j n 0 (nuS σ.1))) _ (by omega) ((hF2.tr FR.putL).tr FR.putL) ⟨by rw [mpgL, if_neg (by omega), mpgL, if_pos ⟨rfl, rfl⟩, hO2.1, ← es, ← eq]; unfold odV; rw [if_pos rfl, h123, if_neg (by decide)]; rw [Nat.mul_zero, show (0 : Int64) = lN 0 from rfl, lN_add], by rw [mpgL, if_pos ⟨rfl, rfl⟩, mpgL, if_neg (by omega), hO2.2.1, ← es, ← eq, R.2.2.2.1.1, nI_l (by have := R.2.2.2.1.2; omega), lN_mul, lN_add]; unfold odV; rw [if_neg (by decide)], by rw [mpgL, if_neg (by omega), mpgL, if_neg (by omega)]; exact hO2.2.2⟩ hU hV
            · rw [hac, bI_n0] at h123
              refine r_lload hO dX5_findOdds_126 rfl ?_
              refine r_goto 132 hO dX5_findOdds_128 (by decide) ?_
              refine r_ladd hO dX5_findOdds_132 ?_
              refine r_putL hO dX5_findOdds_133 fRX5_267 rfl ?_
              refine r_aload_n hO dX5_findOdds_136 rfl ?_
              refine r_dup hO dX5_findOdds_137 rfl ?_
              refine r_getL hO dX5_findOdds_138 fRX5_271 rfl ?_
              refine r_lload hO dX5_findOdds_141 rfl ?_
              refine r_aload_n hO dX5_findOdds_143 rfl ?_
              refine r_getR 35 hO dX5_findOdds_144 fRX5_13 rfl ?_
              refine r_bipush hO dX5_findOdds_147 bc_25 ?_
              refine s_iald 41 hO dX5_findOdds_149 rfl (Nat.le_of_ble_eq_true rfl) 25 (by decide) (by decide) ?_
              refine r_i2l hO dX5_findOdds_150 ?_
              refine r_lmul hO dX5_findOdds_151 ?_
              refine r_ladd hO dX5_findOdds_152 ?_
              refine r_putL hO dX5_findOdds_153 fRX5_271 rfl ?_
              refine s_iinc hL hO dX5_findOdds_156 rfl ic_1 (Nat.le_of_ble_eq_true rfl) rfl ?_
              refine r_goto 42 hO dX5_findOdds_159 (by decide) ?_
              have es : s = swR j n 0 (nuS σ.1) := by rw [← hs]; rfl
              have eq : q = wtR v j n 0 1 := by rw [← hq]; rfl
              refine r_null 4 (r_null 5 (r_null 6 ?_))
              show Gz X 42 [.ref 33, .int x, .int y, .int (nI j + 1), .null, .null, .null, .null] [] (mputL (mputL M2 33 17 (M2.2 33 17 + lN q)) 33 18 ((mputL M2 33 17 (M2.2 33 17 + lN q)).2 33 18 + lN q * (M2.1 35 25).toInt64))
              rw [nI_1]
              exact ih (j + 1) (u1 + wtR v j n 0 1 * odV true (swR j n 0 (nuS σ.1))) (u2 + wtR v j n 0 1 * odV false (swR j n 0 (nuS σ.1))) _ (by omega) ((hF2.tr FR.putL).tr FR.putL) ⟨by rw [mpgL, if_neg (by omega), mpgL, if_pos ⟨rfl, rfl⟩, hO2.1, ← es, ← eq]; unfold odV; rw [if_pos rfl, h123, if_pos rfl]; rw [Nat.mul_one, lN_add], by rw [mpgL, if_pos ⟨rfl, rfl⟩, mpgL, if_neg (by omega), hO2.2.1, ← es, ← eq, R.2.2.2.1.1, nI_l (by have := R.2.2.2.1.2; omega), lN_mul, lN_add]; unfold odV; rw [if_neg (by decide)], by rw [mpgL, if_neg (by omega), mpgL, if_neg (by omega)]; exact hO2.2.2⟩ hU hV
          | succ r2 ih2 =>
            intro d q s M2 hdr V hF2 hO2 hd hc hs hq
            refine r_iload hO dX5_findOdds_59 rfl ?_
            refine r_iload_n hO dX5_findOdds_61 rfl ?_
            refine r_icmp_ge 114 hO dX5_findOdds_62 (by decide) (fun z => absurd z (by rw [hy]; exact nI_ge (by omega) (by omega))) (fun _ => ?_)
            refine r_iload_n hO dX5_findOdds_65 rfl ?_
            refine r_iload hO dX5_findOdds_66 rfl ?_
            refine r_ishr hO dX5_findOdds_68 ?_
            refine r_iconst hO dX5_findOdds_69 ic_1 ?_
            refine r_iand hO dX5_findOdds_70 ?_
            refine r_iconst hO dX5_findOdds_71 ic_1 ?_
            refine r_icmp_ne 79 hO dX5_findOdds_72 (by decide) (fun h72 => ?_) (fun h72 => ?_)
            · rw [bit_d j hj256 d (by omega)] at h72
              have h72 : bitN j d = false := by revert h72; cases bitN j d <;> decide
              refine r_iconst hO dX5_findOdds_79 ic_0 ?_
              refine s_istore hL hO dX5_findOdds_80 (Nat.le_of_ble_eq_true rfl) rfl ?_
              refine r_lload hO dX5_findOdds_82 rfl ?_
              refine r_iload hO dX5_findOdds_84 rfl ?_
              refine r_if_eq 94 hO dX5_findOdds_86 (by decide) (fun _ => ?_) (fun z => absurd rfl z)
              refine r_bipush hO dX5_findOdds_94 bc_10 ?_
              refine r_iload_n hO dX5_findOdds_96 rfl ?_
              refine r_isub hO dX5_findOdds_97 ?_
              refine r_i2l hO dX5_findOdds_98 ?_
              refine r_lmul hO dX5_findOdds_99 ?_
              refine s_lstore hL hO dX5_findOdds_100 (Nat.le_of_ble_eq_true rfl) rfl ?_
              refine r_aload_n hO dX5_findOdds_102 rfl ?_
              refine r_iload hO dX5_findOdds_103 rfl ?_
              refine r_callV hO dX5_findOdds_105 kRX5_192 miX5_dayGoes (zX5_dayGoes _ V false rfl (by omega) (by omega)) ⟨Nat.le_of_ble_eq_true rfl, Nat.le_of_ble_eq_true rfl, rfl, Nat.le_of_ble_eq_true rfl⟩ rfl rfl (fun o M3 hpo => ?_)
              obtain ⟨rfl, F, V3⟩ := hpo
              rw [if_neg (by decide)] at V3
              refine s_iinc hL hO dX5_findOdds_108 rfl ic_1 (Nat.le_of_ble_eq_true rfl) rfl ?_
              refine r_goto 59 hO dX5_findOdds_111 (by decide) ?_
              refine r_null 7 ?_
              show Gz X 59 [.ref 33, .int x, .int y, .int (nI j), .long (lN q * (10 - x).toInt64), .null, .int (nI d + 1), .null] [] M3
              rw [nI_1, show (10 - x).toInt64 = lN (10 - v) from by rw [hx, show (10 : Int32) = nI 10 from rfl, nI_sub hv, nI_l (by omega)], lN_mul]
              exact ih2 (d + 1) _ _ M3 (by omega) V3 (hF2.tr (FR.f35 F)) (hO2.eq F.2) (by rw [dayS_day]; omega) (by have := dayS_ch s; omega) (by rw [← hs]; show _ = swR _ _ _ (if _ then _ else _); rw [h72, if_neg (by decide)]) (by rw [← hq]; show _ = wtR _ _ _ _ (q * (if _ then _ else _)); rw [h72, if_neg (by decide)])
            · rw [bit_d j hj256 d (by omega)] at h72
              have h72 : bitN j d = true := by revert h72; cases bitN j d <;> decide
              refine r_iconst hO dX5_findOdds_75 ic_1 ?_
              refine r_goto 80 hO dX5_findOdds_76 (by decide) ?_
              refine s_istore hL hO dX5_findOdds_80 (Nat.le_of_ble_eq_true rfl) rfl ?_
              refine r_lload hO dX5_findOdds_82 rfl ?_
              refine r_iload hO dX5_findOdds_84 rfl ?_
              refine r_if_eq 94 hO dX5_findOdds_86 (by decide) (fun z => absurd z (by decide)) (fun _ => ?_)
              refine r_iload_n hO dX5_findOdds_89 rfl ?_
              refine r_i2l hO dX5_findOdds_90 ?_
              refine r_goto 99 hO dX5_findOdds_91 (by decide) ?_
              refine r_lmul hO dX5_findOdds_99 ?_
              refine s_lstore hL hO dX5_findOdds_100 (Nat.le_of_ble_eq_true rfl) rfl ?_
              refine r_aload_n hO dX5_findOdds_102 rfl ?_
              refine r_iload hO dX5_findOdds_103 rfl ?_
              refine r_callV hO dX5_findOdds_105 kRX5_192 miX5_dayGoes (zX5_dayGoes _ V true rfl (by omega) (by omega)) ⟨Nat.le_of_ble_eq_true rfl, Nat.le_of_ble_eq_true rfl, rfl, Nat.le_of_ble_eq_true rfl⟩ rfl rfl (fun o M3 hpo => ?_)
              obtain ⟨rfl, F, V3⟩ := hpo
              rw [if_pos rfl] at V3
              refine s_iinc hL hO dX5_findOdds_108 rfl ic_1 (Nat.le_of_ble_eq_true rfl) rfl ?_
              refine r_goto 59 hO dX5_findOdds_111 (by decide) ?_
              refine r_null 7 ?_
              show Gz X 59 [.ref 33, .int x, .int y, .int (nI j), .long (lN q * x.toInt64), .null, .int (nI d + 1), .null] [] M3
              rw [nI_1, show x.toInt64 = lN v from by rw [hx, nI_l (by omega)], lN_mul]
              exact ih2 (d + 1) _ _ M3 (by omega) V3 (hF2.tr (FR.f35 F)) (hO2.eq F.2) (by show s.2.2.1 + 1 ≤ _; omega) (by show s.2.2.2.2 ≤ _; omega) (by rw [← hs]; show _ = swR _ _ _ (if _ then _ else _); rw [h72, if_pos rfl]) (by rw [← hq]; show _ = wtR _ _ _ _ (q * (if _ then _ else _)); rw [h72, if_pos rfl])
        exact loop3 n 0 1 (nuS σ.1) M4 (by omega) ((h.q hF).1.rv hst) (hF.tr (FR.st hst)) (hO1.eq hst.2.1) (by have := h.1.2.2.2.2.1.2; show σ.1.2.2.1 ≤ _; omega) (Nat.le_refl _) rfl rfl
    exact loop (2 ^ n) 0 0 0 M0 (by omega) hF0 hO0 rfl rfl
  have loop1 : ∀ (r k : Nat) (M1 : Mm), k + r = n → FR M M1 → OdL M1 0 0 (10 ^ k) → Gz X 17 [.ref 33, .int x, .int y, .int (nI k), .null, .null, .null, .null] [] M1 := by
    intro r
    induction r with
    | zero =>
      intro k M1 hkr hF hO1
      refine r_iload_n hO dX5_findOdds_17 rfl ?_
      refine r_iload_n hO dX5_findOdds_18 rfl ?_
      refine r_icmp_ge 40 hO dX5_findOdds_19 (by decide) (fun _ => ?_) (fun z => absurd (by rw [hy]; exact nI_le (by omega) (by omega)) z)
      have ek : k = n := by omega
      rw [ek] at hO1
      refine r_null 3 ?_
      exact part2 M1 hF hO1
    | succ r ih =>
      intro k M1 hkr hF hO1
      refine r_iload_n hO dX5_findOdds_17 rfl ?_
      refine r_iload_n hO dX5_findOdds_18 rfl ?_
      refine r_icmp_ge 40 hO dX5_findOdds_19 (by decide) (fun z => absurd z (by rw [hy]; exact nI_ge (by omega) (by omega))) (fun _ => ?_)
      refine r_aload_n hO dX5_findOdds_22 rfl ?_
      refine r_dup hO dX5_findOdds_23 rfl ?_
      refine r_getL hO dX5_findOdds_24 fRX5_274 rfl ?_
      refine r_ldc2 hO dX5_findOdds_27 wRX5_277 ?_
      refine r_lmul hO dX5_findOdds_30 ?_
      refine r_putL hO dX5_findOdds_31 fRX5_274 rfl ?_
      refine s_iinc hL hO dX5_findOdds_34 rfl ic_1 (Nat.le_of_ble_eq_true rfl) rfl ?_
      refine r_goto 17 hO dX5_findOdds_37 (by decide) ?_
      show Gz X 17 [.ref 33, .int x, .int y, .int (nI k + 1), .null, .null, .null, .null] [] (mputL M1 33 19 (M1.2 33 19 * 10))
      rw [nI_1]
      exact ih (k + 1) _ (by omega) (hF.tr FR.putL) ⟨by rw [mpgL, if_neg (by omega)]; exact hO1.1, by rw [mpgL, if_neg (by omega)]; exact hO1.2.1, by rw [mpgL, if_pos ⟨rfl, rfl⟩, hO1.2.2, show (10 : Int64) = lN 10 from rfl, lN_mul, Nat.pow_succ]⟩
  exact loop1 n 0 _ (by omega) ((FR.putL.tr FR.putL).tr FR.putL) ⟨by rw [mpgL, if_neg (by omega), mpgL, if_neg (by omega), mpgL, if_pos ⟨rfl, rfl⟩]; rfl, by rw [mpgL, if_neg (by omega), mpgL, if_pos ⟨rfl, rfl⟩]; rfl, by rw [mpgL, if_pos ⟨rfl, rfl⟩]; rfl⟩
set_option maxHeartbeats 4000000 in
theorem zX5_isOdds (l : Launch) {M : Mm} {v n w : Int32} : CFz l 2 yX5_isOdds cX5_isOdds 3 (some .boolean) [.int v, .int n, .int w] M (some (.int (bI (inI v 0 10 && (inI n 0 8 && inI w 0 1))))) (M) := by
  refine Clz.on RX5 rfl (by decide +kernel) (Nat.le_of_ble_eq_true rfl) (fun X hL hO hr => ?_)
  show Gz X 0 [.int v, .int n, .int w] [] M
  refine r_iload_n hO dX5_isOdds_0 rfl ?_
  refine r_i2l hO dX5_isOdds_1 ?_
  refine r_lconst hO dX5_isOdds_2 lc_0 ?_
  refine r_ldc2 hO dX5_isOdds_3 wRX5_277 ?_
  refine r_fS hO dX5_isOdds_6 kRX5_56 msX5_in (zX5_inI _ (lo := 0) (hi := 10) (by decide) (by decide)) ⟨Nat.le_of_ble_eq_true rfl, Nat.le_of_ble_eq_true rfl, rfl, Nat.le_of_ble_eq_true rfl⟩ rfl ?_
  refine r_if_eq 35 hO dX5_isOdds_9 (by decide) (fun h9 => ?_) (fun h9 => ?_)
  · rw [bI_0] at h9
    refine r_iconst hO dX5_isOdds_35 ic_0 ?_
    exact r_ireturn hO hr dX5_isOdds_36 rfl ⟨sI (by rw [h9]; rfl), rfl⟩
  · rw [bI_n0] at h9
    refine r_iload_n hO dX5_isOdds_12 rfl ?_
    refine r_i2l hO dX5_isOdds_13 ?_
    refine r_lconst hO dX5_isOdds_14 lc_0 ?_
    refine r_ldc2 hO dX5_isOdds_15 wRX5_279 ?_
    refine r_fS hO dX5_isOdds_18 kRX5_56 msX5_in (zX5_inI _ (lo := 0) (hi := 8) (by decide) (by decide)) ⟨Nat.le_of_ble_eq_true rfl, Nat.le_of_ble_eq_true rfl, rfl, Nat.le_of_ble_eq_true rfl⟩ rfl ?_
    refine r_if_eq 35 hO dX5_isOdds_21 (by decide) (fun h21 => ?_) (fun h21 => ?_)
    · rw [bI_0] at h21
      refine r_iconst hO dX5_isOdds_35 ic_0 ?_
      exact r_ireturn hO hr dX5_isOdds_36 rfl ⟨sI (by rw [h9, h21]; rfl), rfl⟩
    · rw [bI_n0] at h21
      refine r_iload_n hO dX5_isOdds_24 rfl ?_
      refine r_fS hO dX5_isOdds_25 kRX5_243 msX5_isPart (zX5_isPart _) ⟨Nat.le_of_ble_eq_true rfl, Nat.le_of_ble_eq_true rfl, rfl, Nat.le_of_ble_eq_true rfl⟩ rfl ?_
      refine r_if_eq 35 hO dX5_isOdds_28 (by decide) (fun h28 => ?_) (fun h28 => ?_)
      · rw [bI_0] at h28
        refine r_iconst hO dX5_isOdds_35 ic_0 ?_
        exact r_ireturn hO hr dX5_isOdds_36 rfl ⟨sI (by rw [h9, h21, h28]; rfl), rfl⟩
      · rw [bI_n0] at h28
        refine r_iconst hO dX5_isOdds_31 ic_1 ?_
        refine r_goto 36 hO dX5_isOdds_32 (by decide) ?_
        exact r_ireturn hO hr dX5_isOdds_36 rfl ⟨sI (by rw [h9, h21, h28]; rfl), rfl⟩
set_option maxHeartbeats 4000000 in
theorem zX5_luck (l : Launch) {M : Mm} {σ : Sta} (h : RD M σ) {x y w : Int32} : Clz l 8 yX5_luck cX5_luck 4 (some .long) [.ref 33, .int x, .int y, .int w] M (fun r M' => r = some (.long (p_odds σ true x y w)) ∧ RD M' σ ∧ FDr M M') := by
  refine Clz.on RX5 rfl (by decide +kernel) (Nat.le_of_ble_eq_true rfl) (fun X hL hO hr => ?_)
  show Gz X 0 [.ref 33, .int x, .int y, .int w] [] M
  refine r_iload_n hO dX5_luck_0 rfl ?_
  refine r_iload_n hO dX5_luck_1 rfl ?_
  refine r_iload_n hO dX5_luck_2 rfl ?_
  refine r_fS hO dX5_luck_3 kRX5_281 msX5_isOdds (zX5_isOdds _) ⟨Nat.le_of_ble_eq_true rfl, Nat.le_of_ble_eq_true rfl, rfl, Nat.le_of_ble_eq_true rfl⟩ rfl ?_
  refine r_if_ne 13 hO dX5_luck_6 (by decide) (fun h6 => ?_) (fun h6 => ?_)
  · rw [bI_n0, Bool.and_eq_true, Bool.and_eq_true] at h6
    obtain ⟨h1, h2, h3⟩ := h6
    obtain ⟨v, hv, rfl⟩ := inI_nat (n := 10) (by decide) h1
    obtain ⟨n, hn, rfl⟩ := inI_nat (n := 8) (by decide) h2
    have e : p_odds σ true (nI v) (nI n) w = if w = 0 then lN (odS (nuS σ.1) true v n (2 ^ n) 0 0 / Nat.gcd (10 ^ n) (odS (nuS σ.1) true v n (2 ^ n) 0 0)) else lN (10 ^ n / Nat.gcd (10 ^ n) (odS (nuS σ.1) true v n (2 ^ n) 0 0)) := by unfold p_odds; rw [if_pos ⟨h1, h2, h3⟩, nI_clamp (by omega), nI_clamp (by omega)]
    obtain ⟨S, hSe⟩ : ∃ S, S = odS (nuS σ.1) true v n (2 ^ n) 0 0 := ⟨_, rfl⟩
    have hS1 : S ≤ 0 + 2 ^ n * (20 * 10 ^ 8) := by rw [hSe]; exact odS_le h.1.2.2.2.1.2 hv hn _ _ _
    have h256 := pow_256 hn
    have hS2 : S ≤ 256 * (20 * 10 ^ 8) := Nat.le_trans hS1 (by rw [Nat.zero_add]; exact Nat.mul_le_mul_right _ h256)
    have h10 := ten_le hn
    have hp0 : 0 < 10 ^ n := Nat.pow_pos (by decide)
    have hTS : 10 ^ n * S < 2 ^ 100 := Nat.lt_of_le_of_lt (Nat.mul_le_mul h10 hS2) (by decide)
    have hg0 : 0 < Nat.gcd (10 ^ n) S := Nat.gcd_pos_of_pos_left _ hp0
    have hg1 : Nat.gcd (10 ^ n) S ≤ 10 ^ n := Nat.gcd_le_left _ hp0
    have hg63 : Nat.gcd (10 ^ n) S < 2 ^ 63 := by omega
    refine r_aload_n hO dX5_luck_13 rfl ?_
    refine r_iload_n hO dX5_luck_14 rfl ?_
    refine r_iload_n hO dX5_luck_15 rfl ?_
    refine r_callV hO dX5_luck_16 kRX5_286 miX5_findOdds (zX5_findOdds _ h v n rfl rfl hv hn) ⟨Nat.le_of_ble_eq_true rfl, Nat.le_of_ble_eq_true rfl, rfl, Nat.le_of_ble_eq_true rfl⟩ rfl rfl (fun o M1 hpo => ?_)
    obtain ⟨rfl, hF, hO1⟩ := hpo
    refine r_aload_n hO dX5_luck_19 rfl ?_
    refine r_getL hO dX5_luck_20 fRX5_267 rfl ?_
    refine r_aload_n hO dX5_luck_23 rfl ?_
    refine r_getL hO dX5_luck_24 fRX5_274 rfl ?_
    refine r_iload_n hO dX5_luck_27 rfl ?_
    refine r_fS hO dX5_luck_28 kRX5_289 msX5_told (zX5_told _ S (10 ^ n) (by rw [hSe]; exact hO1.1) hO1.2.2 (by omega) (by omega) hp0) ⟨Nat.le_of_ble_eq_true rfl, Nat.le_of_ble_eq_true rfl, rfl, Nat.le_of_ble_eq_true rfl⟩ rfl ?_
    exact r_lreturn hO hr dX5_luck_31 ⟨sL (by rw [e, ← hSe]), h.q hF, hF.fd⟩
  · rw [bI_0] at h6
    refine r_ldc2 hO dX5_luck_9 wRX5_284 ?_
    exact r_lreturn hO hr dX5_luck_12 ⟨sL (show _ = p_odds σ true x y w from by unfold p_odds; rw [if_neg (fun q => by rw [q.1, q.2.1, q.2.2] at h6; cases h6)]), h, FDr.rf⟩
set_option maxHeartbeats 4000000 in
theorem zX5_mean (l : Launch) {M : Mm} {σ : Sta} (h : RD M σ) {x y w : Int32} : Clz l 8 yX5_mean cX5_mean 4 (some .long) [.ref 33, .int x, .int y, .int w] M (fun r M' => r = some (.long (p_odds σ false x y w)) ∧ RD M' σ ∧ FDr M M') := by
  refine Clz.on RX5 rfl (by decide +kernel) (Nat.le_of_ble_eq_true rfl) (fun X hL hO hr => ?_)
  show Gz X 0 [.ref 33, .int x, .int y, .int w] [] M
  refine r_iload_n hO dX5_mean_0 rfl ?_
  refine r_iload_n hO dX5_mean_1 rfl ?_
  refine r_iload_n hO dX5_mean_2 rfl ?_
  refine r_fS hO dX5_mean_3 kRX5_281 msX5_isOdds (zX5_isOdds _) ⟨Nat.le_of_ble_eq_true rfl, Nat.le_of_ble_eq_true rfl, rfl, Nat.le_of_ble_eq_true rfl⟩ rfl ?_
  refine r_if_ne 13 hO dX5_mean_6 (by decide) (fun h6 => ?_) (fun h6 => ?_)
  · rw [bI_n0, Bool.and_eq_true, Bool.and_eq_true] at h6
    obtain ⟨h1, h2, h3⟩ := h6
    obtain ⟨v, hv, rfl⟩ := inI_nat (n := 10) (by decide) h1
    obtain ⟨n, hn, rfl⟩ := inI_nat (n := 8) (by decide) h2
    have e : p_odds σ false (nI v) (nI n) w = if w = 0 then lN (odS (nuS σ.1) false v n (2 ^ n) 0 0 / Nat.gcd (10 ^ n) (odS (nuS σ.1) false v n (2 ^ n) 0 0)) else lN (10 ^ n / Nat.gcd (10 ^ n) (odS (nuS σ.1) false v n (2 ^ n) 0 0)) := by unfold p_odds; rw [if_pos ⟨h1, h2, h3⟩, nI_clamp (by omega), nI_clamp (by omega)]
    obtain ⟨S, hSe⟩ : ∃ S, S = odS (nuS σ.1) false v n (2 ^ n) 0 0 := ⟨_, rfl⟩
    have hS1 : S ≤ 0 + 2 ^ n * (20 * 10 ^ 8) := by rw [hSe]; exact odS_le h.1.2.2.2.1.2 hv hn _ _ _
    have h256 := pow_256 hn
    have hS2 : S ≤ 256 * (20 * 10 ^ 8) := Nat.le_trans hS1 (by rw [Nat.zero_add]; exact Nat.mul_le_mul_right _ h256)
    have h10 := ten_le hn
    have hp0 : 0 < 10 ^ n := Nat.pow_pos (by decide)
    have hTS : 10 ^ n * S < 2 ^ 100 := Nat.lt_of_le_of_lt (Nat.mul_le_mul h10 hS2) (by decide)
    have hg0 : 0 < Nat.gcd (10 ^ n) S := Nat.gcd_pos_of_pos_left _ hp0
    have hg1 : Nat.gcd (10 ^ n) S ≤ 10 ^ n := Nat.gcd_le_left _ hp0
    have hg63 : Nat.gcd (10 ^ n) S < 2 ^ 63 := by omega
    refine r_aload_n hO dX5_mean_13 rfl ?_
    refine r_iload_n hO dX5_mean_14 rfl ?_
    refine r_iload_n hO dX5_mean_15 rfl ?_
    refine r_callV hO dX5_mean_16 kRX5_286 miX5_findOdds (zX5_findOdds _ h v n rfl rfl hv hn) ⟨Nat.le_of_ble_eq_true rfl, Nat.le_of_ble_eq_true rfl, rfl, Nat.le_of_ble_eq_true rfl⟩ rfl rfl (fun o M1 hpo => ?_)
    obtain ⟨rfl, hF, hO1⟩ := hpo
    refine r_aload_n hO dX5_mean_19 rfl ?_
    refine r_getL hO dX5_mean_20 fRX5_271 rfl ?_
    refine r_aload_n hO dX5_mean_23 rfl ?_
    refine r_getL hO dX5_mean_24 fRX5_274 rfl ?_
    refine r_iload_n hO dX5_mean_27 rfl ?_
    refine r_fS hO dX5_mean_28 kRX5_289 msX5_told (zX5_told _ S (10 ^ n) (by rw [hSe]; exact hO1.2.1) hO1.2.2 (by omega) (by omega) hp0) ⟨Nat.le_of_ble_eq_true rfl, Nat.le_of_ble_eq_true rfl, rfl, Nat.le_of_ble_eq_true rfl⟩ rfl ?_
    exact r_lreturn hO hr dX5_mean_31 ⟨sL (by rw [e, ← hSe]), h.q hF, hF.fd⟩
  · rw [bI_0] at h6
    refine r_ldc2 hO dX5_mean_9 wRX5_284 ?_
    exact r_lreturn hO hr dX5_mean_12 ⟨sL (show _ = p_odds σ false x y w from by unfold p_odds; rw [if_neg (fun q => by rw [q.1, q.2.1, q.2.2] at h6; cases h6)]), h, FDr.rf⟩
