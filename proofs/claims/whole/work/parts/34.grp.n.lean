/-! read of the reference -/
theorem f64 (f : Int32) : f.toInt64.toInt = f.toInt := Int32.toInt_toInt64 f
theorem lgP {f : Int32} {j : Nat} (hj : j ≤ 20) (c : Int32) (d : Nat) (hc : c.toInt = d) (hd : d ≤ 1) : (f.toInt64 + (2 * nI j).toInt64 + c.toInt64).toInt = f.toInt + 2 * j + d := by
  have h1 := Int32.toInt_lt f
  have h2 := Int32.le_toInt f
  have h3 : (2 * nI j).toInt64.toInt = 2 * j := by rw [show (2 : Int32) = nI 2 from rfl, pk_mul, f64, nI_toInt (by omega)]; omega
  rw [Int64.toInt_add, Int64.toInt_add, h3, f64 f, f64 c, hc]
  unfold Int.bmod
  simp only [Nat.reducePow] at *
  omega
theorem rdF {n : Nat} {i v : Int32} (hk : rdOk n i v = false) (h : inI i 0 (nI n - 1) = true) : inI v 0 20 = false := by unfold rdOk at hk; rw [h, Bool.true_and] at hk; exact hk
theorem fpD_n {M : Mm} {k : Nat} {s : Sh} (h : ShD M k s) (w : Nat) (P : Int) (q : M.1 41 k = -4) : fpN s w P = 1 := by
  cases s with
  | none => rfl
  | some x =>
    exfalso
    have h1 := h.1
    rw [q] at h1
    exact absurd (h1 ▸ nI_pos (n := x.1) (by have := h.2.1; omega)) (by decide)
theorem fpD_s {M : Mm} {k : Nat} {s : Sh} (h : ShD M k s) (q : ¬ M.1 41 k = -4) : ∃ x : Nat × Nat × (Nat → Int32), s = some x := by
  cases s with
  | none => exact absurd h q
  | some x => exact ⟨x, rfl⟩
def BfR (M M1 : Mm) : Prop := (∀ c, c < 41 → M1.1 44 c = M.1 34 c) ∧ (∀ a k, a ≠ 34 → a ≠ 44 → M1.1 a k = M.1 a k) ∧ ∀ k, 41 ≤ k → M1.1 34 k = M.1 34 k
theorem BfR.put {M M1 : Mm} (h : BfR M M1) {k : Nat} {x : Int32} (hk : k < 41) : BfR M (mput M1 34 k x) := ⟨fun c hc => by rw [mpg, if_neg (by omega)]; exact h.1 c hc, fun a j h1 h2 => by rw [mpg, if_neg (by omega)]; exact h.2.1 a j h1 h2, fun j hj => by rw [mpg, if_neg (by omega)]; exact h.2.2 j hj⟩
set_option maxHeartbeats 1600000 in
theorem zX5_alterT (l : Launch) {M : Mm} {n : Nat} (hn : M.1 34 24 = nI n) (hn6 : n ≤ 6) {i v : Int32} (a x : Nat) (hi : i = nI a) (hv : v = nI x) (ha : a < n) (hx : x ≤ 20) : CFz l 2 yX5_alter cX5_alter 5 (some .int) [.ref 33, .int i, .int 2, .int v] M (some (.int (M.1 34 (4 * a + 2)))) (mput M 34 (4 * a + 2) v) := by
  refine Clz.on RX5 rfl (by decide +kernel) (Nat.le_of_ble_eq_true rfl) (fun X hL hO hr => ?_)
  show Gz X 0 [.ref 33, .int i, .int 2, .int v, .null] [] M
  refine r_iload_n hO dX5_alter_0 rfl ?_
  refine r_if_ne 8 hO dX5_alter_1 (by decide) (fun _ => ?_) (fun z => absurd z (by decide))
  refine r_iload_n hO dX5_alter_8 rfl ?_
  refine r_iconst hO dX5_alter_9 ic_1 ?_
  refine r_icmp_ne 17 hO dX5_alter_10 (by decide) (fun _ => ?_) (fun z => absurd z (by decide))
  refine r_bipush hO dX5_alter_17 bc_20 ?_
  refine s_istore hL hO dX5_alter_19 (Nat.le_of_ble_eq_true rfl) rfl ?_
  refine r_aload_n hO dX5_alter_21 rfl ?_
  refine r_iload_n hO dX5_alter_22 rfl ?_
  refine r_fV hO dX5_alter_23 kRX5_205 miX5_isMember (zX5_isMember _) ⟨Nat.le_of_ble_eq_true rfl, Nat.le_of_ble_eq_true rfl, rfl, Nat.le_of_ble_eq_true rfl⟩ rfl rfl ?_
  refine r_if_eq 66 hO dX5_alter_26 (by decide) (fun z => absurd z (by rw [hn, hi, (in_s (by omega)).mpr (by rw [nI_toInt (by omega)]; omega)]; decide)) (fun _ => ?_)
  refine r_iload_n hO dX5_alter_29 rfl ?_
  refine r_i2l hO dX5_alter_30 ?_
  refine r_lconst hO dX5_alter_31 lc_0 ?_
  refine r_ldc2 hO dX5_alter_32 wRX5_210 ?_
  refine r_fS hO dX5_alter_35 kRX5_56 msX5_in (zX5_inI _ (lo := 0) (hi := 3) (by decide) (by decide)) ⟨Nat.le_of_ble_eq_true rfl, Nat.le_of_ble_eq_true rfl, rfl, Nat.le_of_ble_eq_true rfl⟩ rfl ?_
  refine r_if_eq 66 hO dX5_alter_38 (by decide) (fun z => absurd z (by decide)) (fun _ => ?_)
  refine r_iload_n hO dX5_alter_41 rfl ?_
  refine r_i2l hO dX5_alter_42 ?_
  refine r_lconst hO dX5_alter_43 lc_0 ?_
  refine r_iload hO dX5_alter_44 rfl ?_
  refine r_i2l hO dX5_alter_46 ?_
  refine r_fS hO dX5_alter_47 kRX5_56 msX5_in (zX5_inI _ (lo := 0) (by decide) rfl) ⟨Nat.le_of_ble_eq_true rfl, Nat.le_of_ble_eq_true rfl, rfl, Nat.le_of_ble_eq_true rfl⟩ rfl ?_
  refine r_if_eq 66 hO dX5_alter_50 (by decide) (fun z => absurd z (by rw [hv, show (20 : Int32) = nI 20 from rfl, nI_inI (by omega) (by omega)]; decide)) (fun _ => ?_)
  refine r_aload_n hO dX5_alter_53 rfl ?_
  refine r_iconst hO dX5_alter_54 ic_4 ?_
  refine r_iload_n hO dX5_alter_55 rfl ?_
  refine r_imul hO dX5_alter_56 ?_
  refine r_iload_n hO dX5_alter_57 rfl ?_
  refine r_iadd hO dX5_alter_58 ?_
  refine r_iload_n hO dX5_alter_59 rfl ?_
  refine r_fV hO dX5_alter_60 kRX5_212 miX5_becomes (zX5_becomes _ (4 * a + 2) (ix4 hi rfl) (by omega)) ⟨Nat.le_of_ble_eq_true rfl, Nat.le_of_ble_eq_true rfl, rfl, Nat.le_of_ble_eq_true rfl⟩ rfl rfl ?_
  refine r_goto 67 hO dX5_alter_63 (by decide) ?_
  exact r_ireturn hO hr dX5_alter_67 rfl ⟨rfl, rfl⟩
set_option maxHeartbeats 1600000 in
theorem zX5_alterF (l : Launch) {M : Mm} {n : Nat} (hn : M.1 34 24 = nI n) (hn6 : n ≤ 6) {i v : Int32} (hk : rdOk n i v = false) : CFz l 2 yX5_alter cX5_alter 5 (some .int) [.ref 33, .int i, .int 2, .int v] M (some (.int (-1))) (M) := by
  refine Clz.on RX5 rfl (by decide +kernel) (Nat.le_of_ble_eq_true rfl) (fun X hL hO hr => ?_)
  show Gz X 0 [.ref 33, .int i, .int 2, .int v, .null] [] M
  refine r_iload_n hO dX5_alter_0 rfl ?_
  refine r_if_ne 8 hO dX5_alter_1 (by decide) (fun _ => ?_) (fun z => absurd z (by decide))
  refine r_iload_n hO dX5_alter_8 rfl ?_
  refine r_iconst hO dX5_alter_9 ic_1 ?_
  refine r_icmp_ne 17 hO dX5_alter_10 (by decide) (fun _ => ?_) (fun z => absurd z (by decide))
  refine r_bipush hO dX5_alter_17 bc_20 ?_
  refine s_istore hL hO dX5_alter_19 (Nat.le_of_ble_eq_true rfl) rfl ?_
  refine r_aload_n hO dX5_alter_21 rfl ?_
  refine r_iload_n hO dX5_alter_22 rfl ?_
  refine r_fV hO dX5_alter_23 kRX5_205 miX5_isMember (zX5_isMember _) ⟨Nat.le_of_ble_eq_true rfl, Nat.le_of_ble_eq_true rfl, rfl, Nat.le_of_ble_eq_true rfl⟩ rfl rfl ?_
  refine r_if_eq 66 hO dX5_alter_26 (by decide) (fun h26 => ?_) (fun h26 => ?_)
  · rw [bI_0, hn] at h26
    refine r_iconst hO dX5_alter_66 ic_m1 ?_
    exact r_ireturn hO hr dX5_alter_67 rfl ⟨rfl, rfl⟩
  · rw [bI_n0, hn] at h26
    refine r_iload_n hO dX5_alter_29 rfl ?_
    refine r_i2l hO dX5_alter_30 ?_
    refine r_lconst hO dX5_alter_31 lc_0 ?_
    refine r_ldc2 hO dX5_alter_32 wRX5_210 ?_
    refine r_fS hO dX5_alter_35 kRX5_56 msX5_in (zX5_inI _ (lo := 0) (hi := 3) (by decide) (by decide)) ⟨Nat.le_of_ble_eq_true rfl, Nat.le_of_ble_eq_true rfl, rfl, Nat.le_of_ble_eq_true rfl⟩ rfl ?_
    refine r_if_eq 66 hO dX5_alter_38 (by decide) (fun z => absurd z (by decide)) (fun _ => ?_)
    refine r_iload_n hO dX5_alter_41 rfl ?_
    refine r_i2l hO dX5_alter_42 ?_
    refine r_lconst hO dX5_alter_43 lc_0 ?_
    refine r_iload hO dX5_alter_44 rfl ?_
    refine r_i2l hO dX5_alter_46 ?_
    refine r_fS hO dX5_alter_47 kRX5_56 msX5_in (zX5_inI _ (lo := 0) (by decide) rfl) ⟨Nat.le_of_ble_eq_true rfl, Nat.le_of_ble_eq_true rfl, rfl, Nat.le_of_ble_eq_true rfl⟩ rfl ?_
    refine r_if_eq 66 hO dX5_alter_50 (by decide) (fun _ => ?_) (fun z => absurd (show bI (inI v 0 20) = 0 by rw [rdF hk h26]; rfl) z)
    refine r_iconst hO dX5_alter_66 ic_m1 ?_
    exact r_ireturn hO hr dX5_alter_67 rfl ⟨rfl, rfl⟩
theorem fpx_3 {M : Mm} {k w : Nat} {s : Sh} {x : Nat × Nat × (Nat → Int32)} {P : Int} (h : ShD M k s) (e : s = some x) (q : ¬ M.1 41 k = nI w) (hw : w ≤ 2) : fpN s w P = 3 := by
  subst e
  exact if_neg (fun z => q (by rw [h.1, z]))
theorem fpx_2 {M : Mm} {k w : Nat} {s : Sh} {x : Nat × Nat × (Nat → Int32)} {P : Int} (h : ShD M k s) (e : s = some x) (q : M.1 41 k = nI w) (hw : w ≤ 2) (hP : ¬ (0 ≤ P ∧ P + 1 < (M.1 42 k).toInt)) : fpN s w P = 2 := by
  subst e
  have h1 : x.1 = w := by rw [h.1, nI_eq (by have := h.2.1; omega) (by omega)] at q; exact q
  rw [h.2.2.1, nI_toInt (by have := h.2.2.2.1; omega)] at hP
  show (if x.1 = w then (if 0 ≤ P ∧ P + 1 < (x.2.1 : Int) then 0 else 2) else 3) = 2
  rw [if_pos h1, if_neg hP]
theorem fpx_0 {M : Mm} {k w : Nat} {s : Sh} {x : Nat × Nat × (Nat → Int32)} {P : Int} (h : ShD M k s) (e : s = some x) (q : M.1 41 k = nI w) (hw : w ≤ 2) (hP : 0 ≤ P ∧ P + 1 < (M.1 42 k).toInt) : fpN s w P = 0 := by
  subst e
  have h1 : x.1 = w := by rw [h.1, nI_eq (by have := h.2.1; omega) (by omega)] at q; exact q
  rw [h.2.2.1, nI_toInt (by have := h.2.2.2.1; omega)] at hP
  show (if x.1 = w then (if 0 ≤ P ∧ P + 1 < (x.2.1 : Int) then 0 else 2) else 3) = 0
  rw [if_pos h1, if_pos hP]
set_option maxHeartbeats 1600000 in
theorem zX5_read (l : Launch) {M : Mm} {σ : Sta} (h : RD M σ) {k0 w0 f n0 : Int32} : Clz l 3 yX5_read cX5_read 11 (some .int) [.ref 33, .int k0, .int w0, .int f, .int n0] M (fun r M' => r = some (.int (p_read σ k0 w0 f n0).1) ∧ RD M' (p_read σ k0 w0 f n0).2 ∧ FDr M M') := by
  refine Clz.on RX5 rfl (by decide +kernel) (Nat.le_of_ble_eq_true rfl) (fun X hL hO hr => ?_)
  show Gz X 0 [.ref 33, .int k0, .int w0, .int f, .int n0, .null, .null, .null, .null, .null, .null] [] M
  refine r_iload_n hO dX5_read_0 rfl ?_
  refine r_iload_n hO dX5_read_1 rfl ?_
  refine r_fS hO dX5_read_2 kRX5_303 msX5_isSheet (zX5_isSheet _) ⟨Nat.le_of_ble_eq_true rfl, Nat.le_of_ble_eq_true rfl, rfl, Nat.le_of_ble_eq_true rfl⟩ rfl ?_
  refine r_if_eq 21 hO dX5_read_5 (by decide) (fun h5 => ?_) (fun h5 => ?_)
  · rw [bI_0] at h5
    refine r_iconst hO dX5_read_21 ic_m1 ?_
    have e : p_read σ k0 w0 f n0 = (-1, σ) := if_neg (fun q => by rw [q.1, q.2.1] at h5; cases h5)
    exact r_ireturn hO hr dX5_read_22 rfl ⟨by rw [e], by rw [e]; exact h, FDr.rf⟩
  · rw [bI_n0, Bool.and_eq_true] at h5
    refine r_iload hO dX5_read_8 rfl ?_
    refine r_i2l hO dX5_read_10 ?_
    refine r_lconst hO dX5_read_11 lc_0 ?_
    refine r_ldc2 hO dX5_read_12 wRX5_123 ?_
    refine r_fS hO dX5_read_15 kRX5_56 msX5_in (zX5_inI _ (lo := 0) (hi := 20) (by decide) (by decide)) ⟨Nat.le_of_ble_eq_true rfl, Nat.le_of_ble_eq_true rfl, rfl, Nat.le_of_ble_eq_true rfl⟩ rfl ?_
    refine r_if_ne 23 hO dX5_read_18 (by decide) (fun h18 => ?_) (fun h18 => ?_)
    · rw [bI_n0] at h18
      obtain ⟨h5a, h5b⟩ := h5
      obtain ⟨k, hk, rfl⟩ := inI_nat (n := 3) (by decide) h5a
      obtain ⟨w, hw, rfl⟩ := inI_nat (n := 2) (by decide) h5b
      obtain ⟨n, hn, rfl⟩ := inI_nat (n := 20) (by decide) h18
      have hk4 : k < 4 := by omega
      have hl6 := h.1.1
      have e : p_read σ (nI k) (nI w) f (nI n) = rdA σ (rdR (σ.2.2.2.2.2 k) w σ.1.1.length f n 0 σ.1) := by unfold p_read; rw [if_pos ⟨h5a, h5b, h18⟩, nI_clamp (by omega), nI_clamp (by omega), nI_clamp (by omega)]
      refine r_iconst hO dX5_read_23 ic_0 ?_
      refine s_istore hL hO dX5_read_24 (Nat.le_of_ble_eq_true rfl) rfl ?_
      have main : ∀ (M0 : Mm), BfR M M0 → (∀ k2, M0.1 34 k2 = M.1 34 k2) → Gz X 53 [.ref 33, .int (nI k), .int (nI w), .int f, .int (nI n), .null, .null, .null, .null, .null, .null] [] M0 := by
        intro M0 hB0 h34
        refine r_iconst hO dX5_read_53 ic_0 ?_
        refine s_istore hL hO dX5_read_54 (Nat.le_of_ble_eq_true rfl) rfl ?_
        refine r_iconst hO dX5_read_56 ic_0 ?_
        refine s_istore hL hO dX5_read_57 (Nat.le_of_ble_eq_true rfl) rfl ?_
        refine r_iconst hO dX5_read_59 ic_0 ?_
        refine s_istore hL hO dX5_read_60 (Nat.le_of_ble_eq_true rfl) rfl ?_
        have fin : ∀ (t j : Nat) (u : Nu) (pr : Int32) (M1 : Mm), RU (M1.1 34) u → BfR M M1 → rdR (σ.2.2.2.2.2 k) w σ.1.1.length f n 0 σ.1 = (nI j, u, some t) → Gz X 251 [.ref 33, .int (nI k), .int (nI w), .int f, .int (nI n), .int (nI t), .int (nI j), .int pr, .null, .null, .null] [] M1 := by
          intro t j u pr M1 hU hB hr1
          refine r_aload_n hO dX5_read_251 rfl ?_
          refine r_iload hO dX5_read_252 rfl ?_
          refine r_putI hO dX5_read_254 fRX5_310 rfl ?_
          refine r_iload hO dX5_read_257 rfl ?_
          exact r_ireturn hO hr dX5_read_259 rfl ⟨by rw [e, hr1]; rfl, by rw [e, hr1]; exact (h.nut (fun a j h1 h2 h3 h4 h5 h6 h7 h8 => if q2 : a = 34 then (by subst q2; exact hB.2.2 j (by omega)) else hB.2.1 a j q2 h5) hU).tn (fun a j h1 _ => by rw [mpg, if_neg (by omega)]) (by rw [mpg, if_pos ⟨rfl, rfl⟩]), FDr.tr (fun a j ha => hB.2.1 a j (by omega) (by omega)) (FDr.put (by decide))⟩
        have flt : ∀ (t j : Nat) (u : Nu) (pr : Int32) (M1 : Mm), ¬ nI t = 0 → RU (M1.1 34) u → BfR M M1 → rdR (σ.2.2.2.2.2 k) w σ.1.1.length f n 0 σ.1 = (nI j, u, some t) → Gz X 245 [.ref 33, .int (nI k), .int (nI w), .int f, .int (nI n), .int (nI t), .int (nI j), .int pr, .null, .null, .null] [] M1 := by
          intro t j u pr M1 ht hU hB hr1
          refine s_iinc hL hO dX5_read_245 rfl ic_1 (Nat.le_of_ble_eq_true rfl) rfl ?_
          refine r_goto 62 hO dX5_read_248 (by decide) ?_
          refine r_iload hO dX5_read_62 rfl ?_
          refine r_iload hO dX5_read_64 rfl ?_
          refine r_icmp_ge 251 hO dX5_read_66 (by decide) (fun h66 => ?_) (fun h66 => ?_)
          · exact fin t j u _ M1 hU hB hr1
          · refine r_iload hO dX5_read_69 rfl ?_
            refine r_if_ne 251 hO dX5_read_71 (by decide) (fun _ => ?_) (fun z => absurd z ht)
            exact fin t j u _ M1 hU hB hr1
        have loop : ∀ (r j : Nat) (u : Nu) (M1 : Mm), j + r = n → RU (M1.1 34) u → BfR M M1 → u.1.length = σ.1.1.length → rdR (σ.2.2.2.2.2 k) w σ.1.1.length f r j u = rdR (σ.2.2.2.2.2 k) w σ.1.1.length f n 0 σ.1 → Gz X 62 [.ref 33, .int (nI k), .int (nI w), .int f, .int (nI n), .int 0, .int (nI j), .int (nI j), .null, .null, .null] [] M1 := by
          intro r
          induction r with
          | zero =>
            intro j u M1 hjr hU hB hl he
            refine r_iload hO dX5_read_62 rfl ?_
            refine r_iload hO dX5_read_64 rfl ?_
            refine r_icmp_ge 251 hO dX5_read_66 (by decide) (fun _ => ?_) (fun z => absurd (nI_le (by omega) (by omega)) z)
            exact fin 0 j u _ M1 hU hB (by rw [← he]; rfl)
          | succ r ih =>
            intro j u M1 hjr hU hB hl he
            have hs1 : ShD M1 k (σ.2.2.2.2.2 k) := (h.2.2.2.2.2 k hk4).eq (hB.2.1 _ _ (by omega) (by omega)) (hB.2.1 _ _ (by omega) (by omega)) (fun i _ => hB.2.1 _ _ (by omega) (by omega))
            refine r_iload hO dX5_read_62 rfl ?_
            refine r_iload hO dX5_read_64 rfl ?_
            refine r_icmp_ge 251 hO dX5_read_66 (by decide) (fun z => absurd z (nI_ge (by omega) (by omega))) (fun _ => ?_)
            refine r_iload hO dX5_read_69 rfl ?_
            refine r_if_ne 251 hO dX5_read_71 (by decide) (fun z => absurd rfl z) (fun _ => ?_)
            refine r_iconst hO dX5_read_74 ic_0 ?_
            refine s_istore hL hO dX5_read_75 (Nat.le_of_ble_eq_true rfl) rfl ?_
            show Gz X 77 [.ref 33, .int (nI k), .int (nI w), .int f, .int (nI n), .int 0, .int (nI j), .int (nI j), .int 0, .null, .null] [] M1
            refine r_iload hO dX5_read_77 rfl ?_
            refine r_iconst hO dX5_read_79 ic_2 ?_
            refine r_icmp_ge 164 hO dX5_read_80 (by decide) (fun z => absurd z (by decide)) (fun _ => ?_)
            refine r_iload hO dX5_read_83 rfl ?_
            refine r_if_ne 164 hO dX5_read_85 (by decide) (fun z => absurd rfl z) (fun _ => ?_)
            refine r_iload_n hO dX5_read_88 rfl ?_
            refine r_i2l hO dX5_read_89 ?_
            refine r_iconst hO dX5_read_90 ic_2 ?_
            refine r_iload hO dX5_read_91 rfl ?_
            refine r_imul hO dX5_read_93 ?_
            refine r_i2l hO dX5_read_94 ?_
            refine r_ladd hO dX5_read_95 ?_
            refine r_iload hO dX5_read_96 rfl ?_
            refine r_i2l hO dX5_read_98 ?_
            refine r_ladd hO dX5_read_99 ?_
            refine s_lstore hL hO dX5_read_100 (Nat.le_of_ble_eq_true rfl) rfl ?_
            show Gz X 102 [.ref 33, .int (nI k), .int (nI w), .int f, .int (nI n), .int 0, .int (nI j), .int (nI j), .int (0), .long (f.toInt64 + (2 * nI j).toInt64 + (0 : Int32).toInt64), .null] [] M1
            refine r_aload_n hO dX5_read_102 rfl ?_
            refine r_getR 41 hO dX5_read_103 fRX5_32 rfl ?_
            refine r_iload_n hO dX5_read_106 rfl ?_
            refine s_iald 4 hO dX5_read_107 rfl (Nat.le_of_ble_eq_true rfl) k rfl (by omega) ?_
            refine r_bipush hO dX5_read_108 bc_m4 ?_
            refine r_icmp_ne 117 hO dX5_read_110 (by decide) (fun h110 => ?_) (fun h110 => ?_)
            · refine r_aload_n hO dX5_read_117 rfl ?_
              refine r_getR 41 hO dX5_read_118 fRX5_32 rfl ?_
              refine r_iload_n hO dX5_read_121 rfl ?_
              refine s_iald 4 hO dX5_read_122 rfl (Nat.le_of_ble_eq_true rfl) k rfl (by omega) ?_
              refine r_iload_n hO dX5_read_123 rfl ?_
              refine r_icmp_eq 131 hO dX5_read_124 (by decide) (fun h124 => ?_) (fun h124 => ?_)
              · refine r_lload hO dX5_read_131 rfl ?_
                refine r_lconst hO dX5_read_133 lc_0 ?_
                refine r_lcmp hO dX5_read_134 ?_
                refine r_if_lt 151 hO dX5_read_135 (by decide) (fun h135 => ?_) (fun h135 => ?_)
                · rw [lg_cmp_lt, Int64.lt_iff_toInt_lt, lgP (by omega) _ 0 (by decide) (by omega), show (0 : Int64).toInt = 0 from by decide] at h135
                  refine r_iconst hO dX5_read_151 ic_2 ?_
                  refine r_goto 156 hO dX5_read_152 (by decide) ?_
                  refine s_istore hL hO dX5_read_156 (Nat.le_of_ble_eq_true rfl) rfl ?_
                  refine s_iinc hL hO dX5_read_158 rfl ic_1 (Nat.le_of_ble_eq_true rfl) rfl ?_
                  refine r_goto 77 hO dX5_read_161 (by decide) ?_
                  refine r_null 9 ?_
                  show Gz X 77 [.ref 33, .int (nI k), .int (nI w), .int f, .int (nI n), .int 2, .int (nI j), .int (nI j), .int (0 + 1), .null, .null] [] M1
                  refine r_iload hO dX5_read_77 rfl ?_
                  refine r_iconst hO dX5_read_79 ic_2 ?_
                  refine r_icmp_ge 164 hO dX5_read_80 (by decide) (fun z => absurd z (by decide)) (fun _ => ?_)
                  refine r_iload hO dX5_read_83 rfl ?_
                  refine r_if_ne 164 hO dX5_read_85 (by decide) (fun _ => ?_) (fun z => absurd z (by decide))
                  refine r_iload hO dX5_read_164 rfl ?_
                  refine r_if_ne 245 hO dX5_read_166 (by decide) (fun _ => ?_) (fun z => absurd z (by decide))
                  have hq : ¬ (0 ≤ (f.toInt + 2 * j) ∧ (f.toInt + 2 * j) + 1 < ((M1.1 42 k).toInt : Int)) := by omega
                  have hz : fpN (σ.2.2.2.2.2 k) w (f.toInt + 2 * j) = 2 := (by obtain ⟨x, hsx⟩ := fpD_s hs1 h110; exact fpx_2 hs1 hsx h124 (by omega) (hq))
                  refine r_null 8 ?_
                  show Gz X 245 [.ref 33, .int (nI k), .int (nI w), .int f, .int (nI n), .int (nI 2), .int (nI j), .int (nI j), .null, .null, .null] [] M1
                  exact flt 2 j u _ M1 (by decide) hU hB (by rw [← he, rd_f (by rw [hz]; decide), hz])
                · rw [lg_cmp_lt, Int64.lt_iff_toInt_lt, lgP (by omega) _ 0 (by decide) (by omega), show (0 : Int64).toInt = 0 from by decide] at h135
                  refine r_lload hO dX5_read_138 rfl ?_
                  refine r_aload_n hO dX5_read_140 rfl ?_
                  refine r_getR 42 hO dX5_read_141 fRX5_35 rfl ?_
                  refine r_iload_n hO dX5_read_144 rfl ?_
                  refine s_iald 4 hO dX5_read_145 rfl (Nat.le_of_ble_eq_true rfl) k rfl (by omega) ?_
                  refine r_i2l hO dX5_read_146 ?_
                  refine r_lcmp hO dX5_read_147 ?_
                  refine r_if_lt 155 hO dX5_read_148 (by decide) (fun h148 => ?_) (fun h148 => ?_)
                  · rw [lg_cmp_lt, Int64.lt_iff_toInt_lt, lgP (by omega) _ 0 (by decide) (by omega), f64] at h148
                    refine r_iconst hO dX5_read_155 ic_0 ?_
                    refine s_istore hL hO dX5_read_156 (Nat.le_of_ble_eq_true rfl) rfl ?_
                    refine s_iinc hL hO dX5_read_158 rfl ic_1 (Nat.le_of_ble_eq_true rfl) rfl ?_
                    refine r_goto 77 hO dX5_read_161 (by decide) ?_
                    refine r_null 9 ?_
                    show Gz X 77 [.ref 33, .int (nI k), .int (nI w), .int f, .int (nI n), .int 0, .int (nI j), .int (nI j), .int (0 + 1), .null, .null] [] M1
                    refine r_iload hO dX5_read_77 rfl ?_
                    refine r_iconst hO dX5_read_79 ic_2 ?_
                    refine r_icmp_ge 164 hO dX5_read_80 (by decide) (fun z => absurd z (by decide)) (fun _ => ?_)
                    refine r_iload hO dX5_read_83 rfl ?_
                    refine r_if_ne 164 hO dX5_read_85 (by decide) (fun z => absurd rfl z) (fun _ => ?_)
                    refine r_iload_n hO dX5_read_88 rfl ?_
                    refine r_i2l hO dX5_read_89 ?_
                    refine r_iconst hO dX5_read_90 ic_2 ?_
                    refine r_iload hO dX5_read_91 rfl ?_
                    refine r_imul hO dX5_read_93 ?_
                    refine r_i2l hO dX5_read_94 ?_
                    refine r_ladd hO dX5_read_95 ?_
                    refine r_iload hO dX5_read_96 rfl ?_
                    refine r_i2l hO dX5_read_98 ?_
                    refine r_ladd hO dX5_read_99 ?_
                    refine s_lstore hL hO dX5_read_100 (Nat.le_of_ble_eq_true rfl) rfl ?_
                    show Gz X 102 [.ref 33, .int (nI k), .int (nI w), .int f, .int (nI n), .int 0, .int (nI j), .int (nI j), .int (0 + 1), .long (f.toInt64 + (2 * nI j).toInt64 + (0 + 1 : Int32).toInt64), .null] [] M1
                    refine r_aload_n hO dX5_read_102 rfl ?_
                    refine r_getR 41 hO dX5_read_103 fRX5_32 rfl ?_
                    refine r_iload_n hO dX5_read_106 rfl ?_
                    refine s_iald 4 hO dX5_read_107 rfl (Nat.le_of_ble_eq_true rfl) k rfl (by omega) ?_
                    refine r_bipush hO dX5_read_108 bc_m4 ?_
                    refine r_icmp_ne 117 hO dX5_read_110 (by decide) (fun _ => ?_) (fun z => absurd z h110)
                    refine r_aload_n hO dX5_read_117 rfl ?_
                    refine r_getR 41 hO dX5_read_118 fRX5_32 rfl ?_
                    refine r_iload_n hO dX5_read_121 rfl ?_
                    refine s_iald 4 hO dX5_read_122 rfl (Nat.le_of_ble_eq_true rfl) k rfl (by omega) ?_
                    refine r_iload_n hO dX5_read_123 rfl ?_
                    refine r_icmp_eq 131 hO dX5_read_124 (by decide) (fun _ => ?_) (fun z => absurd h124 z)
                    refine r_lload hO dX5_read_131 rfl ?_
                    refine r_lconst hO dX5_read_133 lc_0 ?_
                    refine r_lcmp hO dX5_read_134 ?_
                    refine r_if_lt 151 hO dX5_read_135 (by decide) (fun z => absurd z (by rw [lg_cmp_lt, Int64.lt_iff_toInt_lt, lgP (by omega) _ 1 (by decide) (by omega)]; show ¬ _ < (0 : Int); omega)) (fun _ => ?_)
                    refine r_lload hO dX5_read_138 rfl ?_
                    refine r_aload_n hO dX5_read_140 rfl ?_
                    refine r_getR 42 hO dX5_read_141 fRX5_35 rfl ?_
                    refine r_iload_n hO dX5_read_144 rfl ?_
                    refine s_iald 4 hO dX5_read_145 rfl (Nat.le_of_ble_eq_true rfl) k rfl (by omega) ?_
                    refine r_i2l hO dX5_read_146 ?_
                    refine r_lcmp hO dX5_read_147 ?_
                    refine r_if_lt 155 hO dX5_read_148 (by decide) (fun h148 => ?_) (fun h148 => ?_)
                    · rw [lg_cmp_lt, Int64.lt_iff_toInt_lt, lgP (by omega) _ 1 (by decide) (by omega), f64] at h148
                      refine r_iconst hO dX5_read_155 ic_0 ?_
                      refine s_istore hL hO dX5_read_156 (Nat.le_of_ble_eq_true rfl) rfl ?_
                      refine s_iinc hL hO dX5_read_158 rfl ic_1 (Nat.le_of_ble_eq_true rfl) rfl ?_
                      refine r_goto 77 hO dX5_read_161 (by decide) ?_
                      refine r_null 9 ?_
                      show Gz X 77 [.ref 33, .int (nI k), .int (nI w), .int f, .int (nI n), .int 0, .int (nI j), .int (nI j), .int (0 + 1 + 1), .null, .null] [] M1
                      refine r_iload hO dX5_read_77 rfl ?_
                      refine r_iconst hO dX5_read_79 ic_2 ?_
                      refine r_icmp_ge 164 hO dX5_read_80 (by decide) (fun _ => ?_) (fun z => absurd (by decide) z)
                      refine r_iload hO dX5_read_164 rfl ?_
                      refine r_if_ne 245 hO dX5_read_166 (by decide) (fun z => absurd rfl z) (fun _ => ?_)
                      obtain ⟨x, hsx⟩ := fpD_s hs1 h110
                      have hz : fpN (σ.2.2.2.2.2 k) w (f.toInt + 2 * j) = 0 := fpx_0 hs1 hsx h124 (by omega) (by omega)
                      obtain ⟨x', m, hsx', hxw, hP, hm⟩ := fp_0 hz
                      have hx40 := hs1.sz x' hsx'
                      have hat : f + 2 * nI j = nI m := at_n (by omega) hP (by omega)
                      have hc1 := hs1.cell hsx' (i := m) (by omega)
                      have hc2 := hs1.cell hsx' (i := m + 1) (by omega)
                      refine r_bipush hO dX5_read_169 bc_40 ?_
                      refine r_iload_n hO dX5_read_171 rfl ?_
                      refine r_imul hO dX5_read_172 ?_
                      refine r_iload_n hO dX5_read_173 rfl ?_
                      refine r_iadd hO dX5_read_174 ?_
                      refine r_iconst hO dX5_read_175 ic_2 ?_
                      refine r_iload hO dX5_read_176 rfl ?_
                      refine r_imul hO dX5_read_178 ?_
                      refine r_iadd hO dX5_read_179 ?_
                      refine s_istore hL hO dX5_read_180 (Nat.le_of_ble_eq_true rfl) rfl ?_
                      obtain ⟨z8, hz8⟩ : ∃ z8, 40 * nI k + f + 2 * nI j = z8 := ⟨_, rfl⟩
                      have hi8 : 40 * nI k + f + 2 * nI j = nI (40 * k + m) := by rw [Int32.add_assoc, hat, show (40 : Int32) = nI 40 from rfl, pk_mul, nI_add]
                      show Gz X 182 [.ref 33, .int (nI k), .int (nI w), .int f, .int (nI n), .int 0, .int (nI j), .int (nI j), .int (40 * nI k + f + 2 * nI j), .null, .null] [] M1
                      refine r_aload_n hO dX5_read_182 rfl ?_
                      refine r_aload_n hO dX5_read_183 rfl ?_
                      refine r_getR 43 hO dX5_read_184 fRX5_38 rfl ?_
                      refine r_iload hO dX5_read_187 rfl ?_
                      refine s_iald 160 hO dX5_read_189 rfl (Nat.le_of_ble_eq_true rfl) (40 * k + m) hi8 (by omega) ?_
                      refine r_iconst hO dX5_read_190 ic_2 ?_
                      refine r_aload_n hO dX5_read_191 rfl ?_
                      refine r_getR 43 hO dX5_read_192 fRX5_38 rfl ?_
                      refine r_iload hO dX5_read_195 rfl ?_
                      refine r_iconst hO dX5_read_197 ic_1 ?_
                      refine r_iadd hO dX5_read_198 ?_
                      refine s_iald 160 hO dX5_read_199 rfl (Nat.le_of_ble_eq_true rfl) (40 * k + (m + 1)) (by rw [hi8, nI_1]; rfl) (by omega) ?_
                      have hmany : M1.1 34 24 = nI σ.1.1.length := by rw [← hl]; exact hU.2.2.1
                      by_cases hok : rdOk σ.1.1.length (cellS (σ.2.2.2.2.2 k) m) (cellS (σ.2.2.2.2.2 k) (m + 1)) = true
                      · obtain ⟨a, v, ha, hv, ei, ev⟩ := rdOk_sp hl6 hok
                        have hwant : M1.1 34 (4 * a + 2) = nI (fld 2 (u.1.getD a (0, 0, 0, 0))) := hU.2.1.fld (gD (by omega)) (by decide)
                        have hwl : fld 2 (u.1.getD a (0, 0, 0, 0)) ≤ 20 := fld_le (hU.2.1 a _ (gD (by omega))).2.2.2.2 2
                        refine r_fV hO dX5_read_200 kRX5_306 miX5_alter (zX5_alterT _ hmany hl6 a v (by rw [hc1, ei]) (by rw [hc2, ev]) ha hv) ⟨Nat.le_of_ble_eq_true rfl, Nat.le_of_ble_eq_true rfl, rfl, Nat.le_of_ble_eq_true rfl⟩ rfl rfl ?_
                        refine r_if_ge 242 hO dX5_read_203 (by decide) (fun _ => ?_) (fun z => absurd (by rw [hwant]; exact nI_pos' (by omega)) z)
                        refine s_iinc hL hO dX5_read_242 rfl ic_1 (Nat.le_of_ble_eq_true rfl) rfl ?_
                        refine s_iinc hL hO dX5_read_245 rfl ic_1 (Nat.le_of_ble_eq_true rfl) rfl ?_
                        refine r_goto 62 hO dX5_read_248 (by decide) ?_
                        refine r_null 8 ?_
                        show Gz X 62 [.ref 33, .int (nI k), .int (nI w), .int f, .int (nI n), .int 0, .int (nI j + 1), .int (nI j + 1), .null, .null, .null] [] _
                        rw [nI_1]
                        exact ih (j + 1) (rdU u (cellS (σ.2.2.2.2.2 k) m) (cellS (σ.2.2.2.2.2 k) (m + 1))) _ (by omega) (by rw [mput_at, hc2, ei, ev]; unfold rdU; rw [nI_clamp (by omega), nI_clamp (by omega)]; exact hU.put (gD (by omega)) (by decide) (by show v ≤ 20; omega)) (hB.put (by omega)) (by unfold rdU; rw [List.length_set]; exact hl) (by rw [← he, rd_t hz hP hok])
                      · have hok : rdOk σ.1.1.length (cellS (σ.2.2.2.2.2 k) m) (cellS (σ.2.2.2.2.2 k) (m + 1)) = false := by revert hok; cases rdOk σ.1.1.length (cellS (σ.2.2.2.2.2 k) m) (cellS (σ.2.2.2.2.2 k) (m + 1)) <;> simp
                        refine r_fV hO dX5_read_200 kRX5_306 miX5_alter (zX5_alterF _ hmany hl6 (by rw [hc1, hc2]; exact hok)) ⟨Nat.le_of_ble_eq_true rfl, Nat.le_of_ble_eq_true rfl, rfl, Nat.le_of_ble_eq_true rfl⟩ rfl rfl ?_
                        refine r_if_ge 242 hO dX5_read_203 (by decide) (fun z => absurd z (by decide)) (fun _ => ?_)
                        refine r_iconst hO dX5_read_206 ic_0 ?_
                        refine s_istore hL hO dX5_read_207 (Nat.le_of_ble_eq_true rfl) rfl ?_
                        have rest : ∀ (r2 c : Nat) (M2 : Mm), c + r2 = 41 → BfR M M2 → (∀ c2, c2 < c → M2.1 34 c2 = M.1 34 c2) → Gz X 209 [.ref 33, .int (nI k), .int (nI w), .int f, .int (nI n), .int 0, .int (nI j), .int (nI j), .int z8, .int (nI c), .null] [] M2 := by
                          intro r2
                          induction r2 with
                          | zero =>
                            intro c M2 hcr hB2 hR2
                            refine r_iload hO dX5_read_209 rfl ?_
                            refine r_bipush hO dX5_read_211 bc_41 ?_
                            refine r_icmp_ge 236 hO dX5_read_213 (by decide) (fun _ => ?_) (fun z => absurd (by rw [show (41 : Int32) = nI 41 from rfl]; exact nI_le (by omega) (by omega)) z)
                            refine r_bipush hO dX5_read_236 bc_m20 ?_
                            refine r_iload hO dX5_read_238 rfl ?_
                            refine r_isub hO dX5_read_240 ?_
                            exact r_ireturn hO hr dX5_read_241 rfl ⟨by rw [e, ← he, rd_b hz hP hok]; rfl, by rw [e, ← he, rd_b hz hP hok]; exact h.fr (fun a k2 h1 h2 h3 h4 h5 h6 h7 => if q2 : a = 34 then (by subst q2; by_cases q3 : k2 < 41; exact hR2 k2 (by omega); exact hB2.2.2 k2 (by omega)) else hB2.2.1 a k2 q2 h5), fun a k2 ha => hB2.2.1 a k2 (by omega) (by omega)⟩
                          | succ r2 ih2 =>
                            intro c M2 hcr hB2 hR2
                            refine r_iload hO dX5_read_209 rfl ?_
                            refine r_bipush hO dX5_read_211 bc_41 ?_
                            refine r_icmp_ge 236 hO dX5_read_213 (by decide) (fun z => absurd z (by rw [show (41 : Int32) = nI 41 from rfl]; exact nI_ge (by omega) (by omega))) (fun _ => ?_)
                            refine r_aload_n hO dX5_read_216 rfl ?_
                            refine r_getR 34 hO dX5_read_217 fRX5_7 rfl ?_
                            refine r_iload hO dX5_read_220 rfl ?_
                            refine r_aload_n hO dX5_read_222 rfl ?_
                            refine r_getR 44 hO dX5_read_223 fRX5_41 rfl ?_
                            refine r_iload hO dX5_read_226 rfl ?_
                            refine s_iald 41 hO dX5_read_228 rfl (Nat.le_of_ble_eq_true rfl) c rfl (by omega) ?_
                            refine s_iast 123 hO dX5_read_229 rfl (Nat.le_of_ble_eq_true rfl) c rfl (by omega) ?_
                            refine s_iinc hL hO dX5_read_230 rfl ic_1 (Nat.le_of_ble_eq_true rfl) rfl ?_
                            refine r_goto 209 hO dX5_read_233 (by decide) ?_
                            show Gz X 209 [.ref 33, .int (nI k), .int (nI w), .int f, .int (nI n), .int 0, .int (nI j), .int (nI j), .int z8, .int (nI c + 1), .null] [] _
                            rw [nI_1]
                            exact ih2 (c + 1) _ (by omega) (hB2.put (by omega)) (fun c2 hc2 => by
                              rw [mpg]
                              by_cases q : c2 = c
                              · subst q; rw [if_pos ⟨rfl, rfl⟩]; exact hB2.1 c2 (by omega)
                              · rw [if_neg (by omega)]; exact hR2 c2 (by omega))
                        rw [hz8]
                        exact rest 41 0 M1 (by omega) hB (fun c2 hc2 => absurd hc2 (by omega))
                    · rw [lg_cmp_lt, Int64.lt_iff_toInt_lt, lgP (by omega) _ 1 (by decide) (by omega), f64] at h148
                      refine r_iconst hO dX5_read_151 ic_2 ?_
                      refine r_goto 156 hO dX5_read_152 (by decide) ?_
                      refine s_istore hL hO dX5_read_156 (Nat.le_of_ble_eq_true rfl) rfl ?_
                      refine s_iinc hL hO dX5_read_158 rfl ic_1 (Nat.le_of_ble_eq_true rfl) rfl ?_
                      refine r_goto 77 hO dX5_read_161 (by decide) ?_
                      refine r_null 9 ?_
                      show Gz X 77 [.ref 33, .int (nI k), .int (nI w), .int f, .int (nI n), .int 2, .int (nI j), .int (nI j), .int (0 + 1 + 1), .null, .null] [] M1
                      refine r_iload hO dX5_read_77 rfl ?_
                      refine r_iconst hO dX5_read_79 ic_2 ?_
                      refine r_icmp_ge 164 hO dX5_read_80 (by decide) (fun _ => ?_) (fun z => absurd (by decide) z)
                      refine r_iload hO dX5_read_164 rfl ?_
                      refine r_if_ne 245 hO dX5_read_166 (by decide) (fun _ => ?_) (fun z => absurd z (by decide))
                      have hq : ¬ (0 ≤ (f.toInt + 2 * j) ∧ (f.toInt + 2 * j) + 1 < ((M1.1 42 k).toInt : Int)) := by omega
                      have hz : fpN (σ.2.2.2.2.2 k) w (f.toInt + 2 * j) = 2 := (by obtain ⟨x, hsx⟩ := fpD_s hs1 h110; exact fpx_2 hs1 hsx h124 (by omega) (hq))
                      refine r_null 8 ?_
                      show Gz X 245 [.ref 33, .int (nI k), .int (nI w), .int f, .int (nI n), .int (nI 2), .int (nI j), .int (nI j), .null, .null, .null] [] M1
                      exact flt 2 j u _ M1 (by decide) hU hB (by rw [← he, rd_f (by rw [hz]; decide), hz])
                  · rw [lg_cmp_lt, Int64.lt_iff_toInt_lt, lgP (by omega) _ 0 (by decide) (by omega), f64] at h148
                    refine r_iconst hO dX5_read_151 ic_2 ?_
                    refine r_goto 156 hO dX5_read_152 (by decide) ?_
                    refine s_istore hL hO dX5_read_156 (Nat.le_of_ble_eq_true rfl) rfl ?_
                    refine s_iinc hL hO dX5_read_158 rfl ic_1 (Nat.le_of_ble_eq_true rfl) rfl ?_
                    refine r_goto 77 hO dX5_read_161 (by decide) ?_
                    refine r_null 9 ?_
                    show Gz X 77 [.ref 33, .int (nI k), .int (nI w), .int f, .int (nI n), .int 2, .int (nI j), .int (nI j), .int (0 + 1), .null, .null] [] M1
                    refine r_iload hO dX5_read_77 rfl ?_
                    refine r_iconst hO dX5_read_79 ic_2 ?_
                    refine r_icmp_ge 164 hO dX5_read_80 (by decide) (fun z => absurd z (by decide)) (fun _ => ?_)
                    refine r_iload hO dX5_read_83 rfl ?_
                    refine r_if_ne 164 hO dX5_read_85 (by decide) (fun _ => ?_) (fun z => absurd z (by decide))
                    refine r_iload hO dX5_read_164 rfl ?_
                    refine r_if_ne 245 hO dX5_read_166 (by decide) (fun _ => ?_) (fun z => absurd z (by decide))
                    have hq : ¬ (0 ≤ (f.toInt + 2 * j) ∧ (f.toInt + 2 * j) + 1 < ((M1.1 42 k).toInt : Int)) := by omega
                    have hz : fpN (σ.2.2.2.2.2 k) w (f.toInt + 2 * j) = 2 := (by obtain ⟨x, hsx⟩ := fpD_s hs1 h110; exact fpx_2 hs1 hsx h124 (by omega) (hq))
                    refine r_null 8 ?_
                    show Gz X 245 [.ref 33, .int (nI k), .int (nI w), .int f, .int (nI n), .int (nI 2), .int (nI j), .int (nI j), .null, .null, .null] [] M1
                    exact flt 2 j u _ M1 (by decide) hU hB (by rw [← he, rd_f (by rw [hz]; decide), hz])
              · refine r_iconst hO dX5_read_127 ic_3 ?_
                refine r_goto 156 hO dX5_read_128 (by decide) ?_
                refine s_istore hL hO dX5_read_156 (Nat.le_of_ble_eq_true rfl) rfl ?_
                refine s_iinc hL hO dX5_read_158 rfl ic_1 (Nat.le_of_ble_eq_true rfl) rfl ?_
                refine r_goto 77 hO dX5_read_161 (by decide) ?_
                refine r_null 9 ?_
                show Gz X 77 [.ref 33, .int (nI k), .int (nI w), .int f, .int (nI n), .int 3, .int (nI j), .int (nI j), .int (0 + 1), .null, .null] [] M1
                refine r_iload hO dX5_read_77 rfl ?_
                refine r_iconst hO dX5_read_79 ic_2 ?_
                refine r_icmp_ge 164 hO dX5_read_80 (by decide) (fun z => absurd z (by decide)) (fun _ => ?_)
                refine r_iload hO dX5_read_83 rfl ?_
                refine r_if_ne 164 hO dX5_read_85 (by decide) (fun _ => ?_) (fun z => absurd z (by decide))
                refine r_iload hO dX5_read_164 rfl ?_
                refine r_if_ne 245 hO dX5_read_166 (by decide) (fun _ => ?_) (fun z => absurd z (by decide))
                have hz : fpN (σ.2.2.2.2.2 k) w (f.toInt + 2 * j) = 3 := (by obtain ⟨x, hsx⟩ := fpD_s hs1 h110; exact fpx_3 hs1 hsx h124 (by omega))
                refine r_null 8 ?_
                show Gz X 245 [.ref 33, .int (nI k), .int (nI w), .int f, .int (nI n), .int (nI 3), .int (nI j), .int (nI j), .null, .null, .null] [] M1
                exact flt 3 j u _ M1 (by decide) hU hB (by rw [← he, rd_f (by rw [hz]; decide), hz])
            · refine r_iconst hO dX5_read_113 ic_1 ?_
              refine r_goto 156 hO dX5_read_114 (by decide) ?_
              refine s_istore hL hO dX5_read_156 (Nat.le_of_ble_eq_true rfl) rfl ?_
              refine s_iinc hL hO dX5_read_158 rfl ic_1 (Nat.le_of_ble_eq_true rfl) rfl ?_
              refine r_goto 77 hO dX5_read_161 (by decide) ?_
              refine r_null 9 ?_
              show Gz X 77 [.ref 33, .int (nI k), .int (nI w), .int f, .int (nI n), .int 1, .int (nI j), .int (nI j), .int (0 + 1), .null, .null] [] M1
              refine r_iload hO dX5_read_77 rfl ?_
              refine r_iconst hO dX5_read_79 ic_2 ?_
              refine r_icmp_ge 164 hO dX5_read_80 (by decide) (fun z => absurd z (by decide)) (fun _ => ?_)
              refine r_iload hO dX5_read_83 rfl ?_
              refine r_if_ne 164 hO dX5_read_85 (by decide) (fun _ => ?_) (fun z => absurd z (by decide))
              refine r_iload hO dX5_read_164 rfl ?_
              refine r_if_ne 245 hO dX5_read_166 (by decide) (fun _ => ?_) (fun z => absurd z (by decide))
              have hz : fpN (σ.2.2.2.2.2 k) w (f.toInt + 2 * j) = 1 := fpD_n hs1 w (f.toInt + 2 * j) h110
              refine r_null 8 ?_
              show Gz X 245 [.ref 33, .int (nI k), .int (nI w), .int f, .int (nI n), .int (nI 1), .int (nI j), .int (nI j), .null, .null, .null] [] M1
              exact flt 1 j u _ M1 (by decide) hU hB (by rw [← he, rd_f (by rw [hz]; decide), hz])
        exact loop n 0 σ.1 M0 (by omega) (h.1.eq (fun k2 _ => h34 k2)) hB0 rfl rfl
      have cp : ∀ (r c : Nat) (M0 : Mm), c + r = 41 → (∀ a k2, a ≠ 44 → M0.1 a k2 = M.1 a k2) → (∀ c2, c2 < c → M0.1 44 c2 = M.1 34 c2) → Gz X 26 [.ref 33, .int (nI k), .int (nI w), .int f, .int (nI n), .int (nI c), .null, .null, .null, .null, .null] [] M0 := by
        intro r
        induction r with
        | zero =>
          intro c M0 hcr hA hN
          refine r_iload hO dX5_read_26 rfl ?_
          refine r_bipush hO dX5_read_28 bc_41 ?_
          refine r_icmp_ge 53 hO dX5_read_30 (by decide) (fun _ => ?_) (fun z => absurd (by rw [show (41 : Int32) = nI 41 from rfl]; exact nI_le (by omega) (by omega)) z)
          have ec : c = 41 := by omega
          rw [ec] at hN
          refine r_null 5 ?_
          exact main M0 ⟨hN, fun a k2 _ q => hA a k2 q, fun k2 _ => hA 34 k2 (by omega)⟩ (fun k2 => hA 34 k2 (by omega))
        | succ r ih =>
          intro c M0 hcr hA hN
          refine r_iload hO dX5_read_26 rfl ?_
          refine r_bipush hO dX5_read_28 bc_41 ?_
          refine r_icmp_ge 53 hO dX5_read_30 (by decide) (fun z => absurd z (by rw [show (41 : Int32) = nI 41 from rfl]; exact nI_ge (by omega) (by omega))) (fun _ => ?_)
          refine r_aload_n hO dX5_read_33 rfl ?_
          refine r_getR 44 hO dX5_read_34 fRX5_41 rfl ?_
          refine r_iload hO dX5_read_37 rfl ?_
          refine r_aload_n hO dX5_read_39 rfl ?_
          refine r_getR 34 hO dX5_read_40 fRX5_7 rfl ?_
          refine r_iload hO dX5_read_43 rfl ?_
          refine s_iald 123 hO dX5_read_45 rfl (Nat.le_of_ble_eq_true rfl) c rfl (by omega) ?_
          refine s_iast 41 hO dX5_read_46 rfl (Nat.le_of_ble_eq_true rfl) c rfl (by omega) ?_
          refine s_iinc hL hO dX5_read_47 rfl ic_1 (Nat.le_of_ble_eq_true rfl) rfl ?_
          refine r_goto 26 hO dX5_read_50 (by decide) ?_
          show Gz X 26 [.ref 33, .int (nI k), .int (nI w), .int f, .int (nI n), .int (nI c + 1), .null, .null, .null, .null, .null] [] _
          rw [nI_1]
          exact ih (c + 1) _ (by omega) (fun a k2 q => by rw [mpg, if_neg (by omega)]; exact hA a k2 q) (fun c2 hc2 => by
            rw [mpg]
            by_cases q : c2 = c
            · subst q; rw [if_pos ⟨rfl, rfl⟩]; exact hA 34 c2 (by omega)
            · rw [if_neg (by omega)]; exact hN c2 (by omega))
      exact cp 41 0 M (by omega) (fun _ _ _ => rfl) (fun c2 hc2 => absurd hc2 (by omega))
    · rw [bI_0] at h18
      refine r_iconst hO dX5_read_21 ic_m1 ?_
      have e : p_read σ k0 w0 f n0 = (-1, σ) := if_neg (fun q => ff2 h18 q.2)
      exact r_ireturn hO hr dX5_read_22 rfl ⟨by rw [e], by rw [e]; exact h, FDr.rf⟩
