/-! keep, back, sheets -/
section SA
variable {X : Cxz} {cc : ByteArray} {own : String} {d pc : Nat} {lv st : List Value} {M : Mm}
theorem s_aald (ty n t : Nat) {q : Nat} {i : Int32} (h : Okz X cc own d) (hd : decode cc pc = .ok (.aaload, 1)) (j : Nat) (hi : i = nI j) (ha : aR ty q n j t = true) (hj : j < n) (hn : n ≤ 1000) (kk : Gz X (pc + 1) lv (.ref t :: st) M) : Gz X pc lv (.int i :: .ref q :: st) M := by
  subst hi
  exact r_aald ty n t h hd (by rw [nI_clamp (by omega)]; exact ha) (vp_in_nI hj (by omega)) kk
end SA
theorem imR {a : Nat} (h : a < 2) : aR 13 12 2 a (16 + 4 * a) = true := by rcases (show a = 0 ∨ a = 1 by omega) with rfl | rfl <;> rfl
theorem imP {a : Nat} (h : a < 2) : nuP (16 + 4 * a) := by unfold nuP; omega
theorem shR {a : Nat} (h : a < 4) : aR 14 14 4 a (24 + 2 * a) = true := by rcases (show a = 0 ∨ a = 1 ∨ a = 2 ∨ a = 3 by omega) with rfl | rfl | rfl | rfl <;> rfl
theorem shP_a {a : Nat} (h : a < 4) : shP (24 + 2 * a) := by unfold shP; omega
def p_keep (σ : Sta) (k : Int32) : Int32 × Sta := if inI k 0 1 = true then (bI (σ.2.1 k.toNatClampNeg).1, σ.1, (fun i => if i = k.toNatClampNeg then (true, σ.1) else σ.2.1 i), σ.2.2) else (-1, σ)
def p_back (σ : Sta) (k : Int32) : Int32 × Sta := if inI k 0 1 = true then (if (σ.2.1 k.toNatClampNeg).1 = true then (nI (σ.2.1 k.toNatClampNeg).2.2.2.1, (σ.2.1 k.toNatClampNeg).2, σ.2) else (-2, σ)) else (-1, σ)
def p_sheet (σ : Sta) (k w n : Int32) : Int32 × Sta := if inI k 0 3 = true ∧ inI w 0 2 = true ∧ n ≤ 40 then (if 0 ≤ n then (1, σ.1, σ.2.1, σ.2.2.1, σ.2.2.2.1, σ.2.2.2.2.1, fun i => if i = k.toNatClampNeg then some (w.toNatClampNeg, n.toNatClampNeg, fun _ => 0) else σ.2.2.2.2.2 i) else (-14, σ)) else (-1, σ)
def cutI (w : Nat) (v : Int32) : Int32 := if w = 0 then v.toInt8.toInt32 else if w = 1 then v.toInt16.toInt32 else v
def p_lay (σ : Sta) (k i v : Int32) : Int32 × Sta := if inI k 0 3 = true then (match σ.2.2.2.2.2 k.toNatClampNeg with
  | none => (-11, σ)
  | some x => if inI i 0 (nI x.2.1 - 1) = true then (1, σ.1, σ.2.1, σ.2.2.1, σ.2.2.2.1, σ.2.2.2.2.1, fun j => if j = k.toNatClampNeg then some (x.1, x.2.1, upd x.2.2 i.toNatClampNeg (cutI x.1 v)) else σ.2.2.2.2.2 j) else (-12, σ)) else (-1, σ)
theorem BecR.fc {p q : Nat} {M M' : Mm} (B : BecR p q M M') (hp : p + 3 < 33) : FCr M M' := ⟨fun a k ha => B.1 a k (by omega), B.2.1⟩
set_option maxHeartbeats 4000000 in
theorem zX4_keep (l : Launch) {M : Mm} {σ : Sta} (h : RC M σ) {k : Int32} : Clz l 2 yX4_keep cX4_keep 3 (some .int) [.ref 0, .int k] M (fun r M' => r = some (.int (p_keep σ k).1) ∧ RC M' (p_keep σ k).2 ∧ FCr M M') := by
  refine Clz.on RX4 rfl (by decide +kernel) (Nat.le_of_ble_eq_true rfl) (fun X hL hO hr => ?_)
  show Gz X 0 [.ref 0, .int k, .null] [] M
  refine r_iload_n hO dX4_keep_0 rfl ?_
  refine r_iconst hO dX4_keep_1 ic_1 ?_
  refine r_fS hO dX4_keep_2 kRX4_62 msX4_within (zX4_within _) ⟨Nat.le_of_ble_eq_true rfl, Nat.le_of_ble_eq_true rfl, rfl, Nat.le_of_ble_eq_true rfl⟩ rfl ?_
  refine r_if_ne 10 hO dX4_keep_5 (by decide) (fun h5 => ?_) (fun h5 => ?_)
  · rw [bI_n0] at h5
    obtain ⟨a, ha, rfl⟩ := inI_nat (n := 1) (by decide) (show inI k 0 1 = true from h5)
    have ha2 : a < 2 := by omega
    have hp := imP ha2
    refine r_aload_n hO dX4_keep_10 rfl ?_
    refine r_getR 13 hO dX4_keep_11 fRX4_37 rfl ?_
    refine r_iload_n hO dX4_keep_14 rfl ?_
    refine s_zald 2 hO dX4_keep_15 rfl (Nat.le_of_ble_eq_true rfl) a rfl ha2 ?_
    refine r_fS hO dX4_keep_16 kRX4_97 msX4_bit (zX4_bit _ (σ.2.1 a).1 (h.2.1 a ha2).1) ⟨Nat.le_of_ble_eq_true rfl, Nat.le_of_ble_eq_true rfl, rfl, Nat.le_of_ble_eq_true rfl⟩ rfl ?_
    refine s_istore_n hL hO dX4_keep_19 (Nat.le_of_ble_eq_true rfl) rfl ?_
    refine r_aload_n hO dX4_keep_20 rfl ?_
    refine r_getR 12 hO dX4_keep_21 fRX4_33 rfl ?_
    refine r_iload_n hO dX4_keep_24 rfl ?_
    refine s_aald 13 2 (16 + 4 * a) hO dX4_keep_25 a rfl (imR ha2) ha2 (by decide) ?_
    refine r_aload_n hO dX4_keep_26 rfl ?_
    refine r_getR 4 hO dX4_keep_27 fRX4_26 rfl ?_
    refine r_callV hO dX4_keep_30 kRX4_80 miX0_become (zX0_become _ hp (show nuP 4 from Or.inl rfl) (by omega)) ⟨Nat.le_of_ble_eq_true rfl, Nat.le_of_ble_eq_true rfl, rfl, Nat.le_of_ble_eq_true rfl⟩ (nu_o hp) rfl (fun r M1 hpo => ?_)
    obtain ⟨rfl, B⟩ := hpo
    refine r_aload_n hO dX4_keep_33 rfl ?_
    refine r_getR 13 hO dX4_keep_34 fRX4_37 rfl ?_
    refine r_iload_n hO dX4_keep_37 rfl ?_
    refine r_iconst hO dX4_keep_38 ic_1 ?_
    refine s_zast 2 hO dX4_keep_39 rfl (Nat.le_of_ble_eq_true rfl) a rfl ha2 ?_
    refine r_iload_n hO dX4_keep_40 rfl ?_
    have e : p_keep σ (nI a) = (bI (σ.2.1 a).1, σ.1, (fun i => if i = a then (true, σ.1) else σ.2.1 i), σ.2.2) := by unfold p_keep; rw [if_pos (show inI (nI a) 0 1 = true from h5), nI_clamp (by omega)]
    exact r_ireturn hO hr dX4_keep_41 rfl ⟨by rw [e], by rw [e]; exact h.img ha2 (fun b j h1 h2 _ => by rw [mpg, if_neg (by omega)]; exact B.1 b j (by omega)) (by rw [mpg, if_pos ⟨rfl, rfl⟩]; exact bI_nar true) (fun _ => (h.1.bec B).eq (fun b j _ _ => by rw [mpg, if_neg (by omega)])), (B.fc (by omega)).tr (FCr.put (by decide))⟩
  · rw [bI_0] at h5
    refine r_iconst hO dX4_keep_8 ic_m1 ?_
    have e : p_keep σ k = (-1, σ) := if_neg (by rw [show inI k 0 1 = false from h5]; decide)
    exact r_ireturn hO hr dX4_keep_9 rfl ⟨by rw [e], by rw [e]; exact h, FCr.rf⟩
set_option maxHeartbeats 4000000 in
theorem zX4_back (l : Launch) {M : Mm} {σ : Sta} (h : RC M σ) {k : Int32} : Clz l 2 yX4_back cX4_back 2 (some .int) [.ref 0, .int k] M (fun r M' => r = some (.int (p_back σ k).1) ∧ RC M' (p_back σ k).2 ∧ FCr M M') := by
  refine Clz.on RX4 rfl (by decide +kernel) (Nat.le_of_ble_eq_true rfl) (fun X hL hO hr => ?_)
  show Gz X 0 [.ref 0, .int k] [] M
  refine r_iload_n hO dX4_back_0 rfl ?_
  refine r_iconst hO dX4_back_1 ic_1 ?_
  refine r_fS hO dX4_back_2 kRX4_62 msX4_within (zX4_within _) ⟨Nat.le_of_ble_eq_true rfl, Nat.le_of_ble_eq_true rfl, rfl, Nat.le_of_ble_eq_true rfl⟩ rfl ?_
  refine r_if_ne 10 hO dX4_back_5 (by decide) (fun h5 => ?_) (fun h5 => ?_)
  · rw [bI_n0] at h5
    obtain ⟨a, ha, rfl⟩ := inI_nat (n := 1) (by decide) (show inI k 0 1 = true from h5)
    have ha2 : a < 2 := by omega
    have hp := imP ha2
    refine r_aload_n hO dX4_back_10 rfl ?_
    refine r_getR 13 hO dX4_back_11 fRX4_37 rfl ?_
    refine r_iload_n hO dX4_back_14 rfl ?_
    refine s_zald 2 hO dX4_back_15 rfl (Nat.le_of_ble_eq_true rfl) a rfl ha2 ?_
    refine r_if_ne 22 hO dX4_back_16 (by decide) (fun h16 => ?_) (fun h16 => ?_)
    · rw [(h.2.1 a ha2).1, bI_n0] at h16
      refine r_aload_n hO dX4_back_22 rfl ?_
      refine r_getR 4 hO dX4_back_23 fRX4_26 rfl ?_
      refine r_aload_n hO dX4_back_26 rfl ?_
      refine r_getR 12 hO dX4_back_27 fRX4_33 rfl ?_
      refine r_iload_n hO dX4_back_30 rfl ?_
      refine s_aald 13 2 (16 + 4 * a) hO dX4_back_31 a rfl (imR ha2) ha2 (by decide) ?_
      refine r_callV hO dX4_back_32 kRX4_80 miX0_become (zX0_become _ (show nuP 4 from Or.inl rfl) hp (by omega)) ⟨Nat.le_of_ble_eq_true rfl, Nat.le_of_ble_eq_true rfl, rfl, Nat.le_of_ble_eq_true rfl⟩ rfl rfl (fun r M1 hpo => ?_)
      obtain ⟨rfl, B⟩ := hpo
      have hu := ((h.2.1 a ha2).2 h16).bec B
      refine r_aload_n hO dX4_back_35 rfl ?_
      refine r_getR 4 hO dX4_back_36 fRX4_26 rfl ?_
      refine r_getI hO dX4_back_39 fRX4_87 rfl ?_
      have e : p_back σ (nI a) = (nI (σ.2.1 a).2.2.2.1, (σ.2.1 a).2, σ.2) := by unfold p_back; rw [if_pos (show inI (nI a) 0 1 = true from h5), nI_clamp (by omega), if_pos h16]
      exact r_ireturn hO hr dX4_back_42 rfl ⟨by rw [e]; exact sI hu.1.2.2.2.2.1.1, by rw [e]; exact h.nut (fun b j h1 _ => B.1 b j (by omega)) hu, B.fc (by decide)⟩
    · rw [(h.2.1 a ha2).1, bI_0] at h16
      refine r_bipush hO dX4_back_19 bc_m2 ?_
      have e : p_back σ (nI a) = (-2, σ) := by unfold p_back; rw [if_pos (show inI (nI a) 0 1 = true from h5), nI_clamp (by omega), if_neg (by rw [h16]; decide)]
      exact r_ireturn hO hr dX4_back_21 rfl ⟨by rw [e], by rw [e]; exact h, FCr.rf⟩
  · rw [bI_0] at h5
    refine r_iconst hO dX4_back_8 ic_m1 ?_
    have e : p_back σ k = (-1, σ) := if_neg (by rw [show inI k 0 1 = false from h5]; decide)
    exact r_ireturn hO hr dX4_back_9 rfl ⟨by rw [e], by rw [e]; exact h, FCr.rf⟩
def CpR (t s : Nat) (M M' : Mm) : Prop := (∀ a k, ¬ (a = 34 ∧ t ≤ k ∧ k < t + 41) → M'.1 a k = M.1 a k) ∧ M'.2 = M.2 ∧ ∀ k, k < 41 → M'.1 34 (t + k) = M.1 34 (s + k)
set_option maxHeartbeats 4000000 in
theorem zX5_copies (l : Launch) {M : Mm} {x y : Int32} (t s : Nat) (hx : x = nI t) (hy : y = nI s) (ht : t ≤ 82) (hs : s ≤ 82) (hts : t + 41 ≤ s ∨ s + 41 ≤ t) : Clz l 0 yX5_copies cX5_copies 4 none [.ref 33, .int x, .int y] M (fun r M' => r = none ∧ CpR t s M M') := by
  refine Clz.on RX5 rfl (by decide +kernel) (Nat.le_of_ble_eq_true rfl) (fun X hL hO hr => ?_)
  show Gz X 0 [.ref 33, .int x, .int y, .null] [] M
  have loop : ∀ (r j : Nat) (M1 : Mm), j + r = 41 → (∀ a k, ¬ (a = 34 ∧ t ≤ k ∧ k < t + j) → M1.1 a k = M.1 a k) → M1.2 = M.2 → (∀ k, k < j → M1.1 34 (t + k) = M.1 34 (s + k)) → Gz X 2 [.ref 33, .int x, .int y, .int (nI j)] [] M1 := by
    intro r
    induction r with
    | zero =>
      intro j M1 hj hA hB hC
      refine r_iload_n hO dX5_copies_2 rfl ?_
      refine r_bipush hO dX5_copies_3 bc_41 ?_
      refine r_icmp_ge 30 hO dX5_copies_5 (by decide) (fun _ => ?_) (fun z => absurd (by rw [show (41 : Int32) = nI 41 from rfl]; exact nI_le (by omega) (by omega)) z)
      exact r_return hO hr dX5_copies_30 ⟨rfl, fun a k z => hA a k (by omega), hB, fun k hk => hC k (by omega)⟩
    | succ r ih =>
      intro j M1 hj hA hB hC
      refine r_iload_n hO dX5_copies_2 rfl ?_
      refine r_bipush hO dX5_copies_3 bc_41 ?_
      refine r_icmp_ge 30 hO dX5_copies_5 (by decide) (fun z => absurd z (by rw [show (41 : Int32) = nI 41 from rfl]; exact nI_ge (by omega) (by omega))) (fun _ => ?_)
      refine r_aload_n hO dX5_copies_8 rfl ?_
      refine r_getR 34 hO dX5_copies_9 fRX5_7 rfl ?_
      refine r_iload_n hO dX5_copies_12 rfl ?_
      refine r_iload_n hO dX5_copies_13 rfl ?_
      refine r_iadd hO dX5_copies_14 ?_
      refine r_aload_n hO dX5_copies_15 rfl ?_
      refine r_getR 34 hO dX5_copies_16 fRX5_7 rfl ?_
      refine r_iload_n hO dX5_copies_19 rfl ?_
      refine r_iload_n hO dX5_copies_20 rfl ?_
      refine r_iadd hO dX5_copies_21 ?_
      refine s_iald 123 hO dX5_copies_22 rfl (Nat.le_of_ble_eq_true rfl) (s + j) (by rw [hy, nI_add]) (by omega) ?_
      refine s_iast 123 hO dX5_copies_23 rfl (Nat.le_of_ble_eq_true rfl) (t + j) (by rw [hx, nI_add]) (by omega) ?_
      refine s_iinc hL hO dX5_copies_24 rfl ic_1 (Nat.le_of_ble_eq_true rfl) rfl ?_
      refine r_goto 2 hO dX5_copies_27 (by decide) ?_
      show Gz X 2 [.ref 33, .int x, .int y, .int (nI j + 1)] [] _
      rw [nI_1]
      exact ih (j + 1) _ (by omega) (fun a k z => by rw [mpg, if_neg (by omega)]; exact hA a k (by omega)) hB (fun k hk => by
        rw [mpg]
        by_cases e : k = j
        · rw [if_pos ⟨rfl, by omega⟩, hA 34 (s + j) (by omega), e]
        · rw [if_neg (by omega)]; exact hC k (by omega))
  refine r_iconst hO dX5_copies_0 ic_0 ?_
  refine s_istore_n hL hO dX5_copies_1 (Nat.le_of_ble_eq_true rfl) rfl ?_
  exact loop 41 0 M (by omega) (fun _ _ _ => rfl) rfl (fun k hk => by omega)
set_option maxHeartbeats 4000000 in
theorem zX5_keep (l : Launch) {M : Mm} {σ : Sta} (h : RD M σ) {k : Int32} : Clz l 1 yX5_keep cX5_keep 3 (some .int) [.ref 33, .int k] M (fun r M' => r = some (.int (p_keep σ k).1) ∧ RD M' (p_keep σ k).2 ∧ FDr M M') := by
  refine Clz.on RX5 rfl (by decide +kernel) (Nat.le_of_ble_eq_true rfl) (fun X hL hO hr => ?_)
  show Gz X 0 [.ref 33, .int k, .null] [] M
  refine r_iload_n hO dX5_keep_0 rfl ?_
  refine r_i2l hO dX5_keep_1 ?_
  refine r_lconst hO dX5_keep_2 lc_0 ?_
  refine r_lconst hO dX5_keep_3 lc_1 ?_
  refine r_fS hO dX5_keep_4 kRX5_56 msX5_in (zX5_inI _ (lo := 0) (hi := 1) (by decide) (by decide)) ⟨Nat.le_of_ble_eq_true rfl, Nat.le_of_ble_eq_true rfl, rfl, Nat.le_of_ble_eq_true rfl⟩ rfl ?_
  refine r_if_ne 12 hO dX5_keep_7 (by decide) (fun h7 => ?_) (fun h7 => ?_)
  · rw [bI_n0] at h7
    obtain ⟨a, ha, rfl⟩ := inI_nat (n := 1) (by decide) h7
    have ha2 : a < 2 := by omega
    refine r_aload_n hO dX5_keep_12 rfl ?_
    refine r_getR 36 hO dX5_keep_13 fRX5_16 rfl ?_
    refine r_iload_n hO dX5_keep_16 rfl ?_
    refine s_zald 2 hO dX5_keep_17 rfl (Nat.le_of_ble_eq_true rfl) a rfl ha2 ?_
    refine r_fS hO dX5_keep_18 kRX5_153 msX5_flag (zX5_flag _ (σ.2.1 a).1 (h.2.1 a ha2).1) ⟨Nat.le_of_ble_eq_true rfl, Nat.le_of_ble_eq_true rfl, rfl, Nat.le_of_ble_eq_true rfl⟩ rfl ?_
    refine s_istore_n hL hO dX5_keep_21 (Nat.le_of_ble_eq_true rfl) rfl ?_
    refine r_aload_n hO dX5_keep_22 rfl ?_
    refine r_getR 36 hO dX5_keep_23 fRX5_16 rfl ?_
    refine r_iload_n hO dX5_keep_26 rfl ?_
    refine r_iconst hO dX5_keep_27 ic_1 ?_
    refine s_zast 2 hO dX5_keep_28 rfl (Nat.le_of_ble_eq_true rfl) a rfl ha2 ?_
    refine r_aload_n hO dX5_keep_29 rfl ?_
    refine r_bipush hO dX5_keep_30 bc_41 ?_
    refine r_iload_n hO dX5_keep_32 rfl ?_
    refine r_iconst hO dX5_keep_33 ic_1 ?_
    refine r_iadd hO dX5_keep_34 ?_
    refine r_imul hO dX5_keep_35 ?_
    refine r_iconst hO dX5_keep_36 ic_0 ?_
    refine r_callV hO dX5_keep_37 kRX5_300 miX5_copies (zX5_copies _ (41 * (a + 1)) 0 (by rw [nI_1, show (41 : Int32) = nI 41 from rfl, pk_mul]) rfl (by omega) (by omega) (by omega)) ⟨Nat.le_of_ble_eq_true rfl, Nat.le_of_ble_eq_true rfl, rfl, Nat.le_of_ble_eq_true rfl⟩ rfl rfl (fun r M1 hpo => ?_)
    obtain ⟨rfl, B⟩ := hpo
    refine r_iload_n hO dX5_keep_40 rfl ?_
    have e : p_keep σ (nI a) = (bI (σ.2.1 a).1, σ.1, (fun i => if i = a then (true, σ.1) else σ.2.1 i), σ.2.2) := by unfold p_keep; rw [if_pos h7, nI_clamp (by omega)]
    exact r_ireturn hO hr dX5_keep_41 rfl ⟨by rw [e], by rw [e]; exact h.img ha2 (fun b j h1 h2 _ => by rw [B.1 b j (by omega), mpg, if_neg (by omega)]) (by rw [B.1 36 a (by omega), mpg, if_pos ⟨rfl, rfl⟩]; exact bI_nar true) (fun _ => h.1.eq (fun j hj => by rw [B.2.2 j hj, mpg, if_neg (by omega), Nat.zero_add])), fun b j hb => by rw [B.1 b j (by omega), mpg, if_neg (by omega)]⟩
  · rw [bI_0] at h7
    refine r_iconst hO dX5_keep_10 ic_m1 ?_
    have e : p_keep σ k = (-1, σ) := if_neg (by rw [h7]; decide)
    exact r_ireturn hO hr dX5_keep_11 rfl ⟨by rw [e], by rw [e]; exact h, FDr.rf⟩
set_option maxHeartbeats 4000000 in
theorem zX5_back (l : Launch) {M : Mm} {σ : Sta} (h : RD M σ) {k : Int32} : Clz l 1 yX5_back cX5_back 2 (some .int) [.ref 33, .int k] M (fun r M' => r = some (.int (p_back σ k).1) ∧ RD M' (p_back σ k).2 ∧ FDr M M') := by
  refine Clz.on RX5 rfl (by decide +kernel) (Nat.le_of_ble_eq_true rfl) (fun X hL hO hr => ?_)
  show Gz X 0 [.ref 33, .int k] [] M
  refine r_iload_n hO dX5_back_0 rfl ?_
  refine r_i2l hO dX5_back_1 ?_
  refine r_lconst hO dX5_back_2 lc_0 ?_
  refine r_lconst hO dX5_back_3 lc_1 ?_
  refine r_fS hO dX5_back_4 kRX5_56 msX5_in (zX5_inI _ (lo := 0) (hi := 1) (by decide) (by decide)) ⟨Nat.le_of_ble_eq_true rfl, Nat.le_of_ble_eq_true rfl, rfl, Nat.le_of_ble_eq_true rfl⟩ rfl ?_
  refine r_if_ne 12 hO dX5_back_7 (by decide) (fun h7 => ?_) (fun h7 => ?_)
  · rw [bI_n0] at h7
    obtain ⟨a, ha, rfl⟩ := inI_nat (n := 1) (by decide) h7
    have ha2 : a < 2 := by omega
    refine r_aload_n hO dX5_back_12 rfl ?_
    refine r_getR 36 hO dX5_back_13 fRX5_16 rfl ?_
    refine r_iload_n hO dX5_back_16 rfl ?_
    refine s_zald 2 hO dX5_back_17 rfl (Nat.le_of_ble_eq_true rfl) a rfl ha2 ?_
    refine r_if_ne 24 hO dX5_back_18 (by decide) (fun h18 => ?_) (fun h18 => ?_)
    · rw [(h.2.1 a ha2).1, bI_n0] at h18
      refine r_aload_n hO dX5_back_24 rfl ?_
      refine r_iconst hO dX5_back_25 ic_0 ?_
      refine r_bipush hO dX5_back_26 bc_41 ?_
      refine r_iload_n hO dX5_back_28 rfl ?_
      refine r_iconst hO dX5_back_29 ic_1 ?_
      refine r_iadd hO dX5_back_30 ?_
      refine r_imul hO dX5_back_31 ?_
      refine r_callV hO dX5_back_32 kRX5_300 miX5_copies (zX5_copies _ 0 (41 * (a + 1)) rfl (by rw [nI_1, show (41 : Int32) = nI 41 from rfl, pk_mul]) (by omega) (by omega) (by omega)) ⟨Nat.le_of_ble_eq_true rfl, Nat.le_of_ble_eq_true rfl, rfl, Nat.le_of_ble_eq_true rfl⟩ rfl rfl (fun r M1 hpo => ?_)
      obtain ⟨rfl, B⟩ := hpo
      have hu : RU (M1.1 34) (σ.2.1 a).2 := ((h.2.1 a ha2).2 h18).eq (fun j hj => by have := B.2.2 j hj; rw [Nat.zero_add] at this; exact this)
      refine r_aload_n hO dX5_back_35 rfl ?_
      refine r_getR 34 hO dX5_back_36 fRX5_7 rfl ?_
      refine r_bipush hO dX5_back_39 bc_26 ?_
      refine s_iald 123 hO dX5_back_41 rfl (Nat.le_of_ble_eq_true rfl) 26 (by decide) (by decide) ?_
      have e : p_back σ (nI a) = (nI (σ.2.1 a).2.2.2.1, (σ.2.1 a).2, σ.2) := by unfold p_back; rw [if_pos h7, nI_clamp (by omega), if_pos h18]
      exact r_ireturn hO hr dX5_back_42 rfl ⟨by rw [e]; exact sI hu.2.2.2.2.1.1, by rw [e]; exact h.nut (fun b j _ _ _ _ _ _ _ h1 => B.1 b j (by omega)) hu, fun b j hb => B.1 b j (by omega)⟩
    · rw [(h.2.1 a ha2).1, bI_0] at h18
      refine r_bipush hO dX5_back_21 bc_m2 ?_
      have e : p_back σ (nI a) = (-2, σ) := by unfold p_back; rw [if_pos h7, nI_clamp (by omega), if_neg (by rw [h18]; decide)]
      exact r_ireturn hO hr dX5_back_23 rfl ⟨by rw [e], by rw [e]; exact h, FDr.rf⟩
  · rw [bI_0] at h7
    refine r_iconst hO dX5_back_10 ic_m1 ?_
    have e : p_back σ k = (-1, σ) := if_neg (by rw [h7]; decide)
    exact r_ireturn hO hr dX5_back_11 rfl ⟨by rw [e], by rw [e]; exact h, FDr.rf⟩
theorem fill_s (M : Mm) (q j : Nat) (v : Int32) : mput (mset M q (fun k => if k < j then v else M.1 q k)) q j v = mset M q (fun k => if k < j + 1 then v else M.1 q k) := by
  unfold mput mset
  simp only [Prod.mk.injEq, and_true]
  funext a
  by_cases h : a = q
  · simp only [h, if_true]
    funext k
    unfold upd
    by_cases hk : k = j
    · rw [if_pos hk, if_pos (by omega)]
    · rw [if_neg hk]
      dsimp only
      by_cases h2 : k < j
      · rw [if_pos h2, if_pos (by omega)]
      · rw [if_neg h2, if_neg (by omega)]
  · simp only [h, if_false]
theorem fill_0 (M : Mm) (q : Nat) (v : Int32) : M = mset M q (fun k => if k < 0 then v else M.1 q k) := by
  unfold mset
  apply Prod.ext
  · funext a
    by_cases h : a = q
    · subst h; simp
    · simp [h]
  · rfl
set_option maxHeartbeats 4000000 in
theorem zJ7_fill_53178 (l : Launch) {M : Mm} {q : Nat} (n : Nat) (hq : aI 10 q n = true) (hn1000 : n ≤ 1000) {v : Int32} : CFz l 0 yJ7_fill_53178 cJ7_fill_53178 4 none [.ref q, .int v] M (none) (mset M q (fun k => if k < n then v else M.1 q k)) := by
  refine Clz.on RJ7 rfl (by decide +kernel) (Nat.le_of_ble_eq_true rfl) (fun X hL hO hr => ?_)
  show Gz X 0 [.ref q, .int v, .null, .null] [] M
  have loop : ∀ (r j : Nat), j + r = n → Gz X 5 [.ref q, .int v, .int (nI j), .int (nI n)] [] (mset M q (fun k => if k < j then v else M.1 q k)) := by
    intro r
    induction r with
    | zero =>
      intro j hj
      have hj : n = j := by omega
      refine r_iload_n hO dJ7_fill_53178_5 rfl ?_
      refine r_iload_n hO dJ7_fill_53178_6 rfl ?_
      refine r_icmp_ge 20 hO dJ7_fill_53178_7 (by decide) (fun _ => ?_) (fun z => absurd (by rw [hj]; exact nI_le (Nat.le_refl _) (by omega)) z)
      exact r_return hO hr dJ7_fill_53178_20 ⟨rfl, by rw [hj]⟩
    | succ r ih =>
      intro j hj
      refine r_iload_n hO dJ7_fill_53178_5 rfl ?_
      refine r_iload_n hO dJ7_fill_53178_6 rfl ?_
      refine r_icmp_ge 20 hO dJ7_fill_53178_7 (by decide) (fun z => absurd z (nI_ge (by omega) (by omega))) (fun _ => ?_)
      refine r_aload_n hO dJ7_fill_53178_10 rfl ?_
      refine r_iload_n hO dJ7_fill_53178_11 rfl ?_
      refine r_iload_n hO dJ7_fill_53178_12 rfl ?_
      refine s_iast n hO dJ7_fill_53178_13 hq hn1000 j rfl (by omega) ?_
      refine s_iinc hL hO dJ7_fill_53178_14 rfl ic_1 (Nat.le_of_ble_eq_true rfl) rfl ?_
      refine r_goto 5 hO dJ7_fill_53178_17 (by decide) ?_
      show Gz X 5 [.ref q, .int v, .int (nI j + 1), .int (nI n)] [] _
      rw [nI_1, show mput (mset M q (fun k => if k < j then v else M.1 q k)) q j v = mset M q (fun k => if k < j + 1 then v else M.1 q k) from fill_s M q j v]
      exact ih (j + 1) (by omega)
  refine r_iconst hO dJ7_fill_53178_0 ic_0 ?_
  refine s_istore_n hL hO dJ7_fill_53178_1 (Nat.le_of_ble_eq_true rfl) rfl ?_
  refine r_aload_n hO dJ7_fill_53178_2 rfl ?_
  refine r_alen 10 n hO dJ7_fill_53178_3 hq rfl ?_
  refine s_istore_n hL hO dJ7_fill_53178_4 (Nat.le_of_ble_eq_true rfl) rfl ?_
  show Gz X 5 [.ref q, .int v, .int 0, .int (nI n)] [] M
  have := loop n 0 (by omega)
  rw [← fill_0] at this
  exact this
set_option maxHeartbeats 4000000 in
theorem zX1_renew (l : Launch) {M : Mm} {p : Nat} (hp : shP p) {w n : Int32} : CFz l 1 yX1_renew cX1_renew 3 none [.ref p, .int w, .int n] M (none) (mput (mput (mset M (p + 1) (fun k => if k < 40 then 0 else M.1 (p + 1) k)) p 1 w) p 2 n) := by
  refine Clz.on RX1 rfl (by decide +kernel) (Nat.le_of_ble_eq_true rfl) (fun X hL hO hr => ?_)
  show Gz X 0 [.ref p, .int w, .int n] [] M
  refine r_aload_n hO dX1_renew_0 rfl ?_
  refine r_getR (p + 1) hO dX1_renew_1 fRX1_9 (sh_R0 hp) ?_
  refine r_iconst hO dX1_renew_4 ic_0 ?_
  refine r_fS hO dX1_renew_5 kRX1_22 msJ7_fill_53178 (zJ7_fill_53178 _ 40 (sh_A hp) (by decide)) ⟨Nat.le_of_ble_eq_true rfl, Nat.le_of_ble_eq_true rfl, rfl, Nat.le_of_ble_eq_true rfl⟩ rfl ?_
  refine r_aload_n hO dX1_renew_8 rfl ?_
  refine r_iload_n hO dX1_renew_9 rfl ?_
  refine r_putI hO dX1_renew_10 fRX1_15 (sh_I1 hp) ?_
  refine r_aload_n hO dX1_renew_13 rfl ?_
  refine r_iload_n hO dX1_renew_14 rfl ?_
  refine r_putI hO dX1_renew_15 fRX1_19 (sh_I2 hp) ?_
  exact r_return hO hr dX1_renew_18 ⟨rfl, rfl⟩
def fcI (s : Sh) (i : Int32) : Int32 := match s with
  | none => 1
  | some x => if inI i 0 (nI x.2.1 - 1) = true then 0 else 2
theorem sh_pos {x : Nat} (h : x ≤ 40) : ¬ nI x = -1 := fun e => absurd (e ▸ nI_pos (n := x) (by omega)) (by decide)
theorem fc_n {M : Mm} {p : Nat} {s : Sh} {i : Int32} (hs : ShC M p s) (h : M.1 p 2 = -1) : (1 : Int32) = fcI s i := by
  cases s with
  | none => rfl
  | some x => exact absurd (hs.2.2.1.symm.trans h) (sh_pos hs.2.2.2.1)
theorem fc_2 {M : Mm} {p : Nat} {s : Sh} {i : Int32} (hs : ShC M p s) (h : ¬ M.1 p 2 = -1) (h2 : wiI i (M.1 p 2 - 1) = false) : (2 : Int32) = fcI s i := by
  cases s with
  | none => exact absurd hs h
  | some x =>
    rw [hs.2.2.1] at h2
    show _ = if _ then _ else _
    rw [if_neg (by rw [show inI i 0 (nI x.2.1 - 1) = false from h2]; decide)]
theorem fc_0 {M : Mm} {p : Nat} {s : Sh} {i : Int32} (hs : ShC M p s) (h : ¬ M.1 p 2 = -1) (h2 : wiI i (M.1 p 2 - 1) = true) : (0 : Int32) = fcI s i := by
  cases s with
  | none => exact absurd hs h
  | some x =>
    rw [hs.2.2.1] at h2
    show _ = if _ then _ else _
    rw [if_pos (show inI i 0 (nI x.2.1 - 1) = true from h2)]
set_option maxHeartbeats 4000000 in
theorem zX1_faultOfCell (l : Launch) {M : Mm} {p : Nat} (hp : shP p) {s : Sh} (hs : ShC M p s) {i : Int32} : CFz l 1 yX1_faultOfCell cX1_faultOfCell 2 (some .int) [.ref p, .int i] M (some (.int (fcI s i))) (M) := by
  refine Clz.on RX1 rfl (by decide +kernel) (Nat.le_of_ble_eq_true rfl) (fun X hL hO hr => ?_)
  show Gz X 0 [.ref p, .int i] [] M
  refine r_aload_n hO dX1_faultOfCell_0 rfl ?_
  refine r_getI hO dX1_faultOfCell_1 fRX1_19 (sh_I2 hp) ?_
  refine r_iconst hO dX1_faultOfCell_4 ic_m1 ?_
  refine r_icmp_ne 10 hO dX1_faultOfCell_5 (by decide) (fun h5 => ?_) (fun h5 => ?_)
  · refine r_iload_n hO dX1_faultOfCell_10 rfl ?_
    refine r_aload_n hO dX1_faultOfCell_11 rfl ?_
    refine r_getI hO dX1_faultOfCell_12 fRX1_19 (sh_I2 hp) ?_
    refine r_iconst hO dX1_faultOfCell_15 ic_1 ?_
    refine r_isub hO dX1_faultOfCell_16 ?_
    refine r_fS hO dX1_faultOfCell_17 kRX1_28 msX4_within (zX4_within _) ⟨Nat.le_of_ble_eq_true rfl, Nat.le_of_ble_eq_true rfl, rfl, Nat.le_of_ble_eq_true rfl⟩ rfl ?_
    refine r_if_eq 27 hO dX1_faultOfCell_20 (by decide) (fun h20 => ?_) (fun h20 => ?_)
    · rw [bI_0] at h20
      refine r_iconst hO dX1_faultOfCell_27 ic_2 ?_
      exact r_ireturn hO hr dX1_faultOfCell_28 rfl ⟨sI (fc_2 hs h5 h20), rfl⟩
    · rw [bI_n0] at h20
      refine r_iconst hO dX1_faultOfCell_23 ic_0 ?_
      refine r_goto 28 hO dX1_faultOfCell_24 (by decide) ?_
      exact r_ireturn hO hr dX1_faultOfCell_28 rfl ⟨sI (fc_0 hs h5 h20), rfl⟩
  · refine r_iconst hO dX1_faultOfCell_8 ic_1 ?_
    exact r_ireturn hO hr dX1_faultOfCell_9 rfl ⟨sI (fc_n hs h5), rfl⟩
set_option maxHeartbeats 4000000 in
theorem zX1_putCell (l : Launch) {M : Mm} {p : Nat} (hp : shP p) {i v : Int32} (a w : Nat) (hi : i = nI a) (ha : a < 40) (hw : M.1 p 1 = nI w) (hw2 : w ≤ 2) : CFz l 0 yX1_putCell cX1_putCell 3 none [.ref p, .int i, .int v] M (none) (mput M (p + 1) a (cutI w v)) := by
  refine Clz.on RX1 rfl (by decide +kernel) (Nat.le_of_ble_eq_true rfl) (fun X hL hO hr => ?_)
  show Gz X 0 [.ref p, .int i, .int v] [] M
  refine r_aload_n hO dX1_putCell_0 rfl ?_
  refine r_getI hO dX1_putCell_1 fRX1_15 (sh_I1 hp) ?_
  refine r_if_ne 18 hO dX1_putCell_4 (by decide) (fun h4 => ?_) (fun h4 => ?_)
  · rw [hw, show (0 : Int32) = nI 0 from rfl, nI_eq (by omega) (by decide)] at h4
    refine r_aload_n hO dX1_putCell_18 rfl ?_
    refine r_getI hO dX1_putCell_19 fRX1_15 (sh_I1 hp) ?_
    refine r_iconst hO dX1_putCell_22 ic_1 ?_
    refine r_icmp_ne 37 hO dX1_putCell_23 (by decide) (fun h23 => ?_) (fun h23 => ?_)
    · rw [hw, show (1 : Int32) = nI 1 from rfl, nI_eq (by omega) (by decide)] at h23
      refine r_aload_n hO dX1_putCell_37 rfl ?_
      refine r_getR (p + 1) hO dX1_putCell_38 fRX1_9 (sh_R0 hp) ?_
      refine r_iload_n hO dX1_putCell_41 rfl ?_
      refine r_iload_n hO dX1_putCell_42 rfl ?_
      refine s_iast 40 hO dX1_putCell_43 (sh_A hp) (Nat.le_of_ble_eq_true rfl) a hi ha ?_
      exact r_return hO hr dX1_putCell_44 ⟨rfl, by simp [cutI, h4, h23]⟩
    · rw [hw, show (1 : Int32) = nI 1 from rfl, nI_eq (by omega) (by decide)] at h23
      refine r_aload_n hO dX1_putCell_26 rfl ?_
      refine r_getR (p + 1) hO dX1_putCell_27 fRX1_9 (sh_R0 hp) ?_
      refine r_iload_n hO dX1_putCell_30 rfl ?_
      refine r_iload_n hO dX1_putCell_31 rfl ?_
      refine r_i2s hO dX1_putCell_32 ?_
      refine s_iast 40 hO dX1_putCell_33 (sh_A hp) (Nat.le_of_ble_eq_true rfl) a hi ha ?_
      refine r_goto 44 hO dX1_putCell_34 (by decide) ?_
      exact r_return hO hr dX1_putCell_44 ⟨rfl, by simp [cutI, h4, h23]⟩
  · rw [hw, show (0 : Int32) = nI 0 from rfl, nI_eq (by omega) (by decide)] at h4
    refine r_aload_n hO dX1_putCell_7 rfl ?_
    refine r_getR (p + 1) hO dX1_putCell_8 fRX1_9 (sh_R0 hp) ?_
    refine r_iload_n hO dX1_putCell_11 rfl ?_
    refine r_iload_n hO dX1_putCell_12 rfl ?_
    refine r_i2b hO dX1_putCell_13 ?_
    refine s_iast 40 hO dX1_putCell_14 (sh_A hp) (Nat.le_of_ble_eq_true rfl) a hi ha ?_
    refine r_goto 44 hO dX1_putCell_15 (by decide) ?_
    exact r_return hO hr dX1_putCell_44 ⟨rfl, by simp [cutI, h4]⟩
set_option maxHeartbeats 4000000 in
theorem zX4_sheet (l : Launch) {M : Mm} {σ : Sta} (h : RC M σ) {k w n : Int32} : Clz l 2 yX4_sheet cX4_sheet 4 (some .int) [.ref 0, .int k, .int w, .int n] M (fun r M' => r = some (.int (p_sheet σ k w n).1) ∧ RC M' (p_sheet σ k w n).2 ∧ FCr M M') := by
  refine Clz.on RX4 rfl (by decide +kernel) (Nat.le_of_ble_eq_true rfl) (fun X hL hO hr => ?_)
  show Gz X 0 [.ref 0, .int k, .int w, .int n] [] M
  refine r_iload_n hO dX4_sheet_0 rfl ?_
  refine r_iconst hO dX4_sheet_1 ic_3 ?_
  refine r_fS hO dX4_sheet_2 kRX4_62 msX4_within (zX4_within _) ⟨Nat.le_of_ble_eq_true rfl, Nat.le_of_ble_eq_true rfl, rfl, Nat.le_of_ble_eq_true rfl⟩ rfl ?_
  refine r_if_eq 22 hO dX4_sheet_5 (by decide) (fun h5 => ?_) (fun h5 => ?_)
  · rw [bI_0] at h5
    refine r_iconst hO dX4_sheet_22 ic_m1 ?_
    have e : p_sheet σ k w n = (-1, σ) := if_neg (ff (Q := True) (b := inI k 0 3) h5)
    exact r_ireturn hO hr dX4_sheet_23 rfl ⟨by rw [e], by rw [e]; exact h, FCr.rf⟩
  · rw [bI_n0] at h5
    refine r_iload_n hO dX4_sheet_8 rfl ?_
    refine r_iconst hO dX4_sheet_9 ic_2 ?_
    refine r_fS hO dX4_sheet_10 kRX4_62 msX4_within (zX4_within _) ⟨Nat.le_of_ble_eq_true rfl, Nat.le_of_ble_eq_true rfl, rfl, Nat.le_of_ble_eq_true rfl⟩ rfl ?_
    refine r_if_eq 22 hO dX4_sheet_13 (by decide) (fun h13 => ?_) (fun h13 => ?_)
    · rw [bI_0] at h13
      refine r_iconst hO dX4_sheet_22 ic_m1 ?_
      have e : p_sheet σ k w n = (-1, σ) := if_neg (fun z => ff (Q := True) (b := inI w 0 2) h13 z.2)
      exact r_ireturn hO hr dX4_sheet_23 rfl ⟨by rw [e], by rw [e]; exact h, FCr.rf⟩
    · rw [bI_n0] at h13
      refine r_iload_n hO dX4_sheet_16 rfl ?_
      refine r_bipush hO dX4_sheet_17 bc_40 ?_
      refine r_icmp_le 24 hO dX4_sheet_19 (by decide) (fun h19 => ?_) (fun h19 => ?_)
      · refine r_iload_n hO dX4_sheet_24 rfl ?_
        refine r_if_ge 31 hO dX4_sheet_25 (by decide) (fun h25 => ?_) (fun h25 => ?_)
        · obtain ⟨a, ha, rfl⟩ := inI_nat (n := 3) (by decide) (show inI k 0 3 = true from h5)
          obtain ⟨b, hb, rfl⟩ := inI_nat (n := 2) (by decide) (show inI w 0 2 = true from h13)
          have ha4 : a < 4 := by omega
          have hp := shP_a ha4
          obtain ⟨c, hc, rfl⟩ := inI_nat (n := 40) (by decide) (decide_eq_true ⟨h25, h19⟩ : inI n 0 40 = true)
          refine r_aload_n hO dX4_sheet_31 rfl ?_
          refine r_getR 14 hO dX4_sheet_32 fRX4_43 rfl ?_
          refine r_iload_n hO dX4_sheet_35 rfl ?_
          refine s_aald 14 4 (24 + 2 * a) hO dX4_sheet_36 a rfl (shR ha4) ha4 (by decide) ?_
          refine r_iload_n hO dX4_sheet_37 rfl ?_
          refine r_iload_n hO dX4_sheet_38 rfl ?_
          refine r_fV hO dX4_sheet_39 kRX4_193 miX1_renew (zX1_renew _ hp) ⟨Nat.le_of_ble_eq_true rfl, Nat.le_of_ble_eq_true rfl, rfl, Nat.le_of_ble_eq_true rfl⟩ (sh_o hp) rfl ?_
          refine r_iconst hO dX4_sheet_42 ic_1 ?_
          have e : p_sheet σ (nI a) (nI b) (nI c) = (1, σ.1, σ.2.1, σ.2.2.1, σ.2.2.2.1, σ.2.2.2.2.1, fun i => if i = a then some (b, c, fun _ => 0) else σ.2.2.2.2.2 i) := by unfold p_sheet; rw [if_pos ⟨h5, h13, h19⟩, if_pos h25, nI_clamp (by omega), nI_clamp (by omega), nI_clamp (by omega)]
          exact r_ireturn hO hr dX4_sheet_43 rfl ⟨by rw [e], by rw [e]; exact h.sh ha4 (fun x j h1 h2 _ => by rw [mpg, if_neg (by omega), mpg, if_neg (by omega), msg, if_neg (by omega)]) ⟨by simp [mpg], hb, by simp [mpg], hc, fun i hi => by rw [mpg, if_neg (by omega), mpg, if_neg (by omega), msg, if_pos rfl, if_pos hi]⟩, ⟨fun x j hx => by rw [mpg, if_neg (by omega), mpg, if_neg (by omega), msg, if_neg (by omega)], rfl⟩⟩
        · refine r_bipush hO dX4_sheet_28 bc_m14 ?_
          have e : p_sheet σ k w n = (-14, σ) := by unfold p_sheet; rw [if_pos ⟨h5, h13, h19⟩, if_neg h25]
          exact r_ireturn hO hr dX4_sheet_30 rfl ⟨by rw [e], by rw [e]; exact h, FCr.rf⟩
      · refine r_iconst hO dX4_sheet_22 ic_m1 ?_
        have e : p_sheet σ k w n = (-1, σ) := if_neg (fun z => h19 z.2.2)
        exact r_ireturn hO hr dX4_sheet_23 rfl ⟨by rw [e], by rw [e]; exact h, FCr.rf⟩
set_option maxHeartbeats 4000000 in
theorem zX5_isSheet (l : Launch) {M : Mm} {k w : Int32} : CFz l 1 yX5_isSheet cX5_isSheet 2 (some .boolean) [.int k, .int w] M (some (.int (bI (inI k 0 3 && inI w 0 2)))) (M) := by
  refine Clz.on RX5 rfl (by decide +kernel) (Nat.le_of_ble_eq_true rfl) (fun X hL hO hr => ?_)
  show Gz X 0 [.int k, .int w] [] M
  refine r_iload_n hO dX5_isSheet_0 rfl ?_
  refine r_i2l hO dX5_isSheet_1 ?_
  refine r_lconst hO dX5_isSheet_2 lc_0 ?_
  refine r_ldc2 hO dX5_isSheet_3 wRX5_210 ?_
  refine r_fS hO dX5_isSheet_6 kRX5_56 msX5_in (zX5_inI _ (lo := 0) (hi := 3) (by decide) (by decide)) ⟨Nat.le_of_ble_eq_true rfl, Nat.le_of_ble_eq_true rfl, rfl, Nat.le_of_ble_eq_true rfl⟩ rfl ?_
  refine r_if_eq 28 hO dX5_isSheet_9 (by decide) (fun h9 => ?_) (fun h9 => ?_)
  · rw [bI_0] at h9
    refine r_iconst hO dX5_isSheet_28 ic_0 ?_
    exact r_ireturn hO hr dX5_isSheet_29 rfl ⟨sI (by simp [bI, h9]), rfl⟩
  · rw [bI_n0] at h9
    refine r_iload_n hO dX5_isSheet_12 rfl ?_
    refine r_i2l hO dX5_isSheet_13 ?_
    refine r_lconst hO dX5_isSheet_14 lc_0 ?_
    refine r_ldc2 hO dX5_isSheet_15 wRX5_140 ?_
    refine r_fS hO dX5_isSheet_18 kRX5_56 msX5_in (zX5_inI _ (lo := 0) (hi := 2) (by decide) (by decide)) ⟨Nat.le_of_ble_eq_true rfl, Nat.le_of_ble_eq_true rfl, rfl, Nat.le_of_ble_eq_true rfl⟩ rfl ?_
    refine r_if_eq 28 hO dX5_isSheet_21 (by decide) (fun h21 => ?_) (fun h21 => ?_)
    · rw [bI_0] at h21
      refine r_iconst hO dX5_isSheet_28 ic_0 ?_
      exact r_ireturn hO hr dX5_isSheet_29 rfl ⟨sI (by simp [bI, h9, h21]), rfl⟩
    · rw [bI_n0] at h21
      refine r_iconst hO dX5_isSheet_24 ic_1 ?_
      refine r_goto 29 hO dX5_isSheet_25 (by decide) ?_
      exact r_ireturn hO hr dX5_isSheet_29 rfl ⟨sI (by simp [bI, h9, h21]), rfl⟩
set_option maxHeartbeats 4000000 in
theorem zX5_sheet (l : Launch) {M : Mm} {σ : Sta} (h : RD M σ) {k w n : Int32} : Clz l 2 yX5_sheet cX5_sheet 5 (some .int) [.ref 33, .int k, .int w, .int n] M (fun r M' => r = some (.int (p_sheet σ k w n).1) ∧ RD M' (p_sheet σ k w n).2 ∧ FDr M M') := by
  refine Clz.on RX5 rfl (by decide +kernel) (Nat.le_of_ble_eq_true rfl) (fun X hL hO hr => ?_)
  show Gz X 0 [.ref 33, .int k, .int w, .int n, .null] [] M
  refine r_iload_n hO dX5_sheet_0 rfl ?_
  refine r_iload_n hO dX5_sheet_1 rfl ?_
  refine r_fS hO dX5_sheet_2 kRX5_303 msX5_isSheet (zX5_isSheet _) ⟨Nat.le_of_ble_eq_true rfl, Nat.le_of_ble_eq_true rfl, rfl, Nat.le_of_ble_eq_true rfl⟩ rfl ?_
  refine r_if_eq 14 hO dX5_sheet_5 (by decide) (fun h5 => ?_) (fun h5 => ?_)
  · rw [bI_0] at h5
    refine r_iconst hO dX5_sheet_14 ic_m1 ?_
    have e : p_sheet σ k w n = (-1, σ) := if_neg (fun z => by rw [z.1, z.2.1] at h5; cases h5)
    exact r_ireturn hO hr dX5_sheet_15 rfl ⟨by rw [e], by rw [e]; exact h, FDr.rf⟩
  · rw [bI_n0, Bool.and_eq_true] at h5
    refine r_iload_n hO dX5_sheet_8 rfl ?_
    refine r_bipush hO dX5_sheet_9 bc_40 ?_
    refine r_icmp_le 16 hO dX5_sheet_11 (by decide) (fun h11 => ?_) (fun h11 => ?_)
    · refine r_iload_n hO dX5_sheet_16 rfl ?_
      refine r_if_ge 23 hO dX5_sheet_17 (by decide) (fun h17 => ?_) (fun h17 => ?_)
      · obtain ⟨a, ha, rfl⟩ := inI_nat (n := 3) (by decide) h5.1
        obtain ⟨b, hb, rfl⟩ := inI_nat (n := 2) (by decide) h5.2
        have ha4 : a < 4 := by omega
        obtain ⟨c, hc, rfl⟩ := inI_nat (n := 40) (by decide) (decide_eq_true ⟨h17, h11⟩ : inI n 0 40 = true)
        refine r_aload_n hO dX5_sheet_23 rfl ?_
        refine r_getR 41 hO dX5_sheet_24 fRX5_32 rfl ?_
        refine r_iload_n hO dX5_sheet_27 rfl ?_
        refine r_iload_n hO dX5_sheet_28 rfl ?_
        refine s_iast 4 hO dX5_sheet_29 rfl (Nat.le_of_ble_eq_true rfl) a rfl (by omega) ?_
        refine r_aload_n hO dX5_sheet_30 rfl ?_
        refine r_getR 42 hO dX5_sheet_31 fRX5_35 rfl ?_
        refine r_iload_n hO dX5_sheet_34 rfl ?_
        refine r_iload_n hO dX5_sheet_35 rfl ?_
        refine s_iast 4 hO dX5_sheet_36 rfl (Nat.le_of_ble_eq_true rfl) a rfl (by omega) ?_
        refine r_iconst hO dX5_sheet_37 ic_0 ?_
        refine s_istore hL hO dX5_sheet_38 (Nat.le_of_ble_eq_true rfl) rfl ?_
        have e : p_sheet σ (nI a) (nI b) (nI c) = (1, σ.1, σ.2.1, σ.2.2.1, σ.2.2.2.1, σ.2.2.2.2.1, fun i => if i = a then some (b, c, fun _ => 0) else σ.2.2.2.2.2 i) := by unfold p_sheet; rw [if_pos ⟨h5.1, h5.2, h11⟩, if_pos h17, nI_clamp (by omega), nI_clamp (by omega), nI_clamp (by omega)]
        have loop : ∀ (r j : Nat) (M1 : Mm), j + r = 40 → (∀ x i, ¬ (x = 43 ∧ 40 * a ≤ i ∧ i < 40 * a + 40) → M1.1 x i = (mput (mput M 41 a (nI b)) 42 a (nI c)).1 x i) → (∀ i, i < j → M1.1 43 (40 * a + i) = 0) → Gz X 40 [.ref 33, .int (nI a), .int (nI b), .int (nI c), .int (nI j)] [] M1 := by
          intro r
          induction r with
          | zero =>
            intro j M1 hj hA hC
            refine r_iload hO dX5_sheet_40 rfl ?_
            refine r_bipush hO dX5_sheet_42 bc_40 ?_
            refine r_icmp_ge 66 hO dX5_sheet_44 (by decide) (fun _ => ?_) (fun z => absurd (by rw [show (40 : Int32) = nI 40 from rfl]; exact nI_le (by omega) (by omega)) z)
            refine r_iconst hO dX5_sheet_66 ic_1 ?_
            exact r_ireturn hO hr dX5_sheet_67 rfl ⟨by rw [e], by rw [e]; exact h.sh ha4 (fun x i h1 h2 _ => by rw [hA x i (by omega), mpg, if_neg (by omega), mpg, if_neg (by omega)]) ⟨by rw [hA _ _ (by omega)]; simp [mpg], hb, by rw [hA _ _ (by omega)]; simp [mpg], hc, fun i hi => hC i (by omega)⟩, fun x i hx => by rw [hA x i (by omega), mpg, if_neg (by omega), mpg, if_neg (by omega)]⟩
          | succ r ih =>
            intro j M1 hj hA hC
            refine r_iload hO dX5_sheet_40 rfl ?_
            refine r_bipush hO dX5_sheet_42 bc_40 ?_
            refine r_icmp_ge 66 hO dX5_sheet_44 (by decide) (fun z => absurd z (by rw [show (40 : Int32) = nI 40 from rfl]; exact nI_ge (by omega) (by omega))) (fun _ => ?_)
            refine r_aload_n hO dX5_sheet_47 rfl ?_
            refine r_getR 43 hO dX5_sheet_48 fRX5_38 rfl ?_
            refine r_bipush hO dX5_sheet_51 bc_40 ?_
            refine r_iload_n hO dX5_sheet_53 rfl ?_
            refine r_imul hO dX5_sheet_54 ?_
            refine r_iload hO dX5_sheet_55 rfl ?_
            refine r_iadd hO dX5_sheet_57 ?_
            refine r_iconst hO dX5_sheet_58 ic_0 ?_
            refine s_iast 160 hO dX5_sheet_59 rfl (Nat.le_of_ble_eq_true rfl) (40 * a + j) (by rw [show (40 : Int32) = nI 40 from rfl, pk_mul, nI_add]) (by omega) ?_
            refine s_iinc hL hO dX5_sheet_60 rfl ic_1 (Nat.le_of_ble_eq_true rfl) rfl ?_
            refine r_goto 40 hO dX5_sheet_63 (by decide) ?_
            show Gz X 40 [.ref 33, .int (nI a), .int (nI b), .int (nI c), .int (nI j + 1)] [] _
            rw [nI_1]
            exact ih (j + 1) _ (by omega) (fun x i z => by rw [mpg, if_neg (by omega)]; exact hA x i (by omega)) (fun i hi => by
              rw [mpg]
              by_cases e2 : i = j
              · rw [if_pos ⟨rfl, by omega⟩]
              · rw [if_neg (by omega)]; exact hC i (by omega))
        exact loop 40 0 _ (by omega) (fun _ _ _ => rfl) (fun i hi => by omega)
      · refine r_bipush hO dX5_sheet_20 bc_m14 ?_
        have e : p_sheet σ k w n = (-14, σ) := by unfold p_sheet; rw [if_pos ⟨h5.1, h5.2, h11⟩, if_neg h17]
        exact r_ireturn hO hr dX5_sheet_22 rfl ⟨by rw [e], by rw [e]; exact h, FDr.rf⟩
    · refine r_iconst hO dX5_sheet_14 ic_m1 ?_
      have e : p_sheet σ k w n = (-1, σ) := if_neg (fun z => h11 z.2.2)
      exact r_ireturn hO hr dX5_sheet_15 rfl ⟨by rw [e], by rw [e]; exact h, FDr.rf⟩
theorem ShC.lay {M : Mm} {p : Nat} {x : Nat × Nat × (Nat → Int32)} (hx : ShC M p (some x)) {c : Nat} (hc : c < 40) (y : Int32) : ShC (mput M (p + 1) c y) p (some (x.1, x.2.1, upd x.2.2 c y)) := by
  obtain ⟨h1, h2, h3, h4, h5⟩ := hx
  refine ⟨by rw [mpg, if_neg (by omega)]; exact h1, h2, by rw [mpg, if_neg (by omega)]; exact h3, h4, fun j hj => ?_⟩
  rw [mpg]
  show _ = upd x.2.2 c y j
  unfold upd
  by_cases e : j = c
  · rw [if_pos ⟨rfl, e⟩, if_pos e]
  · rw [if_neg (fun z => e z.2), if_neg e]; exact h5 j hj
theorem ShD.lay {M : Mm} {a : Nat} {x : Nat × Nat × (Nat → Int32)} (hx : ShD M a (some x)) {c : Nat} (hc : c < 40) (y : Int32) : ShD (mput M 43 (40 * a + c) y) a (some (x.1, x.2.1, upd x.2.2 c y)) := by
  obtain ⟨h1, h2, h3, h4, h5⟩ := hx
  refine ⟨by rw [mpg, if_neg (by omega)]; exact h1, h2, by rw [mpg, if_neg (by omega)]; exact h3, h4, fun j hj => ?_⟩
  rw [mpg]
  show _ = upd x.2.2 c y j
  unfold upd
  by_cases e : j = c
  · rw [if_pos ⟨rfl, by omega⟩, if_pos e]
  · rw [if_neg (fun z => by omega), if_neg e]; exact h5 j hj
theorem lay_f {σ : Sta} {a : Nat} {i v : Int32} (h5 : wiI (nI a) 3 = true) (ha : a ≤ 3) (h : ¬ fcI (σ.2.2.2.2.2 a) i = 0) : -10 - fcI (σ.2.2.2.2.2 a) i = (p_lay σ (nI a) i v).1 ∧ σ = (p_lay σ (nI a) i v).2 := by
  unfold p_lay
  rw [if_pos (show inI (nI a) 0 3 = true from h5), nI_clamp (by omega)]
  cases hs : σ.2.2.2.2.2 a with
  | none => exact ⟨by show (-10 : Int32) - 1 = -11; decide, rfl⟩
  | some x =>
    rw [hs] at h
    by_cases hq : inI i 0 (nI x.2.1 - 1) = true
    · exact absurd (if_pos hq) h
    · dsimp only
      rw [if_neg hq]
      refine ⟨?_, rfl⟩
      rw [show fcI (some x) i = 2 from if_neg hq]
      show (-10 : Int32) - 2 = -12
      decide
theorem lay_t {M : Mm} {p : Nat} {σ : Sta} {a : Nat} {i v : Int32} (h5 : wiI (nI a) 3 = true) (ha : a ≤ 3) (h : fcI (σ.2.2.2.2.2 a) i = 0) (hx : ShC M p (σ.2.2.2.2.2 a)) : ∃ x c, σ.2.2.2.2.2 a = some x ∧ c < x.2.1 ∧ i = nI c ∧ p_lay σ (nI a) i v = (1, σ.1, σ.2.1, σ.2.2.1, σ.2.2.2.1, σ.2.2.2.2.1, fun j => if j = a then some (x.1, x.2.1, upd x.2.2 c (cutI x.1 v)) else σ.2.2.2.2.2 j) := by
  cases hs : σ.2.2.2.2.2 a with
  | none => rw [hs] at h; exact absurd (show (1 : Int32) = 0 from h) (by decide)
  | some x =>
    rw [hs] at h hx
    by_cases hq : inI i 0 (nI x.2.1 - 1) = true
    · obtain ⟨c, hc, rfl⟩ := inI_mem (by have := hx.2.2.2.1; omega) hq
      refine ⟨x, c, rfl, hc, rfl, ?_⟩
      unfold p_lay
      rw [if_pos (show inI (nI a) 0 3 = true from h5), nI_clamp (show a < 2 ^ 31 by omega), hs]
      dsimp only
      rw [if_pos hq, nI_clamp (show c < 2 ^ 31 by have := hx.2.2.2.1; omega)]
    · exfalso
      have : fcI (some x) i = 2 := if_neg hq
      rw [this] at h
      exact absurd h (by decide)
set_option maxHeartbeats 4000000 in
theorem zX4_lay (l : Launch) {M : Mm} {σ : Sta} (h : RC M σ) {k i v : Int32} : Clz l 2 yX4_lay cX4_lay 5 (some .int) [.ref 0, .int k, .int i, .int v] M (fun r M' => r = some (.int (p_lay σ k i v).1) ∧ RC M' (p_lay σ k i v).2 ∧ FCr M M') := by
  refine Clz.on RX4 rfl (by decide +kernel) (Nat.le_of_ble_eq_true rfl) (fun X hL hO hr => ?_)
  show Gz X 0 [.ref 0, .int k, .int i, .int v, .null] [] M
  refine r_iload_n hO dX4_lay_0 rfl ?_
  refine r_iconst hO dX4_lay_1 ic_3 ?_
  refine r_fS hO dX4_lay_2 kRX4_62 msX4_within (zX4_within _) ⟨Nat.le_of_ble_eq_true rfl, Nat.le_of_ble_eq_true rfl, rfl, Nat.le_of_ble_eq_true rfl⟩ rfl ?_
  refine r_if_ne 10 hO dX4_lay_5 (by decide) (fun h5 => ?_) (fun h5 => ?_)
  · rw [bI_n0] at h5
    obtain ⟨a, ha, rfl⟩ := inI_nat (n := 3) (by decide) (show inI k 0 3 = true from h5)
    have ha4 : a < 4 := by omega
    have hp := shP_a ha4
    refine r_aload_n hO dX4_lay_10 rfl ?_
    refine r_getR 14 hO dX4_lay_11 fRX4_43 rfl ?_
    refine r_iload_n hO dX4_lay_14 rfl ?_
    refine s_aald 14 4 (24 + 2 * a) hO dX4_lay_15 a rfl (shR ha4) ha4 (by decide) ?_
    refine r_iload_n hO dX4_lay_16 rfl ?_
    refine r_fV hO dX4_lay_17 kRX4_197 miX1_faultOfCell (zX1_faultOfCell _ hp (h.2.2.2.2.2 a ha4)) ⟨Nat.le_of_ble_eq_true rfl, Nat.le_of_ble_eq_true rfl, rfl, Nat.le_of_ble_eq_true rfl⟩ (sh_o hp) rfl ?_
    refine s_istore hL hO dX4_lay_20 (Nat.le_of_ble_eq_true rfl) rfl ?_
    refine r_iload hO dX4_lay_22 rfl ?_
    refine r_if_eq 33 hO dX4_lay_24 (by decide) (fun h24 => ?_) (fun h24 => ?_)
    · obtain ⟨x, c, hs, hc, rfl, e⟩ := lay_t (v := v) h5 ha h24 (h.2.2.2.2.2 a ha4)
      have hx := h.2.2.2.2.2 a ha4
      rw [hs] at hx
      refine r_aload_n hO dX4_lay_33 rfl ?_
      refine r_getR 14 hO dX4_lay_34 fRX4_43 rfl ?_
      refine r_iload_n hO dX4_lay_37 rfl ?_
      refine s_aald 14 4 (24 + 2 * a) hO dX4_lay_38 a rfl (shR ha4) ha4 (by decide) ?_
      refine r_iload_n hO dX4_lay_39 rfl ?_
      refine r_iload_n hO dX4_lay_40 rfl ?_
      refine r_fV hO dX4_lay_41 kRX4_200 miX1_putCell (zX1_putCell _ hp c x.1 rfl (by have := hx.2.2.2.1; omega) hx.1 hx.2.1) ⟨Nat.le_of_ble_eq_true rfl, Nat.le_of_ble_eq_true rfl, rfl, Nat.le_of_ble_eq_true rfl⟩ (sh_o hp) rfl ?_
      refine r_iconst hO dX4_lay_44 ic_1 ?_
      exact r_ireturn hO hr dX4_lay_45 rfl ⟨by rw [e], by rw [e]; exact h.sh ha4 (fun y j h1 h2 _ => by rw [mpg, if_neg (by omega)]) (hx.lay (by have := hx.2.2.2.1; omega) _), FCr.put (by omega)⟩
    · refine r_bipush hO dX4_lay_27 bc_m10 ?_
      refine r_iload hO dX4_lay_29 rfl ?_
      refine r_isub hO dX4_lay_31 ?_
      exact r_ireturn hO hr dX4_lay_32 rfl ⟨sI (lay_f h5 ha h24).1, (lay_f h5 ha h24).2 ▸ h, FCr.rf⟩
  · rw [bI_0] at h5
    refine r_iconst hO dX4_lay_8 ic_m1 ?_
    have e : p_lay σ k i v = (-1, σ) := if_neg (by rw [show inI k 0 3 = false from h5]; decide)
    exact r_ireturn hO hr dX4_lay_9 rfl ⟨by rw [e], by rw [e]; exact h, FCr.rf⟩
theorem ne_m4 {x : Nat} (h : x ≤ 2) : ¬ nI x = -4 := fun e => absurd (e ▸ nI_pos (n := x) (by omega)) (by decide)
theorem layD_n {M : Mm} {σ : Sta} {a : Nat} {i v : Int32} (h5 : inI (nI a) 0 3 = true) (ha : a ≤ 3) (h : M.1 41 a = -4) (hx : ShD M a (σ.2.2.2.2.2 a)) : p_lay σ (nI a) i v = (-11, σ) := by
  unfold p_lay
  rw [if_pos h5, nI_clamp (show a < 2 ^ 31 by omega)]
  cases hs : σ.2.2.2.2.2 a with
  | none => rfl
  | some x => rw [hs] at hx; exact absurd (hx.1.symm.trans h) (ne_m4 hx.2.1)
theorem layD_f {M : Mm} {σ : Sta} {a : Nat} {i v : Int32} (h5 : inI (nI a) 0 3 = true) (ha : a ≤ 3) (h : ¬ M.1 41 a = -4) (h2 : inI i 0 (M.1 42 a - 1) = false) (hx : ShD M a (σ.2.2.2.2.2 a)) : p_lay σ (nI a) i v = (-12, σ) := by
  unfold p_lay
  rw [if_pos h5, nI_clamp (show a < 2 ^ 31 by omega)]
  cases hs : σ.2.2.2.2.2 a with
  | none => rw [hs] at hx; exact absurd hx h
  | some x =>
    rw [hs] at hx
    rw [hx.2.2.1] at h2
    dsimp only
    rw [if_neg (by rw [h2]; decide)]
theorem layD_t {M : Mm} {σ : Sta} {a : Nat} {i v : Int32} (h5 : inI (nI a) 0 3 = true) (ha : a ≤ 3) (h : ¬ M.1 41 a = -4) (h2 : inI i 0 (M.1 42 a - 1) = true) (hx : ShD M a (σ.2.2.2.2.2 a)) : ∃ x c, σ.2.2.2.2.2 a = some x ∧ c < x.2.1 ∧ i = nI c ∧ p_lay σ (nI a) i v = (1, σ.1, σ.2.1, σ.2.2.1, σ.2.2.2.1, σ.2.2.2.2.1, fun j => if j = a then some (x.1, x.2.1, upd x.2.2 c (cutI x.1 v)) else σ.2.2.2.2.2 j) := by
  cases hs : σ.2.2.2.2.2 a with
  | none => rw [hs] at hx; exact absurd hx h
  | some x =>
    rw [hs] at hx
    rw [hx.2.2.1] at h2
    obtain ⟨c, hc, rfl⟩ := inI_mem (by have := hx.2.2.2.1; omega) h2
    refine ⟨x, c, rfl, hc, rfl, ?_⟩
    unfold p_lay
    rw [if_pos h5, nI_clamp (show a < 2 ^ 31 by omega), hs]
    dsimp only
    rw [if_pos h2, nI_clamp (show c < 2 ^ 31 by have := hx.2.2.2.1; omega)]
set_option maxHeartbeats 4000000 in
theorem zX5_lay (l : Launch) {M : Mm} {σ : Sta} (h : RD M σ) {k i v : Int32} : Clz l 2 yX5_lay cX5_lay 4 (some .int) [.ref 33, .int k, .int i, .int v] M (fun r M' => r = some (.int (p_lay σ k i v).1) ∧ RD M' (p_lay σ k i v).2 ∧ FDr M M') := by
  refine Clz.on RX5 rfl (by decide +kernel) (Nat.le_of_ble_eq_true rfl) (fun X hL hO hr => ?_)
  show Gz X 0 [.ref 33, .int k, .int i, .int v] [] M
  refine r_iload_n hO dX5_lay_0 rfl ?_
  refine r_iconst hO dX5_lay_1 ic_0 ?_
  refine r_fS hO dX5_lay_2 kRX5_303 msX5_isSheet (zX5_isSheet _) ⟨Nat.le_of_ble_eq_true rfl, Nat.le_of_ble_eq_true rfl, rfl, Nat.le_of_ble_eq_true rfl⟩ rfl ?_
  refine r_if_ne 10 hO dX5_lay_5 (by decide) (fun h5 => ?_) (fun h5 => ?_)
  · rw [bI_n0, Bool.and_eq_true] at h5
    obtain ⟨a, ha, rfl⟩ := inI_nat (n := 3) (by decide) h5.1
    have ha4 : a < 4 := by omega
    have hx := h.2.2.2.2.2 a ha4
    refine r_aload_n hO dX5_lay_10 rfl ?_
    refine r_getR 41 hO dX5_lay_11 fRX5_32 rfl ?_
    refine r_iload_n hO dX5_lay_14 rfl ?_
    refine s_iald 4 hO dX5_lay_15 rfl (Nat.le_of_ble_eq_true rfl) a rfl ha4 ?_
    refine r_bipush hO dX5_lay_16 bc_m4 ?_
    refine r_icmp_ne 24 hO dX5_lay_18 (by decide) (fun h18 => ?_) (fun h18 => ?_)
    · refine r_iload_n hO dX5_lay_24 rfl ?_
      refine r_i2l hO dX5_lay_25 ?_
      refine r_lconst hO dX5_lay_26 lc_0 ?_
      refine r_aload_n hO dX5_lay_27 rfl ?_
      refine r_getR 42 hO dX5_lay_28 fRX5_35 rfl ?_
      refine r_iload_n hO dX5_lay_31 rfl ?_
      refine s_iald 4 hO dX5_lay_32 rfl (Nat.le_of_ble_eq_true rfl) a rfl ha4 ?_
      refine r_iconst hO dX5_lay_33 ic_1 ?_
      refine r_isub hO dX5_lay_34 ?_
      refine r_i2l hO dX5_lay_35 ?_
      refine r_fS hO dX5_lay_36 kRX5_56 msX5_in (zX5_inI _ (lo := 0) (by decide) rfl) ⟨Nat.le_of_ble_eq_true rfl, Nat.le_of_ble_eq_true rfl, rfl, Nat.le_of_ble_eq_true rfl⟩ rfl ?_
      refine r_if_ne 45 hO dX5_lay_39 (by decide) (fun h39 => ?_) (fun h39 => ?_)
      · rw [bI_n0] at h39
        obtain ⟨x, c, hs, hc, rfl, e⟩ := layD_t (v := v) h5.1 ha h18 h39 hx
        rw [hs] at hx
        have hx4 := hx.2.2.2.1
        refine r_aload_n hO dX5_lay_45 rfl ?_
        refine r_getR 43 hO dX5_lay_46 fRX5_38 rfl ?_
        refine r_bipush hO dX5_lay_49 bc_40 ?_
        refine r_iload_n hO dX5_lay_51 rfl ?_
        refine r_imul hO dX5_lay_52 ?_
        refine r_iload_n hO dX5_lay_53 rfl ?_
        refine r_iadd hO dX5_lay_54 ?_
        refine r_aload_n hO dX5_lay_55 rfl ?_
        refine r_getR 41 hO dX5_lay_56 fRX5_32 rfl ?_
        refine r_iload_n hO dX5_lay_59 rfl ?_
        refine s_iald 4 hO dX5_lay_60 rfl (Nat.le_of_ble_eq_true rfl) a rfl ha4 ?_
        refine r_if_ne 69 hO dX5_lay_61 (by decide) (fun h61 => ?_) (fun h61 => ?_)
        · rw [hx.1, show (0 : Int32) = nI 0 from rfl, nI_eq (by have := hx.2.1; omega) (by decide)] at h61
          refine r_aload_n hO dX5_lay_69 rfl ?_
          refine r_getR 41 hO dX5_lay_70 fRX5_32 rfl ?_
          refine r_iload_n hO dX5_lay_73 rfl ?_
          refine s_iald 4 hO dX5_lay_74 rfl (Nat.le_of_ble_eq_true rfl) a rfl ha4 ?_
          refine r_iconst hO dX5_lay_75 ic_1 ?_
          refine r_icmp_ne 84 hO dX5_lay_76 (by decide) (fun h76 => ?_) (fun h76 => ?_)
          · rw [hx.1, show (1 : Int32) = nI 1 from rfl, nI_eq (by have := hx.2.1; omega) (by decide)] at h76
            refine r_iload_n hO dX5_lay_84 rfl ?_
            refine s_iast 160 hO dX5_lay_85 rfl (Nat.le_of_ble_eq_true rfl) (40 * a + c) (by rw [show (40 : Int32) = nI 40 from rfl, pk_mul, nI_add]) (by omega) ?_
            refine r_iconst hO dX5_lay_86 ic_1 ?_
            exact r_ireturn hO hr dX5_lay_87 rfl ⟨by rw [e], by rw [e, show cutI x.1 v = v from by simp [cutI, h61, h76]]; exact h.sh ha4 (fun y j h1 h2 _ => by rw [mpg, if_neg (by omega)]) (hx.lay (by omega) _), FDr.put (by decide)⟩
          · rw [hx.1, show (1 : Int32) = nI 1 from rfl, nI_eq (by have := hx.2.1; omega) (by decide)] at h76
            refine r_iload_n hO dX5_lay_79 rfl ?_
            refine r_i2s hO dX5_lay_80 ?_
            refine r_goto 85 hO dX5_lay_81 (by decide) ?_
            refine s_iast 160 hO dX5_lay_85 rfl (Nat.le_of_ble_eq_true rfl) (40 * a + c) (by rw [show (40 : Int32) = nI 40 from rfl, pk_mul, nI_add]) (by omega) ?_
            refine r_iconst hO dX5_lay_86 ic_1 ?_
            exact r_ireturn hO hr dX5_lay_87 rfl ⟨by rw [e], by rw [e, show cutI x.1 v = v.toInt16.toInt32 from by simp [cutI, h61, h76]]; exact h.sh ha4 (fun y j h1 h2 _ => by rw [mpg, if_neg (by omega)]) (hx.lay (by omega) _), FDr.put (by decide)⟩
        · rw [hx.1, show (0 : Int32) = nI 0 from rfl, nI_eq (by have := hx.2.1; omega) (by decide)] at h61
          refine r_iload_n hO dX5_lay_64 rfl ?_
          refine r_i2b hO dX5_lay_65 ?_
          refine r_goto 85 hO dX5_lay_66 (by decide) ?_
          refine s_iast 160 hO dX5_lay_85 rfl (Nat.le_of_ble_eq_true rfl) (40 * a + c) (by rw [show (40 : Int32) = nI 40 from rfl, pk_mul, nI_add]) (by omega) ?_
          refine r_iconst hO dX5_lay_86 ic_1 ?_
          exact r_ireturn hO hr dX5_lay_87 rfl ⟨by rw [e], by rw [e, show cutI x.1 v = v.toInt8.toInt32 from by simp [cutI, h61]]; exact h.sh ha4 (fun y j h1 h2 _ => by rw [mpg, if_neg (by omega)]) (hx.lay (by omega) _), FDr.put (by decide)⟩
      · rw [bI_0] at h39
        refine r_bipush hO dX5_lay_42 bc_m12 ?_
        have e : p_lay σ (nI a) i v = (-12, σ) := layD_f h5.1 ha h18 h39 hx
        exact r_ireturn hO hr dX5_lay_44 rfl ⟨by rw [e], by rw [e]; exact h, FDr.rf⟩
    · refine r_bipush hO dX5_lay_21 bc_m11 ?_
      have e : p_lay σ (nI a) i v = (-11, σ) := layD_n h5.1 ha h18 hx
      exact r_ireturn hO hr dX5_lay_23 rfl ⟨by rw [e], by rw [e]; exact h, FDr.rf⟩
  · rw [bI_0] at h5
    refine r_iconst hO dX5_lay_8 ic_m1 ?_
    have e : p_lay σ k i v = (-1, σ) := if_neg (fun z => by rw [z] at h5; revert h5; decide)
    exact r_ireturn hO hr dX5_lay_9 rfl ⟨by rw [e], by rw [e]; exact h, FDr.rf⟩
