/-! middle, swing, drift -/
def mdr (f : Nat → Int32) : Nat → Nat → Int32 × Int32 → Int32 × Int32
  | 0, _, acc => acc
  | r + 1, j, acc => mdr f r (j + 1) (if f j ≤ acc.2 then acc else (nI j, f j))
def mdF (σ : Sta) (v : Nat) : Int32 := nI (σ.1.1.countP (fun b => vt b v))
def p_middle (σ : Sta) (w : Int32) : Int32 := if inI w 0 1 = true then (if w = 0 then (mdr (mdF σ) 21 0 (0, -1)).1 else (mdr (mdF σ) 21 0 (0, -1)).2) else -1
theorem cY01 {v : Nat} : ∀ ms : List Mb, (∀ b ∈ ms, okB b) → cY 0 v ms + cY 1 v ms = ms.countP (fun b => vt b v) := by
  intro ms
  induction ms with
  | nil => intro _; rfl
  | cons b ms ih =>
    intro h
    have hb := h b List.mem_cons_self
    have := ih (fun c hc => h c (List.mem_cons_of_mem _ hc))
    rw [cYc, cYc, List.countP_cons, ← this]
    have h1 := hb.2.1
    rcases (show b.2.1 = 0 ∨ b.2.1 = 1 by omega) with e | e <;> simp [inH, e] <;> omega
theorem MbAt.ok {f : Nat → Int32} {ms : List Mb} (h : MbAt f ms) : ∀ b ∈ ms, okB b := by
  intro b hb
  obtain ⟨i, hi⟩ := List.getElem?_of_mem hb
  exact (h i b hi).2.2.2.2
def swF (σ : Sta) (i v : Nat) : Bool := decide (cN (σ.1.1.getD i (0, 0, 0, 0)).2.1 v (σ.1.1.eraseIdx i) < cY (σ.1.1.getD i (0, 0, 0, 0)).2.1 v (σ.1.1.eraseIdx i) + 1 ∧ cY (σ.1.1.getD i (0, 0, 0, 0)).2.1 v (σ.1.1.eraseIdx i) ≤ cN (σ.1.1.getD i (0, 0, 0, 0)).2.1 v (σ.1.1.eraseIdx i) + 1)
def cntF (f : Nat → Bool) : Nat → Nat → Nat
  | 0, _ => 0
  | r + 1, j => (if f j = true then 1 else 0) + cntF f r (j + 1)
def p_swing (σ : Sta) (i : Int32) : Int32 := if inI i 0 (nI σ.1.1.length - 1) = true then nI (cntF (swF σ i.toNatClampNeg) 21 0) else -1
theorem cp_set {p : Mb → Bool} {c : Mb} (hc : p c = false) : ∀ (ms : List Mb) (i : Nat), i < ms.length → (ms.set i c).countP p = (ms.eraseIdx i).countP p := by
  intro ms
  induction ms with
  | nil => intro i h; simp at h
  | cons b ms ih =>
    intro i h
    cases i with
    | zero => simp [hc]
    | succ i => simp only [List.set_cons_succ, List.eraseIdx_cons_succ, List.countP_cons]; rw [ih i (by simpa using h)]
def oth (b : Mb) : Mb := (b.1, 2, b.2.2.1, b.2.2.2)
theorem p2_d : ∀ i, i < 6 → (1 : Int32) <<< (nI i &&& 31) = nI (2 ^ i) := by decide +kernel
theorem land_z : ∀ a, a < 64 → a &&& 0 = 0 := by decide +kernel
theorem num_set {f : Mb → Bool} {c : Mb} (hc : f c = false) : ∀ (ms : List Mb) (i : Nat), ms.length ≤ 6 → i < ms.length → num f ms - (num f ms &&& 2 ^ i) = num f (ms.set i c) ∧ (num f ms &&& 2 ^ i) ≤ num f ms := by
  intro ms
  induction ms with
  | nil => intro i _ h; simp at h
  | cons b ms ih =>
    intro i hl h
    simp only [List.length_cons] at hl h
    have hf := num_lt f ms
    have hp : 2 ^ ms.length ≤ 2 ^ 5 := Nat.pow_le_pow_right (by decide) (by omega)
    cases i with
    | zero =>
      simp only [num, List.set_cons_zero, hc]
      have := land_d (num f ms) (by omega) 0 (by omega) (if f b = true then 1 else 0) (by split <;> omega) 1 (by omega)
      rw [land_z _ (by omega)] at this
      rw [show (2 : Nat) ^ 0 = 1 + 2 * 0 from rfl, this]
      split <;> simp <;> omega
    | succ i =>
      simp only [num, List.set_cons_succ]
      have h2 : 2 ^ i ≤ 2 ^ 4 := Nat.pow_le_pow_right (by decide) (by omega)
      have := land_d (num f ms) (by omega) (2 ^ i) (by omega) (if f b = true then 1 else 0) (by split <;> omega) 0 (by omega)
      obtain ⟨e1, e2⟩ := ih i (by omega) (by omega)
      rw [show (2 : Nat) ^ (i + 1) = 0 + 2 * 2 ^ i from by rw [Nat.pow_succ]; omega, this, Nat.mul_zero, Nat.zero_add]
      split <;> omega
theorem vt_oth (b : Mb) (v : Nat) : vt (oth b) v = vt b v := rfl
theorem orB_oth (v : Nat) : ∀ (ms : List Mb) (i j : Nat) (acc : Int32) (b : Mb), ms[i]? = some b → orB (fun b => vt b v) j acc (ms.set i (oth b)) = orB (fun b => vt b v) j acc ms := by
  intro ms
  induction ms with
  | nil => intro i j acc b h; simp at h
  | cons c ms ih =>
    intro i j acc b h
    cases i with
    | zero => simp at h; subst h; rfl
    | succ i => simp at h; exact ih i (j + 1) _ b h
theorem oth_f {g : Nat} (hg : g < 2) (b : Mb) : inH g (oth b) = false := decide_eq_false (by show ¬ 2 = g; omega)
theorem oth_own {g : Nat} (hg : g < 2) {ms : List Mb} (hl : ms.length ≤ 6) {i : Nat} {b : Mb} (hb : ms[i]? = some b) : orB (inH g) 0 0 ms &&& (1 <<< (nI i &&& 31) ^^^ -1) = orB (inH g) 0 0 (ms.set i (oth b)) := by
  have hi := (List.getElem?_eq_some_iff.mp hb).1
  have hp : 2 ^ i ≤ 2 ^ 5 := Nat.pow_le_pow_right (by decide) (by omega)
  rw [orB_n hl, orB_n (by rw [List.length_set]; exact hl), p2_d i (by omega), xor_d _ (num_64 hl) _ (by omega), (num_set (c := oth b) (oth_f hg b) ms i hl hi).1]
theorem sw_y {g v : Nat} (hg : g < 2) {ms : List Mb} (hl : ms.length ≤ 6) {i : Nat} {b : Mb} (hb : ms[i]? = some b) : bcI ((orB (inH g) 0 0 ms &&& (1 <<< (nI i &&& 31) ^^^ -1)) &&& orB (fun b => vt b v) 0 0 ms) = nI (cY g v (ms.eraseIdx i)) := by
  have hi := (List.getElem?_eq_some_iff.mp hb).1
  rw [oth_own hg hl hb, ← orB_oth v ms i 0 0 b hb, bc_and (by rw [List.length_set]; exact hl), cp_set (by show (inH g (oth b) && vt (oth b) v) = false; rw [oth_f hg]; rfl) ms i hi]; rfl
theorem sw_n {g v : Nat} (hg : g < 2) {ms : List Mb} (hl : ms.length ≤ 6) {i : Nat} {b : Mb} (hb : ms[i]? = some b) : bcI ((orB (inH g) 0 0 ms &&& (1 <<< (nI i &&& 31) ^^^ -1)) &&& (orB (fun b => vt b v) 0 0 ms ^^^ -1)) = nI (cN g v (ms.eraseIdx i)) := by
  have hi := (List.getElem?_eq_some_iff.mp hb).1
  rw [oth_own hg hl hb, ← orB_oth v ms i 0 0 b hb, bc_not (by rw [List.length_set]; exact hl), cp_set (by show (inH g (oth b) && !vt (oth b) v) = false; rw [oth_f hg]; rfl) ms i hi]; rfl
set_option maxHeartbeats 4000000 in
theorem zX4_middle (l : Launch) {M : Mm} {σ : Sta} (h : RC M σ) {w : Int32} : Clz l 2 yX4_middle cX4_middle 6 (some .int) [.ref 0, .int w] M (fun r M' => r = some (.int (p_middle σ w)) ∧ RC M' σ ∧ FCr M M') := by
  refine Clz.on RX4 rfl (by decide +kernel) (Nat.le_of_ble_eq_true rfl) (fun X hL hO hr => ?_)
  show Gz X 0 [.ref 0, .int w, .null, .null, .null, .null] [] M
  refine r_iload_n hO dX4_middle_0 rfl ?_
  refine r_iconst hO dX4_middle_1 ic_1 ?_
  refine r_fS hO dX4_middle_2 kRX4_62 msX4_within (zX4_within _) ⟨Nat.le_of_ble_eq_true rfl, Nat.le_of_ble_eq_true rfl, rfl, Nat.le_of_ble_eq_true rfl⟩ rfl ?_
  refine r_if_ne 10 hO dX4_middle_5 (by decide) (fun h5 => ?_) (fun h5 => ?_)
  · rw [bI_n0] at h5
    have h5 : inI w 0 1 = true := h5
    refine r_iconst hO dX4_middle_10 ic_m1 ?_
    refine s_istore_n hL hO dX4_middle_11 (Nat.le_of_ble_eq_true rfl) rfl ?_
    refine r_iconst hO dX4_middle_12 ic_0 ?_
    refine s_istore_n hL hO dX4_middle_13 (Nat.le_of_ble_eq_true rfl) rfl ?_
    refine r_iconst hO dX4_middle_14 ic_0 ?_
    refine s_istore hL hO dX4_middle_15 (Nat.le_of_ble_eq_true rfl) rfl ?_
    have e : p_middle σ w = if w = 0 then (mdr (mdF σ) 21 0 (0, -1)).1 else (mdr (mdF σ) 21 0 (0, -1)).2 := by unfold p_middle; rw [if_pos h5]
    have loop : ∀ (r j : Nat) (acc : Int32 × Int32), j + r = 21 → mdr (mdF σ) r j acc = mdr (mdF σ) 21 0 (0, -1) → Gz X 17 [.ref 0, .int w, .int acc.2, .int acc.1, .int (nI j), .null] [] M := by
      intro r
      induction r with
      | zero =>
        intro j acc hjr he
        refine r_iload hO dX4_middle_17 rfl ?_
        refine r_bipush hO dX4_middle_19 bc_20 ?_
        refine r_icmp_gt 56 hO dX4_middle_21 (by decide) (fun _ => ?_) (fun z => absurd (by rw [show (20 : Int32) = nI 20 from rfl]; exact nI_lt (by omega) (by omega)) z)
        refine r_iload_n hO dX4_middle_56 rfl ?_
        refine r_if_ne 64 hO dX4_middle_57 (by decide) (fun h57 => ?_) (fun h57 => ?_)
        · refine r_iload_n hO dX4_middle_64 rfl ?_
          exact r_ireturn hO hr dX4_middle_65 rfl ⟨sI (by rw [e, ← he]; simp [h57, mdr]), h, FCr.rf⟩
        · refine r_iload_n hO dX4_middle_60 rfl ?_
          refine r_goto 65 hO dX4_middle_61 (by decide) ?_
          exact r_ireturn hO hr dX4_middle_65 rfl ⟨sI (by rw [e, ← he]; simp [h57, mdr]), h, FCr.rf⟩
      | succ r ih =>
        intro j acc hjr he
        refine r_iload hO dX4_middle_17 rfl ?_
        refine r_bipush hO dX4_middle_19 bc_20 ?_
        refine r_icmp_gt 56 hO dX4_middle_21 (by decide) (fun z => absurd z (by rw [show (20 : Int32) = nI 20 from rfl]; exact nI_nlt (by omega) (by omega))) (fun _ => ?_)
        refine r_aload_n hO dX4_middle_24 rfl ?_
        refine r_getR 4 hO dX4_middle_25 fRX4_26 rfl ?_
        refine r_iload hO dX4_middle_28 rfl ?_
        refine r_fV hO dX4_middle_30 kRX4_105 miX0_votersFor (zX0_votersFor _ (show nuP 4 from Or.inl rfl) h.1.1 j rfl (by omega)) ⟨Nat.le_of_ble_eq_true rfl, Nat.le_of_ble_eq_true rfl, rfl, Nat.le_of_ble_eq_true rfl⟩ rfl rfl ?_
        refine r_fS hO dX4_middle_33 kRX4_129 msJ6_bitCount_0f7a4 (zJ6_bitCount_0f7a4 _) ⟨Nat.le_of_ble_eq_true rfl, Nat.le_of_ble_eq_true rfl, rfl, Nat.le_of_ble_eq_true rfl⟩ rfl ?_
        refine s_istore hL hO dX4_middle_36 (Nat.le_of_ble_eq_true rfl) rfl ?_
        refine r_iload hO dX4_middle_38 rfl ?_
        refine r_iload_n hO dX4_middle_40 rfl ?_
        refine r_icmp_le 50 hO dX4_middle_41 (by decide) (fun h41 => ?_) (fun h41 => ?_)
        · rw [bc_one h.1.1.1] at h41
          change mdF σ j ≤ acc.2 at h41
          refine s_iinc hL hO dX4_middle_50 rfl ic_1 (Nat.le_of_ble_eq_true rfl) rfl ?_
          refine r_goto 17 hO dX4_middle_53 (by decide) ?_
          refine r_null 5 ?_
          show Gz X 17 [.ref 0, .int w, .int acc.2, .int acc.1, .int (nI j + 1), .null] [] M
          rw [nI_1]
          exact ih (j + 1) acc (by omega) (by rw [← he]; show _ = mdr _ _ _ (if _ then _ else _); rw [if_pos h41])
        · rw [bc_one h.1.1.1] at h41
          change ¬ (mdF σ j ≤ acc.2) at h41
          refine r_iload hO dX4_middle_44 rfl ?_
          refine s_istore_n hL hO dX4_middle_46 (Nat.le_of_ble_eq_true rfl) rfl ?_
          refine r_iload hO dX4_middle_47 rfl ?_
          refine s_istore_n hL hO dX4_middle_49 (Nat.le_of_ble_eq_true rfl) rfl ?_
          refine s_iinc hL hO dX4_middle_50 rfl ic_1 (Nat.le_of_ble_eq_true rfl) rfl ?_
          refine r_goto 17 hO dX4_middle_53 (by decide) ?_
          refine r_null 5 ?_
          show Gz X 17 [.ref 0, .int w, .int (bcI (orB (fun b => vt b j) 0 0 σ.1.1)), .int (nI j), .int (nI j + 1), .null] [] M
          rw [nI_1, bc_one h.1.1.1]
          exact ih (j + 1) (nI j, mdF σ j) (by omega) (by rw [← he]; show _ = mdr _ _ _ (if _ then _ else _); rw [if_neg h41])
    exact loop 21 0 (0, -1) (by omega) rfl
  · rw [bI_0] at h5
    have h5 : inI w 0 1 = false := h5
    refine r_iconst hO dX4_middle_8 ic_m1 ?_
    exact r_ireturn hO hr dX4_middle_9 rfl ⟨sI (show _ = p_middle σ w from by unfold p_middle; rw [if_neg (by rw [h5]; decide)]), h, FCr.rf⟩
theorem RN.mo {M : Mm} {full : List Mb} {mo day am ch : Nat} {out : Int32} (R : RN M full mo day am out ch) {v : Nat} (hv : v ≤ 20) : RN (mput M 35 25 (nI v)) full v day am out ch := by
  obtain ⟨h1, h2, h3, h4, h5, h6, h7, h8⟩ := R
  exact ⟨h1, by rw [mput35]; exact h2.far h1 (by omega) _, by simp [mpg, h3], ⟨by simp [mpg], hv⟩, ⟨by simp [mpg, h5.1], h5.2⟩, ⟨by simp [mpg, h6.1], h6.2⟩, by simp [mpg, h7], ⟨by simp [mpg, h8.1], h8.2⟩⟩
theorem RN.out {M : Mm} {full : List Mb} {mo day am ch : Nat} {out : Int32} (R : RN M full mo day am out ch) (x : Int32) : RN (mput M 33 13 x) full mo day am x ch := by
  obtain ⟨h1, h2, h3, h4, h5, h6, h7, h8⟩ := R
  exact ⟨h1, by rw [mput_ne _ (by decide)]; exact h2, by rw [mput_ne _ (by decide)]; exact h3, by rw [mput_ne _ (by decide)]; exact h4, by rw [mput_ne _ (by decide)]; exact h5, by rw [mput_ne _ (by decide)]; exact h6, by simp [mpg], by simp [mpg]; exact h8⟩
set_option maxHeartbeats 4000000 in
theorem zX5_middle (l : Launch) {M : Mm} {σ : Sta} (h : RD M σ) {w : Int32} : Clz l 4 yX5_middle cX5_middle 6 (some .int) [.ref 33, .int w] M (fun r M' => r = some (.int (p_middle σ w)) ∧ RD M' σ ∧ FDr M M') := by
  refine Clz.on RX5 rfl (by decide +kernel) (Nat.le_of_ble_eq_true rfl) (fun X hL hO hr => ?_)
  show Gz X 0 [.ref 33, .int w, .null, .null, .null, .null] [] M
  refine r_iload_n hO dX5_middle_0 rfl ?_
  refine r_fS hO dX5_middle_1 kRX5_243 msX5_isPart (zX5_isPart _) ⟨Nat.le_of_ble_eq_true rfl, Nat.le_of_ble_eq_true rfl, rfl, Nat.le_of_ble_eq_true rfl⟩ rfl ?_
  refine r_if_ne 9 hO dX5_middle_4 (by decide) (fun h4 => ?_) (fun h4 => ?_)
  · rw [bI_n0] at h4
    refine r_iconst hO dX5_middle_9 ic_m1 ?_
    refine s_istore_n hL hO dX5_middle_10 (Nat.le_of_ble_eq_true rfl) rfl ?_
    refine r_iconst hO dX5_middle_11 ic_0 ?_
    refine s_istore_n hL hO dX5_middle_12 (Nat.le_of_ble_eq_true rfl) rfl ?_
    refine r_aload_n hO dX5_middle_13 rfl ?_
    refine r_callV hO dX5_middle_14 kRX5_196 miX5_starts (zX5_starts _) ⟨Nat.le_of_ble_eq_true rfl, Nat.le_of_ble_eq_true rfl, rfl, Nat.le_of_ble_eq_true rfl⟩ rfl rfl (fun q M0 hpo => ?_)
    obtain ⟨rfl, hst⟩ := hpo
    have R := h.1.rn hst
    refine r_iconst hO dX5_middle_17 ic_0 ?_
    refine s_istore hL hO dX5_middle_18 (Nat.le_of_ble_eq_true rfl) rfl ?_
    have e : p_middle σ w = if w = 0 then (mdr (mdF σ) 21 0 (0, -1)).1 else (mdr (mdF σ) 21 0 (0, -1)).2 := by unfold p_middle; rw [if_pos h4]
    have loop : ∀ (r j : Nat) (acc : Int32 × Int32) (M1 : Mm) (m0 : Nat), j + r = 21 → RN M1 σ.1.1 m0 σ.1.2.2.1 σ.1.2.2.2.1 (-4) 0 → FR M M1 → mdr (mdF σ) r j acc = mdr (mdF σ) 21 0 (0, -1) → Gz X 20 [.ref 33, .int w, .int acc.2, .int acc.1, .int (nI j), .null] [] M1 := by
      intro r
      induction r with
      | zero =>
        intro j acc M1 m0 hjr R1 hF he
        refine r_iload hO dX5_middle_20 rfl ?_
        refine r_bipush hO dX5_middle_22 bc_20 ?_
        refine r_icmp_gt 81 hO dX5_middle_24 (by decide) (fun _ => ?_) (fun z => absurd (by rw [show (20 : Int32) = nI 20 from rfl]; exact nI_lt (by omega) (by omega)) z)
        refine r_iload_n hO dX5_middle_81 rfl ?_
        refine r_if_ne 89 hO dX5_middle_82 (by decide) (fun h82 => ?_) (fun h82 => ?_)
        · refine r_iload_n hO dX5_middle_89 rfl ?_
          exact r_ireturn hO hr dX5_middle_90 rfl ⟨sI (by rw [e, ← he]; simp [h82, mdr]), h.q hF, hF.fd⟩
        · refine r_iload_n hO dX5_middle_85 rfl ?_
          refine r_goto 90 hO dX5_middle_86 (by decide) ?_
          exact r_ireturn hO hr dX5_middle_90 rfl ⟨sI (by rw [e, ← he]; simp [h82, mdr]), h.q hF, hF.fd⟩
      | succ r ih =>
        intro j acc M1 m0 hjr R1 hF he
        refine r_iload hO dX5_middle_20 rfl ?_
        refine r_bipush hO dX5_middle_22 bc_20 ?_
        refine r_icmp_gt 81 hO dX5_middle_24 (by decide) (fun z => absurd z (by rw [show (20 : Int32) = nI 20 from rfl]; exact nI_nlt (by omega) (by omega))) (fun _ => ?_)
        refine r_aload_n hO dX5_middle_27 rfl ?_
        refine r_getR 35 hO dX5_middle_28 fRX5_13 rfl ?_
        refine r_bipush hO dX5_middle_31 bc_25 ?_
        refine r_iload hO dX5_middle_33 rfl ?_
        refine s_iast 41 hO dX5_middle_35 rfl (Nat.le_of_ble_eq_true rfl) 25 (by decide) (by decide) ?_
        have R2 := R1.mo (v := j) (by omega)
        have ej : nI (cY 0 j (act (-4) 0 σ.1.1)) + nI (cY 1 j (act (-4) 0 σ.1.1)) = mdF σ j := by rw [nI_add, act_none _ 0 (by have := R1.1; omega), cY01 _ h.1.2.1.ok]; rfl
        refine r_aload_n hO dX5_middle_36 rfl ?_
        refine r_iconst hO dX5_middle_37 ic_0 ?_
        refine r_fV hO dX5_middle_38 kRX5_160 miX5_votesFor (zX5_votesFor _ R2 0 rfl (by decide)) ⟨Nat.le_of_ble_eq_true rfl, Nat.le_of_ble_eq_true rfl, rfl, Nat.le_of_ble_eq_true rfl⟩ rfl rfl ?_
        refine r_aload_n hO dX5_middle_41 rfl ?_
        refine r_iconst hO dX5_middle_42 ic_1 ?_
        refine r_fV hO dX5_middle_43 kRX5_160 miX5_votesFor (zX5_votesFor _ R2 1 rfl (by decide)) ⟨Nat.le_of_ble_eq_true rfl, Nat.le_of_ble_eq_true rfl, rfl, Nat.le_of_ble_eq_true rfl⟩ rfl rfl ?_
        refine r_iadd hO dX5_middle_46 ?_
        refine s_istore hL hO dX5_middle_47 (Nat.le_of_ble_eq_true rfl) rfl ?_
        refine r_iload hO dX5_middle_49 rfl ?_
        refine r_iload_n hO dX5_middle_51 rfl ?_
        refine r_icmp_le 60 hO dX5_middle_52 (by decide) (fun h52 => ?_) (fun h52 => ?_)
        · have h52 : mdF σ j ≤ acc.2 := by rw [← ej]; exact h52
          refine r_iload_n hO dX5_middle_60 rfl ?_
          refine s_istore_n hL hO dX5_middle_61 (Nat.le_of_ble_eq_true rfl) rfl ?_
          refine r_iload hO dX5_middle_62 rfl ?_
          refine r_iload_n hO dX5_middle_64 rfl ?_
          refine r_icmp_le 73 hO dX5_middle_65 (by decide) (fun _ => ?_) (fun z => absurd (by show _ + _ ≤ _; rw [ej]; exact h52) z)
          refine r_iload_n hO dX5_middle_73 rfl ?_
          refine s_istore_n hL hO dX5_middle_74 (Nat.le_of_ble_eq_true rfl) rfl ?_
          refine s_iinc hL hO dX5_middle_75 rfl ic_1 (Nat.le_of_ble_eq_true rfl) rfl ?_
          refine r_goto 20 hO dX5_middle_78 (by decide) ?_
          refine r_null 5 ?_
          show Gz X 20 [.ref 33, .int w, .int acc.2, .int acc.1, .int (nI j + 1), .null] [] _
          rw [nI_1]
          exact ih (j + 1) acc _ j (by omega) R2 (hF.tr (FR.put (Or.inl rfl))) (by rw [← he]; show _ = mdr _ _ _ (if _ then _ else _); rw [if_pos h52])
        · have h52 : ¬ (mdF σ j ≤ acc.2) := by rw [← ej]; exact h52
          refine r_iload hO dX5_middle_55 rfl ?_
          refine r_goto 61 hO dX5_middle_57 (by decide) ?_
          refine s_istore_n hL hO dX5_middle_61 (Nat.le_of_ble_eq_true rfl) rfl ?_
          refine r_iload hO dX5_middle_62 rfl ?_
          refine r_iload_n hO dX5_middle_64 rfl ?_
          refine r_icmp_le 73 hO dX5_middle_65 (by decide) (fun z => absurd z (by show ¬ (_ + _ ≤ _); rw [ej]; exact h52)) (fun _ => ?_)
          refine r_iload hO dX5_middle_68 rfl ?_
          refine r_goto 74 hO dX5_middle_70 (by decide) ?_
          refine s_istore_n hL hO dX5_middle_74 (Nat.le_of_ble_eq_true rfl) rfl ?_
          refine s_iinc hL hO dX5_middle_75 rfl ic_1 (Nat.le_of_ble_eq_true rfl) rfl ?_
          refine r_goto 20 hO dX5_middle_78 (by decide) ?_
          refine r_null 5 ?_
          show Gz X 20 [.ref 33, .int w, .int (nI (cY 0 j (act (-4) 0 σ.1.1)) + nI (cY 1 j (act (-4) 0 σ.1.1))), .int (nI j), .int (nI j + 1), .null] [] _
          rw [nI_1, ej]
          exact ih (j + 1) (nI j, mdF σ j) _ j (by omega) R2 (hF.tr (FR.put (Or.inl rfl))) (by rw [← he]; show _ = mdr _ _ _ (if _ then _ else _); rw [if_neg h52])
    exact loop 21 0 (0, -1) M0 _ (by omega) R (FR.st hst) rfl
  · rw [bI_0] at h4
    refine r_iconst hO dX5_middle_7 ic_m1 ?_
    exact r_ireturn hO hr dX5_middle_8 rfl ⟨sI (show _ = p_middle σ w from by unfold p_middle; rw [if_neg (by rw [h4]; decide)]), h, FDr.rf⟩
theorem sw_f1 {σ : Sta} {a j : Nat} {b : Mb} (hbe : b = σ.1.1.getD a (0, 0, 0, 0)) (h : cY b.2.1 j (σ.1.1.eraseIdx a) + 1 ≤ cN b.2.1 j (σ.1.1.eraseIdx a)) : ¬ swF σ a j = true := by
  unfold swF; rw [← hbe, decide_eq_true_iff]; omega
theorem sw_f2 {σ : Sta} {a j : Nat} {b : Mb} (hbe : b = σ.1.1.getD a (0, 0, 0, 0)) (h : cN b.2.1 j (σ.1.1.eraseIdx a) + 1 < cY b.2.1 j (σ.1.1.eraseIdx a)) : ¬ swF σ a j = true := by
  unfold swF; rw [← hbe, decide_eq_true_iff]; omega
theorem sw_t {σ : Sta} {a j : Nat} {b : Mb} (hbe : b = σ.1.1.getD a (0, 0, 0, 0)) (h : ¬ cY b.2.1 j (σ.1.1.eraseIdx a) + 1 ≤ cN b.2.1 j (σ.1.1.eraseIdx a)) (h2 : ¬ cN b.2.1 j (σ.1.1.eraseIdx a) + 1 < cY b.2.1 j (σ.1.1.eraseIdx a)) : swF σ a j = true := by
  unfold swF; rw [← hbe, decide_eq_true_iff]; omega
theorem er_len {ms : List Mb} (h : ms.length ≤ 6) (i : Nat) : (ms.eraseIdx i).length ≤ 6 := Nat.le_trans (List.length_eraseIdx_le ms i) h
set_option maxHeartbeats 4000000 in
theorem zX4_swing (l : Launch) {M : Mm} {σ : Sta} (h : RC M σ) {i : Int32} : Clz l 2 yX4_swing cX4_swing 8 (some .int) [.ref 0, .int i] M (fun r M' => r = some (.int (p_swing σ i)) ∧ RC M' σ ∧ FCr M M') := by
  refine Clz.on RX4 rfl (by decide +kernel) (Nat.le_of_ble_eq_true rfl) (fun X hL hO hr => ?_)
  show Gz X 0 [.ref 0, .int i, .null, .null, .null, .null, .null, .null] [] M
  refine r_aload_n hO dX4_swing_0 rfl ?_
  refine r_iload_n hO dX4_swing_1 rfl ?_
  refine r_fV hO dX4_swing_2 kRX4_112 miX4_isMember (zX4_isMember _ h) ⟨Nat.le_of_ble_eq_true rfl, Nat.le_of_ble_eq_true rfl, rfl, Nat.le_of_ble_eq_true rfl⟩ rfl rfl ?_
  refine r_if_ne 10 hO dX4_swing_5 (by decide) (fun h5 => ?_) (fun h5 => ?_)
  · rw [bI_n0] at h5
    obtain ⟨a, ha, rfl⟩ := inI_mem (by have := h.1.1.1; omega) h5
    have hl6 := h.1.1.1
    obtain ⟨b, hbe⟩ : ∃ b, b = σ.1.1.getD a (0, 0, 0, 0) := ⟨_, rfl⟩
    have hb : σ.1.1[a]? = some b := by rw [hbe, List.getD_eq_getElem?_getD, List.getElem?_eq_getElem ha]; rfl
    have hg : b.2.1 < 2 := by have := (h.1.1.2.1 a b hb).2.2.2.2.2.1; omega
    have e : p_swing σ (nI a) = nI (cntF (swF σ a) 21 0) := by unfold p_swing; rw [if_pos h5, nI_clamp (by omega)]
    refine r_aload_n hO dX4_swing_10 rfl ?_
    refine r_getR 4 hO dX4_swing_11 fRX4_26 rfl ?_
    refine r_aload_n hO dX4_swing_14 rfl ?_
    refine r_getR 4 hO dX4_swing_15 fRX4_26 rfl ?_
    refine r_iload_n hO dX4_swing_18 rfl ?_
    refine r_iconst hO dX4_swing_19 ic_1 ?_
    refine r_fV hO dX4_swing_20 kRX4_116 miX0_part (zX0_partR _ (show nuP 4 from Or.inl rfl) h.1.1 1 hb rfl rfl (by decide)) ⟨Nat.le_of_ble_eq_true rfl, Nat.le_of_ble_eq_true rfl, rfl, Nat.le_of_ble_eq_true rfl⟩ rfl rfl ?_
    refine r_fV hO dX4_swing_23 kRX4_126 miX0_membersOf (zX0_membersOf _ (show nuP 4 from Or.inl rfl) h.1.1 b.2.1 rfl hg) ⟨Nat.le_of_ble_eq_true rfl, Nat.le_of_ble_eq_true rfl, rfl, Nat.le_of_ble_eq_true rfl⟩ rfl rfl ?_
    refine r_iconst hO dX4_swing_26 ic_1 ?_
    refine r_iload_n hO dX4_swing_27 rfl ?_
    refine r_ishl hO dX4_swing_28 ?_
    refine r_iconst hO dX4_swing_29 ic_m1 ?_
    refine r_ixor hO dX4_swing_30 ?_
    refine r_iand hO dX4_swing_31 ?_
    refine s_istore_n hL hO dX4_swing_32 (Nat.le_of_ble_eq_true rfl) rfl ?_
    refine r_iconst hO dX4_swing_33 ic_0 ?_
    refine s_istore_n hL hO dX4_swing_34 (Nat.le_of_ble_eq_true rfl) rfl ?_
    refine r_iconst hO dX4_swing_35 ic_0 ?_
    refine s_istore hL hO dX4_swing_36 (Nat.le_of_ble_eq_true rfl) rfl ?_
    obtain ⟨own, hown⟩ : ∃ own, own = orB (inH b.2.1) 0 0 σ.1.1 &&& (1 <<< (nI a &&& 31) ^^^ -1) := ⟨_, rfl⟩
    have loop : ∀ (r j m : Nat), j + r = 21 → m + cntF (swF σ a) r j = cntF (swF σ a) 21 0 → Gz X 38 [.ref 0, .int (nI a), .int own, .int (nI m), .int (nI j), .null, .null, .null] [] M := by
      intro r
      induction r with
      | zero =>
        intro j m hjr he
        refine r_iload hO dX4_swing_38 rfl ?_
        refine r_bipush hO dX4_swing_40 bc_20 ?_
        refine r_icmp_gt 103 hO dX4_swing_42 (by decide) (fun _ => ?_) (fun z => absurd (by rw [show (20 : Int32) = nI 20 from rfl]; exact nI_lt (by omega) (by omega)) z)
        refine r_iload_n hO dX4_swing_103 rfl ?_
        exact r_ireturn hO hr dX4_swing_104 rfl ⟨sI (by rw [e, ← he]; simp [cntF]), h, FCr.rf⟩
      | succ r ih =>
        intro j m hjr he
        refine r_iload hO dX4_swing_38 rfl ?_
        refine r_bipush hO dX4_swing_40 bc_20 ?_
        refine r_icmp_gt 103 hO dX4_swing_42 (by decide) (fun z => absurd z (by rw [show (20 : Int32) = nI 20 from rfl]; exact nI_nlt (by omega) (by omega))) (fun _ => ?_)
        refine r_aload_n hO dX4_swing_45 rfl ?_
        refine r_getR 4 hO dX4_swing_46 fRX4_26 rfl ?_
        refine r_iload hO dX4_swing_49 rfl ?_
        refine r_fV hO dX4_swing_51 kRX4_105 miX0_votersFor (zX0_votersFor _ (show nuP 4 from Or.inl rfl) h.1.1 j rfl (by omega)) ⟨Nat.le_of_ble_eq_true rfl, Nat.le_of_ble_eq_true rfl, rfl, Nat.le_of_ble_eq_true rfl⟩ rfl rfl ?_
        refine s_istore hL hO dX4_swing_54 (Nat.le_of_ble_eq_true rfl) rfl ?_
        refine r_iload_n hO dX4_swing_56 rfl ?_
        refine r_iload hO dX4_swing_57 rfl ?_
        refine r_iand hO dX4_swing_59 ?_
        refine r_fS hO dX4_swing_60 kRX4_129 msJ6_bitCount_0f7a4 (zJ6_bitCount_0f7a4 _) ⟨Nat.le_of_ble_eq_true rfl, Nat.le_of_ble_eq_true rfl, rfl, Nat.le_of_ble_eq_true rfl⟩ rfl ?_
        refine s_istore hL hO dX4_swing_63 (Nat.le_of_ble_eq_true rfl) rfl ?_
        refine r_iload_n hO dX4_swing_65 rfl ?_
        refine r_iload hO dX4_swing_66 rfl ?_
        refine r_iconst hO dX4_swing_68 ic_m1 ?_
        refine r_ixor hO dX4_swing_69 ?_
        refine r_iand hO dX4_swing_70 ?_
        refine r_fS hO dX4_swing_71 kRX4_129 msJ6_bitCount_0f7a4 (zJ6_bitCount_0f7a4 _) ⟨Nat.le_of_ble_eq_true rfl, Nat.le_of_ble_eq_true rfl, rfl, Nat.le_of_ble_eq_true rfl⟩ rfl ?_
        refine s_istore hL hO dX4_swing_74 (Nat.le_of_ble_eq_true rfl) rfl ?_
        refine r_iload hO dX4_swing_76 rfl ?_
        refine r_iconst hO dX4_swing_78 ic_1 ?_
        refine r_iadd hO dX4_swing_79 ?_
        refine r_iload hO dX4_swing_80 rfl ?_
        refine r_icmp_le 97 hO dX4_swing_82 (by decide) (fun h82 => ?_) (fun h82 => ?_)
        · rw [hown, sw_y hg hl6 hb, sw_n hg hl6 hb, nI_1, nI_leI (by have := cY_le b.2.1 j (σ.1.1.eraseIdx a); have := er_len hl6 a; omega) (by have := cN_le b.2.1 j (σ.1.1.eraseIdx a); have := er_len hl6 a; omega)] at h82
          refine s_iinc hL hO dX4_swing_97 rfl ic_1 (Nat.le_of_ble_eq_true rfl) rfl ?_
          refine r_goto 38 hO dX4_swing_100 (by decide) ?_
          refine r_null 5 (r_null 6 (r_null 7 ?_))
          show Gz X 38 [.ref 0, .int (nI a), .int own, .int (nI m), .int (nI j + 1), .null, .null, .null] [] M
          rw [nI_1]
          exact ih (j + 1) m (by omega) (by rw [← he]; simp only [cntF]; rw [if_neg (sw_f1 hbe h82)]; omega)
        · rw [hown, sw_y hg hl6 hb, sw_n hg hl6 hb, nI_1, nI_leI (by have := cY_le b.2.1 j (σ.1.1.eraseIdx a); have := er_len hl6 a; omega) (by have := cN_le b.2.1 j (σ.1.1.eraseIdx a); have := er_len hl6 a; omega)] at h82
          refine r_iload hO dX4_swing_85 rfl ?_
          refine r_iload hO dX4_swing_87 rfl ?_
          refine r_iconst hO dX4_swing_89 ic_1 ?_
          refine r_iadd hO dX4_swing_90 ?_
          refine r_icmp_gt 97 hO dX4_swing_91 (by decide) (fun h91 => ?_) (fun h91 => ?_)
          · rw [hown, sw_y hg hl6 hb, sw_n hg hl6 hb, nI_1, nI_ltI (by have := cN_le b.2.1 j (σ.1.1.eraseIdx a); have := er_len hl6 a; omega) (by have := cY_le b.2.1 j (σ.1.1.eraseIdx a); have := er_len hl6 a; omega)] at h91
            refine s_iinc hL hO dX4_swing_97 rfl ic_1 (Nat.le_of_ble_eq_true rfl) rfl ?_
            refine r_goto 38 hO dX4_swing_100 (by decide) ?_
            refine r_null 5 (r_null 6 (r_null 7 ?_))
            show Gz X 38 [.ref 0, .int (nI a), .int own, .int (nI m), .int (nI j + 1), .null, .null, .null] [] M
            rw [nI_1]
            exact ih (j + 1) m (by omega) (by rw [← he]; simp only [cntF]; rw [if_neg (sw_f2 hbe h91)]; omega)
          · rw [hown, sw_y hg hl6 hb, sw_n hg hl6 hb, nI_1, nI_ltI (by have := cN_le b.2.1 j (σ.1.1.eraseIdx a); have := er_len hl6 a; omega) (by have := cY_le b.2.1 j (σ.1.1.eraseIdx a); have := er_len hl6 a; omega)] at h91
            refine s_iinc hL hO dX4_swing_94 rfl ic_1 (Nat.le_of_ble_eq_true rfl) rfl ?_
            refine s_iinc hL hO dX4_swing_97 rfl ic_1 (Nat.le_of_ble_eq_true rfl) rfl ?_
            refine r_goto 38 hO dX4_swing_100 (by decide) ?_
            refine r_null 5 (r_null 6 (r_null 7 ?_))
            show Gz X 38 [.ref 0, .int (nI a), .int own, .int (nI m + 1), .int (nI j + 1), .null, .null, .null] [] M
            rw [nI_1, nI_1]
            exact ih (j + 1) (m + 1) (by omega) (by rw [← he]; simp only [cntF]; rw [if_pos (sw_t hbe h82 h91)]; omega)
    have := loop 21 0 0 (by omega) (by omega)
    rw [hown] at this
    exact this
  · rw [bI_0] at h5
    refine r_iconst hO dX4_swing_8 ic_m1 ?_
    exact r_ireturn hO hr dX4_swing_9 rfl ⟨sI (show _ = p_swing σ i from by unfold p_swing; rw [if_neg (by rw [h5]; decide)]), h, FCr.rf⟩
set_option maxHeartbeats 4000000 in
theorem zX5_swing (l : Launch) {M : Mm} {σ : Sta} (h : RD M σ) {i : Int32} : Clz l 4 yX5_swing cX5_swing 7 (some .int) [.ref 33, .int i] M (fun r M' => r = some (.int (p_swing σ i)) ∧ RD M' σ ∧ FDr M M') := by
  refine Clz.on RX5 rfl (by decide +kernel) (Nat.le_of_ble_eq_true rfl) (fun X hL hO hr => ?_)
  show Gz X 0 [.ref 33, .int i, .null, .null, .null, .null, .null] [] M
  refine r_aload_n hO dX5_swing_0 rfl ?_
  refine r_iload_n hO dX5_swing_1 rfl ?_
  refine r_fV hO dX5_swing_2 kRX5_205 miX5_isMember (zX5_isMember _) ⟨Nat.le_of_ble_eq_true rfl, Nat.le_of_ble_eq_true rfl, rfl, Nat.le_of_ble_eq_true rfl⟩ rfl rfl ?_
  refine r_if_ne 10 hO dX5_swing_5 (by decide) (fun h5 => ?_) (fun h5 => ?_)
  · rw [bI_n0, h.1.2.2.1] at h5
    obtain ⟨a, ha, rfl⟩ := inI_mem (by have := h.1.1; omega) h5
    have hl6 := h.1.1
    obtain ⟨b, hbe⟩ : ∃ b, b = σ.1.1.getD a (0, 0, 0, 0) := ⟨_, rfl⟩
    have hb : σ.1.1[a]? = some b := by rw [hbe, List.getD_eq_getElem?_getD, List.getElem?_eq_getElem ha]; rfl
    have hg : b.2.1 < 2 := by have := (h.1.2.1 a b hb).2.2.2.2.2.1; omega
    have e : p_swing σ (nI a) = nI (cntF (swF σ a) 21 0) := by unfold p_swing; rw [if_pos h5, nI_clamp (by omega)]
    refine r_iconst hO dX5_swing_10 ic_0 ?_
    refine s_istore_n hL hO dX5_swing_11 (Nat.le_of_ble_eq_true rfl) rfl ?_
    refine r_aload_n hO dX5_swing_12 rfl ?_
    refine r_callV hO dX5_swing_13 kRX5_196 miX5_starts (zX5_starts _) ⟨Nat.le_of_ble_eq_true rfl, Nat.le_of_ble_eq_true rfl, rfl, Nat.le_of_ble_eq_true rfl⟩ rfl rfl (fun q M0 hpo => ?_)
    obtain ⟨rfl, hst⟩ := hpo
    have R := h.1.rn hst
    refine r_aload_n hO dX5_swing_16 rfl ?_
    refine r_iload_n hO dX5_swing_17 rfl ?_
    refine r_putI hO dX5_swing_18 fRX5_125 rfl ?_
    refine r_aload_n hO dX5_swing_21 rfl ?_
    refine r_iload_n hO dX5_swing_22 rfl ?_
    refine r_iconst hO dX5_swing_23 ic_1 ?_
    refine r_fV hO dX5_swing_24 kRX5_131 miX5_of (zX5_of _ a 1 rfl rfl (by omega)) ⟨Nat.le_of_ble_eq_true rfl, Nat.le_of_ble_eq_true rfl, rfl, Nat.le_of_ble_eq_true rfl⟩ rfl rfl ?_
    refine s_istore_n hL hO dX5_swing_27 (Nat.le_of_ble_eq_true rfl) rfl ?_
    refine r_iconst hO dX5_swing_28 ic_0 ?_
    refine s_istore hL hO dX5_swing_29 (Nat.le_of_ble_eq_true rfl) rfl ?_
    have R0 := R.out (nI a)
    obtain ⟨x, hxe⟩ : ∃ x, x = (mput M0 33 13 (nI a)).1 35 (4 * a + 1) := ⟨_, rfl⟩
    have hx : x = nI b.2.1 := by rw [hxe]; exact (R0.2.1 a b hb).2.1
    have loop : ∀ (r j m : Nat) (M1 : Mm) (m0 : Nat), j + r = 21 → RN M1 σ.1.1 m0 σ.1.2.2.1 σ.1.2.2.2.1 (nI a) 0 → FR M M1 → m + cntF (swF σ a) r j = cntF (swF σ a) 21 0 → Gz X 31 [.ref 33, .int (nI a), .int (nI m), .int x, .int (nI j), .null, .null] [] M1 := by
      intro r
      induction r with
      | zero =>
        intro j m M1 m0 hjr R1 hF he
        refine r_iload hO dX5_swing_31 rfl ?_
        refine r_bipush hO dX5_swing_33 bc_20 ?_
        refine r_icmp_gt 96 hO dX5_swing_35 (by decide) (fun _ => ?_) (fun z => absurd (by rw [show (20 : Int32) = nI 20 from rfl]; exact nI_lt (by omega) (by omega)) z)
        refine r_iload_n hO dX5_swing_96 rfl ?_
        exact r_ireturn hO hr dX5_swing_97 rfl ⟨sI (by rw [e, ← he]; simp [cntF]), h.q hF, hF.fd⟩
      | succ r ih =>
        intro j m M1 m0 hjr R1 hF he
        refine r_iload hO dX5_swing_31 rfl ?_
        refine r_bipush hO dX5_swing_33 bc_20 ?_
        refine r_icmp_gt 96 hO dX5_swing_35 (by decide) (fun z => absurd z (by rw [show (20 : Int32) = nI 20 from rfl]; exact nI_nlt (by omega) (by omega))) (fun _ => ?_)
        refine r_aload_n hO dX5_swing_38 rfl ?_
        refine r_getR 35 hO dX5_swing_39 fRX5_13 rfl ?_
        refine r_bipush hO dX5_swing_42 bc_25 ?_
        refine r_iload hO dX5_swing_44 rfl ?_
        refine s_iast 41 hO dX5_swing_46 rfl (Nat.le_of_ble_eq_true rfl) 25 (by decide) (by decide) ?_
        have R2 := R1.mo (v := j) (by omega)
        have ea : act (nI a) 0 σ.1.1 = σ.1.1.eraseIdx a := act_erase σ.1.1 a 0 (by omega) (by omega) (by omega)
        refine r_aload_n hO dX5_swing_47 rfl ?_
        refine r_iload_n hO dX5_swing_48 rfl ?_
        refine r_fV hO dX5_swing_49 kRX5_160 miX5_votesFor (zX5_votesFor _ R2 b.2.1 hx hg) ⟨Nat.le_of_ble_eq_true rfl, Nat.le_of_ble_eq_true rfl, rfl, Nat.le_of_ble_eq_true rfl⟩ rfl rfl ?_
        refine s_istore hL hO dX5_swing_52 (Nat.le_of_ble_eq_true rfl) rfl ?_
        refine r_aload_n hO dX5_swing_54 rfl ?_
        refine r_iload_n hO dX5_swing_55 rfl ?_
        refine r_fV hO dX5_swing_56 kRX5_163 miX5_votesAgainst (zX5_votesAgainst _ R2 b.2.1 hx hg) ⟨Nat.le_of_ble_eq_true rfl, Nat.le_of_ble_eq_true rfl, rfl, Nat.le_of_ble_eq_true rfl⟩ rfl rfl ?_
        refine s_istore hL hO dX5_swing_59 (Nat.le_of_ble_eq_true rfl) rfl ?_
        refine r_iload_n hO dX5_swing_61 rfl ?_
        refine r_iload hO dX5_swing_62 rfl ?_
        refine r_iconst hO dX5_swing_64 ic_1 ?_
        refine r_iadd hO dX5_swing_65 ?_
        refine r_iload hO dX5_swing_66 rfl ?_
        refine r_icmp_le 84 hO dX5_swing_68 (by decide) (fun h68 => ?_) (fun h68 => ?_)
        · rw [ea, nI_1, nI_leI (by have := cY_le b.2.1 j (σ.1.1.eraseIdx a); have := er_len hl6 a; omega) (by have := cN_le b.2.1 j (σ.1.1.eraseIdx a); have := er_len hl6 a; omega)] at h68
          refine r_iconst hO dX5_swing_84 ic_0 ?_
          refine r_fS hO dX5_swing_85 kRX5_153 msX5_flag (zX5_flag _ false rfl) ⟨Nat.le_of_ble_eq_true rfl, Nat.le_of_ble_eq_true rfl, rfl, Nat.le_of_ble_eq_true rfl⟩ rfl ?_
          refine r_iadd hO dX5_swing_88 ?_
          refine s_istore_n hL hO dX5_swing_89 (Nat.le_of_ble_eq_true rfl) rfl ?_
          refine s_iinc hL hO dX5_swing_90 rfl ic_1 (Nat.le_of_ble_eq_true rfl) rfl ?_
          refine r_goto 31 hO dX5_swing_93 (by decide) ?_
          refine r_null 5 (r_null 6 ?_)
          show Gz X 31 [.ref 33, .int (nI a), .int (nI m + bI false), .int x, .int (nI j + 1), .null, .null] [] _
          rw [nI_1, nI_bf]
          exact ih (j + 1) _ _ j (by omega) R2 (hF.tr (FR.put (Or.inl rfl))) (by rw [← he]; simp only [cntF]; rw [if_neg (sw_f1 hbe h68)]; omega)
        · rw [ea, nI_1, nI_leI (by have := cY_le b.2.1 j (σ.1.1.eraseIdx a); have := er_len hl6 a; omega) (by have := cN_le b.2.1 j (σ.1.1.eraseIdx a); have := er_len hl6 a; omega)] at h68
          refine r_iload hO dX5_swing_71 rfl ?_
          refine r_iload hO dX5_swing_73 rfl ?_
          refine r_iconst hO dX5_swing_75 ic_1 ?_
          refine r_iadd hO dX5_swing_76 ?_
          refine r_icmp_gt 84 hO dX5_swing_77 (by decide) (fun h77 => ?_) (fun h77 => ?_)
          · rw [ea, nI_1, nI_ltI (by have := cN_le b.2.1 j (σ.1.1.eraseIdx a); have := er_len hl6 a; omega) (by have := cY_le b.2.1 j (σ.1.1.eraseIdx a); have := er_len hl6 a; omega)] at h77
            refine r_iconst hO dX5_swing_84 ic_0 ?_
            refine r_fS hO dX5_swing_85 kRX5_153 msX5_flag (zX5_flag _ false rfl) ⟨Nat.le_of_ble_eq_true rfl, Nat.le_of_ble_eq_true rfl, rfl, Nat.le_of_ble_eq_true rfl⟩ rfl ?_
            refine r_iadd hO dX5_swing_88 ?_
            refine s_istore_n hL hO dX5_swing_89 (Nat.le_of_ble_eq_true rfl) rfl ?_
            refine s_iinc hL hO dX5_swing_90 rfl ic_1 (Nat.le_of_ble_eq_true rfl) rfl ?_
            refine r_goto 31 hO dX5_swing_93 (by decide) ?_
            refine r_null 5 (r_null 6 ?_)
            show Gz X 31 [.ref 33, .int (nI a), .int (nI m + bI false), .int x, .int (nI j + 1), .null, .null] [] _
            rw [nI_1, nI_bf]
            exact ih (j + 1) _ _ j (by omega) R2 (hF.tr (FR.put (Or.inl rfl))) (by rw [← he]; simp only [cntF]; rw [if_neg (sw_f2 hbe h77)]; omega)
          · rw [ea, nI_1, nI_ltI (by have := cN_le b.2.1 j (σ.1.1.eraseIdx a); have := er_len hl6 a; omega) (by have := cY_le b.2.1 j (σ.1.1.eraseIdx a); have := er_len hl6 a; omega)] at h77
            refine r_iconst hO dX5_swing_80 ic_1 ?_
            refine r_goto 85 hO dX5_swing_81 (by decide) ?_
            refine r_fS hO dX5_swing_85 kRX5_153 msX5_flag (zX5_flag _ true rfl) ⟨Nat.le_of_ble_eq_true rfl, Nat.le_of_ble_eq_true rfl, rfl, Nat.le_of_ble_eq_true rfl⟩ rfl ?_
            refine r_iadd hO dX5_swing_88 ?_
            refine s_istore_n hL hO dX5_swing_89 (Nat.le_of_ble_eq_true rfl) rfl ?_
            refine s_iinc hL hO dX5_swing_90 rfl ic_1 (Nat.le_of_ble_eq_true rfl) rfl ?_
            refine r_goto 31 hO dX5_swing_93 (by decide) ?_
            refine r_null 5 (r_null 6 ?_)
            show Gz X 31 [.ref 33, .int (nI a), .int (nI m + bI true), .int x, .int (nI j + 1), .null, .null] [] _
            rw [nI_1, nI_bt]
            exact ih (j + 1) _ _ j (by omega) R2 (hF.tr (FR.put (Or.inl rfl))) (by rw [← he]; simp only [cntF]; rw [if_pos (sw_t hbe h68 h77)]; omega)
    have := loop 21 0 0 _ _ (by omega) R0 ((FR.st hst).tr (FR.put (by omega))) (by omega)
    rw [hxe] at this
    exact this
  · rw [bI_0, h.1.2.2.1] at h5
    refine r_iconst hO dX5_swing_8 ic_m1 ?_
    exact r_ireturn hO hr dX5_swing_9 rfl ⟨sI (show _ = p_swing σ i from by unfold p_swing; rw [if_neg (by rw [h5]; decide)]), h, FDr.rf⟩
