/-! the class's Nut -/
def wiI (v t : Int32) : Bool := inI v 0 t
theorem wi_f1 {v t : Int32} (h : v < 0) : (0 : Int32) = bI (wiI v t) := by
  rw [wiI, inI, decide_eq_false (fun z => by have z := z.1; rw [Int32.le_iff_toInt_le] at z; rw [Int32.lt_iff_toInt_lt] at h; omega)]; rfl
theorem wi_f2 {v t : Int32} (h : t < v) : (0 : Int32) = bI (wiI v t) := by
  rw [wiI, inI, decide_eq_false (fun z => by have z := z.2; rw [Int32.le_iff_toInt_le] at z; rw [Int32.lt_iff_toInt_lt] at h; omega)]; rfl
theorem wi_t {v t : Int32} (h : ¬ v < 0) (h2 : ¬ t < v) : (1 : Int32) = bI (wiI v t) := by
  rw [Int32.lt_iff_toInt_lt] at h h2
  rw [wiI, inI, decide_eq_true ⟨by rw [Int32.le_iff_toInt_le]; omega, by rw [Int32.le_iff_toInt_le]; omega⟩]; rfl
def CN (M : Mm) (p : Nat) (ms : List Mb) (mo day am : Nat) : Prop := ms.length ≤ 6 ∧ MbAt (M.1 (p + 1)) ms ∧ M.1 p 3 = nI ms.length ∧ (M.1 p 4 = nI mo ∧ mo ≤ 20) ∧ (M.1 p 5 = nI day ∧ day ≤ 100000) ∧ (M.1 p 6 = nI am ∧ am ≤ 999)
def FN (p : Nat) (M M' : Mm) : Prop := (∀ a k, a ≠ p + 1 → ¬ (a = p ∧ 4 ≤ k ∧ k ≤ 6) → M'.1 a k = M.1 a k) ∧ M'.2 = M.2
theorem FN.rf {p : Nat} {M : Mm} : FN p M M := ⟨fun _ _ _ _ => rfl, rfl⟩
theorem FN.tr {p : Nat} {M M1 M2 : Mm} (h1 : FN p M M1) (h2 : FN p M1 M2) : FN p M M2 := ⟨fun a k ha hk => (h2.1 a k ha hk).trans (h1.1 a k ha hk), h2.2.trans h1.2⟩
theorem FN.put {p : Nat} {M : Mm} {k : Nat} {x : Int32} : FN p M (mput M (p + 1) k x) := ⟨fun a j ha _ => by rw [mpg]; rw [if_neg (fun z => ha z.1)], rfl⟩
theorem FN.putp {p : Nat} {M : Mm} {k : Nat} {x : Int32} (h1 : 4 ≤ k) (h2 : k ≤ 6) : FN p M (mput M p k x) := ⟨fun a j ha hj => by rw [mpg]; rw [if_neg (fun z => hj ⟨z.1, by omega, by omega⟩)], rfl⟩
def vcI (w m s : Int32) : Bool := decide (¬ s < m - w ∧ ¬ s < -(m - w))
theorem vc_f1 {w m s : Int32} (h : s < m - w) : (0 : Int32) = bI (vcI w m s) := by rw [vcI, decide_eq_false (fun z => z.1 h)]; rfl
theorem vc_f2 {w m s : Int32} (h : s < -(m - w)) : (0 : Int32) = bI (vcI w m s) := by rw [vcI, decide_eq_false (fun z => z.2 h)]; rfl
theorem vc_t {w m s : Int32} (h : ¬ s < m - w) (h2 : ¬ s < -(m - w)) : (1 : Int32) = bI (vcI w m s) := by rw [vcI, decide_eq_true ⟨h, h2⟩]; rfl
theorem vcI_d : ∀ w, w < 21 → ∀ m, m < 21 → ∀ s, s < 21 → vcI (nI w) (nI m) (nI s) = decide (w ≤ m + s ∧ m ≤ w + s) := by decide +kernel
def abI (y : Int32) : Int32 := if 0 ≤ y then y else 0 - y
def dcI (y : Int32) : Int32 := if abI y ≤ 2 then 0 else sgI y
def pcI (k y : Int32) : Int32 := if k = 1 then 2 * sgI y else if k = 2 then dcI y else if k = 3 then - dcI y else sgI y
theorem pcI_d : ∀ k, k < 4 → ∀ w, w < 21 → ∀ m, m < 21 → pcI (nI k) (nI w - nI m) = iI (plK k ((w : Int) - (m : Int))) := by decide +kernel
theorem MbAt.votesC {f : Nat → Int32} {ms : List Mb} (h : MbAt f ms) {i : Nat} {b : Mb} (hb : ms[i]? = some b) {mo : Nat} (hm : mo ≤ 20) : vcI (f (4 * i + 2)) (nI mo) (f (4 * i + 3)) = vt b mo := by
  obtain ⟨h1, h2, h3, h4, h5⟩ := h i b hb
  rw [h3, h4, vcI_d _ (by have := h5.2.2.1; omega) _ (by omega) _ (by have := h5.2.2.2; omega)]; rfl
theorem MbAt.pullC {f : Nat → Int32} {ms : List Mb} (h : MbAt f ms) {i : Nat} {b : Mb} (hb : ms[i]? = some b) {mo : Nat} (hm : mo ≤ 20) : pcI (f (4 * i)) (f (4 * i + 2) - nI mo) = iI (pl b mo) := by
  obtain ⟨h1, h2, h3, h4, h5⟩ := h i b hb
  rw [h1, h3, pcI_d _ (by have := h5.1; omega) _ (by have := h5.2.2.1; omega) _ (by omega)]; rfl
theorem CN.a {M : Mm} {p : Nat} {ms : List Mb} {mo day am : Nat} (R : CN M p ms mo day am) {i : Nat} {b : Mb} (hb : ms[i]? = some b) : i < 6 := by
  have := (List.getElem?_eq_some_iff.mp hb).1
  have := R.1
  omega
theorem nu_ne {p : Nat} (hp : nuP p) : p ≠ p + 1 := by omega
set_option maxHeartbeats 4000000 in
theorem zX4_within (l : Launch) {M : Mm} {v t : Int32} : CFz l 0 yX4_within cX4_within 2 (some .boolean) [.int v, .int t] M (some (.int (bI (wiI v t)))) (M) := by
  refine Clz.on RX4 rfl (by decide +kernel) (Nat.le_of_ble_eq_true rfl) (fun X hL hO hr => ?_)
  show Gz X 0 [.int v, .int t] [] M
  refine r_iload_n hO dX4_within_0 rfl ?_
  refine r_if_lt 13 hO dX4_within_1 (by decide) (fun h1 => ?_) (fun h1 => ?_)
  · refine r_iconst hO dX4_within_13 ic_0 ?_
    exact r_ireturn hO hr dX4_within_14 rfl ⟨sI (wi_f1 h1), rfl⟩
  · refine r_iload_n hO dX4_within_4 rfl ?_
    refine r_iload_n hO dX4_within_5 rfl ?_
    refine r_icmp_gt 13 hO dX4_within_6 (by decide) (fun h6 => ?_) (fun h6 => ?_)
    · refine r_iconst hO dX4_within_13 ic_0 ?_
      exact r_ireturn hO hr dX4_within_14 rfl ⟨sI (wi_f2 h6), rfl⟩
    · refine r_iconst hO dX4_within_9 ic_1 ?_
      refine r_goto 14 hO dX4_within_10 (by decide) ?_
      exact r_ireturn hO hr dX4_within_14 rfl ⟨sI (wi_t h1 h6), rfl⟩
set_option maxHeartbeats 4000000 in
theorem zX4_bit (l : Launch) {M : Mm} {x : Int32} (b : Bool) (hx : x = bI b) : CFz l 0 yX4_bit cX4_bit 1 (some .int) [.int x] M (some (.int (bI b))) (M) := by
  refine Clz.on RX4 rfl (by decide +kernel) (Nat.le_of_ble_eq_true rfl) (fun X hL hO hr => ?_)
  show Gz X 0 [.int x] [] M
  refine r_iload_n hO dX4_bit_0 rfl ?_
  refine r_if_eq 8 hO dX4_bit_1 (by decide) (fun h1 => ?_) (fun h1 => ?_)
  · refine r_iconst hO dX4_bit_8 ic_0 ?_
    exact r_ireturn hO hr dX4_bit_9 rfl ⟨sI (by rw [hx] at h1; cases b <;> first | rfl | exact absurd h1 (by decide)), rfl⟩
  · refine r_iconst hO dX4_bit_4 ic_1 ?_
    refine r_goto 9 hO dX4_bit_5 (by decide) ?_
    exact r_ireturn hO hr dX4_bit_9 rfl ⟨sI (by rw [hx] at h1; cases b <;> first | rfl | exact absurd h1 (by decide)), rfl⟩
set_option maxHeartbeats 4000000 in
theorem zX4_sign (l : Launch) {M : Mm} {v : Int32} : CFz l 0 yX4_sign cX4_sign 1 (some .int) [.int v] M (some (.int (sgI v))) (M) := by
  refine Clz.on RX4 rfl (by decide +kernel) (Nat.le_of_ble_eq_true rfl) (fun X hL hO hr => ?_)
  show Gz X 0 [.int v] [] M
  refine r_iload_n hO dX4_sign_0 rfl ?_
  refine r_if_le 8 hO dX4_sign_1 (by decide) (fun h1 => ?_) (fun h1 => ?_)
  · refine r_iload_n hO dX4_sign_8 rfl ?_
    refine r_if_ge 16 hO dX4_sign_9 (by decide) (fun h9 => ?_) (fun h9 => ?_)
    · refine r_iconst hO dX4_sign_16 ic_0 ?_
      exact r_ireturn hO hr dX4_sign_17 rfl ⟨sI (by simp [sgI, h1, h9]), rfl⟩
    · refine r_iconst hO dX4_sign_12 ic_m1 ?_
      refine r_goto 17 hO dX4_sign_13 (by decide) ?_
      exact r_ireturn hO hr dX4_sign_17 rfl ⟨sI (by simp [sgI, h1, h9]), rfl⟩
  · refine r_iconst hO dX4_sign_4 ic_1 ?_
    refine r_goto 17 hO dX4_sign_5 (by decide) ?_
    exact r_ireturn hO hr dX4_sign_17 rfl ⟨sI (by simp [sgI, h1]), rfl⟩
set_option maxHeartbeats 4000000 in
theorem zX0_part (l : Launch) {M : Mm} {p : Nat} (hp : nuP p) {x y : Int32} (a b : Nat) (hx : x = nI a) (hy : y = nI b) (hab : 4 * a + b < 24) : CFz l 0 yX0_part cX0_part 3 (some .int) [.ref p, .int x, .int y] M (some (.int (M.1 (p + 1) (4 * a + b)))) (M) := by
  refine Clz.on RX0 rfl (by decide +kernel) (Nat.le_of_ble_eq_true rfl) (fun X hL hO hr => ?_)
  show Gz X 0 [.ref p, .int x, .int y] [] M
  refine r_aload_n hO dX0_part_0 rfl ?_
  refine r_getR (p + 1) hO dX0_part_1 fRX0_9 (nu_R0 hp) ?_
  refine r_iload_n hO dX0_part_4 rfl ?_
  refine r_iconst hO dX0_part_5 ic_4 ?_
  refine r_imul hO dX0_part_6 ?_
  refine r_iload_n hO dX0_part_7 rfl ?_
  refine r_iadd hO dX0_part_8 ?_
  refine s_iald 24 hO dX0_part_9 (nu_A0 hp) (Nat.le_of_ble_eq_true rfl) (4 * a + b) (xi4 hx hy) hab ?_
  exact r_ireturn hO hr dX0_part_10 rfl ⟨rfl, rfl⟩
set_option maxHeartbeats 4000000 in
theorem zX0_put (l : Launch) {M : Mm} {p : Nat} (hp : nuP p) {x y v : Int32} (a b : Nat) (hx : x = nI a) (hy : y = nI b) (hab : 4 * a + b < 24) (hb : b < 4) : CFz l 0 yX0_put cX0_put 4 none [.ref p, .int x, .int y, .int v] M (none) (mput M (p + 1) (4 * a + b) v) := by
  refine Clz.on RX0 rfl (by decide +kernel) (Nat.le_of_ble_eq_true rfl) (fun X hL hO hr => ?_)
  show Gz X 0 [.ref p, .int x, .int y, .int v] [] M
  refine r_iload_n hO dX0_put_0 rfl ?_
  refine r_iconst hO dX0_put_1 ic_4 ?_
  refine r_icmp_ne 13 hO dX0_put_2 (by decide) (fun _ => ?_) (fun z => absurd z (by rw [hy, show (4 : Int32) = nI 4 from rfl, nI_eq (by omega) (by omega)]; omega))
  refine r_aload_n hO dX0_put_13 rfl ?_
  refine r_getR (p + 1) hO dX0_put_14 fRX0_9 (nu_R0 hp) ?_
  refine r_iload_n hO dX0_put_17 rfl ?_
  refine r_iconst hO dX0_put_18 ic_4 ?_
  refine r_imul hO dX0_put_19 ?_
  refine r_iload_n hO dX0_put_20 rfl ?_
  refine r_iadd hO dX0_put_21 ?_
  refine r_iload_n hO dX0_put_22 rfl ?_
  refine s_iast 24 hO dX0_put_23 (nu_A0 hp) (Nat.le_of_ble_eq_true rfl) (4 * a + b) (xi4 hx hy) hab ?_
  exact r_return hO hr dX0_put_24 ⟨rfl, rfl⟩
set_option maxHeartbeats 4000000 in
theorem zX0_putM (l : Launch) {M : Mm} {p : Nat} (hp : nuP p) {x v : Int32} : CFz l 0 yX0_put cX0_put 4 none [.ref p, .int x, .int 4, .int v] M (none) (mput M p 4 v) := by
  refine Clz.on RX0 rfl (by decide +kernel) (Nat.le_of_ble_eq_true rfl) (fun X hL hO hr => ?_)
  show Gz X 0 [.ref p, .int x, .int 4, .int v] [] M
  refine r_iload_n hO dX0_put_0 rfl ?_
  refine r_iconst hO dX0_put_1 ic_4 ?_
  refine r_icmp_ne 13 hO dX0_put_2 (by decide) (fun z => absurd rfl z) (fun _ => ?_)
  refine r_aload_n hO dX0_put_5 rfl ?_
  refine r_iload_n hO dX0_put_6 rfl ?_
  refine r_putI hO dX0_put_7 fRX0_25 (nu_I4 hp) ?_
  refine r_goto 24 hO dX0_put_10 (by decide) ?_
  exact r_return hO hr dX0_put_24 ⟨rfl, rfl⟩
set_option maxHeartbeats 4000000 in
theorem zX0_votesFor (l : Launch) {M : Mm} {p : Nat} (hp : nuP p) {x v : Int32} (a : Nat) (hx : x = nI a) (ha : a < 6) : CFz l 0 yX0_votesFor cX0_votesFor 5 (some .boolean) [.ref p, .int x, .int v] M (some (.int (bI (vcI (M.1 (p + 1) (4 * a + 2)) v (M.1 (p + 1) (4 * a + 3)))))) (M) := by
  refine Clz.on RX0 rfl (by decide +kernel) (Nat.le_of_ble_eq_true rfl) (fun X hL hO hr => ?_)
  show Gz X 0 [.ref p, .int x, .int v, .null, .null] [] M
  refine r_iload_n hO dX0_votesFor_0 rfl ?_
  refine r_aload_n hO dX0_votesFor_1 rfl ?_
  refine r_getR (p + 1) hO dX0_votesFor_2 fRX0_9 (nu_R0 hp) ?_
  refine r_iload_n hO dX0_votesFor_5 rfl ?_
  refine r_iconst hO dX0_votesFor_6 ic_4 ?_
  refine r_imul hO dX0_votesFor_7 ?_
  refine r_iconst hO dX0_votesFor_8 ic_2 ?_
  refine r_iadd hO dX0_votesFor_9 ?_
  refine s_iald 24 hO dX0_votesFor_10 (nu_A0 hp) (Nat.le_of_ble_eq_true rfl) (4 * a + 2) (xi4 hx rfl) (by omega) ?_
  refine r_isub hO dX0_votesFor_11 ?_
  refine s_istore_n hL hO dX0_votesFor_12 (Nat.le_of_ble_eq_true rfl) rfl ?_
  refine r_aload_n hO dX0_votesFor_13 rfl ?_
  refine r_getR (p + 1) hO dX0_votesFor_14 fRX0_9 (nu_R0 hp) ?_
  refine r_iload_n hO dX0_votesFor_17 rfl ?_
  refine r_iconst hO dX0_votesFor_18 ic_4 ?_
  refine r_imul hO dX0_votesFor_19 ?_
  refine r_iconst hO dX0_votesFor_20 ic_3 ?_
  refine r_iadd hO dX0_votesFor_21 ?_
  refine s_iald 24 hO dX0_votesFor_22 (nu_A0 hp) (Nat.le_of_ble_eq_true rfl) (4 * a + 3) (xi4 hx rfl) (by omega) ?_
  refine s_istore hL hO dX0_votesFor_23 (Nat.le_of_ble_eq_true rfl) rfl ?_
  refine r_iload_n hO dX0_votesFor_25 rfl ?_
  refine r_iload hO dX0_votesFor_26 rfl ?_
  refine r_icmp_gt 42 hO dX0_votesFor_28 (by decide) (fun h28 => ?_) (fun h28 => ?_)
  · refine r_iconst hO dX0_votesFor_42 ic_0 ?_
    exact r_ireturn hO hr dX0_votesFor_43 rfl ⟨sI (vc_f1 h28), rfl⟩
  · refine r_iload_n hO dX0_votesFor_31 rfl ?_
    refine r_ineg hO dX0_votesFor_32 ?_
    refine r_iload hO dX0_votesFor_33 rfl ?_
    refine r_icmp_gt 42 hO dX0_votesFor_35 (by decide) (fun h35 => ?_) (fun h35 => ?_)
    · refine r_iconst hO dX0_votesFor_42 ic_0 ?_
      exact r_ireturn hO hr dX0_votesFor_43 rfl ⟨sI (vc_f2 h35), rfl⟩
    · refine r_iconst hO dX0_votesFor_38 ic_1 ?_
      refine r_goto 43 hO dX0_votesFor_39 (by decide) ?_
      exact r_ireturn hO hr dX0_votesFor_43 rfl ⟨sI (vc_t h28 h35), rfl⟩
theorem zX0_votesR (l : Launch) {M : Mm} {p : Nat} (hp : nuP p) {ms : List Mb} {mo day am : Nat} (R : CN M p ms mo day am) {x y : Int32} {i : Nat} {b : Mb} (v : Nat) (hb : ms[i]? = some b) (hx : x = nI i) (hy : y = nI v) (hv : v ≤ 20) : CFz l 0 yX0_votesFor cX0_votesFor 5 (some .boolean) [.ref p, .int x, .int y] M (some (.int (bI (vt b v)))) M := by
  rw [← R.2.1.votesC hb hv, ← hy]
  exact zX0_votesFor l hp i hx (R.a hb)
theorem zX0_partR (l : Launch) {M : Mm} {p : Nat} (hp : nuP p) {ms : List Mb} {mo day am : Nat} (R : CN M p ms mo day am) {x y : Int32} {i : Nat} {b : Mb} (k : Nat) (hb : ms[i]? = some b) (hx : x = nI i) (hy : y = nI k) (hk : k < 4) : CFz l 0 yX0_part cX0_part 3 (some .int) [.ref p, .int x, .int y] M (some (.int (nI (fld k b)))) M := by
  rw [← R.2.1.fld hb hk]
  exact zX0_part l hp i k hx hy (by have := R.a hb; omega)
theorem orB_f {f : Mb → Bool} {i : Nat} {m : Int32} {b : Mb} {bs : List Mb} (h : f b = false) : orB f i m (b :: bs) = orB f (i + 1) m bs := by
  show orB f (i + 1) (m ||| (bI (f b) <<< (nI i &&& 31))) bs = _
  rw [h, show bI false = 0 from rfl, show (0 : Int32) <<< (nI i &&& 31) = 0 from by apply Int32.toBitVec_inj.mp; simp, Int32.or_zero]
theorem orB_t {f : Mb → Bool} {i : Nat} {m : Int32} {b : Mb} {bs : List Mb} (h : f b = true) : orB f i m (b :: bs) = orB f (i + 1) (m ||| 1 <<< (nI i &&& 31)) bs := by
  show orB f (i + 1) (m ||| (bI (f b) <<< (nI i &&& 31))) bs = _
  rw [h]; rfl
set_option maxHeartbeats 4000000 in
theorem zX0_votersFor (l : Launch) {M : Mm} {p : Nat} (hp : nuP p) {ms : List Mb} {mo day am : Nat} (R : CN M p ms mo day am) {x : Int32} (v : Nat) (hx : x = nI v) (hv : v ≤ 20) : CFz l 1 yX0_votersFor cX0_votersFor 4 (some .int) [.ref p, .int x] M (some (.int (orB (fun b => vt b v) 0 0 ms))) (M) := by
  refine Clz.on RX0 rfl (by decide +kernel) (Nat.le_of_ble_eq_true rfl) (fun X hL hO hr => ?_)
  show Gz X 0 [.ref p, .int x, .null, .null] [] M
  have loop : ∀ (rest : List Mb) (i : Nat) (m : Int32), ms.drop i = rest → i ≤ ms.length → orB (fun b => vt b v) i m rest = orB (fun b => vt b v) 0 0 ms → Gz X 4 [.ref p, .int x, .int m, .int (nI i)] [] M := by
    intro rest
    induction rest with
    | nil =>
      intro i m hd hi hm
      have hi := drop_nil hd hi
      refine r_iload_n hO dX0_votersFor_4 rfl ?_
      refine r_aload_n hO dX0_votersFor_5 rfl ?_
      refine r_getI hO dX0_votersFor_6 fRX0_21 (nu_I3 hp) ?_
      refine r_icmp_ge 33 hO dX0_votersFor_9 (by decide) (fun _ => ?_) (fun z => absurd (by rw [R.2.2.1, hi]; exact nI_le (Nat.le_refl _) (by have := R.1; omega)) z)
      refine r_iload_n hO dX0_votersFor_33 rfl ?_
      exact r_ireturn hO hr dX0_votersFor_34 rfl ⟨sI hm, rfl⟩
    | cons b bs ih =>
      intro i m hd hi hm
      obtain ⟨hb, hd2, hlt⟩ := drop_cons hd
      refine r_iload_n hO dX0_votersFor_4 rfl ?_
      refine r_aload_n hO dX0_votersFor_5 rfl ?_
      refine r_getI hO dX0_votersFor_6 fRX0_21 (nu_I3 hp) ?_
      refine r_icmp_ge 33 hO dX0_votersFor_9 (by decide) (fun z => absurd z (by rw [R.2.2.1]; exact nI_ge hlt (by have := R.1; omega))) (fun _ => ?_)
      refine r_aload_n hO dX0_votersFor_12 rfl ?_
      refine r_iload_n hO dX0_votersFor_13 rfl ?_
      refine r_iload_n hO dX0_votersFor_14 rfl ?_
      refine r_fV hO dX0_votersFor_15 kRX0_51 miX0_votesFor (zX0_votesR _ hp R v hb rfl hx hv) ⟨Nat.le_of_ble_eq_true rfl, Nat.le_of_ble_eq_true rfl, rfl, Nat.le_of_ble_eq_true rfl⟩ (nu_o hp) rfl ?_
      refine r_if_eq 27 hO dX0_votersFor_18 (by decide) (fun h18 => ?_) (fun h18 => ?_)
      · rw [bI_0] at h18
        refine s_iinc hL hO dX0_votersFor_27 rfl ic_1 (Nat.le_of_ble_eq_true rfl) rfl ?_
        refine r_goto 4 hO dX0_votersFor_30 (by decide) ?_
        show Gz X 4 [.ref p, .int x, .int m, .int (nI i + 1)] [] M
        rw [nI_1]
        exact ih (i + 1) m hd2 (by omega) (by rw [← hm, orB_f (f := fun b => vt b v) h18])
      · rw [bI_n0] at h18
        refine r_iload_n hO dX0_votersFor_21 rfl ?_
        refine r_iconst hO dX0_votersFor_22 ic_1 ?_
        refine r_iload_n hO dX0_votersFor_23 rfl ?_
        refine r_ishl hO dX0_votersFor_24 ?_
        refine r_ior hO dX0_votersFor_25 ?_
        refine s_istore_n hL hO dX0_votersFor_26 (Nat.le_of_ble_eq_true rfl) rfl ?_
        refine s_iinc hL hO dX0_votersFor_27 rfl ic_1 (Nat.le_of_ble_eq_true rfl) rfl ?_
        refine r_goto 4 hO dX0_votersFor_30 (by decide) ?_
        show Gz X 4 [.ref p, .int x, .int (m ||| 1 <<< (nI i &&& 31)), .int (nI i + 1)] [] M
        rw [nI_1]
        exact ih (i + 1) _ hd2 (by omega) (by rw [← hm, orB_t (f := fun b => vt b v) h18])
  refine r_iconst hO dX0_votersFor_0 ic_0 ?_
  refine s_istore_n hL hO dX0_votersFor_1 (Nat.le_of_ble_eq_true rfl) rfl ?_
  refine r_iconst hO dX0_votersFor_2 ic_0 ?_
  refine s_istore_n hL hO dX0_votersFor_3 (Nat.le_of_ble_eq_true rfl) rfl ?_
  exact loop ms 0 0 rfl (Nat.zero_le _) rfl
set_option maxHeartbeats 4000000 in
theorem zX0_membersOf (l : Launch) {M : Mm} {p : Nat} (hp : nuP p) {ms : List Mb} {mo day am : Nat} (R : CN M p ms mo day am) {x : Int32} (h : Nat) (hx : x = nI h) (hh : h < 2) : CFz l 1 yX0_membersOf cX0_membersOf 4 (some .int) [.ref p, .int x] M (some (.int (orB (inH h) 0 0 ms))) (M) := by
  refine Clz.on RX0 rfl (by decide +kernel) (Nat.le_of_ble_eq_true rfl) (fun X hL hO hr => ?_)
  show Gz X 0 [.ref p, .int x, .null, .null] [] M
  have loop : ∀ (rest : List Mb) (i : Nat) (m : Int32), ms.drop i = rest → i ≤ ms.length → orB (inH h) i m rest = orB (inH h) 0 0 ms → Gz X 4 [.ref p, .int x, .int m, .int (nI i)] [] M := by
    intro rest
    induction rest with
    | nil =>
      intro i m hd hi hm
      have hi := drop_nil hd hi
      refine r_iload_n hO dX0_membersOf_4 rfl ?_
      refine r_aload_n hO dX0_membersOf_5 rfl ?_
      refine r_getI hO dX0_membersOf_6 fRX0_21 (nu_I3 hp) ?_
      refine r_icmp_ge 34 hO dX0_membersOf_9 (by decide) (fun _ => ?_) (fun z => absurd (by rw [R.2.2.1, hi]; exact nI_le (Nat.le_refl _) (by have := R.1; omega)) z)
      refine r_iload_n hO dX0_membersOf_34 rfl ?_
      exact r_ireturn hO hr dX0_membersOf_35 rfl ⟨sI hm, rfl⟩
    | cons b bs ih =>
      intro i m hd hi hm
      obtain ⟨hb, hd2, hlt⟩ := drop_cons hd
      refine r_iload_n hO dX0_membersOf_4 rfl ?_
      refine r_aload_n hO dX0_membersOf_5 rfl ?_
      refine r_getI hO dX0_membersOf_6 fRX0_21 (nu_I3 hp) ?_
      refine r_icmp_ge 34 hO dX0_membersOf_9 (by decide) (fun z => absurd z (by rw [R.2.2.1]; exact nI_ge hlt (by have := R.1; omega))) (fun _ => ?_)
      refine r_aload_n hO dX0_membersOf_12 rfl ?_
      refine r_iload_n hO dX0_membersOf_13 rfl ?_
      refine r_iconst hO dX0_membersOf_14 ic_1 ?_
      refine r_fV hO dX0_membersOf_15 kRX0_47 miX0_part (zX0_partR _ hp R 1 hb rfl rfl (by decide)) ⟨Nat.le_of_ble_eq_true rfl, Nat.le_of_ble_eq_true rfl, rfl, Nat.le_of_ble_eq_true rfl⟩ (nu_o hp) rfl ?_
      refine r_iload_n hO dX0_membersOf_18 rfl ?_
      refine r_icmp_ne 28 hO dX0_membersOf_19 (by decide) (fun h19 => ?_) (fun h19 => ?_)
      · rw [hx, show fld 1 b = b.2.1 from rfl, nI_eq (by have := (R.2.1 i b hb).2.2.2.2.2.1; omega) (by omega)] at h19
        have hq : inH h b = false := by simp [inH, h19]
        refine s_iinc hL hO dX0_membersOf_28 rfl ic_1 (Nat.le_of_ble_eq_true rfl) rfl ?_
        refine r_goto 4 hO dX0_membersOf_31 (by decide) ?_
        show Gz X 4 [.ref p, .int x, .int m, .int (nI i + 1)] [] M
        rw [nI_1]
        exact ih (i + 1) m hd2 (by omega) (by rw [← hm, orB_f (f := inH h) hq])
      · rw [hx, show fld 1 b = b.2.1 from rfl, nI_eq (by have := (R.2.1 i b hb).2.2.2.2.2.1; omega) (by omega)] at h19
        have hq : inH h b = true := by simp [inH, h19]
        refine r_iload_n hO dX0_membersOf_22 rfl ?_
        refine r_iconst hO dX0_membersOf_23 ic_1 ?_
        refine r_iload_n hO dX0_membersOf_24 rfl ?_
        refine r_ishl hO dX0_membersOf_25 ?_
        refine r_ior hO dX0_membersOf_26 ?_
        refine s_istore_n hL hO dX0_membersOf_27 (Nat.le_of_ble_eq_true rfl) rfl ?_
        refine s_iinc hL hO dX0_membersOf_28 rfl ic_1 (Nat.le_of_ble_eq_true rfl) rfl ?_
        refine r_goto 4 hO dX0_membersOf_31 (by decide) ?_
        show Gz X 4 [.ref p, .int x, .int (m ||| 1 <<< (nI i &&& 31)), .int (nI i + 1)] [] M
        rw [nI_1]
        exact ih (i + 1) _ hd2 (by omega) (by rw [← hm, orB_t (f := inH h) hq])
  refine r_iconst hO dX0_membersOf_0 ic_0 ?_
  refine s_istore_n hL hO dX0_membersOf_1 (Nat.le_of_ble_eq_true rfl) rfl ?_
  refine r_iconst hO dX0_membersOf_2 ic_0 ?_
  refine s_istore_n hL hO dX0_membersOf_3 (Nat.le_of_ble_eq_true rfl) rfl ?_
  exact loop ms 0 0 rfl (Nat.zero_le _) rfl
set_option maxHeartbeats 4000000 in
theorem zX0_sumOf (l : Launch) {M : Mm} {p : Nat} (hp : nuP p) {ms : List Mb} {mo day am : Nat} (R : CN M p ms mo day am) {x : Int32} (k : Nat) (hx : x = nI k) (hk : k < 4) : CFz l 1 yX0_sumOf cX0_sumOf 4 (some .int) [.ref p, .int x] M (some (.int (nI (sumK k ms)))) (M) := by
  refine Clz.on RX0 rfl (by decide +kernel) (Nat.le_of_ble_eq_true rfl) (fun X hL hO hr => ?_)
  show Gz X 0 [.ref p, .int x, .null, .null] [] M
  have loop : ∀ (rest : List Mb) (i m : Nat), ms.drop i = rest → i ≤ ms.length → m + sumK k rest = sumK k ms → Gz X 4 [.ref p, .int x, .int (nI m), .int (nI i)] [] M := by
    intro rest
    induction rest with
    | nil =>
      intro i m hd hi hm
      have hi := drop_nil hd hi
      refine r_iload_n hO dX0_sumOf_4 rfl ?_
      refine r_aload_n hO dX0_sumOf_5 rfl ?_
      refine r_getI hO dX0_sumOf_6 fRX0_21 (nu_I3 hp) ?_
      refine r_icmp_ge 27 hO dX0_sumOf_9 (by decide) (fun _ => ?_) (fun z => absurd (by rw [R.2.2.1, hi]; exact nI_le (Nat.le_refl _) (by have := R.1; omega)) z)
      refine r_iload_n hO dX0_sumOf_27 rfl ?_
      exact r_ireturn hO hr dX0_sumOf_28 rfl ⟨sI (by rw [← hm]; simp [sumK]), rfl⟩
    | cons b bs ih =>
      intro i m hd hi hm
      obtain ⟨hb, hd2, hlt⟩ := drop_cons hd
      refine r_iload_n hO dX0_sumOf_4 rfl ?_
      refine r_aload_n hO dX0_sumOf_5 rfl ?_
      refine r_getI hO dX0_sumOf_6 fRX0_21 (nu_I3 hp) ?_
      refine r_icmp_ge 27 hO dX0_sumOf_9 (by decide) (fun z => absurd z (by rw [R.2.2.1]; exact nI_ge hlt (by have := R.1; omega))) (fun _ => ?_)
      refine r_iload_n hO dX0_sumOf_12 rfl ?_
      refine r_aload_n hO dX0_sumOf_13 rfl ?_
      refine r_iload_n hO dX0_sumOf_14 rfl ?_
      refine r_iload_n hO dX0_sumOf_15 rfl ?_
      refine r_fV hO dX0_sumOf_16 kRX0_47 miX0_part (zX0_partR _ hp R k hb rfl hx hk) ⟨Nat.le_of_ble_eq_true rfl, Nat.le_of_ble_eq_true rfl, rfl, Nat.le_of_ble_eq_true rfl⟩ (nu_o hp) rfl ?_
      refine r_iadd hO dX0_sumOf_19 ?_
      refine s_istore_n hL hO dX0_sumOf_20 (Nat.le_of_ble_eq_true rfl) rfl ?_
      refine s_iinc hL hO dX0_sumOf_21 rfl ic_1 (Nat.le_of_ble_eq_true rfl) rfl ?_
      refine r_goto 4 hO dX0_sumOf_24 (by decide) ?_
      show Gz X 4 [.ref p, .int x, .int (nI m + nI (fld k b)), .int (nI i + 1)] [] M
      rw [nI_add, nI_1]
      exact ih (i + 1) _ hd2 (by omega) (by rw [← hm]; simp [sumK]; omega)
  refine r_iconst hO dX0_sumOf_0 ic_0 ?_
  refine s_istore_n hL hO dX0_sumOf_1 (Nat.le_of_ble_eq_true rfl) rfl ?_
  refine r_iconst hO dX0_sumOf_2 ic_0 ?_
  refine s_istore_n hL hO dX0_sumOf_3 (Nat.le_of_ble_eq_true rfl) rfl ?_
  exact loop ms 0 0 rfl (Nat.zero_le _) (by simp)
theorem agC_1 {h mo : Nat} {ms : List Mb} (hl : ms.length ≤ 6) (q : nI (cY h mo ms + cN h mo ms) = 0) : (1 : Int32) = bI (agr h mo ms) := by
  have := cY_le h mo ms
  have := cN_le h mo ms
  rw [show (0 : Int32) = nI 0 from rfl, nI_eq (by omega) (by omega)] at q
  rw [agr, decide_eq_true (Or.inr q)]; rfl
theorem iI_pos {a b : Nat} (ha : a ≤ 6) (hb : b ≤ 6) : (iI ((a : Int) - (b : Int)) ≤ 0) ↔ a ≤ b := by
  have key : ∀ a : Nat, a < 7 → ∀ b : Nat, b < 7 → ((iI ((a : Int) - (b : Int)) ≤ 0) ↔ a ≤ b) := by decide +kernel
  exact key a (by omega) b (by omega)
theorem agC_2 {h mo : Nat} {ms : List Mb} (hl : ms.length ≤ 6) (q : ¬ nI (cY h mo ms + cN h mo ms) = 0) (q2 : iI ((cY h mo ms : Int) - (cN h mo ms : Int)) ≤ 0) : (0 : Int32) = bI (agr h mo ms) := by
  have h1 := cY_le h mo ms
  have h2 := cN_le h mo ms
  rw [iI_pos (by omega) (by omega)] at q2
  rw [agr, decide_eq_false (fun z => z.elim (fun z => by omega) (fun z => q (by rw [z]; rfl)))]; rfl
theorem agC_3 {h mo : Nat} {ms : List Mb} (hl : ms.length ≤ 6) (q2 : ¬ iI ((cY h mo ms : Int) - (cN h mo ms : Int)) ≤ 0) : (1 : Int32) = bI (agr h mo ms) := by
  have h1 := cY_le h mo ms
  have h2 := cN_le h mo ms
  rw [iI_pos (by omega) (by omega)] at q2
  rw [agr, decide_eq_true (Or.inl (by omega))]; rfl
theorem cYc (h mo : Nat) (b : Mb) (bs : List Mb) : cY h mo (b :: bs) = cY h mo bs + (if (inH h b && vt b mo) = true then 1 else 0) := by unfold cY; rw [List.countP_cons]
theorem cNc (h mo : Nat) (b : Mb) (bs : List Mb) : cN h mo (b :: bs) = cN h mo bs + (if (inH h b && !vt b mo) = true then 1 else 0) := by unfold cN; rw [List.countP_cons]
set_option maxHeartbeats 4000000 in
theorem zX0_agrees (l : Launch) {M : Mm} {p : Nat} (hp : nuP p) {ms : List Mb} {mo day am : Nat} (R : CN M p ms mo day am) {x : Int32} (h : Nat) (hx : x = nI h) (hh : h < 2) : CFz l 1 yX0_agrees cX0_agrees 5 (some .boolean) [.ref p, .int x] M (some (.int (bI (agr h mo ms)))) (M) := by
  refine Clz.on RX0 rfl (by decide +kernel) (Nat.le_of_ble_eq_true rfl) (fun X hL hO hr => ?_)
  show Gz X 0 [.ref p, .int x, .null, .null, .null] [] M
  have loop : ∀ (rest : List Mb) (i u : Nat) (z : Int), ms.drop i = rest → i ≤ ms.length → (u + (cY h mo rest + cN h mo rest) = cY h mo ms + cN h mo ms ∧ z + ((cY h mo rest : Int) - (cN h mo rest : Int)) = (cY h mo ms : Int) - (cN h mo ms : Int)) → Gz X 7 [.ref p, .int x, .int (nI u), .int (iI z), .int (nI i)] [] M := by
    intro rest
    induction rest with
    | nil =>
      intro i u z hd hi hm
      have hi := drop_nil hd hi
      refine r_iload hO dX0_agrees_7 rfl ?_
      refine r_aload_n hO dX0_agrees_9 rfl ?_
      refine r_getI hO dX0_agrees_10 fRX0_21 (nu_I3 hp) ?_
      refine r_icmp_ge 57 hO dX0_agrees_13 (by decide) (fun _ => ?_) (fun z => absurd (by rw [R.2.2.1, hi]; exact nI_le (Nat.le_refl _) (by have := R.1; omega)) z)
      rw [show u = cY h mo ms + cN h mo ms from by rw [← hm.1]; simp [cY, cN], show z = (cY h mo ms : Int) - (cN h mo ms : Int) from by rw [← hm.2]; simp [cY, cN]]
      refine r_iload_n hO dX0_agrees_57 rfl ?_
      refine r_if_eq 65 hO dX0_agrees_58 (by decide) (fun h58 => ?_) (fun h58 => ?_)
      · refine r_iconst hO dX0_agrees_65 ic_1 ?_
        refine r_goto 70 hO dX0_agrees_66 (by decide) ?_
        exact r_ireturn hO hr dX0_agrees_70 rfl ⟨sI (agC_1 R.1 h58), rfl⟩
      · refine r_iload_n hO dX0_agrees_61 rfl ?_
        refine r_if_le 69 hO dX0_agrees_62 (by decide) (fun h62 => ?_) (fun h62 => ?_)
        · refine r_iconst hO dX0_agrees_69 ic_0 ?_
          exact r_ireturn hO hr dX0_agrees_70 rfl ⟨sI (agC_2 R.1 h58 h62), rfl⟩
        · refine r_iconst hO dX0_agrees_65 ic_1 ?_
          refine r_goto 70 hO dX0_agrees_66 (by decide) ?_
          exact r_ireturn hO hr dX0_agrees_70 rfl ⟨sI (agC_3 R.1 h62), rfl⟩
    | cons b bs ih =>
      intro i u z hd hi hm
      obtain ⟨hb, hd2, hlt⟩ := drop_cons hd
      refine r_iload hO dX0_agrees_7 rfl ?_
      refine r_aload_n hO dX0_agrees_9 rfl ?_
      refine r_getI hO dX0_agrees_10 fRX0_21 (nu_I3 hp) ?_
      refine r_icmp_ge 57 hO dX0_agrees_13 (by decide) (fun z => absurd z (by rw [R.2.2.1]; exact nI_ge hlt (by have := R.1; omega))) (fun _ => ?_)
      refine r_aload_n hO dX0_agrees_16 rfl ?_
      refine r_iload hO dX0_agrees_17 rfl ?_
      refine r_iconst hO dX0_agrees_19 ic_1 ?_
      refine r_fV hO dX0_agrees_20 kRX0_47 miX0_part (zX0_partR _ hp R 1 hb rfl rfl (by decide)) ⟨Nat.le_of_ble_eq_true rfl, Nat.le_of_ble_eq_true rfl, rfl, Nat.le_of_ble_eq_true rfl⟩ (nu_o hp) rfl ?_
      refine r_iload_n hO dX0_agrees_23 rfl ?_
      refine r_icmp_ne 51 hO dX0_agrees_24 (by decide) (fun h24 => ?_) (fun h24 => ?_)
      · rw [hx, show fld 1 b = b.2.1 from rfl, nI_eq (by have := (R.2.1 i b hb).2.2.2.2.2.1; omega) (by omega)] at h24
        have hq : inH h b = false := by simp [inH, h24]
        refine s_iinc hL hO dX0_agrees_51 rfl ic_1 (Nat.le_of_ble_eq_true rfl) rfl ?_
        refine r_goto 7 hO dX0_agrees_54 (by decide) ?_
        show Gz X 7 [.ref p, .int x, .int (nI u), .int (iI z), .int (nI i + 1)] [] M
        rw [nI_1]
        exact ih (i + 1) u z hd2 (by omega) (by rw [← hm.1, ← hm.2, cYc, cNc, hq]; simp)
      · rw [hx, show fld 1 b = b.2.1 from rfl, nI_eq (by have := (R.2.1 i b hb).2.2.2.2.2.1; omega) (by omega)] at h24
        have hq : inH h b = true := by simp [inH, h24]
        refine s_iinc hL hO dX0_agrees_27 rfl ic_1 (Nat.le_of_ble_eq_true rfl) rfl ?_
        refine r_iload_n hO dX0_agrees_30 rfl ?_
        refine r_aload_n hO dX0_agrees_31 rfl ?_
        refine r_iload hO dX0_agrees_32 rfl ?_
        refine r_aload_n hO dX0_agrees_34 rfl ?_
        refine r_getI hO dX0_agrees_35 fRX0_25 (nu_I4 hp) ?_
        refine r_fV hO dX0_agrees_38 kRX0_51 miX0_votesFor (zX0_votesR _ hp R mo hb rfl R.2.2.2.1.1 R.2.2.2.1.2) ⟨Nat.le_of_ble_eq_true rfl, Nat.le_of_ble_eq_true rfl, rfl, Nat.le_of_ble_eq_true rfl⟩ (nu_o hp) rfl ?_
        refine r_if_eq 48 hO dX0_agrees_41 (by decide) (fun h41 => ?_) (fun h41 => ?_)
        · rw [bI_0] at h41
          refine r_iconst hO dX0_agrees_48 ic_m1 ?_
          refine r_iadd hO dX0_agrees_49 ?_
          refine s_istore_n hL hO dX0_agrees_50 (Nat.le_of_ble_eq_true rfl) rfl ?_
          refine s_iinc hL hO dX0_agrees_51 rfl ic_1 (Nat.le_of_ble_eq_true rfl) rfl ?_
          refine r_goto 7 hO dX0_agrees_54 (by decide) ?_
          show Gz X 7 [.ref p, .int x, .int (nI u + 1), .int (iI z + -1), .int (nI i + 1)] [] M
          rw [nI_1, nI_1, show (-1 : Int32) = iI (-1) from by decide, iI_add]
          exact ih (i + 1) (u + 1) _ hd2 (by omega) (by rw [← hm.1, ← hm.2, cYc, cNc, hq, h41]; simp; omega)
        · rw [bI_n0] at h41
          refine r_iconst hO dX0_agrees_44 ic_1 ?_
          refine r_goto 49 hO dX0_agrees_45 (by decide) ?_
          refine r_iadd hO dX0_agrees_49 ?_
          refine s_istore_n hL hO dX0_agrees_50 (Nat.le_of_ble_eq_true rfl) rfl ?_
          refine s_iinc hL hO dX0_agrees_51 rfl ic_1 (Nat.le_of_ble_eq_true rfl) rfl ?_
          refine r_goto 7 hO dX0_agrees_54 (by decide) ?_
          show Gz X 7 [.ref p, .int x, .int (nI u + 1), .int (iI z + 1), .int (nI i + 1)] [] M
          rw [nI_1, nI_1, show (1 : Int32) = iI (1) from by decide, iI_add]
          exact ih (i + 1) (u + 1) _ hd2 (by omega) (by rw [← hm.1, ← hm.2, cYc, cNc, hq, h41]; simp; omega)
  refine r_iconst hO dX0_agrees_0 ic_0 ?_
  refine s_istore_n hL hO dX0_agrees_1 (Nat.le_of_ble_eq_true rfl) rfl ?_
  refine r_iconst hO dX0_agrees_2 ic_0 ?_
  refine s_istore_n hL hO dX0_agrees_3 (Nat.le_of_ble_eq_true rfl) rfl ?_
  refine r_iconst hO dX0_agrees_4 ic_0 ?_
  refine s_istore hL hO dX0_agrees_5 (Nat.le_of_ble_eq_true rfl) rfl ?_
  exact loop ms 0 0 0 rfl (Nat.zero_le _) (by simp)
set_option maxHeartbeats 4000000 in
theorem zX0_isCarried (l : Launch) {M : Mm} {p : Nat} (hp : nuP p) {ms : List Mb} {mo day am : Nat} (R : CN M p ms mo day am) : CFz l 2 yX0_isCarried cX0_isCarried 1 (some .boolean) [.ref p] M (some (.int (bI (car mo ms)))) (M) := by
  refine Clz.on RX0 rfl (by decide +kernel) (Nat.le_of_ble_eq_true rfl) (fun X hL hO hr => ?_)
  show Gz X 0 [.ref p] [] M
  refine r_aload_n hO dX0_isCarried_0 rfl ?_
  refine r_iconst hO dX0_isCarried_1 ic_0 ?_
  refine r_fV hO dX0_isCarried_2 kRX0_55 miX0_agrees (zX0_agrees _ hp R 0 rfl (by decide)) ⟨Nat.le_of_ble_eq_true rfl, Nat.le_of_ble_eq_true rfl, rfl, Nat.le_of_ble_eq_true rfl⟩ (nu_o hp) rfl ?_
  refine r_if_eq 20 hO dX0_isCarried_5 (by decide) (fun h5 => ?_) (fun h5 => ?_)
  · rw [bI_0] at h5
    refine r_iconst hO dX0_isCarried_20 ic_0 ?_
    exact r_ireturn hO hr dX0_isCarried_21 rfl ⟨sI (by simp [car, bI, h5]), rfl⟩
  · rw [bI_n0] at h5
    refine r_aload_n hO dX0_isCarried_8 rfl ?_
    refine r_iconst hO dX0_isCarried_9 ic_1 ?_
    refine r_fV hO dX0_isCarried_10 kRX0_55 miX0_agrees (zX0_agrees _ hp R 1 rfl (by decide)) ⟨Nat.le_of_ble_eq_true rfl, Nat.le_of_ble_eq_true rfl, rfl, Nat.le_of_ble_eq_true rfl⟩ (nu_o hp) rfl ?_
    refine r_if_eq 20 hO dX0_isCarried_13 (by decide) (fun h13 => ?_) (fun h13 => ?_)
    · rw [bI_0] at h13
      refine r_iconst hO dX0_isCarried_20 ic_0 ?_
      exact r_ireturn hO hr dX0_isCarried_21 rfl ⟨sI (by simp [car, bI, h5, h13]), rfl⟩
    · rw [bI_n0] at h13
      refine r_iconst hO dX0_isCarried_16 ic_1 ?_
      refine r_goto 21 hO dX0_isCarried_17 (by decide) ?_
      exact r_ireturn hO hr dX0_isCarried_21 rfl ⟨sI (by simp [car, bI, h5, h13]), rfl⟩
set_option maxHeartbeats 4000000 in
theorem zX0_agreeingHouses (l : Launch) {M : Mm} {p : Nat} (hp : nuP p) {ms : List Mb} {mo day am : Nat} (R : CN M p ms mo day am) : CFz l 2 yX0_agreeingHouses cX0_agreeingHouses 1 (some .int) [.ref p] M (some (.int (bI (agr 0 mo ms) + 2 * bI (agr 1 mo ms)))) (M) := by
  refine Clz.on RX0 rfl (by decide +kernel) (Nat.le_of_ble_eq_true rfl) (fun X hL hO hr => ?_)
  show Gz X 0 [.ref p] [] M
  refine r_aload_n hO dX0_agreeingHouses_0 rfl ?_
  refine r_iconst hO dX0_agreeingHouses_1 ic_0 ?_
  refine r_fV hO dX0_agreeingHouses_2 kRX0_55 miX0_agrees (zX0_agrees _ hp R 0 rfl (by decide)) ⟨Nat.le_of_ble_eq_true rfl, Nat.le_of_ble_eq_true rfl, rfl, Nat.le_of_ble_eq_true rfl⟩ (nu_o hp) rfl ?_
  refine r_fS hO dX0_agreeingHouses_5 kRX0_59 msX4_bit (zX4_bit _ (agr 0 mo ms) rfl) ⟨Nat.le_of_ble_eq_true rfl, Nat.le_of_ble_eq_true rfl, rfl, Nat.le_of_ble_eq_true rfl⟩ rfl ?_
  refine r_iconst hO dX0_agreeingHouses_8 ic_2 ?_
  refine r_aload_n hO dX0_agreeingHouses_9 rfl ?_
  refine r_iconst hO dX0_agreeingHouses_10 ic_1 ?_
  refine r_fV hO dX0_agreeingHouses_11 kRX0_55 miX0_agrees (zX0_agrees _ hp R 1 rfl (by decide)) ⟨Nat.le_of_ble_eq_true rfl, Nat.le_of_ble_eq_true rfl, rfl, Nat.le_of_ble_eq_true rfl⟩ (nu_o hp) rfl ?_
  refine r_fS hO dX0_agreeingHouses_14 kRX0_59 msX4_bit (zX4_bit _ (agr 1 mo ms) rfl) ⟨Nat.le_of_ble_eq_true rfl, Nat.le_of_ble_eq_true rfl, rfl, Nat.le_of_ble_eq_true rfl⟩ rfl ?_
  refine r_imul hO dX0_agreeingHouses_17 ?_
  refine r_iadd hO dX0_agreeingHouses_18 ?_
  exact r_ireturn hO hr dX0_agreeingHouses_19 rfl ⟨rfl, rfl⟩
set_option maxHeartbeats 4000000 in
theorem zX0_pull (l : Launch) {M : Mm} {p : Nat} (hp : nuP p) {x : Int32} (a : Nat) (hx : x = nI a) (ha : a < 6) : CFz l 1 yX0_pull cX0_pull 5 (some .int) [.ref p, .int x] M (some (.int (pcI (M.1 (p + 1) (4 * a)) (M.1 (p + 1) (4 * a + 2) - M.1 p 4)))) (M) := by
  refine Clz.on RX0 rfl (by decide +kernel) (Nat.le_of_ble_eq_true rfl) (fun X hL hO hr => ?_)
  show Gz X 0 [.ref p, .int x, .null, .null, .null] [] M
  refine r_aload_n hO dX0_pull_0 rfl ?_
  refine r_iload_n hO dX0_pull_1 rfl ?_
  refine r_iconst hO dX0_pull_2 ic_2 ?_
  refine r_fV hO dX0_pull_3 kRX0_47 miX0_part (zX0_part _ hp a 2 hx rfl (by omega)) ⟨Nat.le_of_ble_eq_true rfl, Nat.le_of_ble_eq_true rfl, rfl, Nat.le_of_ble_eq_true rfl⟩ (nu_o hp) rfl ?_
  refine r_aload_n hO dX0_pull_6 rfl ?_
  refine r_getI hO dX0_pull_7 fRX0_25 (nu_I4 hp) ?_
  refine r_isub hO dX0_pull_10 ?_
  refine s_istore_n hL hO dX0_pull_11 (Nat.le_of_ble_eq_true rfl) rfl ?_
  refine r_iload_n hO dX0_pull_12 rfl ?_
  refine r_fS hO dX0_pull_13 kRX0_63 msX4_sign (zX4_sign _) ⟨Nat.le_of_ble_eq_true rfl, Nat.le_of_ble_eq_true rfl, rfl, Nat.le_of_ble_eq_true rfl⟩ rfl ?_
  refine s_istore_n hL hO dX0_pull_16 (Nat.le_of_ble_eq_true rfl) rfl ?_
  refine r_iload_n hO dX0_pull_17 rfl ?_
  refine r_mabs hO dX0_pull_18 xRX0_67 (Nat.le_of_ble_eq_true rfl) (Nat.le_of_ble_eq_true rfl) ?_
  refine r_iconst hO dX0_pull_21 ic_2 ?_
  refine r_icmp_le 29 hO dX0_pull_22 (by decide) (fun h22 => ?_) (fun h22 => ?_)
  · have h22 : abI (M.1 (p + 1) (4 * a + 2) - M.1 p 4) ≤ 2 := h22
    refine r_iconst hO dX0_pull_29 ic_0 ?_
    refine s_istore hL hO dX0_pull_30 (Nat.le_of_ble_eq_true rfl) rfl ?_
    refine r_aload_n hO dX0_pull_32 rfl ?_
    refine r_iload_n hO dX0_pull_33 rfl ?_
    refine r_iconst hO dX0_pull_34 ic_0 ?_
    refine r_fV hO dX0_pull_35 kRX0_47 miX0_part (zX0_part _ hp a 0 hx rfl (by omega)) ⟨Nat.le_of_ble_eq_true rfl, Nat.le_of_ble_eq_true rfl, rfl, Nat.le_of_ble_eq_true rfl⟩ (nu_o hp) rfl ?_
    rcases sw_1_3 (M.1 (p + 1) (4 * a + 0)) with sw38 | sw38 | sw38 | sw38
    · have sq : M.1 (p + 1) (4 * a) = _ := sw38
      refine r_tabIn 64 hO dX0_pull_38 (by rw [sw38]; decide) (by rw [sw38]; decide) (by rw [sw38]; rfl) (by decide) ?_
      refine r_iconst hO dX0_pull_64 ic_2 ?_
      refine r_iload_n hO dX0_pull_65 rfl ?_
      refine r_imul hO dX0_pull_66 ?_
      exact r_ireturn hO hr dX0_pull_67 rfl ⟨sI (by simp [pcI, dcI, sq, h22]), rfl⟩
    · have sq : M.1 (p + 1) (4 * a) = _ := sw38
      refine r_tabIn 68 hO dX0_pull_38 (by rw [sw38]; decide) (by rw [sw38]; decide) (by rw [sw38]; rfl) (by decide) ?_
      refine r_iload hO dX0_pull_68 rfl ?_
      exact r_ireturn hO hr dX0_pull_70 rfl ⟨sI (by simp [pcI, dcI, sq, h22]), rfl⟩
    · have sq : M.1 (p + 1) (4 * a) = _ := sw38
      refine r_tabIn 71 hO dX0_pull_38 (by rw [sw38]; decide) (by rw [sw38]; decide) (by rw [sw38]; rfl) (by decide) ?_
      refine r_iload hO dX0_pull_71 rfl ?_
      refine r_ineg hO dX0_pull_73 ?_
      exact r_ireturn hO hr dX0_pull_74 rfl ⟨sI (by simp [pcI, dcI, sq, h22]), rfl⟩
    · have swn : ¬ M.1 (p + 1) (4 * a) = 1 ∧ ¬ M.1 (p + 1) (4 * a) = 2 ∧ ¬ M.1 (p + 1) (4 * a) = 3 := sw13n sw38
      refine r_tabOut 75 hO dX0_pull_38 sw38 (by decide) ?_
      refine r_iload_n hO dX0_pull_75 rfl ?_
      exact r_ireturn hO hr dX0_pull_76 rfl ⟨sI (by simp [pcI, dcI, swn.1, swn.2.1, swn.2.2, h22]), rfl⟩
  · have h22 : ¬ abI (M.1 (p + 1) (4 * a + 2) - M.1 p 4) ≤ 2 := h22
    refine r_iload_n hO dX0_pull_25 rfl ?_
    refine r_goto 30 hO dX0_pull_26 (by decide) ?_
    refine s_istore hL hO dX0_pull_30 (Nat.le_of_ble_eq_true rfl) rfl ?_
    refine r_aload_n hO dX0_pull_32 rfl ?_
    refine r_iload_n hO dX0_pull_33 rfl ?_
    refine r_iconst hO dX0_pull_34 ic_0 ?_
    refine r_fV hO dX0_pull_35 kRX0_47 miX0_part (zX0_part _ hp a 0 hx rfl (by omega)) ⟨Nat.le_of_ble_eq_true rfl, Nat.le_of_ble_eq_true rfl, rfl, Nat.le_of_ble_eq_true rfl⟩ (nu_o hp) rfl ?_
    rcases sw_1_3 (M.1 (p + 1) (4 * a + 0)) with sw38 | sw38 | sw38 | sw38
    · have sq : M.1 (p + 1) (4 * a) = _ := sw38
      refine r_tabIn 64 hO dX0_pull_38 (by rw [sw38]; decide) (by rw [sw38]; decide) (by rw [sw38]; rfl) (by decide) ?_
      refine r_iconst hO dX0_pull_64 ic_2 ?_
      refine r_iload_n hO dX0_pull_65 rfl ?_
      refine r_imul hO dX0_pull_66 ?_
      exact r_ireturn hO hr dX0_pull_67 rfl ⟨sI (by simp [pcI, dcI, sq, h22]), rfl⟩
    · have sq : M.1 (p + 1) (4 * a) = _ := sw38
      refine r_tabIn 68 hO dX0_pull_38 (by rw [sw38]; decide) (by rw [sw38]; decide) (by rw [sw38]; rfl) (by decide) ?_
      refine r_iload hO dX0_pull_68 rfl ?_
      exact r_ireturn hO hr dX0_pull_70 rfl ⟨sI (by simp [pcI, dcI, sq, h22]), rfl⟩
    · have sq : M.1 (p + 1) (4 * a) = _ := sw38
      refine r_tabIn 71 hO dX0_pull_38 (by rw [sw38]; decide) (by rw [sw38]; decide) (by rw [sw38]; rfl) (by decide) ?_
      refine r_iload hO dX0_pull_71 rfl ?_
      refine r_ineg hO dX0_pull_73 ?_
      exact r_ireturn hO hr dX0_pull_74 rfl ⟨sI (by simp [pcI, dcI, sq, h22]), rfl⟩
    · have swn : ¬ M.1 (p + 1) (4 * a) = 1 ∧ ¬ M.1 (p + 1) (4 * a) = 2 ∧ ¬ M.1 (p + 1) (4 * a) = 3 := sw13n sw38
      refine r_tabOut 75 hO dX0_pull_38 sw38 (by decide) ?_
      refine r_iload_n hO dX0_pull_75 rfl ?_
      exact r_ireturn hO hr dX0_pull_76 rfl ⟨sI (by simp [pcI, dcI, swn.1, swn.2.1, swn.2.2, h22]), rfl⟩
theorem zX0_pullR (l : Launch) {M : Mm} {p : Nat} (hp : nuP p) {ms : List Mb} {mo day am : Nat} (R : CN M p ms mo day am) {x : Int32} {i : Nat} {b : Mb} (hb : ms[i]? = some b) (hx : x = nI i) : CFz l 1 yX0_pull cX0_pull 5 (some .int) [.ref p, .int x] M (some (.int (iI (pl b mo)))) M := by
  rw [← R.2.1.pullC hb R.2.2.2.1.2, ← R.2.2.2.1.1]
  exact zX0_pull l hp i hx (R.a hb)
set_option maxHeartbeats 4000000 in
theorem zX0_pullOf (l : Launch) {M : Mm} {p : Nat} (hp : nuP p) {ms : List Mb} {mo day am : Nat} (R : CN M p ms mo day am) {x : Int32} (h : Nat) (hx : x = nI h) (hh : h < 2) : CFz l 2 yX0_pullOf cX0_pullOf 4 (some .int) [.ref p, .int x] M (some (.int (iI (sP h mo ms)))) (M) := by
  refine Clz.on RX0 rfl (by decide +kernel) (Nat.le_of_ble_eq_true rfl) (fun X hL hO hr => ?_)
  show Gz X 0 [.ref p, .int x, .null, .null] [] M
  have loop : ∀ (rest : List Mb) (i : Nat) (m : Int), ms.drop i = rest → i ≤ ms.length → m + sP h mo rest = sP h mo ms → Gz X 4 [.ref p, .int x, .int (iI m), .int (nI i)] [] M := by
    intro rest
    induction rest with
    | nil =>
      intro i m hd hi hm
      have hi := drop_nil hd hi
      refine r_iload_n hO dX0_pullOf_4 rfl ?_
      refine r_aload_n hO dX0_pullOf_5 rfl ?_
      refine r_getI hO dX0_pullOf_6 fRX0_21 (nu_I3 hp) ?_
      refine r_icmp_ge 36 hO dX0_pullOf_9 (by decide) (fun _ => ?_) (fun z => absurd (by rw [R.2.2.1, hi]; exact nI_le (Nat.le_refl _) (by have := R.1; omega)) z)
      refine r_iload_n hO dX0_pullOf_36 rfl ?_
      exact r_ireturn hO hr dX0_pullOf_37 rfl ⟨sI (by rw [← hm]; simp [sP]), rfl⟩
    | cons b bs ih =>
      intro i m hd hi hm
      obtain ⟨hb, hd2, hlt⟩ := drop_cons hd
      refine r_iload_n hO dX0_pullOf_4 rfl ?_
      refine r_aload_n hO dX0_pullOf_5 rfl ?_
      refine r_getI hO dX0_pullOf_6 fRX0_21 (nu_I3 hp) ?_
      refine r_icmp_ge 36 hO dX0_pullOf_9 (by decide) (fun z => absurd z (by rw [R.2.2.1]; exact nI_ge hlt (by have := R.1; omega))) (fun _ => ?_)
      refine r_aload_n hO dX0_pullOf_12 rfl ?_
      refine r_iload_n hO dX0_pullOf_13 rfl ?_
      refine r_iconst hO dX0_pullOf_14 ic_1 ?_
      refine r_fV hO dX0_pullOf_15 kRX0_47 miX0_part (zX0_partR _ hp R 1 hb rfl rfl (by decide)) ⟨Nat.le_of_ble_eq_true rfl, Nat.le_of_ble_eq_true rfl, rfl, Nat.le_of_ble_eq_true rfl⟩ (nu_o hp) rfl ?_
      refine r_iload_n hO dX0_pullOf_18 rfl ?_
      refine r_icmp_ne 30 hO dX0_pullOf_19 (by decide) (fun h19 => ?_) (fun h19 => ?_)
      · rw [hx, show fld 1 b = b.2.1 from rfl, nI_eq (by have := (R.2.1 i b hb).2.2.2.2.2.1; omega) (by omega)] at h19
        have hq : inH h b = false := by simp [inH, h19]
        refine s_iinc hL hO dX0_pullOf_30 rfl ic_1 (Nat.le_of_ble_eq_true rfl) rfl ?_
        refine r_goto 4 hO dX0_pullOf_33 (by decide) ?_
        show Gz X 4 [.ref p, .int x, .int (iI m), .int (nI i + 1)] [] M
        rw [nI_1]
        exact ih (i + 1) m hd2 (by omega) (by rw [← hm]; simp [sP, hq])
      · rw [hx, show fld 1 b = b.2.1 from rfl, nI_eq (by have := (R.2.1 i b hb).2.2.2.2.2.1; omega) (by omega)] at h19
        have hq : inH h b = true := by simp [inH, h19]
        refine r_iload_n hO dX0_pullOf_22 rfl ?_
        refine r_aload_n hO dX0_pullOf_23 rfl ?_
        refine r_iload_n hO dX0_pullOf_24 rfl ?_
        refine r_fV hO dX0_pullOf_25 kRX0_72 miX0_pull (zX0_pullR _ hp R hb rfl) ⟨Nat.le_of_ble_eq_true rfl, Nat.le_of_ble_eq_true rfl, rfl, Nat.le_of_ble_eq_true rfl⟩ (nu_o hp) rfl ?_
        refine r_iadd hO dX0_pullOf_28 ?_
        refine s_istore_n hL hO dX0_pullOf_29 (Nat.le_of_ble_eq_true rfl) rfl ?_
        refine s_iinc hL hO dX0_pullOf_30 rfl ic_1 (Nat.le_of_ble_eq_true rfl) rfl ?_
        refine r_goto 4 hO dX0_pullOf_33 (by decide) ?_
        show Gz X 4 [.ref p, .int x, .int (iI m + iI (pl b mo)), .int (nI i + 1)] [] M
        rw [iI_add, nI_1]
        exact ih (i + 1) _ hd2 (by omega) (by rw [← hm]; simp [sP, hq, Int.add_assoc])
  refine r_iconst hO dX0_pullOf_0 ic_0 ?_
  refine s_istore_n hL hO dX0_pullOf_1 (Nat.le_of_ble_eq_true rfl) rfl ?_
  refine r_iconst hO dX0_pullOf_2 ic_0 ?_
  refine s_istore_n hL hO dX0_pullOf_3 (Nat.le_of_ble_eq_true rfl) rfl ?_
  exact loop ms 0 0 rfl (Nat.zero_le _) (by simp)
