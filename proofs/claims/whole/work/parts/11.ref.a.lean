/-! the reference's small methods -/
theorem mpg (M : Mm) (p k : Nat) (x : Int32) (q j : Nat) : (mput M p k x).1 q j = if q = p ∧ j = k then x else M.1 q j := by
  unfold mput upd
  by_cases h : q = p
  · subst h; simp
  · simp [h]
theorem sI {a b : Int32} (h : a = b) : some (Value.int a) = some (Value.int b) := by rw [h]
def inI (v lo hi : Int32) : Bool := decide (lo ≤ v ∧ v ≤ hi)
def inL (v lo hi : Int64) : Bool := decide (lo ≤ v ∧ v ≤ hi)
theorem inLI (v lo hi : Int32) : inL v.toInt64 lo.toInt64 hi.toInt64 = inI v lo hi := by unfold inL inI; simp only [i64_le]
theorem inLc {v lo hi : Int32} {a b : Int64} (ha : a = lo.toInt64) (hb : b = hi.toInt64) : bI (inL v.toInt64 a b) = bI (inI v lo hi) := by rw [ha, hb, inLI]
theorem in_f1 {v lo hi : Int64} (h : lg_cmp v lo < 0) : (0 : Int32) = bI (inL v lo hi) := by
  have := (lg_cmp_lt _ _).mp h
  rw [inL, decide_eq_false (fun z => by rw [Int64.le_iff_toInt_le] at z; rw [Int64.lt_iff_toInt_lt] at this; omega)]; rfl
theorem in_f2 {v lo hi : Int64} (h : 0 < lg_cmp v hi) : (0 : Int32) = bI (inL v lo hi) := by
  have := (lg_cmp_gt _ _).mp h
  rw [inL, decide_eq_false (fun z => by have z := z.2; rw [Int64.le_iff_toInt_le] at z; rw [Int64.lt_iff_toInt_lt] at this; omega)]; rfl
theorem in_t {v lo hi : Int64} (h : ¬ lg_cmp v lo < 0) (h2 : ¬ 0 < lg_cmp v hi) : (1 : Int32) = bI (inL v lo hi) := by
  rw [lg_cmp_lt, Int64.lt_iff_toInt_lt] at h
  rw [lg_cmp_gt, Int64.lt_iff_toInt_lt] at h2
  rw [inL, decide_eq_true ⟨by rw [Int64.le_iff_toInt_le]; omega, by rw [Int64.le_iff_toInt_le]; omega⟩]; rfl
def sgI (v : Int32) : Int32 := if v ≤ 0 then (if 0 ≤ v then 0 else -1) else 1
def lsI (a b : Int32) : Int32 := if b ≤ a then b else a
theorem sw13n {x : Int32} (h : x.toInt < 1 ∨ 3 < x.toInt) : ¬ x = 1 ∧ ¬ x = 2 ∧ ¬ x = 3 := ⟨fun e => by rw [e] at h; revert h; decide, fun e => by rw [e] at h; revert h; decide, fun e => by rw [e] at h; revert h; decide⟩
def tiI (k : Int32) : Int32 := if k = 1 then 0 else if k = 2 then 2 else if k = 3 then 3 else 1
def dbI (y : Int32) : Int32 := if inI y (-2) 2 = true then 0 else sgI y
def plI (k y : Int32) : Int32 := if k = 1 then 2 * sgI y else if k = 2 then dbI y else if k = 3 then - dbI y else sgI y
def vtI (w m s : Int32) : Bool := inI (w - m) (-s) s
set_option maxHeartbeats 4000000 in
theorem zX5_in (l : Launch) {M : Mm} {v lo hi : Int64} : CFz l 0 yX5_in cX5_in 6 (some .boolean) [.long v, .long lo, .long hi] M (some (.int (bI (inL v lo hi)))) (M) := by
  refine Clz.on RX5 rfl (by decide +kernel) (Nat.le_of_ble_eq_true rfl) (fun X hL hO hr => ?_)
  show Gz X 0 [.long v, .null, .long lo, .null, .long hi, .null] [] M
  refine r_lload_n hO dX5_in_0 rfl ?_
  refine r_lload_n hO dX5_in_1 rfl ?_
  refine r_lcmp hO dX5_in_2 ?_
  refine r_if_lt 17 hO dX5_in_3 (by decide) (fun h3 => ?_) (fun h3 => ?_)
  · refine r_iconst hO dX5_in_17 ic_0 ?_
    exact r_ireturn hO hr dX5_in_18 rfl ⟨sI (in_f1 h3), rfl⟩
  · refine r_lload_n hO dX5_in_6 rfl ?_
    refine r_lload hO dX5_in_7 rfl ?_
    refine r_lcmp hO dX5_in_9 ?_
    refine r_if_gt 17 hO dX5_in_10 (by decide) (fun h10 => ?_) (fun h10 => ?_)
    · refine r_iconst hO dX5_in_17 ic_0 ?_
      exact r_ireturn hO hr dX5_in_18 rfl ⟨sI (in_f2 h10), rfl⟩
    · refine r_iconst hO dX5_in_13 ic_1 ?_
      refine r_goto 18 hO dX5_in_14 (by decide) ?_
      exact r_ireturn hO hr dX5_in_18 rfl ⟨sI (in_t h3 h10), rfl⟩
set_option maxHeartbeats 4000000 in
theorem zX5_flag (l : Launch) {M : Mm} {x : Int32} (b : Bool) (hx : x = bI b) : CFz l 0 yX5_flag cX5_flag 1 (some .int) [.int x] M (some (.int (bI b))) (M) := by
  refine Clz.on RX5 rfl (by decide +kernel) (Nat.le_of_ble_eq_true rfl) (fun X hL hO hr => ?_)
  show Gz X 0 [.int x] [] M
  refine r_iload_n hO dX5_flag_0 rfl ?_
  refine r_if_eq 8 hO dX5_flag_1 (by decide) (fun h1 => ?_) (fun h1 => ?_)
  · refine r_iconst hO dX5_flag_8 ic_0 ?_
    exact r_ireturn hO hr dX5_flag_9 rfl ⟨sI (by rw [hx] at h1; cases b <;> first | rfl | exact absurd h1 (by decide)), rfl⟩
  · refine r_iconst hO dX5_flag_4 ic_1 ?_
    refine r_goto 9 hO dX5_flag_5 (by decide) ?_
    exact r_ireturn hO hr dX5_flag_9 rfl ⟨sI (by rw [hx] at h1; cases b <;> first | rfl | exact absurd h1 (by decide)), rfl⟩
set_option maxHeartbeats 4000000 in
theorem zX5_lesser (l : Launch) {M : Mm} {a b : Int32} : CFz l 0 yX5_lesser cX5_lesser 2 (some .int) [.int a, .int b] M (some (.int (lsI a b))) (M) := by
  refine Clz.on RX5 rfl (by decide +kernel) (Nat.le_of_ble_eq_true rfl) (fun X hL hO hr => ?_)
  show Gz X 0 [.int a, .int b] [] M
  refine r_iload_n hO dX5_lesser_0 rfl ?_
  refine r_iload_n hO dX5_lesser_1 rfl ?_
  refine r_icmp_ge 9 hO dX5_lesser_2 (by decide) (fun h2 => ?_) (fun h2 => ?_)
  · refine r_iload_n hO dX5_lesser_9 rfl ?_
    exact r_ireturn hO hr dX5_lesser_10 rfl ⟨sI (by simp [lsI, h2]), rfl⟩
  · refine r_iload_n hO dX5_lesser_5 rfl ?_
    refine r_goto 10 hO dX5_lesser_6 (by decide) ?_
    exact r_ireturn hO hr dX5_lesser_10 rfl ⟨sI (by simp [lsI, h2]), rfl⟩
set_option maxHeartbeats 4000000 in
theorem zX5_sign (l : Launch) {M : Mm} {v : Int32} : CFz l 0 yX5_sign cX5_sign 1 (some .int) [.int v] M (some (.int (sgI v))) (M) := by
  refine Clz.on RX5 rfl (by decide +kernel) (Nat.le_of_ble_eq_true rfl) (fun X hL hO hr => ?_)
  show Gz X 0 [.int v] [] M
  refine r_iload_n hO dX5_sign_0 rfl ?_
  refine r_if_le 8 hO dX5_sign_1 (by decide) (fun h1 => ?_) (fun h1 => ?_)
  · refine r_iload_n hO dX5_sign_8 rfl ?_
    refine r_if_ge 16 hO dX5_sign_9 (by decide) (fun h9 => ?_) (fun h9 => ?_)
    · refine r_iconst hO dX5_sign_16 ic_0 ?_
      exact r_ireturn hO hr dX5_sign_17 rfl ⟨sI (by simp [sgI, h1, h9]), rfl⟩
    · refine r_iconst hO dX5_sign_12 ic_m1 ?_
      refine r_goto 17 hO dX5_sign_13 (by decide) ?_
      exact r_ireturn hO hr dX5_sign_17 rfl ⟨sI (by simp [sgI, h1, h9]), rfl⟩
  · refine r_iconst hO dX5_sign_4 ic_1 ?_
    refine r_goto 17 hO dX5_sign_5 (by decide) ?_
    exact r_ireturn hO hr dX5_sign_17 rfl ⟨sI (by simp [sgI, h1]), rfl⟩
set_option maxHeartbeats 4000000 in
theorem zX5_tires (l : Launch) {M : Mm} {k : Int32} : CFz l 0 yX5_tires cX5_tires 1 (some .int) [.int k] M (some (.int (tiI k))) (M) := by
  refine Clz.on RX5 rfl (by decide +kernel) (Nat.le_of_ble_eq_true rfl) (fun X hL hO hr => ?_)
  show Gz X 0 [.int k] [] M
  refine r_iload_n hO dX5_tires_0 rfl ?_
  refine r_iconst hO dX5_tires_1 ic_1 ?_
  refine r_icmp_ne 9 hO dX5_tires_2 (by decide) (fun h2 => ?_) (fun h2 => ?_)
  · refine r_iload_n hO dX5_tires_9 rfl ?_
    refine r_iconst hO dX5_tires_10 ic_2 ?_
    refine r_icmp_ne 18 hO dX5_tires_11 (by decide) (fun h11 => ?_) (fun h11 => ?_)
    · refine r_iload_n hO dX5_tires_18 rfl ?_
      refine r_iconst hO dX5_tires_19 ic_3 ?_
      refine r_icmp_ne 27 hO dX5_tires_20 (by decide) (fun h20 => ?_) (fun h20 => ?_)
      · refine r_iconst hO dX5_tires_27 ic_1 ?_
        exact r_ireturn hO hr dX5_tires_28 rfl ⟨sI (by simp [tiI, h2, h11, h20]), rfl⟩
      · refine r_iconst hO dX5_tires_23 ic_3 ?_
        refine r_goto 28 hO dX5_tires_24 (by decide) ?_
        exact r_ireturn hO hr dX5_tires_28 rfl ⟨sI (by simp [tiI, h2, h11, h20]), rfl⟩
    · refine r_iconst hO dX5_tires_14 ic_2 ?_
      refine r_goto 28 hO dX5_tires_15 (by decide) ?_
      exact r_ireturn hO hr dX5_tires_28 rfl ⟨sI (by simp [tiI, h2, h11]), rfl⟩
  · refine r_iconst hO dX5_tires_5 ic_0 ?_
    refine r_goto 28 hO dX5_tires_6 (by decide) ?_
    exact r_ireturn hO hr dX5_tires_28 rfl ⟨sI (by simp [tiI, h2]), rfl⟩
set_option maxHeartbeats 4000000 in
theorem zX5_isMotion (l : Launch) {M : Mm} {v : Int32} : CFz l 1 yX5_isMotion cX5_isMotion 1 (some .boolean) [.int v] M (some (.int (bI (inI v 0 20)))) (M) := by
  refine Clz.on RX5 rfl (by decide +kernel) (Nat.le_of_ble_eq_true rfl) (fun X hL hO hr => ?_)
  show Gz X 0 [.int v] [] M
  refine r_iload_n hO dX5_isMotion_0 rfl ?_
  refine r_i2l hO dX5_isMotion_1 ?_
  refine r_lconst hO dX5_isMotion_2 lc_0 ?_
  refine r_ldc2 hO dX5_isMotion_3 wRX5_123 ?_
  refine r_fS hO dX5_isMotion_6 kRX5_56 msX5_in (zX5_in _) ⟨Nat.le_of_ble_eq_true rfl, Nat.le_of_ble_eq_true rfl, rfl, Nat.le_of_ble_eq_true rfl⟩ rfl ?_
  exact r_ireturn hO hr dX5_isMotion_9 bI_n ⟨sI (inLc (lo := 0) (hi := 20) (by decide) (by decide)), rfl⟩
set_option maxHeartbeats 4000000 in
theorem zX5_isPart (l : Launch) {M : Mm} {v : Int32} : CFz l 1 yX5_isPart cX5_isPart 1 (some .boolean) [.int v] M (some (.int (bI (inI v 0 1)))) (M) := by
  refine Clz.on RX5 rfl (by decide +kernel) (Nat.le_of_ble_eq_true rfl) (fun X hL hO hr => ?_)
  show Gz X 0 [.int v] [] M
  refine r_iload_n hO dX5_isPart_0 rfl ?_
  refine r_i2l hO dX5_isPart_1 ?_
  refine r_lconst hO dX5_isPart_2 lc_0 ?_
  refine r_lconst hO dX5_isPart_3 lc_1 ?_
  refine r_fS hO dX5_isPart_4 kRX5_56 msX5_in (zX5_in _) ⟨Nat.le_of_ble_eq_true rfl, Nat.le_of_ble_eq_true rfl, rfl, Nat.le_of_ble_eq_true rfl⟩ rfl ?_
  exact r_ireturn hO hr dX5_isPart_7 bI_n ⟨sI (inLc (lo := 0) (hi := 1) (by decide) (by decide)), rfl⟩
set_option maxHeartbeats 4000000 in
theorem zX5_isFar (l : Launch) {M : Mm} {v : Int32} : CFz l 1 yX5_isFar cX5_isFar 1 (some .boolean) [.int v] M (some (.int (bI (inI v 0 60)))) (M) := by
  refine Clz.on RX5 rfl (by decide +kernel) (Nat.le_of_ble_eq_true rfl) (fun X hL hO hr => ?_)
  show Gz X 0 [.int v] [] M
  refine r_iload_n hO dX5_isFar_0 rfl ?_
  refine r_i2l hO dX5_isFar_1 ?_
  refine r_lconst hO dX5_isFar_2 lc_0 ?_
  refine r_ldc2 hO dX5_isFar_3 wRX5_223 ?_
  refine r_fS hO dX5_isFar_6 kRX5_56 msX5_in (zX5_in _) ⟨Nat.le_of_ble_eq_true rfl, Nat.le_of_ble_eq_true rfl, rfl, Nat.le_of_ble_eq_true rfl⟩ rfl ?_
  exact r_ireturn hO hr dX5_isFar_9 bI_n ⟨sI (inLc (lo := 0) (hi := 60) (by decide) (by decide)), rfl⟩
set_option maxHeartbeats 4000000 in
theorem zX5_isMember (l : Launch) {M : Mm} {i : Int32} : CFz l 1 yX5_isMember cX5_isMember 2 (some .boolean) [.ref 33, .int i] M (some (.int (bI (inI i 0 (M.1 34 24 - 1))))) (M) := by
  refine Clz.on RX5 rfl (by decide +kernel) (Nat.le_of_ble_eq_true rfl) (fun X hL hO hr => ?_)
  show Gz X 0 [.ref 33, .int i] [] M
  refine r_iload_n hO dX5_isMember_0 rfl ?_
  refine r_i2l hO dX5_isMember_1 ?_
  refine r_lconst hO dX5_isMember_2 lc_0 ?_
  refine r_aload_n hO dX5_isMember_3 rfl ?_
  refine r_getR 34 hO dX5_isMember_4 fRX5_7 rfl ?_
  refine r_bipush hO dX5_isMember_7 bc_24 ?_
  refine s_iald 123 hO dX5_isMember_9 rfl (Nat.le_of_ble_eq_true rfl) 24 (by decide) (by decide) ?_
  refine r_iconst hO dX5_isMember_10 ic_1 ?_
  refine r_isub hO dX5_isMember_11 ?_
  refine r_i2l hO dX5_isMember_12 ?_
  refine r_fS hO dX5_isMember_13 kRX5_56 msX5_in (zX5_in _) ⟨Nat.le_of_ble_eq_true rfl, Nat.le_of_ble_eq_true rfl, rfl, Nat.le_of_ble_eq_true rfl⟩ rfl ?_
  exact r_ireturn hO hr dX5_isMember_16 bI_n ⟨sI (inLc (lo := 0) (by decide) rfl), rfl⟩
set_option maxHeartbeats 4000000 in
theorem zX5_of (l : Launch) {M : Mm} {x y : Int32} (a b : Nat) (hx : x = nI a) (hy : y = nI b) (hab : 4 * a + b < 41) : CFz l 0 yX5_of cX5_of 3 (some .int) [.ref 33, .int x, .int y] M (some (.int (M.1 35 (4 * a + b)))) (M) := by
  refine Clz.on RX5 rfl (by decide +kernel) (Nat.le_of_ble_eq_true rfl) (fun X hL hO hr => ?_)
  show Gz X 0 [.ref 33, .int x, .int y] [] M
  refine r_aload_n hO dX5_of_0 rfl ?_
  refine r_getR 35 hO dX5_of_1 fRX5_13 rfl ?_
  refine r_iconst hO dX5_of_4 ic_4 ?_
  refine r_iload_n hO dX5_of_5 rfl ?_
  refine r_imul hO dX5_of_6 ?_
  refine r_iload_n hO dX5_of_7 rfl ?_
  refine r_iadd hO dX5_of_8 ?_
  refine s_iald 41 hO dX5_of_9 rfl (Nat.le_of_ble_eq_true rfl) (4 * a + b) (ix4 hx hy) hab ?_
  exact r_ireturn hO hr dX5_of_10 rfl ⟨rfl, rfl⟩
set_option maxHeartbeats 4000000 in
theorem zX5_becomesOf (l : Launch) {M : Mm} {x y v : Int32} (a b : Nat) (hx : x = nI a) (hy : y = nI b) (hab : 4 * a + b < 41) : CFz l 0 yX5_becomesOf cX5_becomesOf 4 none [.ref 33, .int x, .int y, .int v] M (none) (mput M 35 (4 * a + b) v) := by
  refine Clz.on RX5 rfl (by decide +kernel) (Nat.le_of_ble_eq_true rfl) (fun X hL hO hr => ?_)
  show Gz X 0 [.ref 33, .int x, .int y, .int v] [] M
  refine r_aload_n hO dX5_becomesOf_0 rfl ?_
  refine r_getR 35 hO dX5_becomesOf_1 fRX5_13 rfl ?_
  refine r_iconst hO dX5_becomesOf_4 ic_4 ?_
  refine r_iload_n hO dX5_becomesOf_5 rfl ?_
  refine r_imul hO dX5_becomesOf_6 ?_
  refine r_iload_n hO dX5_becomesOf_7 rfl ?_
  refine r_iadd hO dX5_becomesOf_8 ?_
  refine r_iload_n hO dX5_becomesOf_9 rfl ?_
  refine s_iast 41 hO dX5_becomesOf_10 rfl (Nat.le_of_ble_eq_true rfl) (4 * a + b) (ix4 hx hy) hab ?_
  exact r_return hO hr dX5_becomesOf_11 ⟨rfl, rfl⟩
set_option maxHeartbeats 4000000 in
theorem zX5_awayBy (l : Launch) {M : Mm} {x : Int32} (a : Nat) (hx : x = nI a) (ha : a < 6) : CFz l 1 yX5_awayBy cX5_awayBy 2 (some .int) [.ref 33, .int x] M (some (.int (M.1 35 (4 * a + 2) - M.1 35 25))) (M) := by
  refine Clz.on RX5 rfl (by decide +kernel) (Nat.le_of_ble_eq_true rfl) (fun X hL hO hr => ?_)
  show Gz X 0 [.ref 33, .int x] [] M
  refine r_aload_n hO dX5_awayBy_0 rfl ?_
  refine r_iload_n hO dX5_awayBy_1 rfl ?_
  refine r_iconst hO dX5_awayBy_2 ic_2 ?_
  refine r_fV hO dX5_awayBy_3 kRX5_131 miX5_of (zX5_of _ a 2 hx rfl (by omega)) ⟨Nat.le_of_ble_eq_true rfl, Nat.le_of_ble_eq_true rfl, rfl, Nat.le_of_ble_eq_true rfl⟩ rfl rfl ?_
  refine r_aload_n hO dX5_awayBy_6 rfl ?_
  refine r_getR 35 hO dX5_awayBy_7 fRX5_13 rfl ?_
  refine r_bipush hO dX5_awayBy_10 bc_25 ?_
  refine s_iald 41 hO dX5_awayBy_12 rfl (Nat.le_of_ble_eq_true rfl) 25 (by decide) (by decide) ?_
  refine r_isub hO dX5_awayBy_13 ?_
  exact r_ireturn hO hr dX5_awayBy_14 rfl ⟨rfl, rfl⟩
set_option maxHeartbeats 4000000 in
theorem zX5_votes (l : Launch) {M : Mm} {x : Int32} (a : Nat) (hx : x = nI a) (ha : a < 6) : CFz l 2 yX5_votes cX5_votes 2 (some .boolean) [.ref 33, .int x] M (some (.int (bI (vtI (M.1 35 (4 * a + 2)) (M.1 35 25) (M.1 35 (4 * a + 3)))))) (M) := by
  refine Clz.on RX5 rfl (by decide +kernel) (Nat.le_of_ble_eq_true rfl) (fun X hL hO hr => ?_)
  show Gz X 0 [.ref 33, .int x] [] M
  refine r_aload_n hO dX5_votes_0 rfl ?_
  refine r_iload_n hO dX5_votes_1 rfl ?_
  refine r_fV hO dX5_votes_2 kRX5_135 miX5_awayBy (zX5_awayBy _ a hx ha) ⟨Nat.le_of_ble_eq_true rfl, Nat.le_of_ble_eq_true rfl, rfl, Nat.le_of_ble_eq_true rfl⟩ rfl rfl ?_
  refine r_i2l hO dX5_votes_5 ?_
  refine r_aload_n hO dX5_votes_6 rfl ?_
  refine r_iload_n hO dX5_votes_7 rfl ?_
  refine r_iconst hO dX5_votes_8 ic_3 ?_
  refine r_fV hO dX5_votes_9 kRX5_131 miX5_of (zX5_of _ a 3 hx rfl (by omega)) ⟨Nat.le_of_ble_eq_true rfl, Nat.le_of_ble_eq_true rfl, rfl, Nat.le_of_ble_eq_true rfl⟩ rfl rfl ?_
  refine r_ineg hO dX5_votes_12 ?_
  refine r_i2l hO dX5_votes_13 ?_
  refine r_aload_n hO dX5_votes_14 rfl ?_
  refine r_iload_n hO dX5_votes_15 rfl ?_
  refine r_iconst hO dX5_votes_16 ic_3 ?_
  refine r_fV hO dX5_votes_17 kRX5_131 miX5_of (zX5_of _ a 3 hx rfl (by omega)) ⟨Nat.le_of_ble_eq_true rfl, Nat.le_of_ble_eq_true rfl, rfl, Nat.le_of_ble_eq_true rfl⟩ rfl rfl ?_
  refine r_i2l hO dX5_votes_20 ?_
  refine r_fS hO dX5_votes_21 kRX5_56 msX5_in (zX5_in _) ⟨Nat.le_of_ble_eq_true rfl, Nat.le_of_ble_eq_true rfl, rfl, Nat.le_of_ble_eq_true rfl⟩ rfl ?_
  exact r_ireturn hO hr dX5_votes_24 bI_n ⟨sI (inLc rfl rfl), rfl⟩
set_option maxHeartbeats 4000000 in
theorem zX5_pull (l : Launch) {M : Mm} {x : Int32} (a : Nat) (hx : x = nI a) (ha : a < 6) : CFz l 2 yX5_pull cX5_pull 4 (some .int) [.ref 33, .int x] M (some (.int (plI (M.1 35 (4 * a)) (M.1 35 (4 * a + 2) - M.1 35 25)))) (M) := by
  refine Clz.on RX5 rfl (by decide +kernel) (Nat.le_of_ble_eq_true rfl) (fun X hL hO hr => ?_)
  show Gz X 0 [.ref 33, .int x, .null, .null] [] M
  refine r_aload_n hO dX5_pull_0 rfl ?_
  refine r_iload_n hO dX5_pull_1 rfl ?_
  refine r_fV hO dX5_pull_2 kRX5_135 miX5_awayBy (zX5_awayBy _ a hx ha) ⟨Nat.le_of_ble_eq_true rfl, Nat.le_of_ble_eq_true rfl, rfl, Nat.le_of_ble_eq_true rfl⟩ rfl rfl ?_
  refine s_istore_n hL hO dX5_pull_5 (Nat.le_of_ble_eq_true rfl) rfl ?_
  refine r_iload_n hO dX5_pull_6 rfl ?_
  refine r_i2l hO dX5_pull_7 ?_
  refine r_ldc2 hO dX5_pull_8 wRX5_138 ?_
  refine r_ldc2 hO dX5_pull_11 wRX5_140 ?_
  refine r_fS hO dX5_pull_14 kRX5_56 msX5_in (zX5_in _) ⟨Nat.le_of_ble_eq_true rfl, Nat.le_of_ble_eq_true rfl, rfl, Nat.le_of_ble_eq_true rfl⟩ rfl ?_
  refine r_if_eq 24 hO dX5_pull_17 (by decide) (fun h17 => ?_) (fun h17 => ?_)
  · rw [inLc (lo := -2) (hi := 2) (by decide) (by decide)] at h17
    rw [bI_0] at h17
    refine r_iload_n hO dX5_pull_24 rfl ?_
    refine r_fS hO dX5_pull_25 kRX5_142 msX5_sign (zX5_sign _) ⟨Nat.le_of_ble_eq_true rfl, Nat.le_of_ble_eq_true rfl, rfl, Nat.le_of_ble_eq_true rfl⟩ rfl ?_
    refine s_istore_n hL hO dX5_pull_28 (Nat.le_of_ble_eq_true rfl) rfl ?_
    refine r_aload_n hO dX5_pull_29 rfl ?_
    refine r_iload_n hO dX5_pull_30 rfl ?_
    refine r_iconst hO dX5_pull_31 ic_0 ?_
    refine r_fV hO dX5_pull_32 kRX5_131 miX5_of (zX5_of _ a 0 hx rfl (by omega)) ⟨Nat.le_of_ble_eq_true rfl, Nat.le_of_ble_eq_true rfl, rfl, Nat.le_of_ble_eq_true rfl⟩ rfl rfl ?_
    rcases sw_1_3 (M.1 35 (4 * a + 0)) with sw35 | sw35 | sw35 | sw35
    · have sq : M.1 35 (4 * a) = _ := sw35
      refine r_tabIn 60 hO dX5_pull_35 (by rw [sw35]; decide) (by rw [sw35]; decide) (by rw [sw35]; rfl) (by decide) ?_
      refine r_iconst hO dX5_pull_60 ic_2 ?_
      refine r_iload_n hO dX5_pull_61 rfl ?_
      refine r_fS hO dX5_pull_62 kRX5_142 msX5_sign (zX5_sign _) ⟨Nat.le_of_ble_eq_true rfl, Nat.le_of_ble_eq_true rfl, rfl, Nat.le_of_ble_eq_true rfl⟩ rfl ?_
      refine r_imul hO dX5_pull_65 ?_
      exact r_ireturn hO hr dX5_pull_66 rfl ⟨sI (by simp [plI, dbI, sq, h17]), rfl⟩
    · have sq : M.1 35 (4 * a) = _ := sw35
      refine r_tabIn 67 hO dX5_pull_35 (by rw [sw35]; decide) (by rw [sw35]; decide) (by rw [sw35]; rfl) (by decide) ?_
      refine r_iload_n hO dX5_pull_67 rfl ?_
      exact r_ireturn hO hr dX5_pull_68 rfl ⟨sI (by simp [plI, dbI, sq, h17]), rfl⟩
    · have sq : M.1 35 (4 * a) = _ := sw35
      refine r_tabIn 69 hO dX5_pull_35 (by rw [sw35]; decide) (by rw [sw35]; decide) (by rw [sw35]; rfl) (by decide) ?_
      refine r_iload_n hO dX5_pull_69 rfl ?_
      refine r_ineg hO dX5_pull_70 ?_
      exact r_ireturn hO hr dX5_pull_71 rfl ⟨sI (by simp [plI, dbI, sq, h17]), rfl⟩
    · have swn : ¬ M.1 35 (4 * a) = 1 ∧ ¬ M.1 35 (4 * a) = 2 ∧ ¬ M.1 35 (4 * a) = 3 := sw13n sw35
      refine r_tabOut 72 hO dX5_pull_35 sw35 (by decide) ?_
      refine r_iload_n hO dX5_pull_72 rfl ?_
      refine r_fS hO dX5_pull_73 kRX5_142 msX5_sign (zX5_sign _) ⟨Nat.le_of_ble_eq_true rfl, Nat.le_of_ble_eq_true rfl, rfl, Nat.le_of_ble_eq_true rfl⟩ rfl ?_
      exact r_ireturn hO hr dX5_pull_76 rfl ⟨sI (by simp [plI, dbI, swn.1, swn.2.1, swn.2.2, h17]), rfl⟩
  · rw [inLc (lo := -2) (hi := 2) (by decide) (by decide)] at h17
    rw [bI_n0] at h17
    refine r_iconst hO dX5_pull_20 ic_0 ?_
    refine r_goto 28 hO dX5_pull_21 (by decide) ?_
    refine s_istore_n hL hO dX5_pull_28 (Nat.le_of_ble_eq_true rfl) rfl ?_
    refine r_aload_n hO dX5_pull_29 rfl ?_
    refine r_iload_n hO dX5_pull_30 rfl ?_
    refine r_iconst hO dX5_pull_31 ic_0 ?_
    refine r_fV hO dX5_pull_32 kRX5_131 miX5_of (zX5_of _ a 0 hx rfl (by omega)) ⟨Nat.le_of_ble_eq_true rfl, Nat.le_of_ble_eq_true rfl, rfl, Nat.le_of_ble_eq_true rfl⟩ rfl rfl ?_
    rcases sw_1_3 (M.1 35 (4 * a + 0)) with sw35 | sw35 | sw35 | sw35
    · have sq : M.1 35 (4 * a) = _ := sw35
      refine r_tabIn 60 hO dX5_pull_35 (by rw [sw35]; decide) (by rw [sw35]; decide) (by rw [sw35]; rfl) (by decide) ?_
      refine r_iconst hO dX5_pull_60 ic_2 ?_
      refine r_iload_n hO dX5_pull_61 rfl ?_
      refine r_fS hO dX5_pull_62 kRX5_142 msX5_sign (zX5_sign _) ⟨Nat.le_of_ble_eq_true rfl, Nat.le_of_ble_eq_true rfl, rfl, Nat.le_of_ble_eq_true rfl⟩ rfl ?_
      refine r_imul hO dX5_pull_65 ?_
      exact r_ireturn hO hr dX5_pull_66 rfl ⟨sI (by simp [plI, dbI, sq, h17]), rfl⟩
    · have sq : M.1 35 (4 * a) = _ := sw35
      refine r_tabIn 67 hO dX5_pull_35 (by rw [sw35]; decide) (by rw [sw35]; decide) (by rw [sw35]; rfl) (by decide) ?_
      refine r_iload_n hO dX5_pull_67 rfl ?_
      exact r_ireturn hO hr dX5_pull_68 rfl ⟨sI (by simp [plI, dbI, sq, h17]), rfl⟩
    · have sq : M.1 35 (4 * a) = _ := sw35
      refine r_tabIn 69 hO dX5_pull_35 (by rw [sw35]; decide) (by rw [sw35]; decide) (by rw [sw35]; rfl) (by decide) ?_
      refine r_iload_n hO dX5_pull_69 rfl ?_
      refine r_ineg hO dX5_pull_70 ?_
      exact r_ireturn hO hr dX5_pull_71 rfl ⟨sI (by simp [plI, dbI, sq, h17]), rfl⟩
    · have swn : ¬ M.1 35 (4 * a) = 1 ∧ ¬ M.1 35 (4 * a) = 2 ∧ ¬ M.1 35 (4 * a) = 3 := sw13n sw35
      refine r_tabOut 72 hO dX5_pull_35 sw35 (by decide) ?_
      refine r_iload_n hO dX5_pull_72 rfl ?_
      refine r_fS hO dX5_pull_73 kRX5_142 msX5_sign (zX5_sign _) ⟨Nat.le_of_ble_eq_true rfl, Nat.le_of_ble_eq_true rfl, rfl, Nat.le_of_ble_eq_true rfl⟩ rfl ?_
      exact r_ireturn hO hr dX5_pull_76 rfl ⟨sI (by simp [plI, dbI, swn.1, swn.2.1, swn.2.2, h17]), rfl⟩
set_option maxHeartbeats 4000000 in
theorem zX5_isOf (l : Launch) {M : Mm} {x h : Int32} (a : Nat) (hx : x = nI a) (ha : a < 6) : CFz l 1 yX5_isOf cX5_isOf 3 (some .boolean) [.ref 33, .int x, .int h] M (some (.int (bI (decide (x ≠ M.1 33 13 ∧ M.1 35 (4 * a + 1) = h))))) (M) := by
  refine Clz.on RX5 rfl (by decide +kernel) (Nat.le_of_ble_eq_true rfl) (fun X hL hO hr => ?_)
  show Gz X 0 [.ref 33, .int x, .int h] [] M
  refine r_iload_n hO dX5_isOf_0 rfl ?_
  refine r_aload_n hO dX5_isOf_1 rfl ?_
  refine r_getI hO dX5_isOf_2 fRX5_125 rfl ?_
  refine r_icmp_eq 22 hO dX5_isOf_5 (by decide) (fun h5 => ?_) (fun h5 => ?_)
  · refine r_iconst hO dX5_isOf_22 ic_0 ?_
    exact r_ireturn hO hr dX5_isOf_23 rfl ⟨sI (by simp [bI, h5]), rfl⟩
  · refine r_aload_n hO dX5_isOf_8 rfl ?_
    refine r_iload_n hO dX5_isOf_9 rfl ?_
    refine r_iconst hO dX5_isOf_10 ic_1 ?_
    refine r_fV hO dX5_isOf_11 kRX5_131 miX5_of (zX5_of _ a 1 hx rfl (by omega)) ⟨Nat.le_of_ble_eq_true rfl, Nat.le_of_ble_eq_true rfl, rfl, Nat.le_of_ble_eq_true rfl⟩ rfl rfl ?_
    refine r_iload_n hO dX5_isOf_14 rfl ?_
    refine r_icmp_ne 22 hO dX5_isOf_15 (by decide) (fun h15 => ?_) (fun h15 => ?_)
    · refine r_iconst hO dX5_isOf_22 ic_0 ?_
      exact r_ireturn hO hr dX5_isOf_23 rfl ⟨sI (by simp [bI, h5, h15]), rfl⟩
    · refine r_iconst hO dX5_isOf_18 ic_1 ?_
      refine r_goto 23 hO dX5_isOf_19 (by decide) ?_
      exact r_ireturn hO hr dX5_isOf_23 rfl ⟨sI (by simp [bI, h5, h15]), rfl⟩
set_option maxHeartbeats 4000000 in
theorem zX5_byteAt (l : Launch) {M : Mm} {x : Int32} (a : Nat) (hx : x = nI a) (n : Nat) (hn : M.1 33 6 = nI n) (hn2 : n ≤ 160) (ha : a < 1000) : CFz l 0 yX5_byteAt cX5_byteAt 2 (some .int) [.ref 33, .int x] M (some (.int (if a < n then M.1 38 a else -1))) (M) := by
  refine Clz.on RX5 rfl (by decide +kernel) (Nat.le_of_ble_eq_true rfl) (fun X hL hO hr => ?_)
  show Gz X 0 [.ref 33, .int x] [] M
  refine r_iload_n hO dX5_byteAt_0 rfl ?_
  refine r_aload_n hO dX5_byteAt_1 rfl ?_
  refine r_getI hO dX5_byteAt_2 fRX5_60 rfl ?_
  refine r_icmp_ge 17 hO dX5_byteAt_5 (by decide) (fun h5 => ?_) (fun h5 => ?_)
  · rw [hx, hn, nI_leI (by omega) (by omega)] at h5
    refine r_iconst hO dX5_byteAt_17 ic_m1 ?_
    exact r_ireturn hO hr dX5_byteAt_18 rfl ⟨sI (by rw [if_neg (by omega)]), rfl⟩
  · rw [hx, hn, nI_leI (by omega) (by omega)] at h5
    refine r_aload_n hO dX5_byteAt_8 rfl ?_
    refine r_getR 38 hO dX5_byteAt_9 fRX5_23 rfl ?_
    refine r_iload_n hO dX5_byteAt_12 rfl ?_
    refine s_iald 160 hO dX5_byteAt_13 rfl (Nat.le_of_ble_eq_true rfl) a hx (by omega) ?_
    refine r_goto 18 hO dX5_byteAt_14 (by decide) ?_
    exact r_ireturn hO hr dX5_byteAt_18 rfl ⟨sI (by rw [if_pos (by omega)]), rfl⟩
set_option maxHeartbeats 4000000 in
theorem zX5_requires (l : Launch) {M : Mm} {g co : Int32} : CFz l 0 yX5_requires cX5_requires 3 none [.ref 33, .int g, .int co] M (none) (if g = 0 ∧ M.1 33 11 = 0 then mput (mput M 33 11 co) 33 12 (M.1 33 8) else M) := by
  refine Clz.on RX5 rfl (by decide +kernel) (Nat.le_of_ble_eq_true rfl) (fun X hL hO hr => ?_)
  show Gz X 0 [.ref 33, .int g, .int co] [] M
  refine r_iload_n hO dX5_requires_0 rfl ?_
  refine r_if_ne 24 hO dX5_requires_1 (by decide) (fun h1 => ?_) (fun h1 => ?_)
  · exact r_return hO hr dX5_requires_24 ⟨rfl, by simp [mpg, h1]⟩
  · refine r_aload_n hO dX5_requires_4 rfl ?_
    refine r_getI hO dX5_requires_5 fRX5_64 rfl ?_
    refine r_if_ne 24 hO dX5_requires_8 (by decide) (fun h8 => ?_) (fun h8 => ?_)
    · exact r_return hO hr dX5_requires_24 ⟨rfl, by simp [mpg, h1, h8]⟩
    · refine r_aload_n hO dX5_requires_11 rfl ?_
      refine r_iload_n hO dX5_requires_12 rfl ?_
      refine r_putI hO dX5_requires_13 fRX5_64 rfl ?_
      refine r_aload_n hO dX5_requires_16 rfl ?_
      refine r_aload_n hO dX5_requires_17 rfl ?_
      refine r_getI hO dX5_requires_18 fRX5_67 rfl ?_
      refine r_putI hO dX5_requires_21 fRX5_70 rfl ?_
      exact r_return hO hr dX5_requires_24 ⟨rfl, by simp [mpg, h1, h8]⟩
