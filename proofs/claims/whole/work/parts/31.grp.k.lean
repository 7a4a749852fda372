/-! ask -/
def tA (σ : Sta) (a d v : Nat) : Nat := (runS d (sMb (nuS σ.1) a 2 v)).2.1
def soA (σ : Sta) (a v : Nat) : Bool := soS σ (sMb (nuS σ.1) a 2 v)
def lsA (σ : Sta) (a n : Nat) : List Nat := (List.range n).filter (soA σ a)
def mxF (f : Nat → Nat) : Nat → Nat → Nat → Nat
  | 0, _, m => m
  | r + 1, j, m => mxF f r (j + 1) (max m (f j))
theorem mxF_le (f : Nat → Nat) (b : Nat) : ∀ (r j m : Nat), mxF f r j m ≤ b ↔ m ≤ b ∧ ∀ i, j ≤ i → i < j + r → f i ≤ b := by
  intro r
  induction r with
  | zero => intro j m; exact ⟨fun h => ⟨h, fun i h1 h2 => absurd h2 (by omega)⟩, fun h => h.1⟩
  | succ r ih =>
    intro j m
    show mxF f r (j + 1) (max m (f j)) ≤ b ↔ _
    rw [ih]
    constructor
    · intro h
      refine ⟨by omega, fun i h1 h2 => ?_⟩
      by_cases e : i = j
      · subst e; omega
      · exact h.2 i (by omega) (by omega)
    · intro h
      have := h.2 j (by omega) (by omega)
      exact ⟨by have := h.1; omega, fun i h1 h2 => h.2 i (by omega) (by omega)⟩
def wC (xs : List Nat) : Nat := mxF (fun v => xs.count v) 21 0 0
def wR (xs : List Nat) : Nat := mxF (fun a => xs.count (xs.getD a 0)) xs.length 0 0
theorem wCR {xs : List Nat} (h : ∀ x ∈ xs, x ≤ 20) : wR xs = wC xs := by
  apply Nat.le_antisymm
  · unfold wR
    rw [mxF_le]
    refine ⟨Nat.zero_le _, fun i _ hi => ?_⟩
    have hi : i < xs.length := by omega
    have hm : xs.getD i 0 ∈ xs := by rw [List.getD_eq_getElem?_getD, List.getElem?_eq_getElem hi]; exact List.getElem_mem hi
    have hb := h _ hm
    have := (mxF_le (fun v => xs.count v) (wC xs) 21 0 0).mp (Nat.le_refl _)
    exact this.2 _ (Nat.zero_le _) (by omega)
  · unfold wC
    rw [mxF_le]
    refine ⟨Nat.zero_le _, fun i _ hi => ?_⟩
    by_cases hm : i ∈ xs
    · obtain ⟨k, hk⟩ := List.getElem?_of_mem hm
      have hk2 := (List.getElem?_eq_some_iff.mp hk).1
      have := (mxF_le (fun a => xs.count (xs.getD a 0)) (wR xs) xs.length 0 0).mp (Nat.le_refl _)
      have := this.2 k (Nat.zero_le _) (by omega)
      rw [List.getD_eq_getElem?_getD, hk] at this
      exact this
    · rw [List.count_eq_zero_of_not_mem hm]; exact Nat.zero_le _
theorem wC_le (xs : List Nat) : wC xs ≤ xs.length := (mxF_le _ _ _ _ _).mpr ⟨Nat.zero_le _, fun i _ _ => List.count_le_length⟩
def xsA (σ : Sta) (a d : Nat) : List Nat := (lsA σ a 21).map (tA σ a d)
def askF (σ : Sta) (a : Nat) : Nat → Option Nat := fun d => some (wC (xsA σ a d))
def p_ask (σ : Sta) (i w : Int32) : Int32 := if inI i 0 (nI σ.1.1.length - 1) = true ∧ inI w 0 1 = true then p_soon (askF σ i.toNatClampNeg) 21 (some (lsA σ i.toNatClampNeg 21).length) w else -1
theorem lsA_s (σ : Sta) (a n : Nat) : lsA σ a (n + 1) = lsA σ a n ++ (if soA σ a n = true then [n] else []) := by
  unfold lsA
  rw [List.range_succ, List.filter_append]
  congr 1
  rw [List.filter_cons, List.filter_nil]
theorem lsA_t {σ : Sta} {a n : Nat} (h : soA σ a n = true) : lsA σ a (n + 1) = lsA σ a n ++ [n] := by rw [lsA_s, if_pos h]
theorem lsA_f {σ : Sta} {a n : Nat} (h : soA σ a n = false) : lsA σ a (n + 1) = lsA σ a n := by rw [lsA_s, if_neg (by rw [h]; decide), List.append_nil]
theorem lsA_len (σ : Sta) (a n : Nat) : (lsA σ a n).length ≤ n := by unfold lsA; exact Nat.le_trans (List.length_filter_le _ _) (by rw [List.length_range]; exact Nat.le_refl _)
/-- the class's tally over a list of wants; the rows below j already with one more -/
def TaC (M : Mm) (σ : Sta) (a : Nat) (P : List Nat) (j v : Nat) : Prop := ∀ d u, d < 21 → u < 21 → M.1 32 (d * 21 + u) = nI (((if d < j then P ++ [v] else P).map (tA σ a d)).count u)
theorem TaC.z {M : Mm} {σ : Sta} {a : Nat} {P : List Nat} {v v' : Nat} (h : TaC M σ a P 0 v) : TaC M σ a P 0 v' := fun d u hd hu => by rw [if_neg (by omega)]; have := h d u hd hu; rw [if_neg (by omega)] at this; exact this
theorem TaC.up {M : Mm} {σ : Sta} {a : Nat} {P : List Nat} {v v' : Nat} (h : TaC M σ a P 21 v) : TaC M σ a (P ++ [v]) 0 v' := fun d u hd hu => by rw [if_neg (by omega)]; have := h d u hd hu; rw [if_pos (by omega)] at this; exact this
theorem TaC.eq {M M' : Mm} {σ : Sta} {a : Nat} {P : List Nat} {j v : Nat} (h : TaC M σ a P j v) (e : ∀ k, M'.1 32 k = M.1 32 k) : TaC M' σ a P j v := fun d u hd hu => by rw [e]; exact h d u hd hu
theorem TaC.step {M : Mm} {σ : Sta} {a : Nat} {P : List Nat} {j v t : Nat} (h : TaC M σ a P j v) (hj : j < 21) (ht : t < 21) (et : tA σ a j v = t) : TaC (mput M 32 (j * 21 + t) (M.1 32 (j * 21 + t) + 1)) σ a P (j + 1) v := by
  intro d u hd hu
  rw [mpg]
  by_cases e : d = j
  · subst e
    rw [show (if d < d + 1 then P ++ [v] else P) = P ++ [v] from if_pos (by omega), List.map_append, List.count_append, List.map_cons, List.map_nil, et]
    have h1 := h d u hd hu
    rw [if_neg (by omega)] at h1
    by_cases e2 : u = t
    · subst e2
      rw [if_pos ⟨rfl, rfl⟩, h1, nI_1, List.count_singleton_self]
    · rw [if_neg (by omega), h1, List.count_singleton, if_neg (by simp; omega), Nat.add_zero]
  · have h1 := h d u hd hu
    rw [if_neg (by omega), h1]
    by_cases e2 : d < j
    · rw [if_pos e2, if_pos (by omega)]
    · rw [if_neg e2, if_neg (by omega)]
theorem FQ.ta {M : Mm} {f : Nat → Int32} : FQ M (mset M 32 f) := ⟨fun a j h1 h2 h3 => by rw [msg, if_neg (by omega)], rfl⟩
/-- the reference's rows of the wants that are so -/
def BwR (M : Mm) (σ : Sta) (a : Nat) (P : List Nat) : Prop := ∀ i v n, P[i]? = some v → n < 21 → M.1 40 (21 * i + n) = nI (tA σ a n v)
theorem BwR.eq {M M' : Mm} {σ : Sta} {a : Nat} {P : List Nat} (h : BwR M σ a P) (e : ∀ k, M'.1 40 k = M.1 40 k) : BwR M' σ a P := fun i v n hi hn => by rw [e]; exact h i v n hi hn
theorem BwR.put {M : Mm} {σ : Sta} {a : Nat} {P : List Nat} (h : BwR M σ a P) {k : Nat} {x : Int32} (hk : 21 * P.length ≤ k) : BwR (mput M 40 k x) σ a P := fun i v n hi hn => by
  have := (List.getElem?_eq_some_iff.mp hi).1
  rw [mpg, if_neg (by omega)]; exact h i v n hi hn
theorem BwR.push {M : Mm} {σ : Sta} {a : Nat} {P : List Nat} (h : BwR M σ a P) {v : Nat} (e : ∀ n, n < 21 → M.1 40 (21 * P.length + n) = nI (tA σ a n v)) : BwR M σ a (P ++ [v]) := by
  intro i w n hi hn
  rw [List.getElem?_append] at hi
  split at hi
  · exact h i w n hi hn
  · rename_i hl
    have h1 := (List.getElem?_eq_some_iff.mp hi)
    obtain ⟨h2, h3⟩ := h1
    simp at h2
    have h4 : i = P.length := by omega
    subst h4
    simp at h3
    subst h3
    exact e n hn
theorem FR.fs {M M' : Mm} (h : FS M M') : FR M M' := h.r
set_option maxHeartbeats 4000000 in
theorem zX4_tallyWants (l : Launch) {M : Mm} {σ : Sta} (h : RC M σ) {x : Int32} (a : Nat) (hx : x = nI a) (ha : a < σ.1.1.length) : Clz l 5 yX4_tallyWants cX4_tallyWants 5 (some .int) [.ref 0, .int x] M (fun r M' => r = some (.int (nI (lsA σ a 21).length)) ∧ FQ M M' ∧ TaC M' σ a (lsA σ a 21) 0 0) := by
  refine Clz.on RX4 rfl (by decide +kernel) (Nat.le_of_ble_eq_true rfl) (fun X hL hO hr => ?_)
  show Gz X 0 [.ref 0, .int x, .null, .null, .null] [] M
  refine r_aload_n hO dX4_tallyWants_0 rfl ?_
  refine r_getR 32 hO dX4_tallyWants_1 fRX4_51 rfl ?_
  refine r_iconst hO dX4_tallyWants_4 ic_0 ?_
  refine r_fS hO dX4_tallyWants_5 kRX4_233 msJ7_fill_53178 (zJ7_fill_53178 _ 441 rfl (Nat.le_of_ble_eq_true rfl)) ⟨Nat.le_of_ble_eq_true rfl, Nat.le_of_ble_eq_true rfl, rfl, Nat.le_of_ble_eq_true rfl⟩ rfl ?_
  refine r_iconst hO dX4_tallyWants_8 ic_0 ?_
  refine s_istore_n hL hO dX4_tallyWants_9 (Nat.le_of_ble_eq_true rfl) rfl ?_
  refine r_iconst hO dX4_tallyWants_10 ic_0 ?_
  refine s_istore_n hL hO dX4_tallyWants_11 (Nat.le_of_ble_eq_true rfl) rfl ?_
  have loop : ∀ (r j : Nat) (M1 : Mm), j + r = 21 → FQ M M1 → TaC M1 σ a (lsA σ a j) 0 0 → Gz X 12 [.ref 0, .int x, .int (nI (lsA σ a j).length), .int (nI j), .null] [] M1 := by
    intro r
    induction r with
    | zero =>
      intro j M1 hjr hF hT
      refine r_iload_n hO dX4_tallyWants_12 rfl ?_
      refine r_bipush hO dX4_tallyWants_13 bc_20 ?_
      refine r_icmp_gt 79 hO dX4_tallyWants_15 (by decide) (fun _ => ?_) (fun z => absurd (by rw [show (20 : Int32) = nI 20 from rfl]; exact nI_lt (by omega) (by omega)) z)
      refine r_iload_n hO dX4_tallyWants_79 rfl ?_
      have e : j = 21 := by omega
      rw [e] at hT ⊢
      exact r_ireturn hO hr dX4_tallyWants_80 rfl ⟨rfl, hF, hT.z⟩
    | succ r ih =>
      intro j M1 hjr hF hT
      refine r_iload_n hO dX4_tallyWants_12 rfl ?_
      refine r_bipush hO dX4_tallyWants_13 bc_20 ?_
      refine r_icmp_gt 79 hO dX4_tallyWants_15 (by decide) (fun z => absurd z (by rw [show (20 : Int32) = nI 20 from rfl]; exact nI_nlt (by omega) (by omega))) (fun _ => ?_)
      refine r_aload_n hO dX4_tallyWants_18 rfl ?_
      refine r_iload_n hO dX4_tallyWants_19 rfl ?_
      refine r_iconst hO dX4_tallyWants_20 ic_2 ?_
      refine r_iload_n hO dX4_tallyWants_21 rfl ?_
      refine r_callV hO dX4_tallyWants_22 kRX4_227 miX4_traceWith (zX4_traceWith _ (h.q hF) a 2 j hx rfl rfl ha (by decide) (by show j ≤ 20; omega)) ⟨Nat.le_of_ble_eq_true rfl, Nat.le_of_ble_eq_true rfl, rfl, Nat.le_of_ble_eq_true rfl⟩ rfl rfl (fun q M2 hpo => ?_)
      obtain ⟨rfl, F, T⟩ := hpo
      refine r_aload_n hO dX4_tallyWants_25 rfl ?_
      refine r_fV hO dX4_tallyWants_26 kRX4_230 miX4_traceIsAsSeen (zX4_traceIsAsSeen _ (h.q (hF.tr F.q)) T) ⟨Nat.le_of_ble_eq_true rfl, Nat.le_of_ble_eq_true rfl, rfl, Nat.le_of_ble_eq_true rfl⟩ rfl rfl ?_
      refine r_if_eq 73 hO dX4_tallyWants_29 (by decide) (fun h29 => ?_) (fun h29 => ?_)
      · refine s_iinc hL hO dX4_tallyWants_73 rfl ic_1 (Nat.le_of_ble_eq_true rfl) rfl ?_
        refine r_goto 12 hO dX4_tallyWants_76 (by decide) ?_
        rw [bI_0] at h29
        show Gz X 12 [.ref 0, .int x, .int (nI (lsA σ a j).length), .int (nI j + 1), .null] [] M2
        rw [nI_1, show (lsA σ a j).length = (lsA σ a (j + 1)).length from by rw [lsA_f h29]]
        exact ih (j + 1) M2 (by omega) (hF.tr F.q) (by rw [lsA_f h29]; exact (hT.eq (fun k => F.1 32 k (by omega) (by omega))).z)
      · refine s_iinc hL hO dX4_tallyWants_32 rfl ic_1 (Nat.le_of_ble_eq_true rfl) rfl ?_
        refine r_iconst hO dX4_tallyWants_35 ic_0 ?_
        refine s_istore hL hO dX4_tallyWants_36 (Nat.le_of_ble_eq_true rfl) rfl ?_
        rw [bI_n0] at h29
        have loop2 : ∀ (r2 d : Nat) (M3 : Mm), d + r2 = 21 → FQ M M3 → TrA M3 15 (sMb (nuS σ.1) a 2 j) 21 → TaC M3 σ a (lsA σ a j) d j → Gz X 38 [.ref 0, .int x, .int (nI (lsA σ a j).length + 1), .int (nI j), .int (nI d)] [] M3 := by
          intro r2
          induction r2 with
          | zero =>
            intro d M3 hdr hF3 hT3 hT2
            refine r_iload hO dX4_tallyWants_38 rfl ?_
            refine r_bipush hO dX4_tallyWants_40 bc_20 ?_
            refine r_icmp_gt 73 hO dX4_tallyWants_42 (by decide) (fun _ => ?_) (fun z => absurd (by rw [show (20 : Int32) = nI 20 from rfl]; exact nI_lt (by omega) (by omega)) z)
            refine s_iinc hL hO dX4_tallyWants_73 rfl ic_1 (Nat.le_of_ble_eq_true rfl) rfl ?_
            refine r_goto 12 hO dX4_tallyWants_76 (by decide) ?_
            have ed : d = 21 := by omega
            rw [ed] at hT2
            refine r_null 4 ?_
            show Gz X 12 [.ref 0, .int x, .int (nI (lsA σ a j).length + 1), .int (nI j + 1), .null] [] M3
            rw [nI_1, nI_1, show (lsA σ a j).length + 1 = (lsA σ a (j + 1)).length from by rw [lsA_t h29]; simp]
            exact ih (j + 1) M3 (by omega) hF3 (by rw [lsA_t h29]; exact hT2.up)
          | succ r2 ih2 =>
            intro d M3 hdr hF3 hT3 hT2
            refine r_iload hO dX4_tallyWants_38 rfl ?_
            refine r_bipush hO dX4_tallyWants_40 bc_20 ?_
            refine r_icmp_gt 73 hO dX4_tallyWants_42 (by decide) (fun z => absurd z (by rw [show (20 : Int32) = nI 20 from rfl]; exact nI_nlt (by omega) (by omega))) (fun _ => ?_)
            obtain ⟨t1, t2⟩ := hT3 d (by omega)
            have t1 : M3.1 15 d = nI (tA σ a d j) := t1
            have t2 : tA σ a d j ≤ 20 := t2
            refine r_aload_n hO dX4_tallyWants_45 rfl ?_
            refine r_getR 32 hO dX4_tallyWants_46 fRX4_51 rfl ?_
            refine r_iload hO dX4_tallyWants_49 rfl ?_
            refine r_bipush hO dX4_tallyWants_51 bc_21 ?_
            refine r_imul hO dX4_tallyWants_53 ?_
            refine r_aload_n hO dX4_tallyWants_54 rfl ?_
            refine r_getR 15 hO dX4_tallyWants_55 fRX4_47 rfl ?_
            refine r_iload hO dX4_tallyWants_58 rfl ?_
            refine s_iald 21 hO dX4_tallyWants_60 rfl (Nat.le_of_ble_eq_true rfl) d rfl (by omega) ?_
            refine r_iadd hO dX4_tallyWants_61 ?_
            refine r_dup2 hO dX4_tallyWants_62 rfl rfl ?_
            refine s_iald 441 hO dX4_tallyWants_63 rfl (Nat.le_of_ble_eq_true rfl) (d * 21 + tA σ a d j) (by rw [show (21 : Int32) = nI 21 from rfl, pk_mul, t1, nI_add]) (by omega) ?_
            refine r_iconst hO dX4_tallyWants_64 ic_1 ?_
            refine r_iadd hO dX4_tallyWants_65 ?_
            refine s_iast 441 hO dX4_tallyWants_66 rfl (Nat.le_of_ble_eq_true rfl) (d * 21 + tA σ a d j) (by rw [show (21 : Int32) = nI 21 from rfl, pk_mul, t1, nI_add]) (by omega) ?_
            refine s_iinc hL hO dX4_tallyWants_67 rfl ic_1 (Nat.le_of_ble_eq_true rfl) rfl ?_
            refine r_goto 38 hO dX4_tallyWants_70 (by decide) ?_
            show Gz X 38 [.ref 0, .int x, .int (nI (lsA σ a j).length + 1), .int (nI j), .int (nI d + 1)] [] _
            rw [nI_1 d]
            exact ih2 (d + 1) _ (by omega) (hF3.tr (FQ.put (by omega))) (hT3.eq (fun k => by rw [mpg, if_neg (by omega)])) (hT2.step (by omega) (by omega) rfl)
        exact loop2 21 0 M2 (by omega) (hF.tr F.q) T (hT.eq (fun k => F.1 32 k (by omega) (by omega))).z
  exact loop 21 0 _ (by omega) FQ.ta (fun d u hd hu => by rw [msg, if_pos rfl, if_pos (by omega), if_neg (by omega)]; rfl)
theorem mx_n {m c : Nat} (hm : m ≤ 21) (hc : c ≤ 21) : (if nI m < nI c then nI c else nI m) = nI (max m c) := by
  by_cases h : m < c
  · rw [if_pos (nI_lt h (by omega)), Nat.max_eq_right (by omega)]
  · rw [if_neg (nI_nlt (by omega) (by omega)), Nat.max_eq_left (by omega)]
set_option maxHeartbeats 4000000 in
theorem zX4_worstLeft (l : Launch) {M : Mm} {σ : Sta} {a : Nat} {P : List Nat} (hP : P.length ≤ 21) (T : TaC M σ a P 0 0) {x : Int32} (d : Nat) (hx : x = nI d) (hd : d < 21) : CFz l 1 yX4_worstLeft cX4_worstLeft 4 (some .int) [.ref 0, .int x] M (some (.int (nI (wC (P.map (tA σ a d)))))) (M) := by
  refine Clz.on RX4 rfl (by decide +kernel) (Nat.le_of_ble_eq_true rfl) (fun X hL hO hr => ?_)
  show Gz X 0 [.ref 0, .int x, .null, .null] [] M
  refine r_iconst hO dX4_worstLeft_0 ic_0 ?_
  refine s_istore_n hL hO dX4_worstLeft_1 (Nat.le_of_ble_eq_true rfl) rfl ?_
  refine r_iconst hO dX4_worstLeft_2 ic_0 ?_
  refine s_istore_n hL hO dX4_worstLeft_3 (Nat.le_of_ble_eq_true rfl) rfl ?_
  have loop : ∀ (r j m : Nat), j + r = 21 → m ≤ 21 → mxF (fun v => (P.map (tA σ a d)).count v) r j m = wC (P.map (tA σ a d)) → Gz X 4 [.ref 0, .int x, .int (nI m), .int (nI j)] [] M := by
    intro r
    induction r with
    | zero =>
      intro j m hjr hm he
      refine r_iload_n hO dX4_worstLeft_4 rfl ?_
      refine r_bipush hO dX4_worstLeft_5 bc_20 ?_
      refine r_icmp_gt 32 hO dX4_worstLeft_7 (by decide) (fun _ => ?_) (fun z => absurd (by rw [show (20 : Int32) = nI 20 from rfl]; exact nI_lt (by omega) (by omega)) z)
      refine r_iload_n hO dX4_worstLeft_32 rfl ?_
      exact r_ireturn hO hr dX4_worstLeft_33 rfl ⟨sI (by rw [← he]; rfl), rfl⟩
    | succ r ih =>
      intro j m hjr hm he
      refine r_iload_n hO dX4_worstLeft_4 rfl ?_
      refine r_bipush hO dX4_worstLeft_5 bc_20 ?_
      refine r_icmp_gt 32 hO dX4_worstLeft_7 (by decide) (fun z => absurd z (by rw [show (20 : Int32) = nI 20 from rfl]; exact nI_nlt (by omega) (by omega))) (fun _ => ?_)
      refine r_iload_n hO dX4_worstLeft_10 rfl ?_
      refine r_aload_n hO dX4_worstLeft_11 rfl ?_
      refine r_getR 32 hO dX4_worstLeft_12 fRX4_51 rfl ?_
      refine r_iload_n hO dX4_worstLeft_15 rfl ?_
      refine r_bipush hO dX4_worstLeft_16 bc_21 ?_
      refine r_imul hO dX4_worstLeft_18 ?_
      refine r_iload_n hO dX4_worstLeft_19 rfl ?_
      refine r_iadd hO dX4_worstLeft_20 ?_
      refine s_iald 441 hO dX4_worstLeft_21 rfl (Nat.le_of_ble_eq_true rfl) (d * 21 + j) (by rw [hx, show (21 : Int32) = nI 21 from rfl, pk_mul, nI_add]) (by omega) ?_
      refine r_mmax hO dX4_worstLeft_22 xRX4_239 (Nat.le_of_ble_eq_true rfl) (Nat.le_of_ble_eq_true rfl) ?_
      refine s_istore_n hL hO dX4_worstLeft_25 (Nat.le_of_ble_eq_true rfl) rfl ?_
      refine s_iinc hL hO dX4_worstLeft_26 rfl ic_1 (Nat.le_of_ble_eq_true rfl) rfl ?_
      refine r_goto 4 hO dX4_worstLeft_29 (by decide) ?_
      have hc : M.1 32 (d * 21 + j) = nI ((P.map (tA σ a d)).count j) := by have := T d j hd (by omega); rw [if_neg (by omega)] at this; exact this
      have hcl : (P.map (tA σ a d)).count j ≤ 21 := Nat.le_trans List.count_le_length (by rw [List.length_map]; exact hP)
      show Gz X 4 [.ref 0, .int x, .int (if nI m < M.1 32 (d * 21 + j) then M.1 32 (d * 21 + j) else nI m), .int (nI j + 1)] [] M
      rw [nI_1, hc, mx_n (by omega) (by omega)]
      exact ih (j + 1) _ (by omega) (by omega) he
  exact loop 21 0 0 (by omega) (by omega) rfl
theorem dtC_a (σ : Sta) (a d : Nat) : dtC 0 (askF σ a d) = nI (wC (xsA σ a d)) := by show nI (0 + _) = _; rw [Nat.zero_add]
theorem dtI_a (σ : Sta) (a d : Nat) : dtI 0 (askF σ a d) = nI (wC (xsA σ a d)) := by show nI (0 + _) = _; rw [Nat.zero_add]
theorem ook_a (σ : Sta) (a d : Nat) : ook (askF σ a d) := fun k hk => by
  have hk : some (wC (xsA σ a d)) = some k := hk
  rw [← Option.some.inj hk]
  have := wC_le (xsA σ a d)
  have h2 : (xsA σ a d).length ≤ 21 := by unfold xsA; rw [List.length_map]; exact lsA_len σ a 21
  omega
theorem ook_l (σ : Sta) (a : Nat) : ook (some (lsA σ a 21).length) := fun k hk => by
  rw [← Option.some.inj hk]
  have := lsA_len σ a 21
  omega
set_option maxHeartbeats 4000000 in
theorem zX4_ask (l : Launch) {M : Mm} {σ : Sta} (h : RC M σ) {i w : Int32} : Clz l 6 yX4_ask cX4_ask 7 (some .int) [.ref 0, .int i, .int w] M (fun r M' => r = some (.int (p_ask σ i w)) ∧ RC M' σ ∧ FCr M M') := by
  refine Clz.on RX4 rfl (by decide +kernel) (Nat.le_of_ble_eq_true rfl) (fun X hL hO hr => ?_)
  show Gz X 0 [.ref 0, .int i, .int w, .null, .null, .null, .null] [] M
  refine r_aload_n hO dX4_ask_0 rfl ?_
  refine r_iload_n hO dX4_ask_1 rfl ?_
  refine r_fV hO dX4_ask_2 kRX4_112 miX4_isMember (zX4_isMember _ h) ⟨Nat.le_of_ble_eq_true rfl, Nat.le_of_ble_eq_true rfl, rfl, Nat.le_of_ble_eq_true rfl⟩ rfl rfl ?_
  refine r_if_eq 16 hO dX4_ask_5 (by decide) (fun h5 => ?_) (fun h5 => ?_)
  · rw [bI_0] at h5
    refine r_iconst hO dX4_ask_16 ic_m1 ?_
    exact r_ireturn hO hr dX4_ask_17 rfl ⟨sI (show _ = p_ask σ i w from by unfold p_ask; rw [if_neg (ff (Q := True) h5)]), h, FCr.rf⟩
  · rw [bI_n0] at h5
    refine r_iload_n hO dX4_ask_8 rfl ?_
    refine r_iconst hO dX4_ask_9 ic_1 ?_
    refine r_fS hO dX4_ask_10 kRX4_62 msX4_within (zX4_within _) ⟨Nat.le_of_ble_eq_true rfl, Nat.le_of_ble_eq_true rfl, rfl, Nat.le_of_ble_eq_true rfl⟩ rfl ?_
    refine r_if_ne 18 hO dX4_ask_13 (by decide) (fun h13 => ?_) (fun h13 => ?_)
    · rw [bI_n0] at h13
      have h13 : inI w 0 1 = true := h13
      obtain ⟨a, ha, rfl⟩ := inI_mem (by have := h.1.1.1; omega) h5
      have hl6 := h.1.1.1
      have e : p_ask σ (nI a) w = jres (jrun (askF σ a) 21 0 (none, some (lsA σ a 21).length)) w := by unfold p_ask; rw [if_pos ⟨h5, h13⟩, nI_clamp (by omega)]; rfl
      refine r_aload_n hO dX4_ask_18 rfl ?_
      refine r_iload_n hO dX4_ask_19 rfl ?_
      refine r_callV hO dX4_ask_20 kRX4_183 miX4_tallyWants (zX4_tallyWants _ h a rfl ha) ⟨Nat.le_of_ble_eq_true rfl, Nat.le_of_ble_eq_true rfl, rfl, Nat.le_of_ble_eq_true rfl⟩ rfl rfl (fun q M1 hpo => ?_)
      obtain ⟨rfl, hF, T⟩ := hpo
      refine s_istore_n hL hO dX4_ask_23 (Nat.le_of_ble_eq_true rfl) rfl ?_
      refine r_bipush hO dX4_ask_24 bc_m4 ?_
      refine s_istore hL hO dX4_ask_26 (Nat.le_of_ble_eq_true rfl) rfl ?_
      refine r_iconst hO dX4_ask_28 ic_0 ?_
      refine s_istore hL hO dX4_ask_29 (Nat.le_of_ble_eq_true rfl) rfl ?_
      have loop : ∀ (r j : Nat) (acc : Jg), j + r = 21 → jok acc → jrun (askF σ a) r j acc = jrun (askF σ a) 21 0 (none, some (lsA σ a 21).length) → Gz X 31 [.ref 0, .int (nI a), .int w, .int (bdC acc.2), .int (cdI acc.1), .int (nI j), .null] [] M1 := by
        intro r
        induction r with
        | zero =>
          intro j acc hjr hj he
          refine r_iload hO dX4_ask_31 rfl ?_
          refine r_bipush hO dX4_ask_33 bc_20 ?_
          refine r_icmp_gt 65 hO dX4_ask_35 (by decide) (fun _ => ?_) (fun z => absurd (by rw [show (20 : Int32) = nI 20 from rfl]; exact nI_lt (by omega) (by omega)) z)
          refine r_iload hO dX4_ask_65 rfl ?_
          refine r_bipush hO dX4_ask_67 bc_m4 ?_
          refine r_icmp_ne 75 hO dX4_ask_69 (by decide) (fun h69 => ?_) (fun h69 => ?_)
          · refine r_iload_n hO dX4_ask_75 rfl ?_
            refine r_if_ne 84 hO dX4_ask_76 (by decide) (fun h76 => ?_) (fun h76 => ?_)
            · refine r_iload_n hO dX4_ask_84 rfl ?_
              exact r_ireturn hO hr dX4_ask_85 rfl ⟨sI (by rw [e, ← he]; exact cd_1 h69 h76), h.q hF, hF.fc⟩
            · refine r_iload hO dX4_ask_79 rfl ?_
              refine r_goto 85 hO dX4_ask_81 (by decide) ?_
              exact r_ireturn hO hr dX4_ask_85 rfl ⟨sI (by rw [e, ← he]; exact cd_0 h69 h76), h.q hF, hF.fc⟩
          · refine r_bipush hO dX4_ask_72 bc_m4 ?_
            exact r_ireturn hO hr dX4_ask_74 rfl ⟨sI (by rw [e, ← he]; exact cd_n hj h69), h.q hF, hF.fc⟩
        | succ r ih =>
          intro j acc hjr hj he
          refine r_iload hO dX4_ask_31 rfl ?_
          refine r_bipush hO dX4_ask_33 bc_20 ?_
          refine r_icmp_gt 65 hO dX4_ask_35 (by decide) (fun z => absurd z (by rw [show (20 : Int32) = nI 20 from rfl]; exact nI_nlt (by omega) (by omega))) (fun _ => ?_)
          refine r_aload_n hO dX4_ask_38 rfl ?_
          refine r_iload hO dX4_ask_39 rfl ?_
          refine r_fV hO dX4_ask_41 kRX4_186 miX4_worstLeft (zX4_worstLeft _ (lsA_len σ a 21) T j rfl (by omega)) ⟨Nat.le_of_ble_eq_true rfl, Nat.le_of_ble_eq_true rfl, rfl, Nat.le_of_ble_eq_true rfl⟩ rfl rfl ?_
          refine s_istore hL hO dX4_ask_44 (Nat.le_of_ble_eq_true rfl) rfl ?_
          refine r_iload hO dX4_ask_46 rfl ?_
          refine r_iload_n hO dX4_ask_48 rfl ?_
          refine r_icmp_ge 59 hO dX4_ask_49 (by decide) (fun h49 => ?_) (fun h49 => ?_)
          · have h49 : bdC acc.2 ≤ dtC 0 (askF σ a j) := by rw [dtC_a]; exact h49
            refine s_iinc hL hO dX4_ask_59 rfl ic_1 (Nat.le_of_ble_eq_true rfl) rfl ?_
            refine r_goto 31 hO dX4_ask_62 (by decide) ?_
            refine r_null 6 ?_
            show Gz X 31 [.ref 0, .int (nI a), .int w, .int (bdC acc.2), .int (cdI acc.1), .int (nI j + 1), .null] [] M1
            rw [nI_1]
            exact ih (j + 1) acc (by omega) hj (by rw [← he]; show _ = jrun _ _ _ (jg _ _ _); rw [jc_no hj (ook_a _ _ _) h49])
          · have h49 : ¬ (bdC acc.2 ≤ dtC 0 (askF σ a j)) := by rw [dtC_a]; exact h49
            refine r_iload hO dX4_ask_52 rfl ?_
            refine s_istore_n hL hO dX4_ask_54 (Nat.le_of_ble_eq_true rfl) rfl ?_
            refine r_iload hO dX4_ask_55 rfl ?_
            refine s_istore hL hO dX4_ask_57 (Nat.le_of_ble_eq_true rfl) rfl ?_
            refine s_iinc hL hO dX4_ask_59 rfl ic_1 (Nat.le_of_ble_eq_true rfl) rfl ?_
            refine r_goto 31 hO dX4_ask_62 (by decide) ?_
            refine r_null 6 ?_
            show Gz X 31 [.ref 0, .int (nI a), .int w, .int (nI (wC (xsA σ a j))), .int (nI j), .int (nI j + 1), .null] [] M1
            obtain ⟨e1, e2⟩ := jc_yes (v := j) hj (ook_a σ a j) h49
            rw [nI_1, ← e1, ← dtC_a, ← e2]
            exact ih (j + 1) _ (by omega) (jg_ok hj (ook_a _ _ _) (by omega)) he
      exact loop 21 0 (none, some (lsA σ a 21).length) (by omega) (jok_1 (ook_l σ a)) rfl
    · rw [bI_0] at h13
      refine r_iconst hO dX4_ask_16 ic_m1 ?_
      exact r_ireturn hO hr dX4_ask_17 rfl ⟨sI (show _ = p_ask σ i w from by unfold p_ask; rw [if_neg (ff2 (b := inI w 0 1) h13)]), h, FCr.rf⟩
theorem bw_x {M : Mm} {σ : Sta} {a n c x : Nat} (hB : BwR M σ a (lsA σ a 21)) (hx : (xsA σ a n)[c]? = some x) (hn : n < 21) : M.1 40 (21 * c + n) = nI x := by
  unfold xsA at hx
  rw [List.getElem?_map] at hx
  cases hv : (lsA σ a 21)[c]? with
  | none => rw [hv] at hx; cases hx
  | some v => rw [hv] at hx; cases hx; exact hB c v n hv hn
theorem dayS_mo {s : Ns} (h : s.2.1 ≤ 20) : (dayS s).2.1 ≤ 20 := by
  unfold dayS
  split
  · exact h
  · exact nmo_le h
theorem runS_mo : ∀ (k : Nat) (s : Ns), s.2.1 ≤ 20 → (runS k s).2.1 ≤ 20 := by
  intro k
  induction k with
  | zero => intro s h; exact h
  | succ k ih => intro s h; exact ih _ (dayS_mo h)
theorem xs20 {M : Mm} {σ : Sta} {a : Nat} (h : RD M σ) (n : Nat) (hn : n < 21) : ∀ x ∈ xsA σ a n, x ≤ 20 := by
  intro x hx
  unfold xsA at hx
  obtain ⟨v, _, rfl⟩ := List.mem_map.mp hx
  exact runS_mo n _ h.1.2.2.2.1.2
set_option maxHeartbeats 4000000 in
theorem zX5_ask (l : Launch) {M : Mm} {σ : Sta} (h : RD M σ) {i w : Int32} : Clz l 8 yX5_ask cX5_ask 9 (some .int) [.ref 33, .int i, .int w] M (fun r M' => r = some (.int (p_ask σ i w)) ∧ RD M' σ ∧ FDr M M') := by
  refine Clz.on RX5 rfl (by decide +kernel) (Nat.le_of_ble_eq_true rfl) (fun X hL hO hr => ?_)
  show Gz X 0 [.ref 33, .int i, .int w, .null, .null, .null, .null, .null, .null] [] M
  refine r_aload_n hO dX5_ask_0 rfl ?_
  refine r_iload_n hO dX5_ask_1 rfl ?_
  refine r_fV hO dX5_ask_2 kRX5_205 miX5_isMember (zX5_isMember _) ⟨Nat.le_of_ble_eq_true rfl, Nat.le_of_ble_eq_true rfl, rfl, Nat.le_of_ble_eq_true rfl⟩ rfl rfl ?_
  refine r_if_eq 15 hO dX5_ask_5 (by decide) (fun h5 => ?_) (fun h5 => ?_)
  · rw [bI_0, h.1.2.2.1] at h5
    refine r_iconst hO dX5_ask_15 ic_m1 ?_
    exact r_ireturn hO hr dX5_ask_16 rfl ⟨sI (show _ = p_ask σ i w from by unfold p_ask; rw [if_neg (ff (Q := True) h5)]), h, FDr.rf⟩
  · rw [bI_n0, h.1.2.2.1] at h5
    refine r_iload_n hO dX5_ask_8 rfl ?_
    refine r_fS hO dX5_ask_9 kRX5_243 msX5_isPart (zX5_isPart _) ⟨Nat.le_of_ble_eq_true rfl, Nat.le_of_ble_eq_true rfl, rfl, Nat.le_of_ble_eq_true rfl⟩ rfl ?_
    refine r_if_ne 17 hO dX5_ask_12 (by decide) (fun h12 => ?_) (fun h12 => ?_)
    · rw [bI_n0] at h12
      obtain ⟨a, ha, rfl⟩ := inI_mem (by have := h.1.1; omega) h5
      have hl6 := h.1.1
      have e : p_ask σ (nI a) w = jres (jrun (askF σ a) 21 0 (none, some (lsA σ a 21).length)) w := by unfold p_ask; rw [if_pos ⟨h5, h12⟩, nI_clamp (by omega)]; rfl
      refine r_iconst hO dX5_ask_17 ic_0 ?_
      refine s_istore_n hL hO dX5_ask_18 (Nat.le_of_ble_eq_true rfl) rfl ?_
      refine r_iconst hO dX5_ask_19 ic_0 ?_
      refine s_istore hL hO dX5_ask_20 (Nat.le_of_ble_eq_true rfl) rfl ?_
      have jud : ∀ (M0 : Mm), FR M M0 → BwR M0 σ a (lsA σ a 21) → Gz X 87 [.ref 33, .int (nI a), .int w, .int (nI (lsA σ a 21).length), .null, .null, .null, .null, .null] [] M0 := by
        intro M0 hF0 hB0
        refine r_aload_n hO dX5_ask_87 rfl ?_
        refine r_iload_n hO dX5_ask_88 rfl ?_
        refine r_fV hO dX5_ask_89 kRX5_246 miX5_startsJudging (zX5_startsJudging _) ⟨Nat.le_of_ble_eq_true rfl, Nat.le_of_ble_eq_true rfl, rfl, Nat.le_of_ble_eq_true rfl⟩ rfl rfl ?_
        refine r_iconst hO dX5_ask_92 ic_0 ?_
        refine s_istore hL hO dX5_ask_93 (Nat.le_of_ble_eq_true rfl) rfl ?_
        have J0 := JR.start (M := M0) (ook_l σ a)
        rw [show dtI 0 (some (lsA σ a 21).length) = nI (lsA σ a 21).length from by show nI (0 + _) = _; rw [Nat.zero_add]] at J0
        have loopn : ∀ (r n : Nat) (acc : Jg) (M1 : Mm), n + r = 21 → jok acc → JR M1 acc → FR M M1 → BwR M1 σ a (lsA σ a 21) → jrun (askF σ a) r n acc = jrun (askF σ a) 21 0 (none, some (lsA σ a 21).length) → Gz X 95 [.ref 33, .int (nI a), .int w, .int (nI (lsA σ a 21).length), .int (nI n), .null, .null, .null, .null] [] M1 := by
          intro r
          induction r with
          | zero =>
            intro n acc M1 hnr hj hJ hF hB he
            refine r_iload hO dX5_ask_95 rfl ?_
            refine r_bipush hO dX5_ask_97 bc_20 ?_
            refine r_icmp_gt 210 hO dX5_ask_99 (by decide) (fun _ => ?_) (fun z => absurd (by rw [show (20 : Int32) = nI 20 from rfl]; exact nI_lt (by omega) (by omega)) z)
            refine r_aload_n hO dX5_ask_210 rfl ?_
            refine r_iload_n hO dX5_ask_211 rfl ?_
            refine r_fV hO dX5_ask_212 kRX5_253 miX5_judged (zX5_judged _) ⟨Nat.le_of_ble_eq_true rfl, Nat.le_of_ble_eq_true rfl, rfl, Nat.le_of_ble_eq_true rfl⟩ rfl rfl ?_
            exact r_ireturn hO hr dX5_ask_215 rfl ⟨sI (by rw [e, ← he]; exact hJ.judged hj), h.q hF, hF.fd⟩
          | succ r ih =>
            intro n acc M1 hnr hj hJ hF hB he
            refine r_iload hO dX5_ask_95 rfl ?_
            refine r_bipush hO dX5_ask_97 bc_20 ?_
            refine r_icmp_gt 210 hO dX5_ask_99 (by decide) (fun z => absurd z (by rw [show (20 : Int32) = nI 20 from rfl]; exact nI_nlt (by omega) (by omega))) (fun _ => ?_)
            refine r_iconst hO dX5_ask_102 ic_0 ?_
            refine s_istore hL hO dX5_ask_103 (Nat.le_of_ble_eq_true rfl) rfl ?_
            refine r_iconst hO dX5_ask_105 ic_0 ?_
            refine s_istore hL hO dX5_ask_106 (Nat.le_of_ble_eq_true rfl) rfl ?_
            have hn21 : n < 21 := by omega
            have hxl : (xsA σ a n).length = (lsA σ a 21).length := by unfold xsA; rw [List.length_map]
            have hll := lsA_len σ a 21
            have hx20 : ∀ x ∈ xsA σ a n, x ≤ 20 := xs20 h n hn21
            have don2 : Gz X 196 [.ref 33, .int (nI a), .int w, .int (nI (lsA σ a 21).length), .int (nI n), .int (nI (wC (xsA σ a n))), .null, .null, .null] [] M1 := by
              refine r_aload_n hO dX5_ask_196 rfl ?_
              refine r_iload hO dX5_ask_197 rfl ?_
              refine r_iload hO dX5_ask_199 rfl ?_
              refine r_fV hO dX5_ask_201 kRX5_249 miX5_judges (zX5_judges _) ⟨Nat.le_of_ble_eq_true rfl, Nat.le_of_ble_eq_true rfl, rfl, Nat.le_of_ble_eq_true rfl⟩ rfl rfl ?_
              refine s_iinc hL hO dX5_ask_204 rfl ic_1 (Nat.le_of_ble_eq_true rfl) rfl ?_
              refine r_goto 95 hO dX5_ask_207 (by decide) ?_
              refine r_null 5 ?_
              show Gz X 95 [.ref 33, .int (nI a), .int w, .int (nI (lsA σ a 21).length), .int (nI n + 1), .null, .null, .null, .null] [] _
              have J2 := hJ.judge (v := n) hj (ook_a σ a n)
              rw [dtI_a] at J2
              rw [nI_1]
              exact ih (n + 1) _ _ (by omega) (jg_ok hj (ook_a _ _ _) (by omega)) J2 (hF.tr FR.judge) (hB.eq (fun k => by split <;> simp [mpg])) he
            have loopc : ∀ (r c m : Nat), c + r = (xsA σ a n).length → m ≤ 21 → mxF (fun a' => (xsA σ a n).count ((xsA σ a n).getD a' 0)) r c m = wC (xsA σ a n) → Gz X 108 [.ref 33, .int (nI a), .int w, .int (nI (lsA σ a 21).length), .int (nI n), .int (nI m), .int (nI c), .null, .null] [] M1 := by
              intro r
              induction r with
              | zero =>
                intro c m hcr hm21 hm
                refine r_iload hO dX5_ask_108 rfl ?_
                refine r_iload_n hO dX5_ask_110 rfl ?_
                refine r_icmp_ge 196 hO dX5_ask_111 (by decide) (fun _ => ?_) (fun z => absurd (nI_le (by omega) (by omega)) z)
                have em : m = wC (xsA σ a n) := by rw [← hm]; rfl
                refine r_null 6 ?_
                show Gz X 196 [.ref 33, .int (nI a), .int w, .int (nI (lsA σ a 21).length), .int (nI n), .int (nI m), .null, .null, .null] [] M1
                rw [em]
                exact don2
              | succ r ihc =>
                intro c m hcr hm21 hm
                refine r_iload hO dX5_ask_108 rfl ?_
                refine r_iload_n hO dX5_ask_110 rfl ?_
                refine r_icmp_ge 196 hO dX5_ask_111 (by decide) (fun z => absurd z (nI_ge (by omega) (by omega))) (fun _ => ?_)
                refine r_iconst hO dX5_ask_114 ic_0 ?_
                refine s_istore hL hO dX5_ask_115 (Nat.le_of_ble_eq_true rfl) rfl ?_
                refine r_iconst hO dX5_ask_117 ic_0 ?_
                refine s_istore hL hO dX5_ask_118 (Nat.le_of_ble_eq_true rfl) rfl ?_
                obtain ⟨x, hxe⟩ : ∃ x, (xsA σ a n)[c]? = some x := ⟨_, List.getElem?_eq_getElem (by omega)⟩
                have hxx := hx20 x (List.mem_of_getElem? hxe)
                have hcx := bw_x hB hxe hn21
                have hcn : (xsA σ a n).count ((xsA σ a n).getD c 0) = (xsA σ a n).count x := by rw [List.getD_eq_getElem?_getD, hxe]; rfl
                have hct : (xsA σ a n).count x ≤ (xsA σ a n).length := List.count_le_length
                have done : Gz X 174 [.ref 33, .int (nI a), .int w, .int (nI (lsA σ a 21).length), .int (nI n), .int (nI m), .int (nI c), .int (nI ((xsA σ a n).count x)), .int (nI (xsA σ a n).length)] [] M1 := by
                  refine r_iload hO dX5_ask_174 rfl ?_
                  refine r_iload hO dX5_ask_176 rfl ?_
                  refine r_icmp_le 186 hO dX5_ask_178 (by decide) (fun h178 => ?_) (fun h178 => ?_)
                  · rw [nI_leI (by omega) (by omega)] at h178
                    refine r_iload hO dX5_ask_186 rfl ?_
                    refine s_istore hL hO dX5_ask_188 (Nat.le_of_ble_eq_true rfl) rfl ?_
                    refine s_iinc hL hO dX5_ask_190 rfl ic_1 (Nat.le_of_ble_eq_true rfl) rfl ?_
                    refine r_goto 108 hO dX5_ask_193 (by decide) ?_
                    refine r_null 7 (r_null 8 ?_)
                    show Gz X 108 [.ref 33, .int (nI a), .int w, .int (nI (lsA σ a 21).length), .int (nI n), .int (nI m), .int (nI c + 1), .null, .null] [] M1
                    rw [nI_1]
                    exact ihc (c + 1) _ (by omega) (by omega) (by rw [← hm]; show mxF _ r (c + 1) _ = mxF _ r (c + 1) (max m ((xsA σ a n).count ((xsA σ a n).getD c 0))); rw [hcn]; congr 1; omega)
                  · rw [nI_leI (by omega) (by omega)] at h178
                    refine r_iload hO dX5_ask_181 rfl ?_
                    refine r_goto 188 hO dX5_ask_183 (by decide) ?_
                    refine s_istore hL hO dX5_ask_188 (Nat.le_of_ble_eq_true rfl) rfl ?_
                    refine s_iinc hL hO dX5_ask_190 rfl ic_1 (Nat.le_of_ble_eq_true rfl) rfl ?_
                    refine r_goto 108 hO dX5_ask_193 (by decide) ?_
                    refine r_null 7 (r_null 8 ?_)
                    show Gz X 108 [.ref 33, .int (nI a), .int w, .int (nI (lsA σ a 21).length), .int (nI n), .int (nI ((xsA σ a n).count x)), .int (nI c + 1), .null, .null] [] M1
                    rw [nI_1]
                    exact ihc (c + 1) _ (by omega) (by omega) (by rw [← hm]; show mxF _ r (c + 1) _ = mxF _ r (c + 1) (max m ((xsA σ a n).count ((xsA σ a n).getD c 0))); rw [hcn]; congr 1; omega)
                have loopb : ∀ (rest : List Nat) (b k : Nat), (xsA σ a n).drop b = rest → b ≤ (xsA σ a n).length → k + rest.count x = (xsA σ a n).count x → Gz X 120 [.ref 33, .int (nI a), .int w, .int (nI (lsA σ a 21).length), .int (nI n), .int (nI m), .int (nI c), .int (nI k), .int (nI b)] [] M1 := by
                  intro rest
                  induction rest with
                  | nil =>
                    intro b k hdr hb hk
                    have hb2 : b = (xsA σ a n).length := by have := congrArg List.length hdr; rw [List.length_drop, List.length_nil] at this; omega
                    refine r_iload hO dX5_ask_120 rfl ?_
                    refine r_iload_n hO dX5_ask_122 rfl ?_
                    refine r_icmp_ge 174 hO dX5_ask_123 (by decide) (fun _ => ?_) (fun z => absurd (nI_le (by omega) (by omega)) z)
                    have ek : k = (xsA σ a n).count x := by rw [← hk]; rfl
                    rw [ek, hb2]
                    exact done
                  | cons y rest ihb =>
                    intro b k hdr hb hk
                    have hyb : (xsA σ a n)[b]? = some y := by have := congrArg (fun l => l[0]?) hdr; simpa using this
                    have hb3 := (List.getElem?_eq_some_iff.mp hyb).1
                    have hy20 := hx20 y (List.mem_of_getElem? hyb)
                    have hdr2 : (xsA σ a n).drop (b + 1) = rest := by
                      obtain ⟨h1, h2⟩ := List.getElem?_eq_some_iff.mp hyb
                      rw [List.drop_eq_getElem_cons h1] at hdr
                      exact (List.cons.inj hdr).2
                    refine r_iload hO dX5_ask_120 rfl ?_
                    refine r_iload_n hO dX5_ask_122 rfl ?_
                    refine r_icmp_ge 174 hO dX5_ask_123 (by decide) (fun z => absurd z (nI_ge (by omega) (by omega))) (fun _ => ?_)
                    refine r_iload hO dX5_ask_126 rfl ?_
                    refine r_aload_n hO dX5_ask_128 rfl ?_
                    refine r_getR 40 hO dX5_ask_129 fRX5_29 rfl ?_
                    refine r_bipush hO dX5_ask_132 bc_21 ?_
                    refine r_iload hO dX5_ask_134 rfl ?_
                    refine r_imul hO dX5_ask_136 ?_
                    refine r_iload hO dX5_ask_137 rfl ?_
                    refine r_iadd hO dX5_ask_139 ?_
                    refine s_iald 441 hO dX5_ask_140 rfl (Nat.le_of_ble_eq_true rfl) (21 * c + n) (by rw [show (21 : Int32) = nI 21 from rfl, pk_mul, nI_add]) (by omega) ?_
                    refine r_aload_n hO dX5_ask_141 rfl ?_
                    refine r_getR 40 hO dX5_ask_142 fRX5_29 rfl ?_
                    refine r_bipush hO dX5_ask_145 bc_21 ?_
                    refine r_iload hO dX5_ask_147 rfl ?_
                    refine r_imul hO dX5_ask_149 ?_
                    refine r_iload hO dX5_ask_150 rfl ?_
                    refine r_iadd hO dX5_ask_152 ?_
                    refine s_iald 441 hO dX5_ask_153 rfl (Nat.le_of_ble_eq_true rfl) (21 * b + n) (by rw [show (21 : Int32) = nI 21 from rfl, pk_mul, nI_add]) (by omega) ?_
                    refine r_icmp_ne 161 hO dX5_ask_154 (by decide) (fun h154 => ?_) (fun h154 => ?_)
                    · rw [hcx, bw_x hB hyb hn21, nI_eq (by omega) (by omega)] at h154
                      refine r_iconst hO dX5_ask_161 ic_0 ?_
                      refine r_fS hO dX5_ask_162 kRX5_153 msX5_flag (zX5_flag _ false rfl) ⟨Nat.le_of_ble_eq_true rfl, Nat.le_of_ble_eq_true rfl, rfl, Nat.le_of_ble_eq_true rfl⟩ rfl ?_
                      refine r_iadd hO dX5_ask_165 ?_
                      refine s_istore hL hO dX5_ask_166 (Nat.le_of_ble_eq_true rfl) rfl ?_
                      refine s_iinc hL hO dX5_ask_168 rfl ic_1 (Nat.le_of_ble_eq_true rfl) rfl ?_
                      refine r_goto 120 hO dX5_ask_171 (by decide) ?_
                      show Gz X 120 [.ref 33, .int (nI a), .int w, .int (nI (lsA σ a 21).length), .int (nI n), .int (nI m), .int (nI c), .int (nI k + bI false), .int (nI b + 1)] [] M1
                      rw [nI_1, nI_bf]
                      exact ihb (b + 1) _ hdr2 (by omega) (by rw [← hk, List.count_cons, if_neg (by simp; omega)]; omega)
                    · rw [hcx, bw_x hB hyb hn21, nI_eq (by omega) (by omega)] at h154
                      refine r_iconst hO dX5_ask_157 ic_1 ?_
                      refine r_goto 162 hO dX5_ask_158 (by decide) ?_
                      refine r_fS hO dX5_ask_162 kRX5_153 msX5_flag (zX5_flag _ true rfl) ⟨Nat.le_of_ble_eq_true rfl, Nat.le_of_ble_eq_true rfl, rfl, Nat.le_of_ble_eq_true rfl⟩ rfl ?_
                      refine r_iadd hO dX5_ask_165 ?_
                      refine s_istore hL hO dX5_ask_166 (Nat.le_of_ble_eq_true rfl) rfl ?_
                      refine s_iinc hL hO dX5_ask_168 rfl ic_1 (Nat.le_of_ble_eq_true rfl) rfl ?_
                      refine r_goto 120 hO dX5_ask_171 (by decide) ?_
                      show Gz X 120 [.ref 33, .int (nI a), .int w, .int (nI (lsA σ a 21).length), .int (nI n), .int (nI m), .int (nI c), .int (nI k + bI true), .int (nI b + 1)] [] M1
                      rw [nI_1, nI_bt]
                      exact ihb (b + 1) _ hdr2 (by omega) (by rw [← hk, List.count_cons, if_pos (by simp; omega)]; omega)
                exact loopb _ 0 0 rfl (Nat.zero_le _) (by rw [List.drop_zero]; omega)
            exact loopc (xsA σ a n).length 0 0 (by omega) (by omega) (wCR hx20)
        exact loopn 21 0 (none, some (lsA σ a 21).length) _ (by omega) (jok_1 (ook_l σ a)) J0 ((hF0.tr (FR.put (by omega))).tr (FR.put (by omega))) (hB0.eq (fun k => by simp [mpg])) rfl
      have loop : ∀ (r j : Nat) (M1 : Mm), j + r = 21 → FR M M1 → BwR M1 σ a (lsA σ a j) → Gz X 22 [.ref 33, .int (nI a), .int w, .int (nI (lsA σ a j).length), .int (nI j), .null, .null, .null, .null] [] M1 := by
        intro r
        induction r with
        | zero =>
          intro j M1 hjr hF hB
          refine r_iload hO dX5_ask_22 rfl ?_
          refine r_bipush hO dX5_ask_24 bc_20 ?_
          refine r_icmp_gt 87 hO dX5_ask_26 (by decide) (fun _ => ?_) (fun z => absurd (by rw [show (20 : Int32) = nI 20 from rfl]; exact nI_lt (by omega) (by omega)) z)
          have ej : j = 21 := by omega
          rw [ej] at hB ⊢
          refine r_null 4 ?_
          exact jud M1 hF hB
        | succ r ih =>
          intro j M1 hjr hF hB
          refine r_iload hO dX5_ask_22 rfl ?_
          refine r_bipush hO dX5_ask_24 bc_20 ?_
          refine r_icmp_gt 87 hO dX5_ask_26 (by decide) (fun z => absurd z (by rw [show (20 : Int32) = nI 20 from rfl]; exact nI_nlt (by omega) (by omega))) (fun _ => ?_)
          refine r_aload_n hO dX5_ask_29 rfl ?_
          refine r_iconst hO dX5_ask_30 ic_4 ?_
          refine r_iload_n hO dX5_ask_31 rfl ?_
          refine r_imul hO dX5_ask_32 ?_
          refine r_iconst hO dX5_ask_33 ic_2 ?_
          refine r_iadd hO dX5_ask_34 ?_
          refine r_iload hO dX5_ask_35 rfl ?_
          refine r_callV hO dX5_ask_37 kRX5_293 miX5_isSoWith (zX5_isSoWith _ (h.q hF) a 2 j (ix4 rfl rfl) rfl ha (by decide) (by show j ≤ 20; omega)) ⟨Nat.le_of_ble_eq_true rfl, Nat.le_of_ble_eq_true rfl, rfl, Nat.le_of_ble_eq_true rfl⟩ rfl rfl (fun q M2 hpo => ?_)
          obtain ⟨rfl, F, T⟩ := hpo
          refine r_if_eq 81 hO dX5_ask_40 (by decide) (fun h40 => ?_) (fun h40 => ?_)
          · refine s_iinc hL hO dX5_ask_81 rfl ic_1 (Nat.le_of_ble_eq_true rfl) rfl ?_
            refine r_goto 22 hO dX5_ask_84 (by decide) ?_
            rw [bI_0] at h40
            show Gz X 22 [.ref 33, .int (nI a), .int w, .int (nI (lsA σ a j).length), .int (nI j + 1), .null, .null, .null, .null] [] M2
            rw [nI_1, show (lsA σ a j).length = (lsA σ a (j + 1)).length from by rw [lsA_f h40]]
            exact ih (j + 1) M2 (by omega) (hF.tr F.r) (by rw [lsA_f h40]; exact hB.eq (fun k => F 40 k (by omega) (by omega) (by omega)))
          · refine r_iconst hO dX5_ask_43 ic_0 ?_
            refine s_istore hL hO dX5_ask_44 (Nat.le_of_ble_eq_true rfl) rfl ?_
            rw [bI_n0] at h40
            have hjl := lsA_len σ a j
            have loop2 : ∀ (r2 n : Nat) (M3 : Mm), n + r2 = 21 → FR M M3 → TrA M3 39 (sMb (nuS σ.1) a 2 j) 21 → BwR M3 σ a (lsA σ a j) → (∀ m, m < n → M3.1 40 (21 * (lsA σ a j).length + m) = nI (tA σ a m j)) → Gz X 46 [.ref 33, .int (nI a), .int w, .int (nI (lsA σ a j).length), .int (nI j), .int (nI n), .null, .null, .null] [] M3 := by
              intro r2
              induction r2 with
              | zero =>
                intro n M3 hnr hF3 hT3 hB3 hN
                refine r_iload hO dX5_ask_46 rfl ?_
                refine r_bipush hO dX5_ask_48 bc_20 ?_
                refine r_icmp_gt 78 hO dX5_ask_50 (by decide) (fun _ => ?_) (fun z => absurd (by rw [show (20 : Int32) = nI 20 from rfl]; exact nI_lt (by omega) (by omega)) z)
                refine s_iinc hL hO dX5_ask_78 rfl ic_1 (Nat.le_of_ble_eq_true rfl) rfl ?_
                refine s_iinc hL hO dX5_ask_81 rfl ic_1 (Nat.le_of_ble_eq_true rfl) rfl ?_
                refine r_goto 22 hO dX5_ask_84 (by decide) ?_
                refine r_null 5 ?_
                show Gz X 22 [.ref 33, .int (nI a), .int w, .int (nI (lsA σ a j).length + 1), .int (nI j + 1), .null, .null, .null, .null] [] M3
                rw [nI_1, nI_1, show (lsA σ a j).length + 1 = (lsA σ a (j + 1)).length from by rw [lsA_t h40]; simp]
                exact ih (j + 1) M3 (by omega) hF3 (by rw [lsA_t h40]; exact hB3.push (fun m hm => hN m (by omega)))
              | succ r2 ih2 =>
                intro n M3 hnr hF3 hT3 hB3 hN
                refine r_iload hO dX5_ask_46 rfl ?_
                refine r_bipush hO dX5_ask_48 bc_20 ?_
                refine r_icmp_gt 78 hO dX5_ask_50 (by decide) (fun z => absurd z (by rw [show (20 : Int32) = nI 20 from rfl]; exact nI_nlt (by omega) (by omega))) (fun _ => ?_)
                refine r_aload_n hO dX5_ask_53 rfl ?_
                refine r_getR 40 hO dX5_ask_54 fRX5_29 rfl ?_
                refine r_bipush hO dX5_ask_57 bc_21 ?_
                refine r_iload_n hO dX5_ask_59 rfl ?_
                refine r_imul hO dX5_ask_60 ?_
                refine r_iload hO dX5_ask_61 rfl ?_
                refine r_iadd hO dX5_ask_63 ?_
                refine r_aload_n hO dX5_ask_64 rfl ?_
                refine r_getR 39 hO dX5_ask_65 fRX5_26 rfl ?_
                refine r_iload hO dX5_ask_68 rfl ?_
                refine s_iald 21 hO dX5_ask_70 rfl (Nat.le_of_ble_eq_true rfl) n rfl (by omega) ?_
                refine s_iast 441 hO dX5_ask_71 rfl (Nat.le_of_ble_eq_true rfl) (21 * (lsA σ a j).length + n) (by rw [show (21 : Int32) = nI 21 from rfl, pk_mul, nI_add]) (by omega) ?_
                refine s_iinc hL hO dX5_ask_72 rfl ic_1 (Nat.le_of_ble_eq_true rfl) rfl ?_
                refine r_goto 46 hO dX5_ask_75 (by decide) ?_
                show Gz X 46 [.ref 33, .int (nI a), .int w, .int (nI (lsA σ a j).length), .int (nI j), .int (nI n + 1), .null, .null, .null] [] _
                rw [nI_1]
                exact ih2 (n + 1) _ (by omega) (hF3.tr (FR.put (by omega))) (hT3.eq (fun k => by rw [mpg, if_neg (by omega)])) (hB3.put (by omega)) (fun m hm => by
                  rw [mpg]
                  by_cases e2 : m = n
                  · subst e2; rw [if_pos ⟨rfl, rfl⟩]; exact (hT3 m (by omega)).1
                  · rw [if_neg (by omega)]; exact hN m (by omega))
            exact loop2 21 0 M2 (by omega) (hF.tr F.r) T (hB.eq (fun k => F 40 k (by omega) (by omega) (by omega))) (fun m hm => absurd hm (by omega))
      exact loop 21 0 M (by omega) FR.rf (fun i v n hi _ => by cases hi)
    · rw [bI_0] at h12
      refine r_iconst hO dX5_ask_15 ic_m1 ?_
      exact r_ireturn hO hr dX5_ask_16 rfl ⟨sI (show _ = p_ask σ i w from by unfold p_ask; rw [if_neg (ff2 h12)]), h, FDr.rf⟩
