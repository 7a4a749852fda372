/-! WalnutHousesModel(): its 12 cells; the first state -/
def σ0z : Sta := (([], 10, 0, 0, []), fun _ => (false, ([], 0, 0, 0, [])), [], 0, 0, fun _ => none)
theorem RC_0 : RC M0z σ0z := by
  refine ⟨⟨⟨Nat.zero_le _, fun i b h => by simp [σ0z] at h, rfl, ⟨rfl, by decide⟩, ⟨rfl, by decide⟩, ⟨rfl, by decide⟩⟩, by decide, rfl, by decide, fun i b h => by simp [σ0z] at h⟩, fun k hk => ⟨?_, fun z => by cases z⟩, ⟨Nat.zero_le _, rfl, fun i b h => by simp [σ0z] at h⟩, rfl, rfl, fun k hk => ?_⟩
  · rcases (show k = 0 ∨ k = 1 by omega) with rfl | rfl <;> rfl
  · rcases (show k = 0 ∨ k = 1 ∨ k = 2 ∨ k = 3 by omega) with rfl | rfl | rfl | rfl <;> rfl
theorem RSz.cong {ad a0 : Nat → Nat} {U : State} (e : ∀ k, 45 ≤ k → ad k = a0 k) (h : RSz a0 U) : RSz ad U := by
  unfold RSz at h ⊢
  rw [e 60 (by decide), e 61 (by decide), e 62 (by decide), e 63 (by decide), e 64 (by decide)]
  exact h
theorem ZSz.cong {ad a0 : Nat → Nat} {A : Nat → Prop} {U : State} {H : Heap} (e : ∀ k, 45 ≤ k → ad k = a0 k) (h : ZSz a0 A U H) : ZSz ad A U H := by
  unfold ZSz at h ⊢
  rw [e 50 (by decide), e 51 (by decide), e 99 (by decide), show (fun i => ad (60 + i)) = fun i => a0 (60 + i) from funext (fun i => e _ (by omega)), show (fun i => ad (70 + i)) = fun i => a0 (70 + i) from funext (fun i => e _ (by omega))]
  exact h
theorem Kz.gz {p : Program} {l : Launch} {e : Env} {R : Room} {s : State} {m : MethodId} {args : Array Value} {below : List Frame} {meth : Method} {c : Code} {Q : State → Prop} {D : va_G} {cT : Nat → ClassId} {A : Nat → Prop} {N pc : Nat} {lv : List (Nat × Value)} {st : List Value} {ws : va_W} {cells slots : Nat} (ad : Nat → Nat) (M : Mm) (lv2 st2 : List Value) (hA : ∀ q, A q → AAz ad s.heap.size q) (hp : ws.Perm (wlz ad cT M)) (hl2 : ∀ q ∈ lvK ad lv2, q ∈ lv) (hs : st2.map (cvz ad) = st) (g : Gz (p, l, e, R, s, m, args, below, meth, c, cells, slots, Q, D, cT, ad, N) pc lv2 st2 M) : Kz (p, l, e, R, s, m, args, below, meth, c, Q) D cT A N pc lv st ws cells slots := by
  intro H locs ls hl hP hD hS
  subst hs
  exact g H locs ls ⟨hl.1, hl.2.1, fun q hq => hl.2.2 q (hl2 q hq)⟩ (hP.perm hp) ((hD.perm hp).weaken (fun _ _ _ h => hA _ h)) ⟨hS.1, fun q h1 h2 => hS.2.1 q h1 (fun z => h2 (hA q z)), fun q hq => hA _ (hS.2.2 q hq)⟩
theorem g_ret {p : Program} {l : Launch} {e : Env} {R : Room} {s : State} {m : MethodId} {args : Array Value} {below : List Frame} {meth : Method} {c : Code} {Q : State → Prop} {D : va_G} {cT : Nat → ClassId} {ad : Nat → Nat} {A : Nat → Prop} {N d pc : Nat} {cells slots kc ks : Nat} {M : Mm} {lv : List Value} {cc : ByteArray} {own : String} {S : Type} {post : S → Prop} {w1 : S → va_W} (u : S) (hO : Okz (p, l, e, R, s, m, args, below, meth, c, cells, slots, Q, D, cT, ad, N) cc own d) (hr : RtK (p, l, e, R, s, m, args, below, meth, c, Q) D A S post w1 kc ks) (hAA : ∀ q, AAz ad s.heap.size q → A q) (hd : decode cc pc = .ok (.return_, 1)) (hp : post u) (hw : w1 u = wlz ad cT M) (hc : cells ≤ kc) (hs : slots ≤ ks) : Gz (p, l, e, R, s, m, args, below, meth, c, cells, slots, Q, D, cT, ad, N) pc lv [] M := by
  intro H locs ls hl hP hD hS
  obtain ⟨h1, h2, h3⟩ := hr
  subst h3
  have hS' : va_S A s.heap H locs := ⟨hS.1, fun q h1 h2 => hS.2.1 q h1 (fun z => h2 (hAA q z)), fun q hq => hAA _ (hS.2.2 q hq)⟩
  exact W.widen hc hs (W.vret hO.1 hO.2.1 h1 (fun t ht hW => ⟨⟨u, rfl, hp, by rw [ht, hw]; exact hP, by rw [hw]; exact hD.weaken (fun _ _ _ h => hAA _ h)⟩, hS'.F ht⟩) hS'.2.2 hd h2)
/-- the addresses of the first cells -/
theorem wl33_at {ad : Nat → Nat} {cT : Nat → ClassId} {M : Mm} {k : Nat} {q : Nat × va_E} (h : (wl33 ad cT M)[k]? = some q) : q.1 = ad k ∧ k < 33 := by
  have hl : k < 33 := (List.getElem?_eq_some_iff.mp h).1
  refine ⟨(wlz_adr (ad := ad) (cT := cT) (M := M) (k := k) (q := q) ?_).1, hl⟩
  rw [wlz_split, List.getElem?_append_left hl]
  exact h
theorem wl33_some {ad : Nat → Nat} {cT : Nat → ClassId} (M : Mm) {k : Nat} (h : k < 33) : ∃ x, (wl33 ad cT M)[k]? = some (ad k, x) := by
  have hl : k < (wl33 ad cT M).length := h
  have h1 := List.getElem?_eq_getElem hl
  refine ⟨((wl33 ad cT M)[k]).2, ?_⟩
  rw [h1, ← (wl33_at h1).1]
def mk45 (M : Mm) : Mm := (fun a => if a < 33 then M.1 a else fun _ => 0, fun a => if a < 33 then M.2 a else fun _ => 0)
set_option maxHeartbeats 4000000 in
theorem gX5_init {X : Cxz} (hL : nLz X = 2) (hO : Okz X cX5_init RX5 1) {M M1 : Mm} (h0 : ∀ a k, 33 ≤ a → M1.1 a k = 0) (h1 : FDr M M1) (fin : ∀ (M' : Mm) (lv : List Value), RD M' σ0z → FDr M M' → Gz X 121 lv [] M') : Gz X 92 [.ref 33, .null] [] M1 := by
  refine r_iconst hO dX5_init_92 ic_0 ?_
  refine s_istore_n hL hO dX5_init_93 (Nat.le_of_ble_eq_true rfl) rfl ?_
  refine r_iload_n hO dX5_init_94 rfl ?_
  refine r_iconst hO dX5_init_95 ic_4 ?_
  refine r_icmp_ge 113 hO dX5_init_96 (by decide) (fun z => absurd z (by decide)) (fun _ => ?_)
  refine r_aload_n hO dX5_init_99 rfl ?_
  refine r_getR 41 hO dX5_init_100 fRX5_32 rfl ?_
  refine r_iload_n hO dX5_init_103 rfl ?_
  refine r_bipush hO dX5_init_104 bc_m4 ?_
  refine s_iast 4 hO dX5_init_106 rfl (Nat.le_of_ble_eq_true rfl) 0 (by decide) (by decide) ?_
  refine s_iinc hL hO dX5_init_107 rfl ic_1 (Nat.le_of_ble_eq_true rfl) rfl ?_
  refine r_goto 94 hO dX5_init_110 (by decide) ?_
  refine r_iload_n hO dX5_init_94 rfl ?_
  refine r_iconst hO dX5_init_95 ic_4 ?_
  refine r_icmp_ge 113 hO dX5_init_96 (by decide) (fun z => absurd z (by decide)) (fun _ => ?_)
  refine r_aload_n hO dX5_init_99 rfl ?_
  refine r_getR 41 hO dX5_init_100 fRX5_32 rfl ?_
  refine r_iload_n hO dX5_init_103 rfl ?_
  refine r_bipush hO dX5_init_104 bc_m4 ?_
  refine s_iast 4 hO dX5_init_106 rfl (Nat.le_of_ble_eq_true rfl) 1 (by decide) (by decide) ?_
  refine s_iinc hL hO dX5_init_107 rfl ic_1 (Nat.le_of_ble_eq_true rfl) rfl ?_
  refine r_goto 94 hO dX5_init_110 (by decide) ?_
  refine r_iload_n hO dX5_init_94 rfl ?_
  refine r_iconst hO dX5_init_95 ic_4 ?_
  refine r_icmp_ge 113 hO dX5_init_96 (by decide) (fun z => absurd z (by decide)) (fun _ => ?_)
  refine r_aload_n hO dX5_init_99 rfl ?_
  refine r_getR 41 hO dX5_init_100 fRX5_32 rfl ?_
  refine r_iload_n hO dX5_init_103 rfl ?_
  refine r_bipush hO dX5_init_104 bc_m4 ?_
  refine s_iast 4 hO dX5_init_106 rfl (Nat.le_of_ble_eq_true rfl) 2 (by decide) (by decide) ?_
  refine s_iinc hL hO dX5_init_107 rfl ic_1 (Nat.le_of_ble_eq_true rfl) rfl ?_
  refine r_goto 94 hO dX5_init_110 (by decide) ?_
  refine r_iload_n hO dX5_init_94 rfl ?_
  refine r_iconst hO dX5_init_95 ic_4 ?_
  refine r_icmp_ge 113 hO dX5_init_96 (by decide) (fun z => absurd z (by decide)) (fun _ => ?_)
  refine r_aload_n hO dX5_init_99 rfl ?_
  refine r_getR 41 hO dX5_init_100 fRX5_32 rfl ?_
  refine r_iload_n hO dX5_init_103 rfl ?_
  refine r_bipush hO dX5_init_104 bc_m4 ?_
  refine s_iast 4 hO dX5_init_106 rfl (Nat.le_of_ble_eq_true rfl) 3 (by decide) (by decide) ?_
  refine s_iinc hL hO dX5_init_107 rfl ic_1 (Nat.le_of_ble_eq_true rfl) rfl ?_
  refine r_goto 94 hO dX5_init_110 (by decide) ?_
  refine r_iload_n hO dX5_init_94 rfl ?_
  refine r_iconst hO dX5_init_95 ic_4 ?_
  refine r_icmp_ge 113 hO dX5_init_96 (by decide) (fun _ => ?_) (fun z => absurd (by decide) z)
  refine r_aload_n hO dX5_init_113 rfl ?_
  refine r_callV hO dX5_init_114 kRX5_44 miX5_firstDraft (zX5_firstDraft _) ⟨Nat.le_of_ble_eq_true rfl, Nat.le_of_ble_eq_true rfl, rfl, Nat.le_of_ble_eq_true rfl⟩ rfl rfl (fun o M5 hpo => ?_)
  obtain ⟨rfl, F5, D5, E5⟩ := hpo
  refine r_aload_n hO dX5_init_117 rfl ?_
  refine r_callV hO dX5_init_118 kRX5_47 miX5_keepDraft (zX5_keepDraft _) ⟨Nat.le_of_ble_eq_true rfl, Nat.le_of_ble_eq_true rfl, rfl, Nat.le_of_ble_eq_true rfl⟩ rfl rfl (fun o M6 hpo => ?_)
  obtain ⟨rfl, F6, C6, G6, I6⟩ := hpo
  refine fin M6 _ ?_ ?_
  · have g33 : ∀ k, k ≠ 4 → M6.1 33 k = 0 := fun k hk => by
      rw [F6 _ _ (by omega) (by omega), F5 _ _ (by omega) (by omega), mpn (by omega), mpn (by omega), mpn (by omega), mpn (by omega)]
      exact h0 _ _ (by omega)
    have g41 : ∀ k, k < 4 → M6.1 41 k = -4 := fun k hk => by
      rw [F6 _ _ (by omega) (by omega), F5 _ _ (by omega) (by omega)]
      rcases (show k = 0 ∨ k = 1 ∨ k = 2 ∨ k = 3 by omega) with rfl | rfl | rfl | rfl
      · rw [mpn (by omega), mpn (by omega), mpn (by omega), mpe]
      · rw [mpn (by omega), mpn (by omega), mpe]
      · rw [mpn (by omega), mpe]
      · rw [mpe]
    obtain ⟨-, -, d3, d4, d5⟩ := D5
    have z : ∀ k, 26 ≤ k → k < 41 → M6.1 34 k = 0 := fun k h1 h2 => by rw [C6 k h2]; exact d5 k h1 h2
    refine ⟨⟨Nat.zero_le _, fun i b h => by simp [σ0z] at h, by rw [C6 _ (by omega)]; exact d3, ⟨by rw [C6 _ (by omega)]; exact d4.1, by decide⟩, ⟨z _ (by omega) (by omega), by decide⟩, ⟨z _ (by omega) (by omega), by decide⟩, ⟨z _ (by omega) (by omega), by decide⟩, fun i b h => by simp [σ0z] at h⟩, fun k hk => ⟨?_, fun z => by cases z⟩, ⟨Nat.zero_le _, g33 _ (by omega), fun i b h => by simp [σ0z] at h⟩, g33 _ (by omega), g33 _ (by omega), fun k hk => g41 k hk⟩
    rcases (show k = 0 ∨ k = 1 by omega) with rfl | rfl
    · exact G6
    · exact I6
  · intro a k ha
    rw [F6 _ _ (by omega) (by omega), F5 _ _ (by omega) (by omega), mpn (by omega), mpn (by omega), mpn (by omega), mpn (by omega)]
    exact h1 a k ha
set_option maxHeartbeats 8000000 in
set_option maxRecDepth 100000 in
theorem kX5_init (l : Launch) (D : va_G) (cT : Nat → ClassId) (a0 : Nat → Nat) (M : Mm) : KC l 1 11 1038 yX5_init cX5_init 2 D cT (a0 33) ((a0 33, .inr (5, [.null, .null, .null, .null, .int 0, .null, .int 0, .int 0, .int 0, .int 0, .int 0, .int 0, .int 0, .int 0, .int 0, .int 0, .int 0, .long 0, .long 0, .long 0, .null, .null, .null, .null, .null, .int 0, .null])) :: wl33 a0 cT M) (fun sz U => RSz a0 U ∧ ZSz a0 (va_A ((a0 33, .inr (5, [.null, .null, .null, .null, .int 0, .null, .int 0, .int 0, .int 0, .int 0, .int 0, .int 0, .int 0, .int 0, .int 0, .int 0, .int 0, .long 0, .long 0, .long 0, .null, .null, .null, .null, .null, .int 0, .null])) :: wl33 a0 cT M) sz) U U.heap) ((Nat → Nat) × Mm) (fun u => (∀ k, ¬ (34 ≤ k ∧ k ≤ 44) → u.1 k = a0 k) ∧ RD u.2 σ0z ∧ FDr M u.2) (fun u => wlz u.1 cT u.2) := by
  refine KC.of RX5 rfl (by decide +kernel) rfl (by decide) (fun X A sz hl hA hO hI hE hr => ?_)
  refine k_aload_n 0 hO dX5_init_0 rfl ?_
  refine k_obj hO dX5_init_1 (tb_of 695 (by decide +kernel) rfl) (tb_of 106 (by decide +kernel) rfl) (tb_of 107 (by decide +kernel) rfl) (by decide) (Nat.le_of_ble_eq_true rfl) ?_
  refine k_aload_n 0 hO dX5_init_4 rfl ?_
  refine k_bipush (v := 123) hO dX5_init_5 (by decide) ?_
  refine k_newa (ty := .int) 0 10 123 hO dX5_init_7 rfl (tb_of 192 (by decide +kernel) rfl) rfl (fun _ _ z => z) rfl (by decide) (by decide) (by decide) (Nat.le_of_ble_eq_true rfl) (Nat.le_of_ble_eq_true rfl) (fun q1 hq1 => ?_)
  show Kz X D cT A 2 9 [(0, .ref (a0 33))] [.ref q1, .ref (a0 33)] ((a0 33, .inr (5, [.null, .null, .null, .null, .int 0, .null, .int 0, .int 0, .int 0, .int 0, .int 0, .int 0, .int 0, .int 0, .int 0, .int 0, .int 0, .long 0, .long 0, .long 0, .null, .null, .null, .null, .null, .int 0, .null])) :: (wl33 a0 cT M ++ [arI cT q1 123])) 1 123
  refine k_putF (k := 0) (ty := .array .int) 0 hO hI dX5_init_9 ck5 (by decide) (by decide +kernel) rfl rfl (tb_of 704 (by decide +kernel) rfl) rfl rfl rfl (Nat.le_of_ble_eq_true rfl) ?_
  show Kz X D cT A 2 12 [(0, .ref (a0 33))] [] ((a0 33, .inr (5, [.ref q1, .null, .null, .null, .int 0, .null, .int 0, .int 0, .int 0, .int 0, .int 0, .int 0, .int 0, .int 0, .int 0, .int 0, .int 0, .long 0, .long 0, .long 0, .null, .null, .null, .null, .null, .int 0, .null])) :: (wl33 a0 cT M ++ [arI cT q1 123])) 1 123
  refine k_aload_n 0 hO dX5_init_12 rfl ?_
  refine k_bipush (v := 41) hO dX5_init_13 (by decide) ?_
  refine k_newa (ty := .int) 0 10 41 hO dX5_init_15 rfl (tb_of 192 (by decide +kernel) rfl) rfl (fun _ _ z => z) rfl (by decide) (by decide) (by decide) (Nat.le_of_ble_eq_true rfl) (Nat.le_of_ble_eq_true rfl) (fun q2 hq2 => ?_)
  show Kz X D cT A 2 17 [(0, .ref (a0 33))] [.ref q2, .ref (a0 33)] ((a0 33, .inr (5, [.ref q1, .null, .null, .null, .int 0, .null, .int 0, .int 0, .int 0, .int 0, .int 0, .int 0, .int 0, .int 0, .int 0, .int 0, .int 0, .long 0, .long 0, .long 0, .null, .null, .null, .null, .null, .int 0, .null])) :: ((wl33 a0 cT M ++ [arI cT q1 123]) ++ [arI cT q2 41])) 2 164
  refine k_putF (k := 1) (ty := .array .int) 0 hO hI dX5_init_17 ck5 (by decide) (by decide +kernel) rfl rfl (tb_of 705 (by decide +kernel) rfl) rfl rfl rfl (Nat.le_of_ble_eq_true rfl) ?_
  show Kz X D cT A 2 20 [(0, .ref (a0 33))] [] ((a0 33, .inr (5, [.ref q1, .ref q2, .null, .null, .int 0, .null, .int 0, .int 0, .int 0, .int 0, .int 0, .int 0, .int 0, .int 0, .int 0, .int 0, .int 0, .long 0, .long 0, .long 0, .null, .null, .null, .null, .null, .int 0, .null])) :: ((wl33 a0 cT M ++ [arI cT q1 123]) ++ [arI cT q2 41])) 2 164
  refine k_aload_n 0 hO dX5_init_20 rfl ?_
  refine k_iconst (v := 2) hO dX5_init_21 (by decide) ?_
  refine k_newa (ty := .boolean) 2 12 2 hO dX5_init_22 rfl (tb_of 213 (by decide +kernel) rfl) rfl (fun _ _ z => z) rfl (by decide) (by decide) (by decide) (Nat.le_of_ble_eq_true rfl) (Nat.le_of_ble_eq_true rfl) (fun q3 hq3 => ?_)
  show Kz X D cT A 2 24 [(0, .ref (a0 33))] [.ref q3, .ref (a0 33)] ((a0 33, .inr (5, [.ref q1, .ref q2, .null, .null, .int 0, .null, .int 0, .int 0, .int 0, .int 0, .int 0, .int 0, .int 0, .int 0, .int 0, .int 0, .int 0, .long 0, .long 0, .long 0, .null, .null, .null, .null, .null, .int 0, .null])) :: (((wl33 a0 cT M ++ [arI cT q1 123]) ++ [arI cT q2 41]) ++ [arZ cT q3 2])) 3 166
  refine k_putF (k := 2) (ty := .array .boolean) 0 hO hI dX5_init_24 ck5 (by decide) (by decide +kernel) rfl rfl (tb_of 706 (by decide +kernel) rfl) rfl rfl rfl (Nat.le_of_ble_eq_true rfl) ?_
  show Kz X D cT A 2 27 [(0, .ref (a0 33))] [] ((a0 33, .inr (5, [.ref q1, .ref q2, .ref q3, .null, .int 0, .null, .int 0, .int 0, .int 0, .int 0, .int 0, .int 0, .int 0, .int 0, .int 0, .int 0, .int 0, .long 0, .long 0, .long 0, .null, .null, .null, .null, .null, .int 0, .null])) :: (((wl33 a0 cT M ++ [arI cT q1 123]) ++ [arI cT q2 41]) ++ [arZ cT q3 2])) 3 166
  refine k_aload_n 0 hO dX5_init_27 rfl ?_
  refine k_bipush (v := 41) hO dX5_init_28 (by decide) ?_
  refine k_newa (ty := .int) 0 10 41 hO dX5_init_30 rfl (tb_of 192 (by decide +kernel) rfl) rfl (fun _ _ z => z) rfl (by decide) (by decide) (by decide) (Nat.le_of_ble_eq_true rfl) (Nat.le_of_ble_eq_true rfl) (fun q4 hq4 => ?_)
  show Kz X D cT A 2 32 [(0, .ref (a0 33))] [.ref q4, .ref (a0 33)] ((a0 33, .inr (5, [.ref q1, .ref q2, .ref q3, .null, .int 0, .null, .int 0, .int 0, .int 0, .int 0, .int 0, .int 0, .int 0, .int 0, .int 0, .int 0, .int 0, .long 0, .long 0, .long 0, .null, .null, .null, .null, .null, .int 0, .null])) :: ((((wl33 a0 cT M ++ [arI cT q1 123]) ++ [arI cT q2 41]) ++ [arZ cT q3 2]) ++ [arI cT q4 41])) 4 207
  refine k_putF (k := 3) (ty := .array .int) 0 hO hI dX5_init_32 ck5 (by decide) (by decide +kernel) rfl rfl (tb_of 707 (by decide +kernel) rfl) rfl rfl rfl (Nat.le_of_ble_eq_true rfl) ?_
  show Kz X D cT A 2 35 [(0, .ref (a0 33))] [] ((a0 33, .inr (5, [.ref q1, .ref q2, .ref q3, .ref q4, .int 0, .null, .int 0, .int 0, .int 0, .int 0, .int 0, .int 0, .int 0, .int 0, .int 0, .int 0, .int 0, .long 0, .long 0, .long 0, .null, .null, .null, .null, .null, .int 0, .null])) :: ((((wl33 a0 cT M ++ [arI cT q1 123]) ++ [arI cT q2 41]) ++ [arZ cT q3 2]) ++ [arI cT q4 41])) 4 207
  refine k_aload_n 0 hO dX5_init_35 rfl ?_
  refine k_sipush (v := 160) hO dX5_init_36 (by decide) ?_
  refine k_newa (ty := .int) 0 10 160 hO dX5_init_39 rfl (tb_of 192 (by decide +kernel) rfl) rfl (fun _ _ z => z) rfl (by decide) (by decide) (by decide) (Nat.le_of_ble_eq_true rfl) (Nat.le_of_ble_eq_true rfl) (fun q5 hq5 => ?_)
  show Kz X D cT A 2 41 [(0, .ref (a0 33))] [.ref q5, .ref (a0 33)] ((a0 33, .inr (5, [.ref q1, .ref q2, .ref q3, .ref q4, .int 0, .null, .int 0, .int 0, .int 0, .int 0, .int 0, .int 0, .int 0, .int 0, .int 0, .int 0, .int 0, .long 0, .long 0, .long 0, .null, .null, .null, .null, .null, .int 0, .null])) :: (((((wl33 a0 cT M ++ [arI cT q1 123]) ++ [arI cT q2 41]) ++ [arZ cT q3 2]) ++ [arI cT q4 41]) ++ [arI cT q5 160])) 5 367
  refine k_putF (k := 5) (ty := .array .int) 0 hO hI dX5_init_41 ck5 (by decide) (by decide +kernel) rfl rfl (tb_of 709 (by decide +kernel) rfl) rfl rfl rfl (Nat.le_of_ble_eq_true rfl) ?_
  show Kz X D cT A 2 44 [(0, .ref (a0 33))] [] ((a0 33, .inr (5, [.ref q1, .ref q2, .ref q3, .ref q4, .int 0, .ref q5, .int 0, .int 0, .int 0, .int 0, .int 0, .int 0, .int 0, .int 0, .int 0, .int 0, .int 0, .long 0, .long 0, .long 0, .null, .null, .null, .null, .null, .int 0, .null])) :: (((((wl33 a0 cT M ++ [arI cT q1 123]) ++ [arI cT q2 41]) ++ [arZ cT q3 2]) ++ [arI cT q4 41]) ++ [arI cT q5 160])) 5 367
  refine k_aload_n 0 hO dX5_init_44 rfl ?_
  refine k_bipush (v := 21) hO dX5_init_45 (by decide) ?_
  refine k_newa (ty := .int) 0 10 21 hO dX5_init_47 rfl (tb_of 192 (by decide +kernel) rfl) rfl (fun _ _ z => z) rfl (by decide) (by decide) (by decide) (Nat.le_of_ble_eq_true rfl) (Nat.le_of_ble_eq_true rfl) (fun q6 hq6 => ?_)
  show Kz X D cT A 2 49 [(0, .ref (a0 33))] [.ref q6, .ref (a0 33)] ((a0 33, .inr (5, [.ref q1, .ref q2, .ref q3, .ref q4, .int 0, .ref q5, .int 0, .int 0, .int 0, .int 0, .int 0, .int 0, .int 0, .int 0, .int 0, .int 0, .int 0, .long 0, .long 0, .long 0, .null, .null, .null, .null, .null, .int 0, .null])) :: ((((((wl33 a0 cT M ++ [arI cT q1 123]) ++ [arI cT q2 41]) ++ [arZ cT q3 2]) ++ [arI cT q4 41]) ++ [arI cT q5 160]) ++ [arI cT q6 21])) 6 388
  refine k_putF (k := 20) (ty := .array .int) 0 hO hI dX5_init_49 ck5 (by decide) (by decide +kernel) rfl rfl (tb_of 724 (by decide +kernel) rfl) rfl rfl rfl (Nat.le_of_ble_eq_true rfl) ?_
  show Kz X D cT A 2 52 [(0, .ref (a0 33))] [] ((a0 33, .inr (5, [.ref q1, .ref q2, .ref q3, .ref q4, .int 0, .ref q5, .int 0, .int 0, .int 0, .int 0, .int 0, .int 0, .int 0, .int 0, .int 0, .int 0, .int 0, .long 0, .long 0, .long 0, .ref q6, .null, .null, .null, .null, .int 0, .null])) :: ((((((wl33 a0 cT M ++ [arI cT q1 123]) ++ [arI cT q2 41]) ++ [arZ cT q3 2]) ++ [arI cT q4 41]) ++ [arI cT q5 160]) ++ [arI cT q6 21])) 6 388
  refine k_aload_n 0 hO dX5_init_52 rfl ?_
  refine k_sipush (v := 441) hO dX5_init_53 (by decide) ?_
  refine k_newa (ty := .int) 0 10 441 hO dX5_init_56 rfl (tb_of 192 (by decide +kernel) rfl) rfl (fun _ _ z => z) rfl (by decide) (by decide) (by decide) (Nat.le_of_ble_eq_true rfl) (Nat.le_of_ble_eq_true rfl) (fun q7 hq7 => ?_)
  show Kz X D cT A 2 58 [(0, .ref (a0 33))] [.ref q7, .ref (a0 33)] ((a0 33, .inr (5, [.ref q1, .ref q2, .ref q3, .ref q4, .int 0, .ref q5, .int 0, .int 0, .int 0, .int 0, .int 0, .int 0, .int 0, .int 0, .int 0, .int 0, .int 0, .long 0, .long 0, .long 0, .ref q6, .null, .null, .null, .null, .int 0, .null])) :: (((((((wl33 a0 cT M ++ [arI cT q1 123]) ++ [arI cT q2 41]) ++ [arZ cT q3 2]) ++ [arI cT q4 41]) ++ [arI cT q5 160]) ++ [arI cT q6 21]) ++ [arI cT q7 441])) 7 829
  refine k_putF (k := 21) (ty := .array .int) 0 hO hI dX5_init_58 ck5 (by decide) (by decide +kernel) rfl rfl (tb_of 725 (by decide +kernel) rfl) rfl rfl rfl (Nat.le_of_ble_eq_true rfl) ?_
  show Kz X D cT A 2 61 [(0, .ref (a0 33))] [] ((a0 33, .inr (5, [.ref q1, .ref q2, .ref q3, .ref q4, .int 0, .ref q5, .int 0, .int 0, .int 0, .int 0, .int 0, .int 0, .int 0, .int 0, .int 0, .int 0, .int 0, .long 0, .long 0, .long 0, .ref q6, .ref q7, .null, .null, .null, .int 0, .null])) :: (((((((wl33 a0 cT M ++ [arI cT q1 123]) ++ [arI cT q2 41]) ++ [arZ cT q3 2]) ++ [arI cT q4 41]) ++ [arI cT q5 160]) ++ [arI cT q6 21]) ++ [arI cT q7 441])) 7 829
  refine k_aload_n 0 hO dX5_init_61 rfl ?_
  refine k_iconst (v := 4) hO dX5_init_62 (by decide) ?_
  refine k_newa (ty := .int) 0 10 4 hO dX5_init_63 rfl (tb_of 192 (by decide +kernel) rfl) rfl (fun _ _ z => z) rfl (by decide) (by decide) (by decide) (Nat.le_of_ble_eq_true rfl) (Nat.le_of_ble_eq_true rfl) (fun q8 hq8 => ?_)
  show Kz X D cT A 2 65 [(0, .ref (a0 33))] [.ref q8, .ref (a0 33)] ((a0 33, .inr (5, [.ref q1, .ref q2, .ref q3, .ref q4, .int 0, .ref q5, .int 0, .int 0, .int 0, .int 0, .int 0, .int 0, .int 0, .int 0, .int 0, .int 0, .int 0, .long 0, .long 0, .long 0, .ref q6, .ref q7, .null, .null, .null, .int 0, .null])) :: ((((((((wl33 a0 cT M ++ [arI cT q1 123]) ++ [arI cT q2 41]) ++ [arZ cT q3 2]) ++ [arI cT q4 41]) ++ [arI cT q5 160]) ++ [arI cT q6 21]) ++ [arI cT q7 441]) ++ [arI cT q8 4])) 8 833
  refine k_putF (k := 22) (ty := .array .int) 0 hO hI dX5_init_65 ck5 (by decide) (by decide +kernel) rfl rfl (tb_of 726 (by decide +kernel) rfl) rfl rfl rfl (Nat.le_of_ble_eq_true rfl) ?_
  show Kz X D cT A 2 68 [(0, .ref (a0 33))] [] ((a0 33, .inr (5, [.ref q1, .ref q2, .ref q3, .ref q4, .int 0, .ref q5, .int 0, .int 0, .int 0, .int 0, .int 0, .int 0, .int 0, .int 0, .int 0, .int 0, .int 0, .long 0, .long 0, .long 0, .ref q6, .ref q7, .ref q8, .null, .null, .int 0, .null])) :: ((((((((wl33 a0 cT M ++ [arI cT q1 123]) ++ [arI cT q2 41]) ++ [arZ cT q3 2]) ++ [arI cT q4 41]) ++ [arI cT q5 160]) ++ [arI cT q6 21]) ++ [arI cT q7 441]) ++ [arI cT q8 4])) 8 833
  refine k_aload_n 0 hO dX5_init_68 rfl ?_
  refine k_iconst (v := 4) hO dX5_init_69 (by decide) ?_
  refine k_newa (ty := .int) 0 10 4 hO dX5_init_70 rfl (tb_of 192 (by decide +kernel) rfl) rfl (fun _ _ z => z) rfl (by decide) (by decide) (by decide) (Nat.le_of_ble_eq_true rfl) (Nat.le_of_ble_eq_true rfl) (fun q9 hq9 => ?_)
  show Kz X D cT A 2 72 [(0, .ref (a0 33))] [.ref q9, .ref (a0 33)] ((a0 33, .inr (5, [.ref q1, .ref q2, .ref q3, .ref q4, .int 0, .ref q5, .int 0, .int 0, .int 0, .int 0, .int 0, .int 0, .int 0, .int 0, .int 0, .int 0, .int 0, .long 0, .long 0, .long 0, .ref q6, .ref q7, .ref q8, .null, .null, .int 0, .null])) :: (((((((((wl33 a0 cT M ++ [arI cT q1 123]) ++ [arI cT q2 41]) ++ [arZ cT q3 2]) ++ [arI cT q4 41]) ++ [arI cT q5 160]) ++ [arI cT q6 21]) ++ [arI cT q7 441]) ++ [arI cT q8 4]) ++ [arI cT q9 4])) 9 837
  refine k_putF (k := 23) (ty := .array .int) 0 hO hI dX5_init_72 ck5 (by decide) (by decide +kernel) rfl rfl (tb_of 727 (by decide +kernel) rfl) rfl rfl rfl (Nat.le_of_ble_eq_true rfl) ?_
  show Kz X D cT A 2 75 [(0, .ref (a0 33))] [] ((a0 33, .inr (5, [.ref q1, .ref q2, .ref q3, .ref q4, .int 0, .ref q5, .int 0, .int 0, .int 0, .int 0, .int 0, .int 0, .int 0, .int 0, .int 0, .int 0, .int 0, .long 0, .long 0, .long 0, .ref q6, .ref q7, .ref q8, .ref q9, .null, .int 0, .null])) :: (((((((((wl33 a0 cT M ++ [arI cT q1 123]) ++ [arI cT q2 41]) ++ [arZ cT q3 2]) ++ [arI cT q4 41]) ++ [arI cT q5 160]) ++ [arI cT q6 21]) ++ [arI cT q7 441]) ++ [arI cT q8 4]) ++ [arI cT q9 4])) 9 837
  refine k_aload_n 0 hO dX5_init_75 rfl ?_
  refine k_sipush (v := 160) hO dX5_init_76 (by decide) ?_
  refine k_newa (ty := .int) 0 10 160 hO dX5_init_79 rfl (tb_of 192 (by decide +kernel) rfl) rfl (fun _ _ z => z) rfl (by decide) (by decide) (by decide) (Nat.le_of_ble_eq_true rfl) (Nat.le_of_ble_eq_true rfl) (fun q10 hq10 => ?_)
  show Kz X D cT A 2 81 [(0, .ref (a0 33))] [.ref q10, .ref (a0 33)] ((a0 33, .inr (5, [.ref q1, .ref q2, .ref q3, .ref q4, .int 0, .ref q5, .int 0, .int 0, .int 0, .int 0, .int 0, .int 0, .int 0, .int 0, .int 0, .int 0, .int 0, .long 0, .long 0, .long 0, .ref q6, .ref q7, .ref q8, .ref q9, .null, .int 0, .null])) :: ((((((((((wl33 a0 cT M ++ [arI cT q1 123]) ++ [arI cT q2 41]) ++ [arZ cT q3 2]) ++ [arI cT q4 41]) ++ [arI cT q5 160]) ++ [arI cT q6 21]) ++ [arI cT q7 441]) ++ [arI cT q8 4]) ++ [arI cT q9 4]) ++ [arI cT q10 160])) 10 997
  refine k_putF (k := 24) (ty := .array .int) 0 hO hI dX5_init_81 ck5 (by decide) (by decide +kernel) rfl rfl (tb_of 728 (by decide +kernel) rfl) rfl rfl rfl (Nat.le_of_ble_eq_true rfl) ?_
  show Kz X D cT A 2 84 [(0, .ref (a0 33))] [] ((a0 33, .inr (5, [.ref q1, .ref q2, .ref q3, .ref q4, .int 0, .ref q5, .int 0, .int 0, .int 0, .int 0, .int 0, .int 0, .int 0, .int 0, .int 0, .int 0, .int 0, .long 0, .long 0, .long 0, .ref q6, .ref q7, .ref q8, .ref q9, .ref q10, .int 0, .null])) :: ((((((((((wl33 a0 cT M ++ [arI cT q1 123]) ++ [arI cT q2 41]) ++ [arZ cT q3 2]) ++ [arI cT q4 41]) ++ [arI cT q5 160]) ++ [arI cT q6 21]) ++ [arI cT q7 441]) ++ [arI cT q8 4]) ++ [arI cT q9 4]) ++ [arI cT q10 160])) 10 997
  refine k_aload_n 0 hO dX5_init_84 rfl ?_
  refine k_bipush (v := 41) hO dX5_init_85 (by decide) ?_
  refine k_newa (ty := .int) 0 10 41 hO dX5_init_87 rfl (tb_of 192 (by decide +kernel) rfl) rfl (fun _ _ z => z) rfl (by decide) (by decide) (by decide) (Nat.le_of_ble_eq_true rfl) (Nat.le_of_ble_eq_true rfl) (fun q11 hq11 => ?_)
  show Kz X D cT A 2 89 [(0, .ref (a0 33))] [.ref q11, .ref (a0 33)] ((a0 33, .inr (5, [.ref q1, .ref q2, .ref q3, .ref q4, .int 0, .ref q5, .int 0, .int 0, .int 0, .int 0, .int 0, .int 0, .int 0, .int 0, .int 0, .int 0, .int 0, .long 0, .long 0, .long 0, .ref q6, .ref q7, .ref q8, .ref q9, .ref q10, .int 0, .null])) :: (((((((((((wl33 a0 cT M ++ [arI cT q1 123]) ++ [arI cT q2 41]) ++ [arZ cT q3 2]) ++ [arI cT q4 41]) ++ [arI cT q5 160]) ++ [arI cT q6 21]) ++ [arI cT q7 441]) ++ [arI cT q8 4]) ++ [arI cT q9 4]) ++ [arI cT q10 160]) ++ [arI cT q11 41])) 11 1038
  refine k_putF (k := 26) (ty := .array .int) 0 hO hI dX5_init_89 ck5 (by decide) (by decide +kernel) rfl rfl (tb_of 730 (by decide +kernel) rfl) rfl rfl rfl (Nat.le_of_ble_eq_true rfl) ?_
  show Kz X D cT A 2 92 [(0, .ref (a0 33))] [] ((a0 33, .inr (5, [.ref q1, .ref q2, .ref q3, .ref q4, .int 0, .ref q5, .int 0, .int 0, .int 0, .int 0, .int 0, .int 0, .int 0, .int 0, .int 0, .int 0, .int 0, .long 0, .long 0, .long 0, .ref q6, .ref q7, .ref q8, .ref q9, .ref q10, .int 0, .ref q11])) :: (((((((((((wl33 a0 cT M ++ [arI cT q1 123]) ++ [arI cT q2 41]) ++ [arZ cT q3 2]) ++ [arI cT q4 41]) ++ [arI cT q5 160]) ++ [arI cT q6 21]) ++ [arI cT q7 441]) ++ [arI cT q8 4]) ++ [arI cT q9 4]) ++ [arI cT q10 160]) ++ [arI cT q11 41])) 11 1038
  obtain ⟨ad, had⟩ : ∃ ad : Nat → Nat, ad = fun k => if 34 ≤ k ∧ k ≤ 44 then ([q1, q2, q3, q4, q5, q6, q7, q8, q9, q10, q11] : List Nat).getD (k - 34) 0 else a0 k := ⟨_, rfl⟩
  have hlo : ∀ k, ¬ (34 ≤ k ∧ k ≤ 44) → ad k = a0 k := fun k hk => by rw [had]; exact if_neg hk
  have c34 : ad 34 = q1 := by rw [had]; rfl
  have c35 : ad 35 = q2 := by rw [had]; rfl
  have c36 : ad 36 = q3 := by rw [had]; rfl
  have c37 : ad 37 = q4 := by rw [had]; rfl
  have c38 : ad 38 = q5 := by rw [had]; rfl
  have c39 : ad 39 = q6 := by rw [had]; rfl
  have c40 : ad 40 = q7 := by rw [had]; rfl
  have c41 : ad 41 = q8 := by rw [had]; rfl
  have c42 : ad 42 = q9 := by rw [had]; rfl
  have c43 : ad 43 = q10 := by rw [had]; rfl
  have c44 : ad 44 = q11 := by rw [had]; rfl
  have hhi : ∀ k, 34 ≤ k → k ≤ 44 → sz ≤ ad k := fun k h1 h2 => by
    rcases (show k = 34 ∨ k = 35 ∨ k = 36 ∨ k = 37 ∨ k = 38 ∨ k = 39 ∨ k = 40 ∨ k = 41 ∨ k = 42 ∨ k = 43 ∨ k = 44 by omega) with rfl | rfl | rfl | rfl | rfl | rfl | rfl | rfl | rfl | rfl | rfl
    · rw [c34]; exact hq1
    · rw [c35]; exact hq2
    · rw [c36]; exact hq3
    · rw [c37]; exact hq4
    · rw [c38]; exact hq5
    · rw [c39]; exact hq6
    · rw [c40]; exact hq7
    · rw [c41]; exact hq8
    · rw [c42]; exact hq9
    · rw [c43]; exact hq10
    · rw [c44]; exact hq11
  have f1 : (fun i : Nat => (([16, 20] : List Nat)[i]?).map ad) = fun i : Nat => (([16, 20] : List Nat)[i]?).map a0 := by
    funext i
    match i with
    | 0 => exact congrArg some (hlo 16 (by decide))
    | 1 => exact congrArg some (hlo 20 (by decide))
    | j + 2 => rfl
  have f2 : (fun i : Nat => (([24, 26, 28, 30] : List Nat)[i]?).map ad) = fun i : Nat => (([24, 26, 28, 30] : List Nat)[i]?).map a0 := by
    funext i
    match i with
    | 0 => exact congrArg some (hlo 24 (by decide))
    | 1 => exact congrArg some (hlo 26 (by decide))
    | 2 => exact congrArg some (hlo 28 (by decide))
    | 3 => exact congrArg some (hlo 30 (by decide))
    | j + 4 => rfl
  have e33 : wl33 ad cT (mk45 M) = wl33 a0 cT M := by
    unfold wl33
    simp only [f1, f2, hlo 0 (by decide), hlo 1 (by decide), hlo 2 (by decide), hlo 3 (by decide), hlo 4 (by decide), hlo 5 (by decide), hlo 6 (by decide), hlo 7 (by decide), hlo 8 (by decide), hlo 9 (by decide), hlo 10 (by decide), hlo 11 (by decide), hlo 12 (by decide), hlo 13 (by decide), hlo 14 (by decide), hlo 15 (by decide), hlo 16 (by decide), hlo 17 (by decide), hlo 18 (by decide), hlo 19 (by decide), hlo 20 (by decide), hlo 21 (by decide), hlo 22 (by decide), hlo 23 (by decide), hlo 24 (by decide), hlo 25 (by decide), hlo 26 (by decide), hlo 27 (by decide), hlo 28 (by decide), hlo 29 (by decide), hlo 30 (by decide), hlo 31 (by decide), hlo 32 (by decide)]
    rfl
  have e12 : wl12 ad cT (mk45 M) = [(a0 33, .inr (5, [.ref q1, .ref q2, .ref q3, .ref q4, .int 0, .ref q5, .int 0, .int 0, .int 0, .int 0, .int 0, .int 0, .int 0, .int 0, .int 0, .int 0, .int 0, .long 0, .long 0, .long 0, .ref q6, .ref q7, .ref q8, .ref q9, .ref q10, .int 0, .ref q11])), arI cT q1 123, arI cT q2 41, arZ cT q3 2, arI cT q4 41, arI cT q5 160, arI cT q6 21, arI cT q7 441, arI cT q8 4, arI cT q9 4, arI cT q10 160, arI cT q11 41] := by
    unfold wl12
    simp only [hlo 33 (by decide), c34, c35, c36, c37, c38, c39, c40, c41, c42, c43, c44]
    rfl
  have hp : ((a0 33, .inr (5, [.ref q1, .ref q2, .ref q3, .ref q4, .int 0, .ref q5, .int 0, .int 0, .int 0, .int 0, .int 0, .int 0, .int 0, .int 0, .int 0, .int 0, .int 0, .long 0, .long 0, .long 0, .ref q6, .ref q7, .ref q8, .ref q9, .ref q10, .int 0, .ref q11])) :: (((((((((((wl33 a0 cT M ++ [arI cT q1 123]) ++ [arI cT q2 41]) ++ [arZ cT q3 2]) ++ [arI cT q4 41]) ++ [arI cT q5 160]) ++ [arI cT q6 21]) ++ [arI cT q7 441]) ++ [arI cT q8 4]) ++ [arI cT q9 4]) ++ [arI cT q10 160]) ++ [arI cT q11 41])).Perm (wlz ad cT (mk45 M)) := by
    rw [wlz_split, e33, e12]
    simp only [List.append_assoc, List.cons_append, List.nil_append]
    exact List.perm_middle.symm
  have hAA : ∀ q, AAz ad sz q → A q := by
    intro q hq
    rw [hA]
    rcases hq with ⟨k, hk, rfl⟩ | hq
    · by_cases h34 : 34 ≤ k
      · exact Or.inr (hhi k h34 (by omega))
      · rw [hlo k (by omega)]
        by_cases h33 : k = 33
        · subst h33; exact Or.inl ⟨0, _, rfl⟩
        · obtain ⟨x, hx⟩ := wl33_some (ad := a0) (cT := cT) M (show k < 33 by omega)
          exact Or.inl ⟨k + 1, x, hx⟩
    · exact Or.inr hq
  have hA2 : ∀ q, A q → AAz ad sz q := by
    intro q hq
    rw [hA] at hq
    rcases hq with ⟨k, x, hx⟩ | hq
    · cases k with
      | zero =>
        cases hx
        exact Or.inl ⟨33, by decide, (hlo 33 (by decide)).symm⟩
      | succ k =>
        obtain ⟨h1, h2⟩ := wl33_at (ad := a0) (cT := cT) (M := M) (k := k) hx
        exact Or.inl ⟨k, by omega, by rw [hlo k (by omega)]; exact h1⟩
    · exact Or.inr hq
  obtain ⟨p, l0, e, R, s, m, args, below, meth, c, Q⟩ := X
  obtain ⟨hx, hb, hml, hown, hts, hNW, hK, hA0, hsz, r1, r2, r3, r4⟩ := hO
  subst hsz
  have hO2 : Okz (p, l0, e, R, s, m, args, below, meth, c, 11, 1038, Q, D, cT, ad, 2) cX5_init RX5 1 := by
    refine ⟨hx, hb, hml, hown, hts, hNW, hE.1.cong (fun k hk => hlo k (by omega)), hK, (hE.2.narrow (fun q hq => ?_)).cong (fun k hk => hlo k (by omega)), r1, r2, r3, r4⟩
    have := hAA q hq
    rw [hA] at this
    exact this
  refine Kz.gz ad (mk45 M) [.ref 33, .null] [] hA2 hp (fun q hq => ?_) rfl ?_
  · obtain ⟨v, h1, h2, h3⟩ := lvK_mem.mp hq
    obtain ⟨i, x⟩ := q
    match i, h1 with
    | 0, h1 =>
      cases h1
      have h3 : x = .ref (ad 33) := h3
      rw [h3, hlo 33 (by decide)]
      exact List.mem_cons_self
    | 1, h1 => cases h1; exact absurd rfl h2
    | j + 2, h1 => simp at h1
  · exact gX5_init (M := M) rfl hO2 (fun a k ha => by show (if a < 33 then M.1 a else fun _ => 0) k = 0; rw [if_neg (by omega)]) (fun a k ha => by show (if a < 33 then M.1 a else fun _ => 0) k = _; rw [if_pos ha]) (fun M' lv g1 g2 => g_ret (ad, M') hO2 hr hAA dX5_init_121 ⟨hlo, g1, g2⟩ rfl (by decide) (by decide))
