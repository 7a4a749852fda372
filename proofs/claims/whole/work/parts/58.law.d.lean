/-! the law's loop, and its start -/
theorem Kz.useD {X : Kxz} {D : va_G} {cT : Nat → ClassId} {A : Nat → Prop} {N pc : Nat} {lv : List (Nat × Value)} {st : List Value} {ws : va_W} {cells slots : Nat} (kk : va_D A ws → Kz X D cT A N pc lv st ws cells slots) : Kz X D cT A N pc lv st ws cells slots := by
  obtain ⟨p, l, e, R, s, m, args, below, meth, c, Q⟩ := X
  intro H locs ls hl hP hD hS
  exact kk hD H locs ls hl hP hD hS
theorem sw_0_37 (x : Int32) : (∃ k : Nat, k ≤ 37 ∧ x = nI k) ∨ (x.toInt < 0 ∨ 37 < x.toInt) := by
  by_cases h0 : x < 0
  · right; left
    rw [Int32.lt_iff_toInt_lt] at h0
    exact h0
  · obtain ⟨k, hk, e⟩ := nI_of h0
    by_cases h : k ≤ 37
    · exact Or.inl ⟨k, h, e⟩
    · right; right
      have h1 : nI 37 < x := by rw [e]; exact nI_lt (by omega) hk
      rw [Int32.lt_iff_toInt_lt] at h1
      exact h1
theorem law_len {L j : Nat} (hL : L ≤ 320) (hj : j ≤ L) (h : ¬ nI L - 5 < nI j) : j + 5 ≤ L := by
  by_cases h5 : 5 ≤ L
  · rw [show (5 : Int32) = nI 5 from rfl, nI_sub h5, nI_ltI (by omega) (by omega)] at h
    omega
  · exfalso
    apply h
    have h1 : nI L - 5 < 0 := by
      rcases (show L = 0 ∨ L = 1 ∨ L = 2 ∨ L = 3 ∨ L = 4 by omega) with rfl | rfl | rfl | rfl | rfl <;> decide
    rw [Int32.lt_iff_toInt_lt] at h1 ⊢
    have h2 : (0 : Int32) ≤ nI j := nI_pos' (by omega)
    rw [Int32.le_iff_toInt_le] at h2
    omega
set_option maxHeartbeats 8000000 in
theorem law_loop {X : Cxz} (hLn : nLz X = 4) (hO : Okz X cL_law RL 12) (hQ : LQz X) {L : Nat} {xs : Nat → Int32} (hSc : SCz X L xs) (hL3 : L ≤ 320) : ∀ (n j : Nat) (M : Mm) (σ : Sta), j ≤ L → L + 1 ≤ j + n → RC M σ → RD M σ → Gz X 18 [.ref 98, .ref 0, .ref 33, .int (nI j)] [] M := by
  intro n
  induction n with
  | zero => intro j M σ h1 h2; omega
  | succ n ih =>
    intro j M σ h1 h2 hC hD
    have nxt : j + 5 ≤ L → ∀ (M' : Mm) (σ' : Sta), RC M' σ' → RD M' σ' → Gz X 1286 [.ref 98, .ref 0, .ref 33, .int (nI j)] [] M' := by
      intro hj M' σ' hC hD
      refine s_iinc hLn hO dL_law_1286 rfl (show Int32.ofInt 5 = 5 by decide) (by decide) rfl ?_
      rw [nI_k5]
      refine r_goto 18 hO dL_law_1289 (by decide) ?_
      exact ih (j + 5) M' σ' (by omega) (by omega) hC hD
    refine r_iload_n hO dL_law_18 rfl ?_
    refine r_aload_n hO dL_law_19 rfl ?_
    refine r_sclen hSc hO dL_law_20 ?_
    refine r_iconst hO dL_law_21 ic_5 ?_
    refine r_isub hO dL_law_22 ?_
    refine r_icmp_gt 1292 hO dL_law_23 (by decide) (fun _ => ?_) (fun hc => ?_)
    · refine r_iconst hO dL_law_1292 ic_1 ?_
      exact r_lawret hQ hO dL_law_1293
    · have hj := law_len hL3 h1 hc
      refine r_aload_n hO dL_law_26 rfl ?_
      refine r_iload_n hO dL_law_27 rfl ?_
      refine r_sld hSc hO dL_law_28 j rfl hL3 (by omega) ?_
      refine r_bipush hO dL_law_29 bc_63 ?_
      refine r_iand hO dL_law_31 ?_
      rcases sw_0_37 (xs j &&& 63) with ⟨k, hk, hx⟩ | hx
      · rw [hx]
        rcases (show k = 0 ∨ k = 1 ∨ k = 2 ∨ k = 3 ∨ k = 4 ∨ k = 5 ∨ k = 6 ∨ k = 7 ∨ k = 8 ∨ k = 9 ∨ k = 10 ∨ k = 11 ∨ k = 12 ∨ k = 13 ∨ k = 14 ∨ k = 15 ∨ k = 16 ∨ k = 17 ∨ k = 18 ∨ k = 19 ∨ k = 20 ∨ k = 21 ∨ k = 22 ∨ k = 23 ∨ k = 24 ∨ k = 25 ∨ k = 26 ∨ k = 27 ∨ k = 28 ∨ k = 29 ∨ k = 30 ∨ k = 31 ∨ k = 32 ∨ k = 33 ∨ k = 34 ∨ k = 35 ∨ k = 36 ∨ k = 37 by omega) with rfl | rfl | rfl | rfl | rfl | rfl | rfl | rfl | rfl | rfl | rfl | rfl | rfl | rfl | rfl | rfl | rfl | rfl | rfl | rfl | rfl | rfl | rfl | rfl | rfl | rfl | rfl | rfl | rfl | rfl | rfl | rfl | rfl | rfl | rfl | rfl | rfl | rfl
        · exact r_tabIn 200 hO dL_law_32 (by decide) (by decide) rfl (by decide) (law_c0 hO hSc hL3 hj hC hD (nxt hj))
        · exact r_tabIn 223 hO dL_law_32 (by decide) (by decide) rfl (by decide) (law_c1 hO hSc hL3 hj hC hD (nxt hj))
        · exact r_tabIn 246 hO dL_law_32 (by decide) (by decide) rfl (by decide) (law_c2 hO hSc hL3 hj hC hD (nxt hj))
        · exact r_tabIn 259 hO dL_law_32 (by decide) (by decide) rfl (by decide) (law_c3 hO hSc hL3 hj hC hD (nxt hj))
        · exact r_tabIn 272 hO dL_law_32 (by decide) (by decide) rfl (by decide) (law_c4 hO hSc hL3 hj hC hD (nxt hj))
        · exact r_tabIn 295 hO dL_law_32 (by decide) (by decide) rfl (by decide) (law_c5 hO hSc hL3 hj hC hD (nxt hj))
        · exact r_tabIn 328 hO dL_law_32 (by decide) (by decide) rfl (by decide) (law_c6 hO hSc hL3 hj hC hD (nxt hj))
        · exact r_tabIn 361 hO dL_law_32 (by decide) (by decide) rfl (by decide) (law_c7 hO hSc hL3 hj hC hD (nxt hj))
        · exact r_tabIn 404 hO dL_law_32 (by decide) (by decide) rfl (by decide) (law_c8 hO hSc hL3 hj hC hD (nxt hj))
        · exact r_tabIn 427 hO dL_law_32 (by decide) (by decide) rfl (by decide) (law_c9 hO hSc hL3 hj hC hD (nxt hj))
        · exact r_tabIn 460 hO dL_law_32 (by decide) (by decide) rfl (by decide) (law_c10 hO hSc hL3 hj hC hD (nxt hj))
        · exact r_tabIn 483 hO dL_law_32 (by decide) (by decide) rfl (by decide) (law_c11 hO hSc hL3 hj hC hD (nxt hj))
        · exact r_tabIn 506 hO dL_law_32 (by decide) (by decide) rfl (by decide) (law_c12 hO hSc hL3 hj hC hD (nxt hj))
        · exact r_tabIn 539 hO dL_law_32 (by decide) (by decide) rfl (by decide) (law_c13 hO hSc hL3 hj hC hD (nxt hj))
        · exact r_tabIn 572 hO dL_law_32 (by decide) (by decide) rfl (by decide) (law_c14 hO hSc hL3 hj hC hD (nxt hj))
        · exact r_tabIn 585 hO dL_law_32 (by decide) (by decide) rfl (by decide) (law_c15 hO hSc hL3 hj hC hD (nxt hj))
        · exact r_tabIn 608 hO dL_law_32 (by decide) (by decide) rfl (by decide) (law_c16 hO hSc hL3 hj hC hD (nxt hj))
        · exact r_tabIn 631 hO dL_law_32 (by decide) (by decide) rfl (by decide) (law_c17 hO hSc hL3 hj hC hD (nxt hj))
        · exact r_tabIn 654 hO dL_law_32 (by decide) (by decide) rfl (by decide) (law_c18 hO hSc hL3 hj hC hD (nxt hj))
        · exact r_tabIn 677 hO dL_law_32 (by decide) (by decide) rfl (by decide) (law_c19 hO hSc hL3 hj hC hD (nxt hj))
        · exact r_tabIn 700 hO dL_law_32 (by decide) (by decide) rfl (by decide) (law_c20 hO hSc hL3 hj hC hD (nxt hj))
        · exact r_tabIn 733 hO dL_law_32 (by decide) (by decide) rfl (by decide) (law_c21 hO hSc hL3 hj hC hD (nxt hj))
        · exact r_tabIn 766 hO dL_law_32 (by decide) (by decide) rfl (by decide) (law_c22 hO hSc hL3 hj hC hD (nxt hj))
        · exact r_tabIn 799 hO dL_law_32 (by decide) (by decide) rfl (by decide) (law_c23 hO hSc hL3 hj hC hD (nxt hj))
        · exact r_tabIn 843 hO dL_law_32 (by decide) (by decide) rfl (by decide) (law_c24 hO hSc hL3 hj hC hD (nxt hj))
        · exact r_tabIn 887 hO dL_law_32 (by decide) (by decide) rfl (by decide) (law_c25 hO hSc hL3 hj hC hD (nxt hj))
        · exact r_tabIn 920 hO dL_law_32 (by decide) (by decide) rfl (by decide) (law_c26 hO hSc hL3 hj hC hD (nxt hj))
        · exact r_tabIn 943 hO dL_law_32 (by decide) (by decide) rfl (by decide) (law_c27 hO hSc hL3 hj hC hD (nxt hj))
        · exact r_tabIn 966 hO dL_law_32 (by decide) (by decide) rfl (by decide) (law_c28 hO hSc hL3 hj hC hD (nxt hj))
        · exact r_tabIn 989 hO dL_law_32 (by decide) (by decide) rfl (by decide) (law_c29 hO hSc hL3 hj hC hD (nxt hj))
        · exact r_tabIn 1022 hO dL_law_32 (by decide) (by decide) rfl (by decide) (law_c30 hO hSc hL3 hj hC hD (nxt hj))
        · exact r_tabIn 1065 hO dL_law_32 (by decide) (by decide) rfl (by decide) (law_c31 hO hSc hL3 hj hC hD (nxt hj))
        · exact r_tabIn 1088 hO dL_law_32 (by decide) (by decide) rfl (by decide) (law_c32 hO hSc hL3 hj hC hD (nxt hj))
        · exact r_tabIn 1111 hO dL_law_32 (by decide) (by decide) rfl (by decide) (law_c33 hO hSc hL3 hj hC hD (nxt hj))
        · exact r_tabIn 1154 hO dL_law_32 (by decide) (by decide) rfl (by decide) (law_c34 hO hSc hL3 hj hC hD (nxt hj))
        · exact r_tabIn 1197 hO dL_law_32 (by decide) (by decide) rfl (by decide) (law_c35 hO hSc hL3 hj hC hD (nxt hj))
        · exact r_tabIn 1250 hO dL_law_32 (by decide) (by decide) rfl (by decide) (law_c36 hO hSc hL3 hj hC hD (nxt hj))
        · exact r_tabIn 1263 hO dL_law_32 (by decide) (by decide) rfl (by decide) (law_c37 hO hSc hL3 hj hC hD (nxt hj))
      · exact r_tabOut 1286 hO dL_law_32 hx (by decide) (nxt hj M σ hC hD)
