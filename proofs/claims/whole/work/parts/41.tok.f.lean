/-! the text, reference: words, numbers -/
def isD (t : List Nat) (b e n : Nat) (a1 a2 a3 a4 : Nat) : Bool := decide (e - b = n ∧ t.getD b 0 = a1 ∧ t.getD (b + 1) 0 = a2 ∧ t.getD (b + 2) 0 = a3 ∧ t.getD (b + 3) 0 = a4)
theorem byD_g {t : List Nat} {a : Nat} (h : a < t.length) : byD t a = nI (t.getD a 0) := by rw [byD_s (List.getElem?_eq_getElem h), List.getD_eq_getElem?_getD, List.getElem?_eq_getElem h]; rfl
theorem gd127 {M : Mm} {t : List Nat} (h : TpD M t) (a : Nat) : t.getD a 0 < 128 := by
  rw [List.getD_eq_getElem?_getD]
  cases q : t[a]? with
  | none => show 0 < 128; omega
  | some c => have := (h.2.2 a c q).2; show c < 128; omega
set_option maxHeartbeats 4000000 in
theorem zX5_is (l : Launch) {M : Mm} {t : List Nat} (h : TpD M t) {b e : Nat} (hb : M.1 33 8 = nI b) (he : M.1 33 7 = nI e) (hbe : b ≤ e) (het : e ≤ t.length) {x0 x1 x2 x3 x4 : Int32} (n a1 a2 a3 a4 : Nat) (hn : x0 = nI n) (ha1 : x1 = nI a1) (ha2 : x2 = nI a2) (ha3 : x3 = nI a3) (ha4 : x4 = nI a4) (hn4 : 4 ≤ n ∧ n < 10) (hlt : a1 < 128 ∧ a2 < 128 ∧ a3 < 128 ∧ a4 < 128) : CFz l 1 yX5_is cX5_is 6 (some .boolean) [.ref 33, .int x0, .int x1, .int x2, .int x3, .int x4] M (some (.int (bI (isD t b e n a1 a2 a3 a4)))) (M) := by
  refine Clz.on RX5 rfl (by decide +kernel) (Nat.le_of_ble_eq_true rfl) (fun X hL hO hr => ?_)
  show Gz X 0 [.ref 33, .int x0, .int x1, .int x2, .int x3, .int x4] [] M
  have hl160 := h.1
  refine r_aload_n hO dX5_is_0 rfl ?_
  refine r_getI hO dX5_is_1 fRX5_73 rfl ?_
  refine r_aload_n hO dX5_is_4 rfl ?_
  refine r_getI hO dX5_is_5 fRX5_67 rfl ?_
  refine r_isub hO dX5_is_8 ?_
  refine r_iload_n hO dX5_is_9 rfl ?_
  refine r_icmp_ne 73 hO dX5_is_10 (by decide) (fun h10 => ?_) (fun h10 => ?_)
  · rw [he, hb, nI_sub hbe, hn, nI_eq (by omega) (by omega)] at h10
    refine r_iconst hO dX5_is_73 ic_0 ?_
    exact r_ireturn hO hr dX5_is_74 rfl ⟨sI (by unfold isD; rw [decide_eq_false (fun z => h10 z.1)]; rfl), rfl⟩
  · rw [he, hb, nI_sub hbe, hn, nI_eq (by omega) (by omega)] at h10
    refine r_aload_n hO dX5_is_13 rfl ?_
    refine r_aload_n hO dX5_is_14 rfl ?_
    refine r_getI hO dX5_is_15 fRX5_67 rfl ?_
    refine r_fV hO dX5_is_18 kRX5_76 miX5_byteAt (zX5_byteD _ h b hb (by omega)) ⟨Nat.le_of_ble_eq_true rfl, Nat.le_of_ble_eq_true rfl, rfl, Nat.le_of_ble_eq_true rfl⟩ rfl rfl ?_
    refine r_iload_n hO dX5_is_21 rfl ?_
    refine r_icmp_ne 73 hO dX5_is_22 (by decide) (fun h22 => ?_) (fun h22 => ?_)
    · rw [byD_g (by omega), ha1, nI_eq (by have := gd127 h (b); omega) (by omega)] at h22
      refine r_iconst hO dX5_is_73 ic_0 ?_
      exact r_ireturn hO hr dX5_is_74 rfl ⟨sI (by unfold isD; rw [decide_eq_false (fun z => h22 z.2.1)]; rfl), rfl⟩
    · rw [byD_g (by omega), ha1, nI_eq (by have := gd127 h (b); omega) (by omega)] at h22
      refine r_aload_n hO dX5_is_25 rfl ?_
      refine r_aload_n hO dX5_is_26 rfl ?_
      refine r_getI hO dX5_is_27 fRX5_67 rfl ?_
      refine r_iconst hO dX5_is_30 ic_1 ?_
      refine r_iadd hO dX5_is_31 ?_
      refine r_fV hO dX5_is_32 kRX5_76 miX5_byteAt (zX5_byteD _ h (b + 1) (by rw [hb, nI_1]) (by omega)) ⟨Nat.le_of_ble_eq_true rfl, Nat.le_of_ble_eq_true rfl, rfl, Nat.le_of_ble_eq_true rfl⟩ rfl rfl ?_
      refine r_iload_n hO dX5_is_35 rfl ?_
      refine r_icmp_ne 73 hO dX5_is_36 (by decide) (fun h36 => ?_) (fun h36 => ?_)
      · rw [byD_g (by omega), ha2, nI_eq (by have := gd127 h (b + 1); omega) (by omega)] at h36
        refine r_iconst hO dX5_is_73 ic_0 ?_
        exact r_ireturn hO hr dX5_is_74 rfl ⟨sI (by unfold isD; rw [decide_eq_false (fun z => h36 z.2.2.1)]; rfl), rfl⟩
      · rw [byD_g (by omega), ha2, nI_eq (by have := gd127 h (b + 1); omega) (by omega)] at h36
        refine r_aload_n hO dX5_is_39 rfl ?_
        refine r_aload_n hO dX5_is_40 rfl ?_
        refine r_getI hO dX5_is_41 fRX5_67 rfl ?_
        refine r_iconst hO dX5_is_44 ic_2 ?_
        refine r_iadd hO dX5_is_45 ?_
        refine r_fV hO dX5_is_46 kRX5_76 miX5_byteAt (zX5_byteD _ h (b + 2) (by rw [hb, show (2 : Int32) = nI 2 from rfl, nI_add]) (by omega)) ⟨Nat.le_of_ble_eq_true rfl, Nat.le_of_ble_eq_true rfl, rfl, Nat.le_of_ble_eq_true rfl⟩ rfl rfl ?_
        refine r_iload hO dX5_is_49 rfl ?_
        refine r_icmp_ne 73 hO dX5_is_51 (by decide) (fun h51 => ?_) (fun h51 => ?_)
        · rw [byD_g (by omega), ha3, nI_eq (by have := gd127 h (b + 2); omega) (by omega)] at h51
          refine r_iconst hO dX5_is_73 ic_0 ?_
          exact r_ireturn hO hr dX5_is_74 rfl ⟨sI (by unfold isD; rw [decide_eq_false (fun z => h51 z.2.2.2.1)]; rfl), rfl⟩
        · rw [byD_g (by omega), ha3, nI_eq (by have := gd127 h (b + 2); omega) (by omega)] at h51
          refine r_aload_n hO dX5_is_54 rfl ?_
          refine r_aload_n hO dX5_is_55 rfl ?_
          refine r_getI hO dX5_is_56 fRX5_67 rfl ?_
          refine r_iconst hO dX5_is_59 ic_3 ?_
          refine r_iadd hO dX5_is_60 ?_
          refine r_fV hO dX5_is_61 kRX5_76 miX5_byteAt (zX5_byteD _ h (b + 3) (by rw [hb, show (3 : Int32) = nI 3 from rfl, nI_add]) (by omega)) ⟨Nat.le_of_ble_eq_true rfl, Nat.le_of_ble_eq_true rfl, rfl, Nat.le_of_ble_eq_true rfl⟩ rfl rfl ?_
          refine r_iload hO dX5_is_64 rfl ?_
          refine r_icmp_ne 73 hO dX5_is_66 (by decide) (fun h66 => ?_) (fun h66 => ?_)
          · rw [byD_g (by omega), ha4, nI_eq (by have := gd127 h (b + 3); omega) (by omega)] at h66
            refine r_iconst hO dX5_is_73 ic_0 ?_
            exact r_ireturn hO hr dX5_is_74 rfl ⟨sI (by unfold isD; rw [decide_eq_false (fun z => h66 z.2.2.2.2)]; rfl), rfl⟩
          · rw [byD_g (by omega), ha4, nI_eq (by have := gd127 h (b + 3); omega) (by omega)] at h66
            refine r_iconst hO dX5_is_69 ic_1 ?_
            refine r_goto 74 hO dX5_is_70 (by decide) ?_
            exact r_ireturn hO hr dX5_is_74 rfl ⟨sI (by unfold isD; rw [decide_eq_true ⟨h10, h22, h36, h51, h66⟩]; rfl), rfl⟩
def enD (t : List Nat) (b a1 a2 a3 : Nat) : Bool := decide (t.getD (b + 4) 0 = a1 ∧ (a2 = 0 ∨ t.getD (b + 5) 0 = a2) ∧ (a3 = 0 ∨ t.getD (b + 6) 0 = a3))
set_option maxHeartbeats 4000000 in
theorem zX5_endsIn (l : Launch) {M : Mm} {t : List Nat} (h : TpD M t) {b e : Nat} (hb : M.1 33 8 = nI b) (het : e ≤ t.length) {x1 x2 x3 : Int32} (a1 a2 a3 : Nat) (ha1 : x1 = nI a1) (ha2 : x2 = nI a2) (ha3 : x3 = nI a3) (hlt : a1 < 128 ∧ a2 < 128 ∧ a3 < 128) (q1 : b + 4 < e) (q2 : a2 = 0 ∨ b + 5 < e) (q3 : a3 = 0 ∨ b + 6 < e) : CFz l 1 yX5_endsIn cX5_endsIn 4 (some .boolean) [.ref 33, .int x1, .int x2, .int x3] M (some (.int (bI (enD t b a1 a2 a3)))) (M) := by
  refine Clz.on RX5 rfl (by decide +kernel) (Nat.le_of_ble_eq_true rfl) (fun X hL hO hr => ?_)
  show Gz X 0 [.ref 33, .int x1, .int x2, .int x3] [] M
  have hl160 := h.1
  refine r_aload_n hO dX5_endsIn_0 rfl ?_
  refine r_aload_n hO dX5_endsIn_1 rfl ?_
  refine r_getI hO dX5_endsIn_2 fRX5_67 rfl ?_
  refine r_iconst hO dX5_endsIn_5 ic_4 ?_
  refine r_iadd hO dX5_endsIn_6 ?_
  refine r_fV hO dX5_endsIn_7 kRX5_76 miX5_byteAt (zX5_byteD _ h (b + 4) (by rw [hb, show (4 : Int32) = nI 4 from rfl, nI_add]) (by omega)) ⟨Nat.le_of_ble_eq_true rfl, Nat.le_of_ble_eq_true rfl, rfl, Nat.le_of_ble_eq_true rfl⟩ rfl rfl ?_
  refine r_iload_n hO dX5_endsIn_10 rfl ?_
  refine r_icmp_ne 55 hO dX5_endsIn_11 (by decide) (fun h11 => ?_) (fun h11 => ?_)
  · rw [byD_g (by omega), ha1, nI_eq (by have := gd127 h (b + 4); omega) (by omega)] at h11
    refine r_iconst hO dX5_endsIn_55 ic_0 ?_
    exact r_ireturn hO hr dX5_endsIn_56 rfl ⟨sI (by unfold enD; rw [decide_eq_false (fun z => h11 z.1)]; rfl), rfl⟩
  · rw [byD_g (by omega), ha1, nI_eq (by have := gd127 h (b + 4); omega) (by omega)] at h11
    refine r_iload_n hO dX5_endsIn_14 rfl ?_
    refine r_if_eq 32 hO dX5_endsIn_15 (by decide) (fun h15 => ?_) (fun h15 => ?_)
    · rw [ha2, ← nI_0, nI_eq (by omega) (by omega)] at h15
      refine r_iload_n hO dX5_endsIn_32 rfl ?_
      refine r_if_eq 51 hO dX5_endsIn_33 (by decide) (fun h33 => ?_) (fun h33 => ?_)
      · rw [ha3, ← nI_0, nI_eq (by omega) (by omega)] at h33
        refine r_iconst hO dX5_endsIn_51 ic_1 ?_
        refine r_goto 56 hO dX5_endsIn_52 (by decide) ?_
        exact r_ireturn hO hr dX5_endsIn_56 rfl ⟨sI (by unfold enD; rw [decide_eq_true ⟨h11, Or.inl h15, Or.inl h33⟩]; rfl), rfl⟩
      · rw [ha3, ← nI_0, nI_eq (by omega) (by omega)] at h33
        refine r_aload_n hO dX5_endsIn_36 rfl ?_
        refine r_aload_n hO dX5_endsIn_37 rfl ?_
        refine r_getI hO dX5_endsIn_38 fRX5_67 rfl ?_
        refine r_bipush hO dX5_endsIn_41 bc_6 ?_
        refine r_iadd hO dX5_endsIn_43 ?_
        refine r_fV hO dX5_endsIn_44 kRX5_76 miX5_byteAt (zX5_byteD _ h (b + 6) (by rw [hb, show (6 : Int32) = nI 6 from rfl, nI_add]) (by omega)) ⟨Nat.le_of_ble_eq_true rfl, Nat.le_of_ble_eq_true rfl, rfl, Nat.le_of_ble_eq_true rfl⟩ rfl rfl ?_
        refine r_iload_n hO dX5_endsIn_47 rfl ?_
        refine r_icmp_ne 55 hO dX5_endsIn_48 (by decide) (fun h48 => ?_) (fun h48 => ?_)
        · rw [byD_g (by omega), ha3, nI_eq (by have := gd127 h (b + 6); omega) (by omega)] at h48
          refine r_iconst hO dX5_endsIn_55 ic_0 ?_
          exact r_ireturn hO hr dX5_endsIn_56 rfl ⟨sI (by unfold enD; rw [decide_eq_false (fun z => z.2.2.elim h33 h48)]; rfl), rfl⟩
        · rw [byD_g (by omega), ha3, nI_eq (by have := gd127 h (b + 6); omega) (by omega)] at h48
          refine r_iconst hO dX5_endsIn_51 ic_1 ?_
          refine r_goto 56 hO dX5_endsIn_52 (by decide) ?_
          exact r_ireturn hO hr dX5_endsIn_56 rfl ⟨sI (by unfold enD; rw [decide_eq_true ⟨h11, Or.inl h15, Or.inr h48⟩]; rfl), rfl⟩
    · rw [ha2, ← nI_0, nI_eq (by omega) (by omega)] at h15
      refine r_aload_n hO dX5_endsIn_18 rfl ?_
      refine r_aload_n hO dX5_endsIn_19 rfl ?_
      refine r_getI hO dX5_endsIn_20 fRX5_67 rfl ?_
      refine r_iconst hO dX5_endsIn_23 ic_5 ?_
      refine r_iadd hO dX5_endsIn_24 ?_
      refine r_fV hO dX5_endsIn_25 kRX5_76 miX5_byteAt (zX5_byteD _ h (b + 5) (by rw [hb, show (5 : Int32) = nI 5 from rfl, nI_add]) (by omega)) ⟨Nat.le_of_ble_eq_true rfl, Nat.le_of_ble_eq_true rfl, rfl, Nat.le_of_ble_eq_true rfl⟩ rfl rfl ?_
      refine r_iload_n hO dX5_endsIn_28 rfl ?_
      refine r_icmp_ne 55 hO dX5_endsIn_29 (by decide) (fun h29 => ?_) (fun h29 => ?_)
      · rw [byD_g (by omega), ha2, nI_eq (by have := gd127 h (b + 5); omega) (by omega)] at h29
        refine r_iconst hO dX5_endsIn_55 ic_0 ?_
        exact r_ireturn hO hr dX5_endsIn_56 rfl ⟨sI (by unfold enD; rw [decide_eq_false (fun z => z.2.1.elim h15 h29)]; rfl), rfl⟩
      · rw [byD_g (by omega), ha2, nI_eq (by have := gd127 h (b + 5); omega) (by omega)] at h29
        refine r_iload_n hO dX5_endsIn_32 rfl ?_
        refine r_if_eq 51 hO dX5_endsIn_33 (by decide) (fun h33 => ?_) (fun h33 => ?_)
        · rw [ha3, ← nI_0, nI_eq (by omega) (by omega)] at h33
          refine r_iconst hO dX5_endsIn_51 ic_1 ?_
          refine r_goto 56 hO dX5_endsIn_52 (by decide) ?_
          exact r_ireturn hO hr dX5_endsIn_56 rfl ⟨sI (by unfold enD; rw [decide_eq_true ⟨h11, Or.inr h29, Or.inl h33⟩]; rfl), rfl⟩
        · rw [ha3, ← nI_0, nI_eq (by omega) (by omega)] at h33
          refine r_aload_n hO dX5_endsIn_36 rfl ?_
          refine r_aload_n hO dX5_endsIn_37 rfl ?_
          refine r_getI hO dX5_endsIn_38 fRX5_67 rfl ?_
          refine r_bipush hO dX5_endsIn_41 bc_6 ?_
          refine r_iadd hO dX5_endsIn_43 ?_
          refine r_fV hO dX5_endsIn_44 kRX5_76 miX5_byteAt (zX5_byteD _ h (b + 6) (by rw [hb, show (6 : Int32) = nI 6 from rfl, nI_add]) (by omega)) ⟨Nat.le_of_ble_eq_true rfl, Nat.le_of_ble_eq_true rfl, rfl, Nat.le_of_ble_eq_true rfl⟩ rfl rfl ?_
          refine r_iload_n hO dX5_endsIn_47 rfl ?_
          refine r_icmp_ne 55 hO dX5_endsIn_48 (by decide) (fun h48 => ?_) (fun h48 => ?_)
          · rw [byD_g (by omega), ha3, nI_eq (by have := gd127 h (b + 6); omega) (by omega)] at h48
            refine r_iconst hO dX5_endsIn_55 ic_0 ?_
            exact r_ireturn hO hr dX5_endsIn_56 rfl ⟨sI (by unfold enD; rw [decide_eq_false (fun z => z.2.2.elim h33 h48)]; rfl), rfl⟩
          · rw [byD_g (by omega), ha3, nI_eq (by have := gd127 h (b + 6); omega) (by omega)] at h48
            refine r_iconst hO dX5_endsIn_51 ic_1 ?_
            refine r_goto 56 hO dX5_endsIn_52 (by decide) ?_
            exact r_ireturn hO hr dX5_endsIn_56 rfl ⟨sI (by unfold enD; rw [decide_eq_true ⟨h11, Or.inr h29, Or.inr h48⟩]; rfl), rfl⟩
theorem nq (t : List Nat) (b e : Nat) : (nmq t b e 0 = (isD t b e 5 112 108 97 105 && enD t b 110 0 0)) ∧ (nmq t b e 1 = isD t b e 4 119 104 105 112) ∧ (nmq t b e 2 = (isD t b e 7 100 111 117 98 && enD t b 116 101 114)) ∧ (nmq t b e 3 = (isD t b e 6 109 97 103 103 && enD t b 111 116 0)) ∧ (nmq t b e 4 = (isD t b e 6 109 111 116 105 && enD t b 111 110 0)) := by
  unfold nmq isD enD
  simp only [← Bool.decide_and]
  refine ⟨?_, ?_, ?_, ?_, ?_⟩
  · congr 1; apply propext; constructor
    · intro ⟨h1, h2⟩
      exact ⟨⟨h1, h2 0 (by decide), h2 1 (by decide), h2 2 (by decide), h2 3 (by decide)⟩, h2 4 (by decide), Or.inl (by first | trivial | rfl), Or.inl (by first | trivial | rfl)⟩
    · intro ⟨⟨h1, h2, h3, h4, h5⟩, h6, h7, h8⟩
      refine ⟨h1, fun k hk => ?_⟩
      have hk : k < 5 := hk
      rcases (show k = 0 ∨ k = 1 ∨ k = 2 ∨ k = 3 ∨ k = 4 by omega) with rfl | rfl | rfl | rfl | rfl <;> assumption
  · congr 1; apply propext; constructor
    · intro ⟨h1, h2⟩
      exact ⟨h1, h2 0 (by decide), h2 1 (by decide), h2 2 (by decide), h2 3 (by decide)⟩
    · intro ⟨h1, h2, h3, h4, h5⟩
      refine ⟨h1, fun k hk => ?_⟩
      have hk : k < 4 := hk
      rcases (show k = 0 ∨ k = 1 ∨ k = 2 ∨ k = 3 by omega) with rfl | rfl | rfl | rfl <;> assumption
  · congr 1; apply propext; constructor
    · intro ⟨h1, h2⟩
      exact ⟨⟨h1, h2 0 (by decide), h2 1 (by decide), h2 2 (by decide), h2 3 (by decide)⟩, h2 4 (by decide), Or.inr (h2 5 (by decide)), Or.inr (h2 6 (by decide))⟩
    · intro ⟨⟨h1, h2, h3, h4, h5⟩, h6, h7, h8⟩
      have h7 := h7.resolve_left (by decide)
      have h8 := h8.resolve_left (by decide)
      refine ⟨h1, fun k hk => ?_⟩
      have hk : k < 7 := hk
      rcases (show k = 0 ∨ k = 1 ∨ k = 2 ∨ k = 3 ∨ k = 4 ∨ k = 5 ∨ k = 6 by omega) with rfl | rfl | rfl | rfl | rfl | rfl | rfl <;> assumption
  all_goals
    congr 1; apply propext; constructor
    · intro ⟨h1, h2⟩
      exact ⟨⟨h1, h2 0 (by decide), h2 1 (by decide), h2 2 (by decide), h2 3 (by decide)⟩, h2 4 (by decide), Or.inr (h2 5 (by decide)), Or.inl (by first | trivial | rfl)⟩
    · intro ⟨⟨h1, h2, h3, h4, h5⟩, h6, h7, h8⟩
      have h7 := h7.resolve_left (by decide)
      refine ⟨h1, fun k hk => ?_⟩
      have hk : k < 6 := hk
      rcases (show k = 0 ∨ k = 1 ∨ k = 2 ∨ k = 3 ∨ k = 4 ∨ k = 5 by omega) with rfl | rfl | rfl | rfl | rfl | rfl <;> assumption
theorem isD_n {t : List Nat} {b e n a1 a2 a3 a4 : Nat} (h : isD t b e n a1 a2 a3 a4 = true) : e - b = n := (of_decide_eq_true h).1
def wdR (w : Nat) : Int32 := if w = 5 then -4 else nI w
theorem a_f1 {a b : Bool} (h : a = false) : (a && b) = false := by rw [h]; rfl
theorem a_f2 {a b : Bool} (h : b = false) : (a && b) = false := by rw [h, Bool.and_false]
theorem a_t {a b : Bool} (h : a = true) (h2 : b = true) : (a && b) = true := by rw [h, h2]; rfl
set_option maxHeartbeats 4000000 in
theorem zX5_lineNow (l : Launch) {M : Mm} {t : List Nat} (h : TpD M t) {T : Tk} {b e : Nat} (hK : T.1 = 1) (eb : T.2.1 = b) (ee : T.2.2.1 = e) (hb : M.1 33 8 = nI b) (he : M.1 33 7 = nI e) (hbe : b ≤ e) (het : e ≤ t.length) : CFz l 2 yX5_lineNow cX5_lineNow 1 (some .int) [.ref 33] M (some (.int (wdR (wdT t T)))) (M) := by
  refine Clz.on RX5 rfl (by decide +kernel) (Nat.le_of_ble_eq_true rfl) (fun X hL hO hr => ?_)
  show Gz X 0 [.ref 33] [] M
  refine r_aload_n hO dX5_lineNow_0 rfl ?_
  refine r_iconst hO dX5_lineNow_1 ic_5 ?_
  refine r_bipush hO dX5_lineNow_2 bc_112 ?_
  refine r_bipush hO dX5_lineNow_4 bc_108 ?_
  refine r_bipush hO dX5_lineNow_6 bc_97 ?_
  refine r_bipush hO dX5_lineNow_8 bc_105 ?_
  refine r_fV hO dX5_lineNow_10 kRX5_80 miX5_is (zX5_is _ h hb he hbe het 5 112 108 97 105 rfl rfl rfl rfl rfl (by decide) (by decide)) ⟨Nat.le_of_ble_eq_true rfl, Nat.le_of_ble_eq_true rfl, rfl, Nat.le_of_ble_eq_true rfl⟩ rfl rfl ?_
  refine r_if_eq 29 hO dX5_lineNow_13 (by decide) (fun h13 => ?_) (fun h13 => ?_)
  · rw [bI_0] at h13
    refine r_aload_n hO dX5_lineNow_29 rfl ?_
    refine r_iconst hO dX5_lineNow_30 ic_4 ?_
    refine r_bipush hO dX5_lineNow_31 bc_119 ?_
    refine r_bipush hO dX5_lineNow_33 bc_104 ?_
    refine r_bipush hO dX5_lineNow_35 bc_105 ?_
    refine r_bipush hO dX5_lineNow_37 bc_112 ?_
    refine r_fV hO dX5_lineNow_39 kRX5_80 miX5_is (zX5_is _ h hb he hbe het 4 119 104 105 112 rfl rfl rfl rfl rfl (by decide) (by decide)) ⟨Nat.le_of_ble_eq_true rfl, Nat.le_of_ble_eq_true rfl, rfl, Nat.le_of_ble_eq_true rfl⟩ rfl rfl ?_
    refine r_if_eq 47 hO dX5_lineNow_42 (by decide) (fun h42 => ?_) (fun h42 => ?_)
    · rw [bI_0] at h42
      refine r_aload_n hO dX5_lineNow_47 rfl ?_
      refine r_bipush hO dX5_lineNow_48 bc_7 ?_
      refine r_bipush hO dX5_lineNow_50 bc_100 ?_
      refine r_bipush hO dX5_lineNow_52 bc_111 ?_
      refine r_bipush hO dX5_lineNow_54 bc_117 ?_
      refine r_bipush hO dX5_lineNow_56 bc_98 ?_
      refine r_fV hO dX5_lineNow_58 kRX5_80 miX5_is (zX5_is _ h hb he hbe het 7 100 111 117 98 rfl rfl rfl rfl rfl (by decide) (by decide)) ⟨Nat.le_of_ble_eq_true rfl, Nat.le_of_ble_eq_true rfl, rfl, Nat.le_of_ble_eq_true rfl⟩ rfl rfl ?_
      refine r_if_eq 79 hO dX5_lineNow_61 (by decide) (fun h61 => ?_) (fun h61 => ?_)
      · rw [bI_0] at h61
        refine r_aload_n hO dX5_lineNow_79 rfl ?_
        refine r_bipush hO dX5_lineNow_80 bc_6 ?_
        refine r_bipush hO dX5_lineNow_82 bc_109 ?_
        refine r_bipush hO dX5_lineNow_84 bc_97 ?_
        refine r_bipush hO dX5_lineNow_86 bc_103 ?_
        refine r_bipush hO dX5_lineNow_88 bc_103 ?_
        refine r_fV hO dX5_lineNow_90 kRX5_80 miX5_is (zX5_is _ h hb he hbe het 6 109 97 103 103 rfl rfl rfl rfl rfl (by decide) (by decide)) ⟨Nat.le_of_ble_eq_true rfl, Nat.le_of_ble_eq_true rfl, rfl, Nat.le_of_ble_eq_true rfl⟩ rfl rfl ?_
        refine r_if_eq 110 hO dX5_lineNow_93 (by decide) (fun h93 => ?_) (fun h93 => ?_)
        · rw [bI_0] at h93
          refine r_aload_n hO dX5_lineNow_110 rfl ?_
          refine r_bipush hO dX5_lineNow_111 bc_6 ?_
          refine r_bipush hO dX5_lineNow_113 bc_109 ?_
          refine r_bipush hO dX5_lineNow_115 bc_111 ?_
          refine r_bipush hO dX5_lineNow_117 bc_116 ?_
          refine r_bipush hO dX5_lineNow_119 bc_105 ?_
          refine r_fV hO dX5_lineNow_121 kRX5_80 miX5_is (zX5_is _ h hb he hbe het 6 109 111 116 105 rfl rfl rfl rfl rfl (by decide) (by decide)) ⟨Nat.le_of_ble_eq_true rfl, Nat.le_of_ble_eq_true rfl, rfl, Nat.le_of_ble_eq_true rfl⟩ rfl rfl ?_
          refine r_if_eq 143 hO dX5_lineNow_124 (by decide) (fun h124 => ?_) (fun h124 => ?_)
          · rw [bI_0] at h124
            refine r_bipush hO dX5_lineNow_143 bc_m4 ?_
            exact r_ireturn hO hr dX5_lineNow_145 rfl ⟨sI (by rw [show wdT t T = 5 from wd_5 (lt5 (P := fun i => (decide (T.1 = 1) && nmq t T.2.1 T.2.2.1 i) = false) (show (decide (T.1 = 1) && nmq t T.2.1 T.2.2.1 0) = false by rw [eb, ee, (nq t b e).1]; exact a_f2 (a_f1 h13)) (show (decide (T.1 = 1) && nmq t T.2.1 T.2.2.1 1) = false by rw [eb, ee, (nq t b e).2.1]; exact a_f2 h42) (show (decide (T.1 = 1) && nmq t T.2.1 T.2.2.1 2) = false by rw [eb, ee, (nq t b e).2.2.1]; exact a_f2 (a_f1 h61)) (show (decide (T.1 = 1) && nmq t T.2.1 T.2.2.1 3) = false by rw [eb, ee, (nq t b e).2.2.2.1]; exact a_f2 (a_f1 h93)) (show (decide (T.1 = 1) && nmq t T.2.1 T.2.2.1 4) = false by rw [eb, ee, (nq t b e).2.2.2.2]; exact a_f2 (a_f1 h124)))]; rfl), rfl⟩
          · rw [bI_n0] at h124
            refine r_aload_n hO dX5_lineNow_127 rfl ?_
            refine r_bipush hO dX5_lineNow_128 bc_111 ?_
            refine r_bipush hO dX5_lineNow_130 bc_110 ?_
            refine r_iconst hO dX5_lineNow_132 ic_0 ?_
            refine r_fV hO dX5_lineNow_133 kRX5_84 miX5_endsIn (zX5_endsIn _ h (e := e) hb het 111 110 0 rfl rfl rfl (by decide) (by have := isD_n h124; omega) (Or.inr (by have := isD_n h124; omega)) (Or.inl rfl)) ⟨Nat.le_of_ble_eq_true rfl, Nat.le_of_ble_eq_true rfl, rfl, Nat.le_of_ble_eq_true rfl⟩ rfl rfl ?_
            refine r_if_eq 143 hO dX5_lineNow_136 (by decide) (fun h136 => ?_) (fun h136 => ?_)
            · rw [bI_0] at h136
              refine r_bipush hO dX5_lineNow_143 bc_m4 ?_
              exact r_ireturn hO hr dX5_lineNow_145 rfl ⟨sI (by rw [show wdT t T = 5 from wd_5 (lt5 (P := fun i => (decide (T.1 = 1) && nmq t T.2.1 T.2.2.1 i) = false) (show (decide (T.1 = 1) && nmq t T.2.1 T.2.2.1 0) = false by rw [eb, ee, (nq t b e).1]; exact a_f2 (a_f1 h13)) (show (decide (T.1 = 1) && nmq t T.2.1 T.2.2.1 1) = false by rw [eb, ee, (nq t b e).2.1]; exact a_f2 h42) (show (decide (T.1 = 1) && nmq t T.2.1 T.2.2.1 2) = false by rw [eb, ee, (nq t b e).2.2.1]; exact a_f2 (a_f1 h61)) (show (decide (T.1 = 1) && nmq t T.2.1 T.2.2.1 3) = false by rw [eb, ee, (nq t b e).2.2.2.1]; exact a_f2 (a_f1 h93)) (show (decide (T.1 = 1) && nmq t T.2.1 T.2.2.1 4) = false by rw [eb, ee, (nq t b e).2.2.2.2]; exact a_f2 (a_f2 h136)))]; rfl), rfl⟩
            · rw [bI_n0] at h136
              refine r_iconst hO dX5_lineNow_139 ic_4 ?_
              refine r_goto 145 hO dX5_lineNow_140 (by decide) ?_
              exact r_ireturn hO hr dX5_lineNow_145 rfl ⟨sI (by rw [show wdT t T = 4 from wd_k 4 (by decide) (show (decide (T.1 = 1) && nmq t T.2.1 T.2.2.1 4) = true by rw [eb, ee, (nq t b e).2.2.2.2]; exact a_t (decide_eq_true hK) (a_t h124 h136)) (lt4 (P := fun i => (decide (T.1 = 1) && nmq t T.2.1 T.2.2.1 i) = false) (show (decide (T.1 = 1) && nmq t T.2.1 T.2.2.1 0) = false by rw [eb, ee, (nq t b e).1]; exact a_f2 (a_f1 h13)) (show (decide (T.1 = 1) && nmq t T.2.1 T.2.2.1 1) = false by rw [eb, ee, (nq t b e).2.1]; exact a_f2 h42) (show (decide (T.1 = 1) && nmq t T.2.1 T.2.2.1 2) = false by rw [eb, ee, (nq t b e).2.2.1]; exact a_f2 (a_f1 h61)) (show (decide (T.1 = 1) && nmq t T.2.1 T.2.2.1 3) = false by rw [eb, ee, (nq t b e).2.2.2.1]; exact a_f2 (a_f1 h93)))]; rfl), rfl⟩
        · rw [bI_n0] at h93
          refine r_aload_n hO dX5_lineNow_96 rfl ?_
          refine r_bipush hO dX5_lineNow_97 bc_111 ?_
          refine r_bipush hO dX5_lineNow_99 bc_116 ?_
          refine r_iconst hO dX5_lineNow_101 ic_0 ?_
          refine r_fV hO dX5_lineNow_102 kRX5_84 miX5_endsIn (zX5_endsIn _ h (e := e) hb het 111 116 0 rfl rfl rfl (by decide) (by have := isD_n h93; omega) (Or.inr (by have := isD_n h93; omega)) (Or.inl rfl)) ⟨Nat.le_of_ble_eq_true rfl, Nat.le_of_ble_eq_true rfl, rfl, Nat.le_of_ble_eq_true rfl⟩ rfl rfl ?_
          refine r_if_eq 110 hO dX5_lineNow_105 (by decide) (fun h105 => ?_) (fun h105 => ?_)
          · rw [bI_0] at h105
            refine r_aload_n hO dX5_lineNow_110 rfl ?_
            refine r_bipush hO dX5_lineNow_111 bc_6 ?_
            refine r_bipush hO dX5_lineNow_113 bc_109 ?_
            refine r_bipush hO dX5_lineNow_115 bc_111 ?_
            refine r_bipush hO dX5_lineNow_117 bc_116 ?_
            refine r_bipush hO dX5_lineNow_119 bc_105 ?_
            refine r_fV hO dX5_lineNow_121 kRX5_80 miX5_is (zX5_is _ h hb he hbe het 6 109 111 116 105 rfl rfl rfl rfl rfl (by decide) (by decide)) ⟨Nat.le_of_ble_eq_true rfl, Nat.le_of_ble_eq_true rfl, rfl, Nat.le_of_ble_eq_true rfl⟩ rfl rfl ?_
            refine r_if_eq 143 hO dX5_lineNow_124 (by decide) (fun h124 => ?_) (fun h124 => ?_)
            · rw [bI_0] at h124
              refine r_bipush hO dX5_lineNow_143 bc_m4 ?_
              exact r_ireturn hO hr dX5_lineNow_145 rfl ⟨sI (by rw [show wdT t T = 5 from wd_5 (lt5 (P := fun i => (decide (T.1 = 1) && nmq t T.2.1 T.2.2.1 i) = false) (show (decide (T.1 = 1) && nmq t T.2.1 T.2.2.1 0) = false by rw [eb, ee, (nq t b e).1]; exact a_f2 (a_f1 h13)) (show (decide (T.1 = 1) && nmq t T.2.1 T.2.2.1 1) = false by rw [eb, ee, (nq t b e).2.1]; exact a_f2 h42) (show (decide (T.1 = 1) && nmq t T.2.1 T.2.2.1 2) = false by rw [eb, ee, (nq t b e).2.2.1]; exact a_f2 (a_f1 h61)) (show (decide (T.1 = 1) && nmq t T.2.1 T.2.2.1 3) = false by rw [eb, ee, (nq t b e).2.2.2.1]; exact a_f2 (a_f2 h105)) (show (decide (T.1 = 1) && nmq t T.2.1 T.2.2.1 4) = false by rw [eb, ee, (nq t b e).2.2.2.2]; exact a_f2 (a_f1 h124)))]; rfl), rfl⟩
            · rw [bI_n0] at h124
              refine r_aload_n hO dX5_lineNow_127 rfl ?_
              refine r_bipush hO dX5_lineNow_128 bc_111 ?_
              refine r_bipush hO dX5_lineNow_130 bc_110 ?_
              refine r_iconst hO dX5_lineNow_132 ic_0 ?_
              refine r_fV hO dX5_lineNow_133 kRX5_84 miX5_endsIn (zX5_endsIn _ h (e := e) hb het 111 110 0 rfl rfl rfl (by decide) (by have := isD_n h124; omega) (Or.inr (by have := isD_n h124; omega)) (Or.inl rfl)) ⟨Nat.le_of_ble_eq_true rfl, Nat.le_of_ble_eq_true rfl, rfl, Nat.le_of_ble_eq_true rfl⟩ rfl rfl ?_
              refine r_if_eq 143 hO dX5_lineNow_136 (by decide) (fun h136 => ?_) (fun h136 => ?_)
              · rw [bI_0] at h136
                refine r_bipush hO dX5_lineNow_143 bc_m4 ?_
                exact r_ireturn hO hr dX5_lineNow_145 rfl ⟨sI (by rw [show wdT t T = 5 from wd_5 (lt5 (P := fun i => (decide (T.1 = 1) && nmq t T.2.1 T.2.2.1 i) = false) (show (decide (T.1 = 1) && nmq t T.2.1 T.2.2.1 0) = false by rw [eb, ee, (nq t b e).1]; exact a_f2 (a_f1 h13)) (show (decide (T.1 = 1) && nmq t T.2.1 T.2.2.1 1) = false by rw [eb, ee, (nq t b e).2.1]; exact a_f2 h42) (show (decide (T.1 = 1) && nmq t T.2.1 T.2.2.1 2) = false by rw [eb, ee, (nq t b e).2.2.1]; exact a_f2 (a_f1 h61)) (show (decide (T.1 = 1) && nmq t T.2.1 T.2.2.1 3) = false by rw [eb, ee, (nq t b e).2.2.2.1]; exact a_f2 (a_f2 h105)) (show (decide (T.1 = 1) && nmq t T.2.1 T.2.2.1 4) = false by rw [eb, ee, (nq t b e).2.2.2.2]; exact a_f2 (a_f2 h136)))]; rfl), rfl⟩
              · rw [bI_n0] at h136
                refine r_iconst hO dX5_lineNow_139 ic_4 ?_
                refine r_goto 145 hO dX5_lineNow_140 (by decide) ?_
                exact r_ireturn hO hr dX5_lineNow_145 rfl ⟨sI (by rw [show wdT t T = 4 from wd_k 4 (by decide) (show (decide (T.1 = 1) && nmq t T.2.1 T.2.2.1 4) = true by rw [eb, ee, (nq t b e).2.2.2.2]; exact a_t (decide_eq_true hK) (a_t h124 h136)) (lt4 (P := fun i => (decide (T.1 = 1) && nmq t T.2.1 T.2.2.1 i) = false) (show (decide (T.1 = 1) && nmq t T.2.1 T.2.2.1 0) = false by rw [eb, ee, (nq t b e).1]; exact a_f2 (a_f1 h13)) (show (decide (T.1 = 1) && nmq t T.2.1 T.2.2.1 1) = false by rw [eb, ee, (nq t b e).2.1]; exact a_f2 h42) (show (decide (T.1 = 1) && nmq t T.2.1 T.2.2.1 2) = false by rw [eb, ee, (nq t b e).2.2.1]; exact a_f2 (a_f1 h61)) (show (decide (T.1 = 1) && nmq t T.2.1 T.2.2.1 3) = false by rw [eb, ee, (nq t b e).2.2.2.1]; exact a_f2 (a_f2 h105)))]; rfl), rfl⟩
          · rw [bI_n0] at h105
            refine r_iconst hO dX5_lineNow_108 ic_3 ?_
            exact r_ireturn hO hr dX5_lineNow_109 rfl ⟨sI (by rw [show wdT t T = 3 from wd_k 3 (by decide) (show (decide (T.1 = 1) && nmq t T.2.1 T.2.2.1 3) = true by rw [eb, ee, (nq t b e).2.2.2.1]; exact a_t (decide_eq_true hK) (a_t h93 h105)) (lt3 (P := fun i => (decide (T.1 = 1) && nmq t T.2.1 T.2.2.1 i) = false) (show (decide (T.1 = 1) && nmq t T.2.1 T.2.2.1 0) = false by rw [eb, ee, (nq t b e).1]; exact a_f2 (a_f1 h13)) (show (decide (T.1 = 1) && nmq t T.2.1 T.2.2.1 1) = false by rw [eb, ee, (nq t b e).2.1]; exact a_f2 h42) (show (decide (T.1 = 1) && nmq t T.2.1 T.2.2.1 2) = false by rw [eb, ee, (nq t b e).2.2.1]; exact a_f2 (a_f1 h61)))]; rfl), rfl⟩
      · rw [bI_n0] at h61
        refine r_aload_n hO dX5_lineNow_64 rfl ?_
        refine r_bipush hO dX5_lineNow_65 bc_116 ?_
        refine r_bipush hO dX5_lineNow_67 bc_101 ?_
        refine r_bipush hO dX5_lineNow_69 bc_114 ?_
        refine r_fV hO dX5_lineNow_71 kRX5_84 miX5_endsIn (zX5_endsIn _ h (e := e) hb het 116 101 114 rfl rfl rfl (by decide) (by have := isD_n h61; omega) (Or.inr (by have := isD_n h61; omega)) (Or.inr (by have := isD_n h61; omega))) ⟨Nat.le_of_ble_eq_true rfl, Nat.le_of_ble_eq_true rfl, rfl, Nat.le_of_ble_eq_true rfl⟩ rfl rfl ?_
        refine r_if_eq 79 hO dX5_lineNow_74 (by decide) (fun h74 => ?_) (fun h74 => ?_)
        · rw [bI_0] at h74
          refine r_aload_n hO dX5_lineNow_79 rfl ?_
          refine r_bipush hO dX5_lineNow_80 bc_6 ?_
          refine r_bipush hO dX5_lineNow_82 bc_109 ?_
          refine r_bipush hO dX5_lineNow_84 bc_97 ?_
          refine r_bipush hO dX5_lineNow_86 bc_103 ?_
          refine r_bipush hO dX5_lineNow_88 bc_103 ?_
          refine r_fV hO dX5_lineNow_90 kRX5_80 miX5_is (zX5_is _ h hb he hbe het 6 109 97 103 103 rfl rfl rfl rfl rfl (by decide) (by decide)) ⟨Nat.le_of_ble_eq_true rfl, Nat.le_of_ble_eq_true rfl, rfl, Nat.le_of_ble_eq_true rfl⟩ rfl rfl ?_
          refine r_if_eq 110 hO dX5_lineNow_93 (by decide) (fun h93 => ?_) (fun h93 => ?_)
          · rw [bI_0] at h93
            refine r_aload_n hO dX5_lineNow_110 rfl ?_
            refine r_bipush hO dX5_lineNow_111 bc_6 ?_
            refine r_bipush hO dX5_lineNow_113 bc_109 ?_
            refine r_bipush hO dX5_lineNow_115 bc_111 ?_
            refine r_bipush hO dX5_lineNow_117 bc_116 ?_
            refine r_bipush hO dX5_lineNow_119 bc_105 ?_
            refine r_fV hO dX5_lineNow_121 kRX5_80 miX5_is (zX5_is _ h hb he hbe het 6 109 111 116 105 rfl rfl rfl rfl rfl (by decide) (by decide)) ⟨Nat.le_of_ble_eq_true rfl, Nat.le_of_ble_eq_true rfl, rfl, Nat.le_of_ble_eq_true rfl⟩ rfl rfl ?_
            refine r_if_eq 143 hO dX5_lineNow_124 (by decide) (fun h124 => ?_) (fun h124 => ?_)
            · rw [bI_0] at h124
              refine r_bipush hO dX5_lineNow_143 bc_m4 ?_
              exact r_ireturn hO hr dX5_lineNow_145 rfl ⟨sI (by rw [show wdT t T = 5 from wd_5 (lt5 (P := fun i => (decide (T.1 = 1) && nmq t T.2.1 T.2.2.1 i) = false) (show (decide (T.1 = 1) && nmq t T.2.1 T.2.2.1 0) = false by rw [eb, ee, (nq t b e).1]; exact a_f2 (a_f1 h13)) (show (decide (T.1 = 1) && nmq t T.2.1 T.2.2.1 1) = false by rw [eb, ee, (nq t b e).2.1]; exact a_f2 h42) (show (decide (T.1 = 1) && nmq t T.2.1 T.2.2.1 2) = false by rw [eb, ee, (nq t b e).2.2.1]; exact a_f2 (a_f2 h74)) (show (decide (T.1 = 1) && nmq t T.2.1 T.2.2.1 3) = false by rw [eb, ee, (nq t b e).2.2.2.1]; exact a_f2 (a_f1 h93)) (show (decide (T.1 = 1) && nmq t T.2.1 T.2.2.1 4) = false by rw [eb, ee, (nq t b e).2.2.2.2]; exact a_f2 (a_f1 h124)))]; rfl), rfl⟩
            · rw [bI_n0] at h124
              refine r_aload_n hO dX5_lineNow_127 rfl ?_
              refine r_bipush hO dX5_lineNow_128 bc_111 ?_
              refine r_bipush hO dX5_lineNow_130 bc_110 ?_
              refine r_iconst hO dX5_lineNow_132 ic_0 ?_
              refine r_fV hO dX5_lineNow_133 kRX5_84 miX5_endsIn (zX5_endsIn _ h (e := e) hb het 111 110 0 rfl rfl rfl (by decide) (by have := isD_n h124; omega) (Or.inr (by have := isD_n h124; omega)) (Or.inl rfl)) ⟨Nat.le_of_ble_eq_true rfl, Nat.le_of_ble_eq_true rfl, rfl, Nat.le_of_ble_eq_true rfl⟩ rfl rfl ?_
              refine r_if_eq 143 hO dX5_lineNow_136 (by decide) (fun h136 => ?_) (fun h136 => ?_)
              · rw [bI_0] at h136
                refine r_bipush hO dX5_lineNow_143 bc_m4 ?_
                exact r_ireturn hO hr dX5_lineNow_145 rfl ⟨sI (by rw [show wdT t T = 5 from wd_5 (lt5 (P := fun i => (decide (T.1 = 1) && nmq t T.2.1 T.2.2.1 i) = false) (show (decide (T.1 = 1) && nmq t T.2.1 T.2.2.1 0) = false by rw [eb, ee, (nq t b e).1]; exact a_f2 (a_f1 h13)) (show (decide (T.1 = 1) && nmq t T.2.1 T.2.2.1 1) = false by rw [eb, ee, (nq t b e).2.1]; exact a_f2 h42) (show (decide (T.1 = 1) && nmq t T.2.1 T.2.2.1 2) = false by rw [eb, ee, (nq t b e).2.2.1]; exact a_f2 (a_f2 h74)) (show (decide (T.1 = 1) && nmq t T.2.1 T.2.2.1 3) = false by rw [eb, ee, (nq t b e).2.2.2.1]; exact a_f2 (a_f1 h93)) (show (decide (T.1 = 1) && nmq t T.2.1 T.2.2.1 4) = false by rw [eb, ee, (nq t b e).2.2.2.2]; exact a_f2 (a_f2 h136)))]; rfl), rfl⟩
              · rw [bI_n0] at h136
                refine r_iconst hO dX5_lineNow_139 ic_4 ?_
                refine r_goto 145 hO dX5_lineNow_140 (by decide) ?_
                exact r_ireturn hO hr dX5_lineNow_145 rfl ⟨sI (by rw [show wdT t T = 4 from wd_k 4 (by decide) (show (decide (T.1 = 1) && nmq t T.2.1 T.2.2.1 4) = true by rw [eb, ee, (nq t b e).2.2.2.2]; exact a_t (decide_eq_true hK) (a_t h124 h136)) (lt4 (P := fun i => (decide (T.1 = 1) && nmq t T.2.1 T.2.2.1 i) = false) (show (decide (T.1 = 1) && nmq t T.2.1 T.2.2.1 0) = false by rw [eb, ee, (nq t b e).1]; exact a_f2 (a_f1 h13)) (show (decide (T.1 = 1) && nmq t T.2.1 T.2.2.1 1) = false by rw [eb, ee, (nq t b e).2.1]; exact a_f2 h42) (show (decide (T.1 = 1) && nmq t T.2.1 T.2.2.1 2) = false by rw [eb, ee, (nq t b e).2.2.1]; exact a_f2 (a_f2 h74)) (show (decide (T.1 = 1) && nmq t T.2.1 T.2.2.1 3) = false by rw [eb, ee, (nq t b e).2.2.2.1]; exact a_f2 (a_f1 h93)))]; rfl), rfl⟩
          · rw [bI_n0] at h93
            refine r_aload_n hO dX5_lineNow_96 rfl ?_
            refine r_bipush hO dX5_lineNow_97 bc_111 ?_
            refine r_bipush hO dX5_lineNow_99 bc_116 ?_
            refine r_iconst hO dX5_lineNow_101 ic_0 ?_
            refine r_fV hO dX5_lineNow_102 kRX5_84 miX5_endsIn (zX5_endsIn _ h (e := e) hb het 111 116 0 rfl rfl rfl (by decide) (by have := isD_n h93; omega) (Or.inr (by have := isD_n h93; omega)) (Or.inl rfl)) ⟨Nat.le_of_ble_eq_true rfl, Nat.le_of_ble_eq_true rfl, rfl, Nat.le_of_ble_eq_true rfl⟩ rfl rfl ?_
            refine r_if_eq 110 hO dX5_lineNow_105 (by decide) (fun h105 => ?_) (fun h105 => ?_)
            · rw [bI_0] at h105
              refine r_aload_n hO dX5_lineNow_110 rfl ?_
              refine r_bipush hO dX5_lineNow_111 bc_6 ?_
              refine r_bipush hO dX5_lineNow_113 bc_109 ?_
              refine r_bipush hO dX5_lineNow_115 bc_111 ?_
              refine r_bipush hO dX5_lineNow_117 bc_116 ?_
              refine r_bipush hO dX5_lineNow_119 bc_105 ?_
              refine r_fV hO dX5_lineNow_121 kRX5_80 miX5_is (zX5_is _ h hb he hbe het 6 109 111 116 105 rfl rfl rfl rfl rfl (by decide) (by decide)) ⟨Nat.le_of_ble_eq_true rfl, Nat.le_of_ble_eq_true rfl, rfl, Nat.le_of_ble_eq_true rfl⟩ rfl rfl ?_
              refine r_if_eq 143 hO dX5_lineNow_124 (by decide) (fun h124 => ?_) (fun h124 => ?_)
              · rw [bI_0] at h124
                refine r_bipush hO dX5_lineNow_143 bc_m4 ?_
                exact r_ireturn hO hr dX5_lineNow_145 rfl ⟨sI (by rw [show wdT t T = 5 from wd_5 (lt5 (P := fun i => (decide (T.1 = 1) && nmq t T.2.1 T.2.2.1 i) = false) (show (decide (T.1 = 1) && nmq t T.2.1 T.2.2.1 0) = false by rw [eb, ee, (nq t b e).1]; exact a_f2 (a_f1 h13)) (show (decide (T.1 = 1) && nmq t T.2.1 T.2.2.1 1) = false by rw [eb, ee, (nq t b e).2.1]; exact a_f2 h42) (show (decide (T.1 = 1) && nmq t T.2.1 T.2.2.1 2) = false by rw [eb, ee, (nq t b e).2.2.1]; exact a_f2 (a_f2 h74)) (show (decide (T.1 = 1) && nmq t T.2.1 T.2.2.1 3) = false by rw [eb, ee, (nq t b e).2.2.2.1]; exact a_f2 (a_f2 h105)) (show (decide (T.1 = 1) && nmq t T.2.1 T.2.2.1 4) = false by rw [eb, ee, (nq t b e).2.2.2.2]; exact a_f2 (a_f1 h124)))]; rfl), rfl⟩
              · rw [bI_n0] at h124
                refine r_aload_n hO dX5_lineNow_127 rfl ?_
                refine r_bipush hO dX5_lineNow_128 bc_111 ?_
                refine r_bipush hO dX5_lineNow_130 bc_110 ?_
                refine r_iconst hO dX5_lineNow_132 ic_0 ?_
                refine r_fV hO dX5_lineNow_133 kRX5_84 miX5_endsIn (zX5_endsIn _ h (e := e) hb het 111 110 0 rfl rfl rfl (by decide) (by have := isD_n h124; omega) (Or.inr (by have := isD_n h124; omega)) (Or.inl rfl)) ⟨Nat.le_of_ble_eq_true rfl, Nat.le_of_ble_eq_true rfl, rfl, Nat.le_of_ble_eq_true rfl⟩ rfl rfl ?_
                refine r_if_eq 143 hO dX5_lineNow_136 (by decide) (fun h136 => ?_) (fun h136 => ?_)
                · rw [bI_0] at h136
                  refine r_bipush hO dX5_lineNow_143 bc_m4 ?_
                  exact r_ireturn hO hr dX5_lineNow_145 rfl ⟨sI (by rw [show wdT t T = 5 from wd_5 (lt5 (P := fun i => (decide (T.1 = 1) && nmq t T.2.1 T.2.2.1 i) = false) (show (decide (T.1 = 1) && nmq t T.2.1 T.2.2.1 0) = false by rw [eb, ee, (nq t b e).1]; exact a_f2 (a_f1 h13)) (show (decide (T.1 = 1) && nmq t T.2.1 T.2.2.1 1) = false by rw [eb, ee, (nq t b e).2.1]; exact a_f2 h42) (show (decide (T.1 = 1) && nmq t T.2.1 T.2.2.1 2) = false by rw [eb, ee, (nq t b e).2.2.1]; exact a_f2 (a_f2 h74)) (show (decide (T.1 = 1) && nmq t T.2.1 T.2.2.1 3) = false by rw [eb, ee, (nq t b e).2.2.2.1]; exact a_f2 (a_f2 h105)) (show (decide (T.1 = 1) && nmq t T.2.1 T.2.2.1 4) = false by rw [eb, ee, (nq t b e).2.2.2.2]; exact a_f2 (a_f2 h136)))]; rfl), rfl⟩
                · rw [bI_n0] at h136
                  refine r_iconst hO dX5_lineNow_139 ic_4 ?_
                  refine r_goto 145 hO dX5_lineNow_140 (by decide) ?_
                  exact r_ireturn hO hr dX5_lineNow_145 rfl ⟨sI (by rw [show wdT t T = 4 from wd_k 4 (by decide) (show (decide (T.1 = 1) && nmq t T.2.1 T.2.2.1 4) = true by rw [eb, ee, (nq t b e).2.2.2.2]; exact a_t (decide_eq_true hK) (a_t h124 h136)) (lt4 (P := fun i => (decide (T.1 = 1) && nmq t T.2.1 T.2.2.1 i) = false) (show (decide (T.1 = 1) && nmq t T.2.1 T.2.2.1 0) = false by rw [eb, ee, (nq t b e).1]; exact a_f2 (a_f1 h13)) (show (decide (T.1 = 1) && nmq t T.2.1 T.2.2.1 1) = false by rw [eb, ee, (nq t b e).2.1]; exact a_f2 h42) (show (decide (T.1 = 1) && nmq t T.2.1 T.2.2.1 2) = false by rw [eb, ee, (nq t b e).2.2.1]; exact a_f2 (a_f2 h74)) (show (decide (T.1 = 1) && nmq t T.2.1 T.2.2.1 3) = false by rw [eb, ee, (nq t b e).2.2.2.1]; exact a_f2 (a_f2 h105)))]; rfl), rfl⟩
            · rw [bI_n0] at h105
              refine r_iconst hO dX5_lineNow_108 ic_3 ?_
              exact r_ireturn hO hr dX5_lineNow_109 rfl ⟨sI (by rw [show wdT t T = 3 from wd_k 3 (by decide) (show (decide (T.1 = 1) && nmq t T.2.1 T.2.2.1 3) = true by rw [eb, ee, (nq t b e).2.2.2.1]; exact a_t (decide_eq_true hK) (a_t h93 h105)) (lt3 (P := fun i => (decide (T.1 = 1) && nmq t T.2.1 T.2.2.1 i) = false) (show (decide (T.1 = 1) && nmq t T.2.1 T.2.2.1 0) = false by rw [eb, ee, (nq t b e).1]; exact a_f2 (a_f1 h13)) (show (decide (T.1 = 1) && nmq t T.2.1 T.2.2.1 1) = false by rw [eb, ee, (nq t b e).2.1]; exact a_f2 h42) (show (decide (T.1 = 1) && nmq t T.2.1 T.2.2.1 2) = false by rw [eb, ee, (nq t b e).2.2.1]; exact a_f2 (a_f2 h74)))]; rfl), rfl⟩
        · rw [bI_n0] at h74
          refine r_iconst hO dX5_lineNow_77 ic_2 ?_
          exact r_ireturn hO hr dX5_lineNow_78 rfl ⟨sI (by rw [show wdT t T = 2 from wd_k 2 (by decide) (show (decide (T.1 = 1) && nmq t T.2.1 T.2.2.1 2) = true by rw [eb, ee, (nq t b e).2.2.1]; exact a_t (decide_eq_true hK) (a_t h61 h74)) (lt2 (P := fun i => (decide (T.1 = 1) && nmq t T.2.1 T.2.2.1 i) = false) (show (decide (T.1 = 1) && nmq t T.2.1 T.2.2.1 0) = false by rw [eb, ee, (nq t b e).1]; exact a_f2 (a_f1 h13)) (show (decide (T.1 = 1) && nmq t T.2.1 T.2.2.1 1) = false by rw [eb, ee, (nq t b e).2.1]; exact a_f2 h42))]; rfl), rfl⟩
    · rw [bI_n0] at h42
      refine r_iconst hO dX5_lineNow_45 ic_1 ?_
      exact r_ireturn hO hr dX5_lineNow_46 rfl ⟨sI (by rw [show wdT t T = 1 from wd_k 1 (by decide) (show (decide (T.1 = 1) && nmq t T.2.1 T.2.2.1 1) = true by rw [eb, ee, (nq t b e).2.1]; exact a_t (decide_eq_true hK) h42) (lt1 (P := fun i => (decide (T.1 = 1) && nmq t T.2.1 T.2.2.1 i) = false) (show (decide (T.1 = 1) && nmq t T.2.1 T.2.2.1 0) = false by rw [eb, ee, (nq t b e).1]; exact a_f2 (a_f1 h13)))]; rfl), rfl⟩
  · rw [bI_n0] at h13
    refine r_aload_n hO dX5_lineNow_16 rfl ?_
    refine r_bipush hO dX5_lineNow_17 bc_110 ?_
    refine r_iconst hO dX5_lineNow_19 ic_0 ?_
    refine r_iconst hO dX5_lineNow_20 ic_0 ?_
    refine r_fV hO dX5_lineNow_21 kRX5_84 miX5_endsIn (zX5_endsIn _ h (e := e) hb het 110 0 0 rfl rfl rfl (by decide) (by have := isD_n h13; omega) (Or.inl rfl) (Or.inl rfl)) ⟨Nat.le_of_ble_eq_true rfl, Nat.le_of_ble_eq_true rfl, rfl, Nat.le_of_ble_eq_true rfl⟩ rfl rfl ?_
    refine r_if_eq 29 hO dX5_lineNow_24 (by decide) (fun h24 => ?_) (fun h24 => ?_)
    · rw [bI_0] at h24
      refine r_aload_n hO dX5_lineNow_29 rfl ?_
      refine r_iconst hO dX5_lineNow_30 ic_4 ?_
      refine r_bipush hO dX5_lineNow_31 bc_119 ?_
      refine r_bipush hO dX5_lineNow_33 bc_104 ?_
      refine r_bipush hO dX5_lineNow_35 bc_105 ?_
      refine r_bipush hO dX5_lineNow_37 bc_112 ?_
      refine r_fV hO dX5_lineNow_39 kRX5_80 miX5_is (zX5_is _ h hb he hbe het 4 119 104 105 112 rfl rfl rfl rfl rfl (by decide) (by decide)) ⟨Nat.le_of_ble_eq_true rfl, Nat.le_of_ble_eq_true rfl, rfl, Nat.le_of_ble_eq_true rfl⟩ rfl rfl ?_
      refine r_if_eq 47 hO dX5_lineNow_42 (by decide) (fun h42 => ?_) (fun h42 => ?_)
      · rw [bI_0] at h42
        refine r_aload_n hO dX5_lineNow_47 rfl ?_
        refine r_bipush hO dX5_lineNow_48 bc_7 ?_
        refine r_bipush hO dX5_lineNow_50 bc_100 ?_
        refine r_bipush hO dX5_lineNow_52 bc_111 ?_
        refine r_bipush hO dX5_lineNow_54 bc_117 ?_
        refine r_bipush hO dX5_lineNow_56 bc_98 ?_
        refine r_fV hO dX5_lineNow_58 kRX5_80 miX5_is (zX5_is _ h hb he hbe het 7 100 111 117 98 rfl rfl rfl rfl rfl (by decide) (by decide)) ⟨Nat.le_of_ble_eq_true rfl, Nat.le_of_ble_eq_true rfl, rfl, Nat.le_of_ble_eq_true rfl⟩ rfl rfl ?_
        refine r_if_eq 79 hO dX5_lineNow_61 (by decide) (fun h61 => ?_) (fun h61 => ?_)
        · rw [bI_0] at h61
          refine r_aload_n hO dX5_lineNow_79 rfl ?_
          refine r_bipush hO dX5_lineNow_80 bc_6 ?_
          refine r_bipush hO dX5_lineNow_82 bc_109 ?_
          refine r_bipush hO dX5_lineNow_84 bc_97 ?_
          refine r_bipush hO dX5_lineNow_86 bc_103 ?_
          refine r_bipush hO dX5_lineNow_88 bc_103 ?_
          refine r_fV hO dX5_lineNow_90 kRX5_80 miX5_is (zX5_is _ h hb he hbe het 6 109 97 103 103 rfl rfl rfl rfl rfl (by decide) (by decide)) ⟨Nat.le_of_ble_eq_true rfl, Nat.le_of_ble_eq_true rfl, rfl, Nat.le_of_ble_eq_true rfl⟩ rfl rfl ?_
          refine r_if_eq 110 hO dX5_lineNow_93 (by decide) (fun h93 => ?_) (fun h93 => ?_)
          · rw [bI_0] at h93
            refine r_aload_n hO dX5_lineNow_110 rfl ?_
            refine r_bipush hO dX5_lineNow_111 bc_6 ?_
            refine r_bipush hO dX5_lineNow_113 bc_109 ?_
            refine r_bipush hO dX5_lineNow_115 bc_111 ?_
            refine r_bipush hO dX5_lineNow_117 bc_116 ?_
            refine r_bipush hO dX5_lineNow_119 bc_105 ?_
            refine r_fV hO dX5_lineNow_121 kRX5_80 miX5_is (zX5_is _ h hb he hbe het 6 109 111 116 105 rfl rfl rfl rfl rfl (by decide) (by decide)) ⟨Nat.le_of_ble_eq_true rfl, Nat.le_of_ble_eq_true rfl, rfl, Nat.le_of_ble_eq_true rfl⟩ rfl rfl ?_
            refine r_if_eq 143 hO dX5_lineNow_124 (by decide) (fun h124 => ?_) (fun h124 => ?_)
            · rw [bI_0] at h124
              refine r_bipush hO dX5_lineNow_143 bc_m4 ?_
              exact r_ireturn hO hr dX5_lineNow_145 rfl ⟨sI (by rw [show wdT t T = 5 from wd_5 (lt5 (P := fun i => (decide (T.1 = 1) && nmq t T.2.1 T.2.2.1 i) = false) (show (decide (T.1 = 1) && nmq t T.2.1 T.2.2.1 0) = false by rw [eb, ee, (nq t b e).1]; exact a_f2 (a_f2 h24)) (show (decide (T.1 = 1) && nmq t T.2.1 T.2.2.1 1) = false by rw [eb, ee, (nq t b e).2.1]; exact a_f2 h42) (show (decide (T.1 = 1) && nmq t T.2.1 T.2.2.1 2) = false by rw [eb, ee, (nq t b e).2.2.1]; exact a_f2 (a_f1 h61)) (show (decide (T.1 = 1) && nmq t T.2.1 T.2.2.1 3) = false by rw [eb, ee, (nq t b e).2.2.2.1]; exact a_f2 (a_f1 h93)) (show (decide (T.1 = 1) && nmq t T.2.1 T.2.2.1 4) = false by rw [eb, ee, (nq t b e).2.2.2.2]; exact a_f2 (a_f1 h124)))]; rfl), rfl⟩
            · rw [bI_n0] at h124
              refine r_aload_n hO dX5_lineNow_127 rfl ?_
              refine r_bipush hO dX5_lineNow_128 bc_111 ?_
              refine r_bipush hO dX5_lineNow_130 bc_110 ?_
              refine r_iconst hO dX5_lineNow_132 ic_0 ?_
              refine r_fV hO dX5_lineNow_133 kRX5_84 miX5_endsIn (zX5_endsIn _ h (e := e) hb het 111 110 0 rfl rfl rfl (by decide) (by have := isD_n h124; omega) (Or.inr (by have := isD_n h124; omega)) (Or.inl rfl)) ⟨Nat.le_of_ble_eq_true rfl, Nat.le_of_ble_eq_true rfl, rfl, Nat.le_of_ble_eq_true rfl⟩ rfl rfl ?_
              refine r_if_eq 143 hO dX5_lineNow_136 (by decide) (fun h136 => ?_) (fun h136 => ?_)
              · rw [bI_0] at h136
                refine r_bipush hO dX5_lineNow_143 bc_m4 ?_
                exact r_ireturn hO hr dX5_lineNow_145 rfl ⟨sI (by rw [show wdT t T = 5 from wd_5 (lt5 (P := fun i => (decide (T.1 = 1) && nmq t T.2.1 T.2.2.1 i) = false) (show (decide (T.1 = 1) && nmq t T.2.1 T.2.2.1 0) = false by rw [eb, ee, (nq t b e).1]; exact a_f2 (a_f2 h24)) (show (decide (T.1 = 1) && nmq t T.2.1 T.2.2.1 1) = false by rw [eb, ee, (nq t b e).2.1]; exact a_f2 h42) (show (decide (T.1 = 1) && nmq t T.2.1 T.2.2.1 2) = false by rw [eb, ee, (nq t b e).2.2.1]; exact a_f2 (a_f1 h61)) (show (decide (T.1 = 1) && nmq t T.2.1 T.2.2.1 3) = false by rw [eb, ee, (nq t b e).2.2.2.1]; exact a_f2 (a_f1 h93)) (show (decide (T.1 = 1) && nmq t T.2.1 T.2.2.1 4) = false by rw [eb, ee, (nq t b e).2.2.2.2]; exact a_f2 (a_f2 h136)))]; rfl), rfl⟩
              · rw [bI_n0] at h136
                refine r_iconst hO dX5_lineNow_139 ic_4 ?_
                refine r_goto 145 hO dX5_lineNow_140 (by decide) ?_
                exact r_ireturn hO hr dX5_lineNow_145 rfl ⟨sI (by rw [show wdT t T = 4 from wd_k 4 (by decide) (show (decide (T.1 = 1) && nmq t T.2.1 T.2.2.1 4) = true by rw [eb, ee, (nq t b e).2.2.2.2]; exact a_t (decide_eq_true hK) (a_t h124 h136)) (lt4 (P := fun i => (decide (T.1 = 1) && nmq t T.2.1 T.2.2.1 i) = false) (show (decide (T.1 = 1) && nmq t T.2.1 T.2.2.1 0) = false by rw [eb, ee, (nq t b e).1]; exact a_f2 (a_f2 h24)) (show (decide (T.1 = 1) && nmq t T.2.1 T.2.2.1 1) = false by rw [eb, ee, (nq t b e).2.1]; exact a_f2 h42) (show (decide (T.1 = 1) && nmq t T.2.1 T.2.2.1 2) = false by rw [eb, ee, (nq t b e).2.2.1]; exact a_f2 (a_f1 h61)) (show (decide (T.1 = 1) && nmq t T.2.1 T.2.2.1 3) = false by rw [eb, ee, (nq t b e).2.2.2.1]; exact a_f2 (a_f1 h93)))]; rfl), rfl⟩
          · rw [bI_n0] at h93
            refine r_aload_n hO dX5_lineNow_96 rfl ?_
            refine r_bipush hO dX5_lineNow_97 bc_111 ?_
            refine r_bipush hO dX5_lineNow_99 bc_116 ?_
            refine r_iconst hO dX5_lineNow_101 ic_0 ?_
            refine r_fV hO dX5_lineNow_102 kRX5_84 miX5_endsIn (zX5_endsIn _ h (e := e) hb het 111 116 0 rfl rfl rfl (by decide) (by have := isD_n h93; omega) (Or.inr (by have := isD_n h93; omega)) (Or.inl rfl)) ⟨Nat.le_of_ble_eq_true rfl, Nat.le_of_ble_eq_true rfl, rfl, Nat.le_of_ble_eq_true rfl⟩ rfl rfl ?_
            refine r_if_eq 110 hO dX5_lineNow_105 (by decide) (fun h105 => ?_) (fun h105 => ?_)
            · rw [bI_0] at h105
              refine r_aload_n hO dX5_lineNow_110 rfl ?_
              refine r_bipush hO dX5_lineNow_111 bc_6 ?_
              refine r_bipush hO dX5_lineNow_113 bc_109 ?_
              refine r_bipush hO dX5_lineNow_115 bc_111 ?_
              refine r_bipush hO dX5_lineNow_117 bc_116 ?_
              refine r_bipush hO dX5_lineNow_119 bc_105 ?_
              refine r_fV hO dX5_lineNow_121 kRX5_80 miX5_is (zX5_is _ h hb he hbe het 6 109 111 116 105 rfl rfl rfl rfl rfl (by decide) (by decide)) ⟨Nat.le_of_ble_eq_true rfl, Nat.le_of_ble_eq_true rfl, rfl, Nat.le_of_ble_eq_true rfl⟩ rfl rfl ?_
              refine r_if_eq 143 hO dX5_lineNow_124 (by decide) (fun h124 => ?_) (fun h124 => ?_)
              · rw [bI_0] at h124
                refine r_bipush hO dX5_lineNow_143 bc_m4 ?_
                exact r_ireturn hO hr dX5_lineNow_145 rfl ⟨sI (by rw [show wdT t T = 5 from wd_5 (lt5 (P := fun i => (decide (T.1 = 1) && nmq t T.2.1 T.2.2.1 i) = false) (show (decide (T.1 = 1) && nmq t T.2.1 T.2.2.1 0) = false by rw [eb, ee, (nq t b e).1]; exact a_f2 (a_f2 h24)) (show (decide (T.1 = 1) && nmq t T.2.1 T.2.2.1 1) = false by rw [eb, ee, (nq t b e).2.1]; exact a_f2 h42) (show (decide (T.1 = 1) && nmq t T.2.1 T.2.2.1 2) = false by rw [eb, ee, (nq t b e).2.2.1]; exact a_f2 (a_f1 h61)) (show (decide (T.1 = 1) && nmq t T.2.1 T.2.2.1 3) = false by rw [eb, ee, (nq t b e).2.2.2.1]; exact a_f2 (a_f2 h105)) (show (decide (T.1 = 1) && nmq t T.2.1 T.2.2.1 4) = false by rw [eb, ee, (nq t b e).2.2.2.2]; exact a_f2 (a_f1 h124)))]; rfl), rfl⟩
              · rw [bI_n0] at h124
                refine r_aload_n hO dX5_lineNow_127 rfl ?_
                refine r_bipush hO dX5_lineNow_128 bc_111 ?_
                refine r_bipush hO dX5_lineNow_130 bc_110 ?_
                refine r_iconst hO dX5_lineNow_132 ic_0 ?_
                refine r_fV hO dX5_lineNow_133 kRX5_84 miX5_endsIn (zX5_endsIn _ h (e := e) hb het 111 110 0 rfl rfl rfl (by decide) (by have := isD_n h124; omega) (Or.inr (by have := isD_n h124; omega)) (Or.inl rfl)) ⟨Nat.le_of_ble_eq_true rfl, Nat.le_of_ble_eq_true rfl, rfl, Nat.le_of_ble_eq_true rfl⟩ rfl rfl ?_
                refine r_if_eq 143 hO dX5_lineNow_136 (by decide) (fun h136 => ?_) (fun h136 => ?_)
                · rw [bI_0] at h136
                  refine r_bipush hO dX5_lineNow_143 bc_m4 ?_
                  exact r_ireturn hO hr dX5_lineNow_145 rfl ⟨sI (by rw [show wdT t T = 5 from wd_5 (lt5 (P := fun i => (decide (T.1 = 1) && nmq t T.2.1 T.2.2.1 i) = false) (show (decide (T.1 = 1) && nmq t T.2.1 T.2.2.1 0) = false by rw [eb, ee, (nq t b e).1]; exact a_f2 (a_f2 h24)) (show (decide (T.1 = 1) && nmq t T.2.1 T.2.2.1 1) = false by rw [eb, ee, (nq t b e).2.1]; exact a_f2 h42) (show (decide (T.1 = 1) && nmq t T.2.1 T.2.2.1 2) = false by rw [eb, ee, (nq t b e).2.2.1]; exact a_f2 (a_f1 h61)) (show (decide (T.1 = 1) && nmq t T.2.1 T.2.2.1 3) = false by rw [eb, ee, (nq t b e).2.2.2.1]; exact a_f2 (a_f2 h105)) (show (decide (T.1 = 1) && nmq t T.2.1 T.2.2.1 4) = false by rw [eb, ee, (nq t b e).2.2.2.2]; exact a_f2 (a_f2 h136)))]; rfl), rfl⟩
                · rw [bI_n0] at h136
                  refine r_iconst hO dX5_lineNow_139 ic_4 ?_
                  refine r_goto 145 hO dX5_lineNow_140 (by decide) ?_
                  exact r_ireturn hO hr dX5_lineNow_145 rfl ⟨sI (by rw [show wdT t T = 4 from wd_k 4 (by decide) (show (decide (T.1 = 1) && nmq t T.2.1 T.2.2.1 4) = true by rw [eb, ee, (nq t b e).2.2.2.2]; exact a_t (decide_eq_true hK) (a_t h124 h136)) (lt4 (P := fun i => (decide (T.1 = 1) && nmq t T.2.1 T.2.2.1 i) = false) (show (decide (T.1 = 1) && nmq t T.2.1 T.2.2.1 0) = false by rw [eb, ee, (nq t b e).1]; exact a_f2 (a_f2 h24)) (show (decide (T.1 = 1) && nmq t T.2.1 T.2.2.1 1) = false by rw [eb, ee, (nq t b e).2.1]; exact a_f2 h42) (show (decide (T.1 = 1) && nmq t T.2.1 T.2.2.1 2) = false by rw [eb, ee, (nq t b e).2.2.1]; exact a_f2 (a_f1 h61)) (show (decide (T.1 = 1) && nmq t T.2.1 T.2.2.1 3) = false by rw [eb, ee, (nq t b e).2.2.2.1]; exact a_f2 (a_f2 h105)))]; rfl), rfl⟩
            · rw [bI_n0] at h105
              refine r_iconst hO dX5_lineNow_108 ic_3 ?_
              exact r_ireturn hO hr dX5_lineNow_109 rfl ⟨sI (by rw [show wdT t T = 3 from wd_k 3 (by decide) (show (decide (T.1 = 1) && nmq t T.2.1 T.2.2.1 3) = true by rw [eb, ee, (nq t b e).2.2.2.1]; exact a_t (decide_eq_true hK) (a_t h93 h105)) (lt3 (P := fun i => (decide (T.1 = 1) && nmq t T.2.1 T.2.2.1 i) = false) (show (decide (T.1 = 1) && nmq t T.2.1 T.2.2.1 0) = false by rw [eb, ee, (nq t b e).1]; exact a_f2 (a_f2 h24)) (show (decide (T.1 = 1) && nmq t T.2.1 T.2.2.1 1) = false by rw [eb, ee, (nq t b e).2.1]; exact a_f2 h42) (show (decide (T.1 = 1) && nmq t T.2.1 T.2.2.1 2) = false by rw [eb, ee, (nq t b e).2.2.1]; exact a_f2 (a_f1 h61)))]; rfl), rfl⟩
        · rw [bI_n0] at h61
          refine r_aload_n hO dX5_lineNow_64 rfl ?_
          refine r_bipush hO dX5_lineNow_65 bc_116 ?_
          refine r_bipush hO dX5_lineNow_67 bc_101 ?_
          refine r_bipush hO dX5_lineNow_69 bc_114 ?_
          refine r_fV hO dX5_lineNow_71 kRX5_84 miX5_endsIn (zX5_endsIn _ h (e := e) hb het 116 101 114 rfl rfl rfl (by decide) (by have := isD_n h61; omega) (Or.inr (by have := isD_n h61; omega)) (Or.inr (by have := isD_n h61; omega))) ⟨Nat.le_of_ble_eq_true rfl, Nat.le_of_ble_eq_true rfl, rfl, Nat.le_of_ble_eq_true rfl⟩ rfl rfl ?_
          refine r_if_eq 79 hO dX5_lineNow_74 (by decide) (fun h74 => ?_) (fun h74 => ?_)
          · rw [bI_0] at h74
            refine r_aload_n hO dX5_lineNow_79 rfl ?_
            refine r_bipush hO dX5_lineNow_80 bc_6 ?_
            refine r_bipush hO dX5_lineNow_82 bc_109 ?_
            refine r_bipush hO dX5_lineNow_84 bc_97 ?_
            refine r_bipush hO dX5_lineNow_86 bc_103 ?_
            refine r_bipush hO dX5_lineNow_88 bc_103 ?_
            refine r_fV hO dX5_lineNow_90 kRX5_80 miX5_is (zX5_is _ h hb he hbe het 6 109 97 103 103 rfl rfl rfl rfl rfl (by decide) (by decide)) ⟨Nat.le_of_ble_eq_true rfl, Nat.le_of_ble_eq_true rfl, rfl, Nat.le_of_ble_eq_true rfl⟩ rfl rfl ?_
            refine r_if_eq 110 hO dX5_lineNow_93 (by decide) (fun h93 => ?_) (fun h93 => ?_)
            · rw [bI_0] at h93
              refine r_aload_n hO dX5_lineNow_110 rfl ?_
              refine r_bipush hO dX5_lineNow_111 bc_6 ?_
              refine r_bipush hO dX5_lineNow_113 bc_109 ?_
              refine r_bipush hO dX5_lineNow_115 bc_111 ?_
              refine r_bipush hO dX5_lineNow_117 bc_116 ?_
              refine r_bipush hO dX5_lineNow_119 bc_105 ?_
              refine r_fV hO dX5_lineNow_121 kRX5_80 miX5_is (zX5_is _ h hb he hbe het 6 109 111 116 105 rfl rfl rfl rfl rfl (by decide) (by decide)) ⟨Nat.le_of_ble_eq_true rfl, Nat.le_of_ble_eq_true rfl, rfl, Nat.le_of_ble_eq_true rfl⟩ rfl rfl ?_
              refine r_if_eq 143 hO dX5_lineNow_124 (by decide) (fun h124 => ?_) (fun h124 => ?_)
              · rw [bI_0] at h124
                refine r_bipush hO dX5_lineNow_143 bc_m4 ?_
                exact r_ireturn hO hr dX5_lineNow_145 rfl ⟨sI (by rw [show wdT t T = 5 from wd_5 (lt5 (P := fun i => (decide (T.1 = 1) && nmq t T.2.1 T.2.2.1 i) = false) (show (decide (T.1 = 1) && nmq t T.2.1 T.2.2.1 0) = false by rw [eb, ee, (nq t b e).1]; exact a_f2 (a_f2 h24)) (show (decide (T.1 = 1) && nmq t T.2.1 T.2.2.1 1) = false by rw [eb, ee, (nq t b e).2.1]; exact a_f2 h42) (show (decide (T.1 = 1) && nmq t T.2.1 T.2.2.1 2) = false by rw [eb, ee, (nq t b e).2.2.1]; exact a_f2 (a_f2 h74)) (show (decide (T.1 = 1) && nmq t T.2.1 T.2.2.1 3) = false by rw [eb, ee, (nq t b e).2.2.2.1]; exact a_f2 (a_f1 h93)) (show (decide (T.1 = 1) && nmq t T.2.1 T.2.2.1 4) = false by rw [eb, ee, (nq t b e).2.2.2.2]; exact a_f2 (a_f1 h124)))]; rfl), rfl⟩
              · rw [bI_n0] at h124
                refine r_aload_n hO dX5_lineNow_127 rfl ?_
                refine r_bipush hO dX5_lineNow_128 bc_111 ?_
                refine r_bipush hO dX5_lineNow_130 bc_110 ?_
                refine r_iconst hO dX5_lineNow_132 ic_0 ?_
                refine r_fV hO dX5_lineNow_133 kRX5_84 miX5_endsIn (zX5_endsIn _ h (e := e) hb het 111 110 0 rfl rfl rfl (by decide) (by have := isD_n h124; omega) (Or.inr (by have := isD_n h124; omega)) (Or.inl rfl)) ⟨Nat.le_of_ble_eq_true rfl, Nat.le_of_ble_eq_true rfl, rfl, Nat.le_of_ble_eq_true rfl⟩ rfl rfl ?_
                refine r_if_eq 143 hO dX5_lineNow_136 (by decide) (fun h136 => ?_) (fun h136 => ?_)
                · rw [bI_0] at h136
                  refine r_bipush hO dX5_lineNow_143 bc_m4 ?_
                  exact r_ireturn hO hr dX5_lineNow_145 rfl ⟨sI (by rw [show wdT t T = 5 from wd_5 (lt5 (P := fun i => (decide (T.1 = 1) && nmq t T.2.1 T.2.2.1 i) = false) (show (decide (T.1 = 1) && nmq t T.2.1 T.2.2.1 0) = false by rw [eb, ee, (nq t b e).1]; exact a_f2 (a_f2 h24)) (show (decide (T.1 = 1) && nmq t T.2.1 T.2.2.1 1) = false by rw [eb, ee, (nq t b e).2.1]; exact a_f2 h42) (show (decide (T.1 = 1) && nmq t T.2.1 T.2.2.1 2) = false by rw [eb, ee, (nq t b e).2.2.1]; exact a_f2 (a_f2 h74)) (show (decide (T.1 = 1) && nmq t T.2.1 T.2.2.1 3) = false by rw [eb, ee, (nq t b e).2.2.2.1]; exact a_f2 (a_f1 h93)) (show (decide (T.1 = 1) && nmq t T.2.1 T.2.2.1 4) = false by rw [eb, ee, (nq t b e).2.2.2.2]; exact a_f2 (a_f2 h136)))]; rfl), rfl⟩
                · rw [bI_n0] at h136
                  refine r_iconst hO dX5_lineNow_139 ic_4 ?_
                  refine r_goto 145 hO dX5_lineNow_140 (by decide) ?_
                  exact r_ireturn hO hr dX5_lineNow_145 rfl ⟨sI (by rw [show wdT t T = 4 from wd_k 4 (by decide) (show (decide (T.1 = 1) && nmq t T.2.1 T.2.2.1 4) = true by rw [eb, ee, (nq t b e).2.2.2.2]; exact a_t (decide_eq_true hK) (a_t h124 h136)) (lt4 (P := fun i => (decide (T.1 = 1) && nmq t T.2.1 T.2.2.1 i) = false) (show (decide (T.1 = 1) && nmq t T.2.1 T.2.2.1 0) = false by rw [eb, ee, (nq t b e).1]; exact a_f2 (a_f2 h24)) (show (decide (T.1 = 1) && nmq t T.2.1 T.2.2.1 1) = false by rw [eb, ee, (nq t b e).2.1]; exact a_f2 h42) (show (decide (T.1 = 1) && nmq t T.2.1 T.2.2.1 2) = false by rw [eb, ee, (nq t b e).2.2.1]; exact a_f2 (a_f2 h74)) (show (decide (T.1 = 1) && nmq t T.2.1 T.2.2.1 3) = false by rw [eb, ee, (nq t b e).2.2.2.1]; exact a_f2 (a_f1 h93)))]; rfl), rfl⟩
            · rw [bI_n0] at h93
              refine r_aload_n hO dX5_lineNow_96 rfl ?_
              refine r_bipush hO dX5_lineNow_97 bc_111 ?_
              refine r_bipush hO dX5_lineNow_99 bc_116 ?_
              refine r_iconst hO dX5_lineNow_101 ic_0 ?_
              refine r_fV hO dX5_lineNow_102 kRX5_84 miX5_endsIn (zX5_endsIn _ h (e := e) hb het 111 116 0 rfl rfl rfl (by decide) (by have := isD_n h93; omega) (Or.inr (by have := isD_n h93; omega)) (Or.inl rfl)) ⟨Nat.le_of_ble_eq_true rfl, Nat.le_of_ble_eq_true rfl, rfl, Nat.le_of_ble_eq_true rfl⟩ rfl rfl ?_
              refine r_if_eq 110 hO dX5_lineNow_105 (by decide) (fun h105 => ?_) (fun h105 => ?_)
              · rw [bI_0] at h105
                refine r_aload_n hO dX5_lineNow_110 rfl ?_
                refine r_bipush hO dX5_lineNow_111 bc_6 ?_
                refine r_bipush hO dX5_lineNow_113 bc_109 ?_
                refine r_bipush hO dX5_lineNow_115 bc_111 ?_
                refine r_bipush hO dX5_lineNow_117 bc_116 ?_
                refine r_bipush hO dX5_lineNow_119 bc_105 ?_
                refine r_fV hO dX5_lineNow_121 kRX5_80 miX5_is (zX5_is _ h hb he hbe het 6 109 111 116 105 rfl rfl rfl rfl rfl (by decide) (by decide)) ⟨Nat.le_of_ble_eq_true rfl, Nat.le_of_ble_eq_true rfl, rfl, Nat.le_of_ble_eq_true rfl⟩ rfl rfl ?_
                refine r_if_eq 143 hO dX5_lineNow_124 (by decide) (fun h124 => ?_) (fun h124 => ?_)
                · rw [bI_0] at h124
                  refine r_bipush hO dX5_lineNow_143 bc_m4 ?_
                  exact r_ireturn hO hr dX5_lineNow_145 rfl ⟨sI (by rw [show wdT t T = 5 from wd_5 (lt5 (P := fun i => (decide (T.1 = 1) && nmq t T.2.1 T.2.2.1 i) = false) (show (decide (T.1 = 1) && nmq t T.2.1 T.2.2.1 0) = false by rw [eb, ee, (nq t b e).1]; exact a_f2 (a_f2 h24)) (show (decide (T.1 = 1) && nmq t T.2.1 T.2.2.1 1) = false by rw [eb, ee, (nq t b e).2.1]; exact a_f2 h42) (show (decide (T.1 = 1) && nmq t T.2.1 T.2.2.1 2) = false by rw [eb, ee, (nq t b e).2.2.1]; exact a_f2 (a_f2 h74)) (show (decide (T.1 = 1) && nmq t T.2.1 T.2.2.1 3) = false by rw [eb, ee, (nq t b e).2.2.2.1]; exact a_f2 (a_f2 h105)) (show (decide (T.1 = 1) && nmq t T.2.1 T.2.2.1 4) = false by rw [eb, ee, (nq t b e).2.2.2.2]; exact a_f2 (a_f1 h124)))]; rfl), rfl⟩
                · rw [bI_n0] at h124
                  refine r_aload_n hO dX5_lineNow_127 rfl ?_
                  refine r_bipush hO dX5_lineNow_128 bc_111 ?_
                  refine r_bipush hO dX5_lineNow_130 bc_110 ?_
                  refine r_iconst hO dX5_lineNow_132 ic_0 ?_
                  refine r_fV hO dX5_lineNow_133 kRX5_84 miX5_endsIn (zX5_endsIn _ h (e := e) hb het 111 110 0 rfl rfl rfl (by decide) (by have := isD_n h124; omega) (Or.inr (by have := isD_n h124; omega)) (Or.inl rfl)) ⟨Nat.le_of_ble_eq_true rfl, Nat.le_of_ble_eq_true rfl, rfl, Nat.le_of_ble_eq_true rfl⟩ rfl rfl ?_
                  refine r_if_eq 143 hO dX5_lineNow_136 (by decide) (fun h136 => ?_) (fun h136 => ?_)
                  · rw [bI_0] at h136
                    refine r_bipush hO dX5_lineNow_143 bc_m4 ?_
                    exact r_ireturn hO hr dX5_lineNow_145 rfl ⟨sI (by rw [show wdT t T = 5 from wd_5 (lt5 (P := fun i => (decide (T.1 = 1) && nmq t T.2.1 T.2.2.1 i) = false) (show (decide (T.1 = 1) && nmq t T.2.1 T.2.2.1 0) = false by rw [eb, ee, (nq t b e).1]; exact a_f2 (a_f2 h24)) (show (decide (T.1 = 1) && nmq t T.2.1 T.2.2.1 1) = false by rw [eb, ee, (nq t b e).2.1]; exact a_f2 h42) (show (decide (T.1 = 1) && nmq t T.2.1 T.2.2.1 2) = false by rw [eb, ee, (nq t b e).2.2.1]; exact a_f2 (a_f2 h74)) (show (decide (T.1 = 1) && nmq t T.2.1 T.2.2.1 3) = false by rw [eb, ee, (nq t b e).2.2.2.1]; exact a_f2 (a_f2 h105)) (show (decide (T.1 = 1) && nmq t T.2.1 T.2.2.1 4) = false by rw [eb, ee, (nq t b e).2.2.2.2]; exact a_f2 (a_f2 h136)))]; rfl), rfl⟩
                  · rw [bI_n0] at h136
                    refine r_iconst hO dX5_lineNow_139 ic_4 ?_
                    refine r_goto 145 hO dX5_lineNow_140 (by decide) ?_
                    exact r_ireturn hO hr dX5_lineNow_145 rfl ⟨sI (by rw [show wdT t T = 4 from wd_k 4 (by decide) (show (decide (T.1 = 1) && nmq t T.2.1 T.2.2.1 4) = true by rw [eb, ee, (nq t b e).2.2.2.2]; exact a_t (decide_eq_true hK) (a_t h124 h136)) (lt4 (P := fun i => (decide (T.1 = 1) && nmq t T.2.1 T.2.2.1 i) = false) (show (decide (T.1 = 1) && nmq t T.2.1 T.2.2.1 0) = false by rw [eb, ee, (nq t b e).1]; exact a_f2 (a_f2 h24)) (show (decide (T.1 = 1) && nmq t T.2.1 T.2.2.1 1) = false by rw [eb, ee, (nq t b e).2.1]; exact a_f2 h42) (show (decide (T.1 = 1) && nmq t T.2.1 T.2.2.1 2) = false by rw [eb, ee, (nq t b e).2.2.1]; exact a_f2 (a_f2 h74)) (show (decide (T.1 = 1) && nmq t T.2.1 T.2.2.1 3) = false by rw [eb, ee, (nq t b e).2.2.2.1]; exact a_f2 (a_f2 h105)))]; rfl), rfl⟩
              · rw [bI_n0] at h105
                refine r_iconst hO dX5_lineNow_108 ic_3 ?_
                exact r_ireturn hO hr dX5_lineNow_109 rfl ⟨sI (by rw [show wdT t T = 3 from wd_k 3 (by decide) (show (decide (T.1 = 1) && nmq t T.2.1 T.2.2.1 3) = true by rw [eb, ee, (nq t b e).2.2.2.1]; exact a_t (decide_eq_true hK) (a_t h93 h105)) (lt3 (P := fun i => (decide (T.1 = 1) && nmq t T.2.1 T.2.2.1 i) = false) (show (decide (T.1 = 1) && nmq t T.2.1 T.2.2.1 0) = false by rw [eb, ee, (nq t b e).1]; exact a_f2 (a_f2 h24)) (show (decide (T.1 = 1) && nmq t T.2.1 T.2.2.1 1) = false by rw [eb, ee, (nq t b e).2.1]; exact a_f2 h42) (show (decide (T.1 = 1) && nmq t T.2.1 T.2.2.1 2) = false by rw [eb, ee, (nq t b e).2.2.1]; exact a_f2 (a_f2 h74)))]; rfl), rfl⟩
          · rw [bI_n0] at h74
            refine r_iconst hO dX5_lineNow_77 ic_2 ?_
            exact r_ireturn hO hr dX5_lineNow_78 rfl ⟨sI (by rw [show wdT t T = 2 from wd_k 2 (by decide) (show (decide (T.1 = 1) && nmq t T.2.1 T.2.2.1 2) = true by rw [eb, ee, (nq t b e).2.2.1]; exact a_t (decide_eq_true hK) (a_t h61 h74)) (lt2 (P := fun i => (decide (T.1 = 1) && nmq t T.2.1 T.2.2.1 i) = false) (show (decide (T.1 = 1) && nmq t T.2.1 T.2.2.1 0) = false by rw [eb, ee, (nq t b e).1]; exact a_f2 (a_f2 h24)) (show (decide (T.1 = 1) && nmq t T.2.1 T.2.2.1 1) = false by rw [eb, ee, (nq t b e).2.1]; exact a_f2 h42))]; rfl), rfl⟩
      · rw [bI_n0] at h42
        refine r_iconst hO dX5_lineNow_45 ic_1 ?_
        exact r_ireturn hO hr dX5_lineNow_46 rfl ⟨sI (by rw [show wdT t T = 1 from wd_k 1 (by decide) (show (decide (T.1 = 1) && nmq t T.2.1 T.2.2.1 1) = true by rw [eb, ee, (nq t b e).2.1]; exact a_t (decide_eq_true hK) h42) (lt1 (P := fun i => (decide (T.1 = 1) && nmq t T.2.1 T.2.2.1 i) = false) (show (decide (T.1 = 1) && nmq t T.2.1 T.2.2.1 0) = false by rw [eb, ee, (nq t b e).1]; exact a_f2 (a_f2 h24)))]; rfl), rfl⟩
    · rw [bI_n0] at h24
      refine r_iconst hO dX5_lineNow_27 ic_0 ?_
      exact r_ireturn hO hr dX5_lineNow_28 rfl ⟨sI (by rw [show wdT t T = 0 from wd_k 0 (by decide) (show (decide (T.1 = 1) && nmq t T.2.1 T.2.2.1 0) = true by rw [eb, ee, (nq t b e).1]; exact a_t (decide_eq_true hK) (a_t h13 h24)) (fun i hi => absurd hi (by omega))]; rfl), rfl⟩
def SD (t : List Nat) (M : Mm) (x : Fb ⊕ Nat) : Prop := x.elim (FaD M) (fun p => TokD M (tok t p) ∧ p ≤ t.length)
def nx (t : List Nat) (x : Fb ⊕ Nat) (top : Nat) : Fb ⊕ (Nat × Nat) := x.elim .inl (fun p => nmP t p top)
def vl (y : Fb ⊕ (Nat × Nat)) : Nat := y.elim (fun _ => 0) Prod.fst
def nxp (y : Fb ⊕ (Nat × Nat)) : Fb ⊕ Nat := y.elim .inl (fun z => .inr z.2)
theorem SD.eq {t : List Nat} {M M' : Mm} {x : Fb ⊕ Nat} (h : SD t M x) (e : ∀ k, 7 ≤ k → k ≤ 12 → M'.1 33 k = M.1 33 k) : SD t M' x := by
  cases x with
  | inl c => exact FaD.eq h e
  | inr p => exact ⟨TokD.eq h.1 e, h.2⟩
theorem FaD.ne {M : Mm} {c : Fb} (h : FaD M c) : ¬ M.1 33 11 = 0 := by rw [h.1]; exact nI_ne0 (by have := h.2.2; omega) (by have := h.2.2; omega)
set_option maxHeartbeats 4000000 in
theorem zX5_readNumberF (l : Launch) {M : Mm} {c : Fb} (hf : FaD M c) {x : Int32} : CFz l 2 yX5_readNumber cX5_readNumber 3 (some .int) [.ref 33, .int x] M (some (.int 0)) (M) := by
  refine Clz.on RX5 rfl (by decide +kernel) (Nat.le_of_ble_eq_true rfl) (fun X hL hO hr => ?_)
  show Gz X 0 [.ref 33, .int x, .null] [] M
  refine r_aload_n hO dX5_readNumber_0 rfl ?_
  refine r_getI hO dX5_readNumber_1 fRX5_64 rfl ?_
  refine r_if_ne 25 hO dX5_readNumber_4 (by decide) (fun _ => ?_) (fun z => absurd z hf.ne)
  refine r_aload_n hO dX5_readNumber_25 rfl ?_
  refine r_getI hO dX5_readNumber_26 fRX5_64 rfl ?_
  refine r_if_ne 48 hO dX5_readNumber_29 (by decide) (fun _ => ?_) (fun z => absurd z hf.ne)
  refine r_aload_n hO dX5_readNumber_48 rfl ?_
  refine r_getI hO dX5_readNumber_49 fRX5_64 rfl ?_
  refine r_if_ne 62 hO dX5_readNumber_52 (by decide) (fun _ => ?_) (fun z => absurd z hf.ne)
  refine r_iconst hO dX5_readNumber_62 ic_0 ?_
  refine s_istore_n hL hO dX5_readNumber_63 (Nat.le_of_ble_eq_true rfl) rfl ?_
  refine r_aload_n hO dX5_readNumber_64 rfl ?_
  refine r_fV hO dX5_readNumber_65 kRX5_106 miX5_reads (zX5_readsF _ hf) ⟨Nat.le_of_ble_eq_true rfl, Nat.le_of_ble_eq_true rfl, rfl, Nat.le_of_ble_eq_true rfl⟩ rfl rfl ?_
  refine r_iload_n hO dX5_readNumber_68 rfl ?_
  exact r_ireturn hO hr dX5_readNumber_69 rfl ⟨rfl, rfl⟩
theorem inI_R2 {c hi : Nat} (h2 : hi < 1000) (h3 : c < 1000) : inI (nI c) 0 (nI hi) = decide (c ≤ hi) := by
  rw [show (0 : Int32) = nI 0 from rfl]
  unfold inI
  congr 1
  rw [nI_leI (by omega) (by omega), nI_leI (by omega) (by omega)]
  apply propext
  omega
set_option maxHeartbeats 4000000 in
theorem zX5_readNumberG (l : Launch) {M : Mm} {t : List Nat} (h : TpD M t) {x : Int32} (top : Nat) (hx : x = nI top) (htop : top ≤ 20) (p : Nat) (hp2 : p ≤ t.length) (hT : TokD M (tok t p)) (q4 : ¬ (tok t p).1 = 4) : Clz l 2 yX5_readNumber cX5_readNumber 3 (some .int) [.ref 33, .int x] M (fun r M' => FKd M M' ∧ r = some (.int (nI (vl (nmP t p top)))) ∧ SD t M' (nxp (nmP t p top))) := by
  refine Clz.on RX5 rfl (by decide +kernel) (Nat.le_of_ble_eq_true rfl) (fun X hL hO hr => ?_)
  show Gz X 0 [.ref 33, .int x, .null] [] M
  have k := tok_e hp2
  have g := hT.g q4
  have hl160 := h.1
  refine r_aload_n hO dX5_readNumber_0 rfl ?_
  refine r_getI hO dX5_readNumber_1 fRX5_64 rfl ?_
  refine r_if_ne 25 hO dX5_readNumber_4 (by decide) (fun z => absurd g.1 z) (fun _ => ?_)
  refine r_aload_n hO dX5_readNumber_7 rfl ?_
  refine r_aload_n hO dX5_readNumber_8 rfl ?_
  refine r_getI hO dX5_readNumber_9 fRX5_88 rfl ?_
  refine r_iconst hO dX5_readNumber_12 ic_2 ?_
  refine r_icmp_ne 20 hO dX5_readNumber_13 (by decide) (fun h13 => ?_) (fun h13 => ?_)
  · rw [g.2.2.1, show (2 : Int32) = nI 2 from rfl, nI_eq (by omega) (by omega)] at h13
    refine r_iconst hO dX5_readNumber_20 ic_0 ?_
    refine r_iconst hO dX5_readNumber_21 ic_2 ?_
    refine r_fV hO dX5_readNumber_22 kRX5_102 miX5_requires (zX5_requires _) ⟨Nat.le_of_ble_eq_true rfl, Nat.le_of_ble_eq_true rfl, rfl, Nat.le_of_ble_eq_true rfl⟩ rfl rfl ?_
    rw [if_pos ⟨rfl, g.1⟩]
    have hf2 : FaD (mput (mput M 33 11 2) 33 12 (M.1 33 8)) (2, (tok t p).2.1) := ⟨by rw [mpn (by omega), mpe]; rfl, by rw [mpe]; exact hT.1, by show 0 < 2; omega, by show 2 ≤ 5; omega⟩
    have eN : nmP t p top = .inl (2, (tok t p).2.1) := by rw [nm_f (by unfold ftN; rw [if_neg q4, if_neg h13]; decide)]; unfold ftN; rw [if_neg q4, if_neg h13]
    refine r_aload_n hO dX5_readNumber_25 rfl ?_
    refine r_getI hO dX5_readNumber_26 fRX5_64 rfl ?_
    refine r_if_ne 48 hO dX5_readNumber_29 (by decide) (fun _ => ?_) (fun z => absurd z hf2.ne)
    refine r_aload_n hO dX5_readNumber_48 rfl ?_
    refine r_getI hO dX5_readNumber_49 fRX5_64 rfl ?_
    refine r_if_ne 62 hO dX5_readNumber_52 (by decide) (fun _ => ?_) (fun z => absurd z hf2.ne)
    refine r_iconst hO dX5_readNumber_62 ic_0 ?_
    refine s_istore_n hL hO dX5_readNumber_63 (Nat.le_of_ble_eq_true rfl) rfl ?_
    refine r_aload_n hO dX5_readNumber_64 rfl ?_
    refine r_fV hO dX5_readNumber_65 kRX5_106 miX5_reads (zX5_readsF _ hf2) ⟨Nat.le_of_ble_eq_true rfl, Nat.le_of_ble_eq_true rfl, rfl, Nat.le_of_ble_eq_true rfl⟩ rfl rfl ?_
    refine r_iload_n hO dX5_readNumber_68 rfl ?_
    exact r_ireturn hO hr dX5_readNumber_69 rfl ⟨(FKd.put (by omega) (by omega)).tr (FKd.put (by omega) (by omega)), by rw [eN]; rfl, by rw [eN]; exact hf2⟩
  · rw [g.2.2.1, show (2 : Int32) = nI 2 from rfl, nI_eq (by omega) (by omega)] at h13
    refine r_iconst hO dX5_readNumber_16 ic_1 ?_
    refine r_goto 21 hO dX5_readNumber_17 (by decide) ?_
    refine r_iconst hO dX5_readNumber_21 ic_2 ?_
    refine r_fV hO dX5_readNumber_22 kRX5_102 miX5_requires (zX5_requires _) ⟨Nat.le_of_ble_eq_true rfl, Nat.le_of_ble_eq_true rfl, rfl, Nat.le_of_ble_eq_true rfl⟩ rfl rfl ?_
    rw [if_neg (fun z => absurd z.1 (by decide))]
    have hz : ftN (tok t p).1 2 = 0 := by unfold ftN; rw [if_neg q4, if_pos h13]
    refine r_aload_n hO dX5_readNumber_25 rfl ?_
    refine r_getI hO dX5_readNumber_26 fRX5_64 rfl ?_
    refine r_if_ne 48 hO dX5_readNumber_29 (by decide) (fun z => absurd g.1 z) (fun _ => ?_)
    refine r_aload_n hO dX5_readNumber_32 rfl ?_
    refine r_aload_n hO dX5_readNumber_33 rfl ?_
    refine r_getI hO dX5_readNumber_34 fRX5_99 rfl ?_
    refine r_i2l hO dX5_readNumber_37 ?_
    refine r_lconst hO dX5_readNumber_38 lc_0 ?_
    refine r_iload_n hO dX5_readNumber_39 rfl ?_
    refine r_i2l hO dX5_readNumber_40 ?_
    refine r_fS hO dX5_readNumber_41 kRX5_56 msX5_in (zX5_inI _ (lo := 0) (by decide) rfl) ⟨Nat.le_of_ble_eq_true rfl, Nat.le_of_ble_eq_true rfl, rfl, Nat.le_of_ble_eq_true rfl⟩ rfl ?_
    rw [g.2.2.2 h13, hx, inI_R2 (by omega) (by omega)]
    by_cases hv : (tok t p).2.2.2 ≤ top
    · rw [decide_eq_true hv]
      refine r_iconst hO dX5_readNumber_44 ic_3 ?_
      refine r_fV hO dX5_readNumber_45 kRX5_102 miX5_requires (zX5_requires _) ⟨Nat.le_of_ble_eq_true rfl, Nat.le_of_ble_eq_true rfl, rfl, Nat.le_of_ble_eq_true rfl⟩ rfl rfl ?_
      rw [if_neg (fun z => absurd z.1 (by decide))]
      have eN := nm_t (top := top) hz hv
      refine r_aload_n hO dX5_readNumber_48 rfl ?_
      refine r_getI hO dX5_readNumber_49 fRX5_64 rfl ?_
      refine r_if_ne 62 hO dX5_readNumber_52 (by decide) (fun z => absurd g.1 z) (fun _ => ?_)
      refine r_aload_n hO dX5_readNumber_55 rfl ?_
      refine r_getI hO dX5_readNumber_56 fRX5_99 rfl ?_
      refine r_goto 63 hO dX5_readNumber_59 (by decide) ?_
      refine s_istore_n hL hO dX5_readNumber_63 (Nat.le_of_ble_eq_true rfl) rfl ?_
      refine r_aload_n hO dX5_readNumber_64 rfl ?_
      refine r_callV hO dX5_readNumber_65 kRX5_106 miX5_reads (zX5_reads _ h (tok t p).2.2.1 g.2.1 k.2.2.1 g.1) ⟨Nat.le_of_ble_eq_true rfl, Nat.le_of_ble_eq_true rfl, rfl, Nat.le_of_ble_eq_true rfl⟩ rfl rfl (fun o M1 hpo => ?_)
      obtain ⟨rfl, F, T1⟩ := hpo
      refine r_iload_n hO dX5_readNumber_68 rfl ?_
      exact r_ireturn hO hr dX5_readNumber_69 rfl ⟨F, by rw [eN, g.2.2.2 h13]; rfl, by rw [eN]; exact ⟨T1, k.2.2.1⟩⟩
    · rw [decide_eq_false hv]
      refine r_iconst hO dX5_readNumber_44 ic_3 ?_
      refine r_fV hO dX5_readNumber_45 kRX5_102 miX5_requires (zX5_requires _) ⟨Nat.le_of_ble_eq_true rfl, Nat.le_of_ble_eq_true rfl, rfl, Nat.le_of_ble_eq_true rfl⟩ rfl rfl ?_
      rw [if_pos ⟨rfl, g.1⟩]
      have eN := nm_3 (top := top) hz hv
      have hf2 : FaD (mput (mput M 33 11 3) 33 12 (M.1 33 8)) (3, (tok t p).2.1) := ⟨by rw [mpn (by omega), mpe]; rfl, by rw [mpe]; exact hT.1, by show 0 < 3; omega, by show 3 ≤ 5; omega⟩
      refine r_aload_n hO dX5_readNumber_48 rfl ?_
      refine r_getI hO dX5_readNumber_49 fRX5_64 rfl ?_
      refine r_if_ne 62 hO dX5_readNumber_52 (by decide) (fun _ => ?_) (fun z => absurd z hf2.ne)
      refine r_iconst hO dX5_readNumber_62 ic_0 ?_
      refine s_istore_n hL hO dX5_readNumber_63 (Nat.le_of_ble_eq_true rfl) rfl ?_
      refine r_aload_n hO dX5_readNumber_64 rfl ?_
      refine r_fV hO dX5_readNumber_65 kRX5_106 miX5_reads (zX5_readsF _ hf2) ⟨Nat.le_of_ble_eq_true rfl, Nat.le_of_ble_eq_true rfl, rfl, Nat.le_of_ble_eq_true rfl⟩ rfl rfl ?_
      refine r_iload_n hO dX5_readNumber_68 rfl ?_
      exact r_ireturn hO hr dX5_readNumber_69 rfl ⟨(FKd.put (by omega) (by omega)).tr (FKd.put (by omega) (by omega)), by rw [eN]; rfl, by rw [eN]; exact hf2⟩
theorem zX5_readNumber (l : Launch) {M : Mm} {t : List Nat} (h : TpD M t) {x : Int32} (top : Nat) (hx : x = nI top) (htop : top ≤ 20) (y : Fb ⊕ Nat) (hS : SD t M y) : Clz l 2 yX5_readNumber cX5_readNumber 3 (some .int) [.ref 33, .int x] M (fun r M' => FKd M M' ∧ r = some (.int (nI (vl (nx t y top)))) ∧ SD t M' (nxp (nx t y top))) := by
  cases y with
  | inl c => exact (zX5_readNumberF l (M := M) (x := x) hS).weak (fun r M' e => by rw [e.1, e.2]; exact ⟨FKd.rf, rfl, hS⟩)
  | inr p =>
    by_cases q4 : (tok t p).1 = 4
    · have hb := hS.1.b q4
      have eN : nmP t p top = .inl (1, (tok t p).2.1) := by rw [nm_f (by unfold ftN; rw [if_pos q4]; decide)]; unfold ftN; rw [if_pos q4]
      refine (zX5_readNumberF l (M := M) (x := x) hb).weak (fun r M' e => ?_)
      rw [e.1, e.2]
      show FKd M M ∧ some (Value.int 0) = some (.int (nI (vl (nmP t p top)))) ∧ SD t M (nxp (nmP t p top))
      rw [eN]
      exact ⟨FKd.rf, rfl, hb⟩
    · exact zX5_readNumberG l h top hx htop p hS.2 hS.1 q4
