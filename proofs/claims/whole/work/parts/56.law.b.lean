/-! what the start gives: constants, classes -/
def tmz (i : Nat) : Term := .string "WalnutHouses$Teller" (match i with
  | 0 => 57
  | 1 => 63
  | 2 => 65
  | 3 => 67
  | _ => 69)
theorem tb_in {w : Cond} (h : w ∈ tb) : w ∈ lw_tbl := (List.mem_filter.mp h).1
theorem arr_known {args : Array Value} {s : State} {ty : FieldType} (h : (Cond.arrayClass ty).before args s = true) (hra : ∀ (U : State) (cA : ClassId), U.vm.findClass ("[" ++ ty.toString) = some cA → va_RA U cA ty) : ∃ cA : ClassId, ArrOfT s cA ty ∧ va_RA s cA ty := by
  obtain ⟨cA, kA, comp, h1, h2, h3⟩ := Cond.arrayClass_spec h
  exact ⟨cA, fun n z => ⟨fun k h => (by cases h), kA, h2, comp, h3⟩, hra s cA h1⟩
theorem arq_known {args : Array Value} {s : State} {C : String} (h : (Cond.arrayOver (.object C)).before args s = true) : ∃ cA : ClassId, ArrOfT s cA (.object C) ∧ va_RA s cA (.object C) := by
  obtain ⟨comp, cA, kA, h1, h2, h3, h4, h5⟩ := Cond.arrayOver_spec h
  exact ⟨cA, fun n z => ⟨fun k h => (by cases h), kA, h3, comp, h4⟩, kA, comp, h3, h4, h1, h5⟩
theorem law_K {args : Array Value} {s : State} (hts : ∀ w ∈ lw_tbl, w.before args s = true) : ∃ (D : va_G) (cT : Nat → ClassId), va_K D cls6 (tyz cT) s := by
  have ht : ∀ w ∈ tb, w.before args s = true := fun w hw => hts w (tb_in hw)
  obtain ⟨c0, i0, h0⟩ := u_known (C := RX0) (T := TX0) (N := 8) (n := 8) ht ck0.2.1 (ht _ (tb_of 154 (by decide +kernel) rfl))
  obtain ⟨c1, i1, h1⟩ := u_known (C := RX1) (T := TX1) (N := 3) (n := 3) ht ck1.2.1 (ht _ (tb_of 196 (by decide +kernel) rfl))
  obtain ⟨c2, i2, h2⟩ := u_known (C := RX2) (T := TX2) (N := 6) (n := 6) ht ck2.2.1 (ht _ (tb_of 109 (by decide +kernel) rfl))
  obtain ⟨c3, i3, h3⟩ := u_known (C := RX3) (T := TX3) (N := 2) (n := 2) ht ck3.2.1 (ht _ (tb_of 140 (by decide +kernel) rfl))
  obtain ⟨c4, i4, h4⟩ := u_known (C := RX4) (T := TX4) (N := 11) (n := 11) ht ck4.2.1 (ht _ (tb_of 101 (by decide +kernel) rfl))
  obtain ⟨c5, i5, h5⟩ := u_known (C := RX5) (T := TX5) (N := 27) (n := 27) ht ck5.2.1 (ht _ (tb_of 691 (by decide +kernel) rfl))
  obtain ⟨a10, b10, e10⟩ := arr_known (ty := .int) (ht _ (tb_of 192 (by decide +kernel) rfl)) (fun _ _ z => z)
  obtain ⟨a11, b11, e11⟩ := arr_known (ty := .byte) (ht _ (tb_of 138 (by decide +kernel) rfl)) (fun _ _ z => z)
  obtain ⟨a12, b12, e12⟩ := arr_known (ty := .boolean) (ht _ (tb_of 213 (by decide +kernel) rfl)) (fun _ _ z => z)
  obtain ⟨a13, b13, e13⟩ := arq_known (C := "WalnutHouses$Nut") (hts _ (List.mem_of_getElem? (i := 193) (by decide +kernel)))
  obtain ⟨a14, b14, e14⟩ := arq_known (C := "WalnutHouses$Sheet") (hts _ (List.mem_of_getElem? (i := 195) (by decide +kernel)))
  refine ⟨(fun k => match k with
    | 0 => c0
    | 1 => c1
    | 2 => c2
    | 3 => c3
    | 4 => c4
    | _ => c5, fun k => match k with
    | 0 => i0
    | 1 => i1
    | 2 => i2
    | 3 => i3
    | 4 => i4
    | _ => i5), fun k => match k with
    | 10 => a10
    | 11 => a11
    | 12 => a12
    | 13 => a13
    | _ => a14, fun k q hq => ?_, fun k q hq => ?_⟩
  · match k, hq with
    | 0, hq => cases hq; exact h0
    | 1, hq => cases hq; exact h1
    | 2, hq => cases hq; exact h2
    | 3, hq => cases hq; exact h3
    | 4, hq => cases hq; exact h4
    | 5, hq => cases hq; exact h5
    | k + 6, hq => simp [cls6] at hq
  · match k, hq with
    | 0, hq => cases hq; exact ⟨b10, e10⟩
    | 1, hq => cases hq; exact ⟨b11, e11⟩
    | 2, hq => cases hq; exact ⟨b12, e12⟩
    | 3, hq => cases hq; exact ⟨b13, e13⟩
    | 4, hq => cases hq; exact ⟨b14, e14⟩
    | k + 5, hq => simp [tyz] at hq
set_option maxHeartbeats 8000000 in
theorem law_Z {b : Nat} {s : State} (hts : ∀ w ∈ lw_tbl, w.before #[Value.ref b] s = true) (hgv : (Jvm.Cond.and given_1 narrow_1).before #[Value.ref b] s = true) : ∃ ad : Nat → Nat, ad 98 = b ∧ RSz ad s ∧ ZSz ad (fun q => s.heap.size ≤ q) s s.heap := by
  have hs := flat_of_before _ hgv
  have hA : ∀ a : Nat, a < s.heap.size → ¬ (fun q => s.heap.size ≤ q) a := fun a h => Nat.not_le.mpr h
  obtain ⟨t50, t50v, t50T⟩ := va_Tof (A := fun q => s.heap.size ≤ q) (tm := .static "WalnutHouses" "TOP_OF" "[I") (ty := .int) (N := 5) (f := fun j => .int (topz j)) (by decide) (hs _ (by decide +kernel)) (va_eqt (hs _ (by decide +kernel))) (fun j hj => by
    rcases (show j = 0 ∨ j = 1 ∨ j = 2 ∨ j = 3 ∨ j = 4 by omega) with rfl | rfl | rfl | rfl | rfl <;> exact va_eqt (hs _ (by decide +kernel))) hA
  have t50Z := va_Zref (hts _ (List.mem_of_getElem? (i := 362) (by decide +kernel))) (hts _ (List.mem_of_getElem? (i := 86) (by decide +kernel))) t50v hA
  obtain ⟨t51, t51v, t51T⟩ := va_Tof (A := fun q => s.heap.size ≤ q) (tm := .static "WalnutHouses" "TIRES" "[I") (ty := .int) (N := 4) (f := fun j => .int (tirz j)) (by decide) (hs _ (by decide +kernel)) (va_eqt (hs _ (by decide +kernel))) (fun j hj => by
    rcases (show j = 0 ∨ j = 1 ∨ j = 2 ∨ j = 3 by omega) with rfl | rfl | rfl | rfl <;> exact va_eqt (hs _ (by decide +kernel))) hA
  have t51Z := va_Zref (hts _ (List.mem_of_getElem? (i := 499) (by decide +kernel))) (hts _ (List.mem_of_getElem? (i := 86) (by decide +kernel))) t51v hA
  have hcs := va_Zof (A := fun q => s.heap.size ≤ q) (C := "java/lang/String") (n := "COMPACT_STRINGS") (d := "Z") (v := .int 1) (hts _ (List.mem_of_getElem? (i := 312) (by decide +kernel))) (hts _ (List.mem_of_getElem? (i := 92) (by decide +kernel))) (va_eqi (hs _ (by decide +kernel))) hA
  have hsf := va_Zqof (A := fun q => s.heap.size ≤ q) (C := "jdk/internal/util/Preconditions") (n := "SIOOBE_FORMATTER") (d := "Ljava/util/function/BiFunction;") (hts _ (List.mem_of_getElem? (i := 328) (by decide +kernel))) (hts _ (List.mem_of_getElem? (i := 94) (by decide +kernel))) (hs _ (by decide +kernel)) hA
  have hel : ∀ i : Nat, i < 5 → ∀ j : Nat, j < lenz.getD i 0 → (Cond.eq (.elem (.field (tmz i) "java/lang/String" "value" "[B") (.int (Int32.ofNat j))) (.int ((bytz.getD i []).getD j 0))).before #[Value.ref b] s = true := by
    intro i hi j hj
    rcases (show i = 0 ∨ i = 1 ∨ i = 2 ∨ i = 3 ∨ i = 4 by omega) with rfl | rfl | rfl | rfl | rfl
    · have hj : j < 5 := hj
      rcases (show j = 0 ∨ j = 1 ∨ j = 2 ∨ j = 3 ∨ j = 4 by omega) with rfl | rfl | rfl | rfl | rfl <;> exact hs _ (by decide +kernel)
    · have hj : j < 4 := hj
      rcases (show j = 0 ∨ j = 1 ∨ j = 2 ∨ j = 3 by omega) with rfl | rfl | rfl | rfl <;> exact hs _ (by decide +kernel)
    · have hj : j < 7 := hj
      rcases (show j = 0 ∨ j = 1 ∨ j = 2 ∨ j = 3 ∨ j = 4 ∨ j = 5 ∨ j = 6 by omega) with rfl | rfl | rfl | rfl | rfl | rfl | rfl <;> exact hs _ (by decide +kernel)
    · have hj : j < 6 := hj
      rcases (show j = 0 ∨ j = 1 ∨ j = 2 ∨ j = 3 ∨ j = 4 ∨ j = 5 by omega) with rfl | rfl | rfl | rfl | rfl | rfl <;> exact hs _ (by decide +kernel)
    · have hj : j < 6 := hj
      rcases (show j = 0 ∨ j = 1 ∨ j = 2 ∨ j = 3 ∨ j = 4 ∨ j = 5 by omega) with rfl | rfl | rfl | rfl | rfl | rfl <;> exact hs _ (by decide +kernel)
  have hne : ∀ i j : Nat, i < 5 → j < 5 → i ≠ j → (Cond.not (Cond.eq (tmz i) (tmz j))).before #[Value.ref b] s = true ∨ (Cond.not (Cond.eq (tmz j) (tmz i))).before #[Value.ref b] s = true := by
    have key : ∀ i j : Nat, j < 5 → i < j → (Cond.not (Cond.eq (tmz i) (tmz j))).before #[Value.ref b] s = true := by
      intro i j hj hij
      rcases (show (i = 0 ∧ j = 1) ∨ (i = 0 ∧ j = 2) ∨ (i = 1 ∧ j = 2) ∨ (i = 0 ∧ j = 3) ∨ (i = 1 ∧ j = 3) ∨ (i = 2 ∧ j = 3) ∨ (i = 0 ∧ j = 4) ∨ (i = 1 ∧ j = 4) ∨ (i = 2 ∧ j = 4) ∨ (i = 3 ∧ j = 4) by omega) with ⟨rfl, rfl⟩ | ⟨rfl, rfl⟩ | ⟨rfl, rfl⟩ | ⟨rfl, rfl⟩ | ⟨rfl, rfl⟩ | ⟨rfl, rfl⟩ | ⟨rfl, rfl⟩ | ⟨rfl, rfl⟩ | ⟨rfl, rfl⟩ | ⟨rfl, rfl⟩
      all_goals exact hs _ (by decide +kernel)
    intro i j hi hj hij
    rcases Nat.lt_or_gt_of_ne hij with h | h
    · exact Or.inl (key i j hj h)
    · exact Or.inr (key j i hi h)
  obtain ⟨adK, adV, hK, hR⟩ := vk_Sof (A := fun q => s.heap.size ≤ q) (N := 5) (tm := tmz) (len := lenz) (byt := bytz) (fun i hi => by rcases (show i = 0 ∨ i = 1 ∨ i = 2 ∨ i = 3 ∨ i = 4 by omega) with rfl | rfl | rfl | rfl | rfl <;> decide) (fun i hi => by rcases (show i = 0 ∨ i = 1 ∨ i = 2 ∨ i = 3 ∨ i = 4 by omega) with rfl | rfl | rfl | rfl | rfl <;> exact hs _ (by decide +kernel)) (fun i hi => by rcases (show i = 0 ∨ i = 1 ∨ i = 2 ∨ i = 3 ∨ i = 4 by omega) with rfl | rfl | rfl | rfl | rfl <;> exact hs _ (by decide +kernel)) (fun i hi => by rcases (show i = 0 ∨ i = 1 ∨ i = 2 ∨ i = 3 ∨ i = 4 by omega) with rfl | rfl | rfl | rfl | rfl <;> exact hs _ (by decide +kernel)) (fun i hi => by rcases (show i = 0 ∨ i = 1 ∨ i = 2 ∨ i = 3 ∨ i = 4 by omega) with rfl | rfl | rfl | rfl | rfl <;> exact hs _ (by decide +kernel)) hel hne hA
  obtain ⟨t99, hq⟩ : ∃ t, ZQz t (fun q => s.heap.size ≤ q) s s.heap := by
    rcases hsf with h | ⟨t, h⟩
    · exact ⟨0, Or.inl h⟩
    · exact ⟨t, Or.inr h⟩
  obtain ⟨ad, had⟩ : ∃ ad : Nat → Nat, ad = fun k => if k = 98 then b else if k = 99 then t99 else if k = 50 then t50 else if k = 51 then t51 else if k < 70 then adK (k - 60) else adV (k - 70) := ⟨_, rfl⟩
  have e60 : ∀ i, i < 5 → ad (60 + i) = adK i := fun i hi => by
    rw [had]
    show (if 60 + i = 98 then b else if 60 + i = 99 then t99 else if 60 + i = 50 then t50 else if 60 + i = 51 then t51 else if 60 + i < 70 then adK (60 + i - 60) else adV (60 + i - 70)) = adK i
    rw [if_neg (by omega), if_neg (by omega), if_neg (by omega), if_neg (by omega), if_pos (by omega), Nat.add_sub_cancel_left]
  have e70 : ∀ i, i < 5 → ad (70 + i) = adV i := fun i hi => by
    rw [had]
    show (if 70 + i = 98 then b else if 70 + i = 99 then t99 else if 70 + i = 50 then t50 else if 70 + i = 51 then t51 else if 70 + i < 70 then adK (70 + i - 60) else adV (70 + i - 70)) = adV i
    rw [if_neg (by omega), if_neg (by omega), if_neg (by omega), if_neg (by omega), if_neg (by omega), Nat.add_sub_cancel_left]
  refine ⟨ad, by rw [had]; rfl, ⟨?_, ?_, ?_, ?_, ?_⟩, ?_, ?_, ?_, ?_, hcs, ?_, fun i hi => ?_, fun i j hi hj => ?_⟩
  · rw [show (60 : Nat) = 60 + 0 from rfl, e60 0 (by decide)]; exact vk_R.of (A := #[Value.ref b]) (hts _ (List.mem_of_getElem? (i := 298) (by decide +kernel))) (hR 0 (by decide))
  · rw [show (61 : Nat) = 60 + 1 from rfl, e60 1 (by decide)]; exact vk_R.of (A := #[Value.ref b]) (hts _ (List.mem_of_getElem? (i := 351) (by decide +kernel))) (hR 1 (by decide))
  · rw [show (62 : Nat) = 60 + 2 from rfl, e60 2 (by decide)]; exact vk_R.of (A := #[Value.ref b]) (hts _ (List.mem_of_getElem? (i := 352) (by decide +kernel))) (hR 2 (by decide))
  · rw [show (63 : Nat) = 60 + 3 from rfl, e60 3 (by decide)]; exact vk_R.of (A := #[Value.ref b]) (hts _ (List.mem_of_getElem? (i := 353) (by decide +kernel))) (hR 3 (by decide))
  · rw [show (64 : Nat) = 60 + 4 from rfl, e60 4 (by decide)]; exact vk_R.of (A := #[Value.ref b]) (hts _ (List.mem_of_getElem? (i := 354) (by decide +kernel))) (hR 4 (by decide))
  · rw [show ad 50 = t50 from by rw [had]; rfl]; exact t50Z
  · rw [show ad 50 = t50 from by rw [had]; rfl]; exact t50T
  · rw [show ad 51 = t51 from by rw [had]; rfl]; exact t51Z
  · rw [show ad 51 = t51 from by rw [had]; rfl]; exact t51T
  · rw [show ad 99 = t99 from by rw [had]; rfl]; exact hq
  · dsimp only; rw [e60 i hi, e70 i hi]; exact hK.1 i hi
  · dsimp only; rw [e60 i hi, e60 j hj]; exact hK.2 i j hi hj
