/-! the small constructors -/
abbrev arI (cT : Nat → ClassId) (q n : Nat) : Nat × va_E := (q, .inl (cT 10, n, .inl (fun _ => 0)))
abbrev arB (cT : Nat → ClassId) (q n : Nat) : Nat × va_E := (q, .inl (cT 11, n, .inl (fun _ => 0)))
abbrev arZ (cT : Nat → ClassId) (q n : Nat) : Nat × va_E := (q, .inl (cT 12, n, .inl (fun _ => 0)))
set_option maxHeartbeats 4000000 in
theorem kX0_init (l : Launch) (D : va_G) (cT : Nat → ClassId) (h0 : Nat) : KC l 1 3 36 yX0_init cX0_init 1 D cT h0 [(h0, .inr (0, [.null, .null, .null, .int 0, .int 0, .int 0, .int 0, .int 0]))] (fun _ _ => True) (Nat × Nat × Nat) (fun _ => True) (fun u => [(h0, .inr (0, [.ref u.1, .ref u.2.1, .ref u.2.2, .int 0, .int 10, .int 0, .int 0, .int 0])), arI cT u.1 24, arI cT u.2.1 6, arI cT u.2.2 6]) := by
  refine KC.of RX0 rfl (by decide +kernel) rfl (by decide) (fun X A sz hl hA hO hI hE hr => ?_)
  refine k_aload_n 0 hO dX0_init_0 rfl ?_
  refine k_obj hO dX0_init_1 (tb_of 158 (by decide +kernel) rfl) (tb_of 106 (by decide +kernel) rfl) (tb_of 107 (by decide +kernel) rfl) (by decide) (Nat.le_of_ble_eq_true rfl) ?_
  refine k_aload_n 0 hO dX0_init_4 rfl ?_
  refine k_bipush (v := 24) hO dX0_init_5 (by decide) ?_
  refine k_newa (ty := .int) 0 10 24 hO dX0_init_7 rfl (tb_of 192 (by decide +kernel) rfl) rfl (fun _ _ z => z) rfl (by decide) (by decide) (by decide) (Nat.le_of_ble_eq_true rfl) (Nat.le_of_ble_eq_true rfl) (fun q1 hq1 => ?_)
  show Kz X D cT A 1 9 [(0, .ref h0)] [.ref q1, .ref h0] [(h0, .inr (0, [.null, .null, .null, .int 0, .int 0, .int 0, .int 0, .int 0])), arI cT q1 24] 1 24
  refine k_putF (k := 0) (ty := .array .int) 0 hO hI dX0_init_9 ck0 (by decide) (by decide +kernel) rfl rfl (tb_of 159 (by decide +kernel) rfl) rfl rfl rfl (Nat.le_of_ble_eq_true rfl) ?_
  show Kz X D cT A 1 12 [(0, .ref h0)] [] [(h0, .inr (0, [.ref q1, .null, .null, .int 0, .int 0, .int 0, .int 0, .int 0])), arI cT q1 24] 1 24
  refine k_aload_n 0 hO dX0_init_12 rfl ?_
  refine k_bipush (v := 6) hO dX0_init_13 (by decide) ?_
  refine k_newa (ty := .int) 0 10 6 hO dX0_init_15 rfl (tb_of 192 (by decide +kernel) rfl) rfl (fun _ _ z => z) rfl (by decide) (by decide) (by decide) (Nat.le_of_ble_eq_true rfl) (Nat.le_of_ble_eq_true rfl) (fun q2 hq2 => ?_)
  show Kz X D cT A 1 17 [(0, .ref h0)] [.ref q2, .ref h0] [(h0, .inr (0, [.ref q1, .null, .null, .int 0, .int 0, .int 0, .int 0, .int 0])), arI cT q1 24, arI cT q2 6] 2 30
  refine k_putF (k := 1) (ty := .array .int) 0 hO hI dX0_init_17 ck0 (by decide) (by decide +kernel) rfl rfl (tb_of 160 (by decide +kernel) rfl) rfl rfl rfl (Nat.le_of_ble_eq_true rfl) ?_
  show Kz X D cT A 1 20 [(0, .ref h0)] [] [(h0, .inr (0, [.ref q1, .ref q2, .null, .int 0, .int 0, .int 0, .int 0, .int 0])), arI cT q1 24, arI cT q2 6] 2 30
  refine k_aload_n 0 hO dX0_init_20 rfl ?_
  refine k_bipush (v := 6) hO dX0_init_21 (by decide) ?_
  refine k_newa (ty := .int) 0 10 6 hO dX0_init_23 rfl (tb_of 192 (by decide +kernel) rfl) rfl (fun _ _ z => z) rfl (by decide) (by decide) (by decide) (Nat.le_of_ble_eq_true rfl) (Nat.le_of_ble_eq_true rfl) (fun q3 hq3 => ?_)
  show Kz X D cT A 1 25 [(0, .ref h0)] [.ref q3, .ref h0] [(h0, .inr (0, [.ref q1, .ref q2, .null, .int 0, .int 0, .int 0, .int 0, .int 0])), arI cT q1 24, arI cT q2 6, arI cT q3 6] 3 36
  refine k_putF (k := 2) (ty := .array .int) 0 hO hI dX0_init_25 ck0 (by decide) (by decide +kernel) rfl rfl (tb_of 162 (by decide +kernel) rfl) rfl rfl rfl (Nat.le_of_ble_eq_true rfl) ?_
  show Kz X D cT A 1 28 [(0, .ref h0)] [] [(h0, .inr (0, [.ref q1, .ref q2, .ref q3, .int 0, .int 0, .int 0, .int 0, .int 0])), arI cT q1 24, arI cT q2 6, arI cT q3 6] 3 36
  refine k_aload_n 0 hO dX0_init_28 rfl ?_
  refine k_iconst (v := 0) hO dX0_init_29 (by decide) ?_
  refine k_put 0 hO dX0_init_30 fRX0_21 rfl rfl rfl (Nat.le_of_ble_eq_true rfl) ?_
  show Kz X D cT A 1 33 [(0, .ref h0)] [] [(h0, .inr (0, [.ref q1, .ref q2, .ref q3, .int 0, .int 0, .int 0, .int 0, .int 0])), arI cT q1 24, arI cT q2 6, arI cT q3 6] 3 36
  refine k_aload_n 0 hO dX0_init_33 rfl ?_
  refine k_bipush (v := 10) hO dX0_init_34 (by decide) ?_
  refine k_put 0 hO dX0_init_36 fRX0_25 rfl rfl rfl (Nat.le_of_ble_eq_true rfl) ?_
  show Kz X D cT A 1 39 [(0, .ref h0)] [] [(h0, .inr (0, [.ref q1, .ref q2, .ref q3, .int 0, .int 10, .int 0, .int 0, .int 0])), arI cT q1 24, arI cT q2 6, arI cT q3 6] 3 36
  refine k_aload_n 0 hO dX0_init_39 rfl ?_
  refine k_iconst (v := 0) hO dX0_init_40 (by decide) ?_
  refine k_put 0 hO dX0_init_41 fRX0_28 rfl rfl rfl (Nat.le_of_ble_eq_true rfl) ?_
  show Kz X D cT A 1 44 [(0, .ref h0)] [] [(h0, .inr (0, [.ref q1, .ref q2, .ref q3, .int 0, .int 10, .int 0, .int 0, .int 0])), arI cT q1 24, arI cT q2 6, arI cT q3 6] 3 36
  refine k_aload_n 0 hO dX0_init_44 rfl ?_
  refine k_iconst (v := 0) hO dX0_init_45 (by decide) ?_
  refine k_put 0 hO dX0_init_46 fRX0_31 rfl rfl rfl (Nat.le_of_ble_eq_true rfl) ?_
  show Kz X D cT A 1 49 [(0, .ref h0)] [] [(h0, .inr (0, [.ref q1, .ref q2, .ref q3, .int 0, .int 10, .int 0, .int 0, .int 0])), arI cT q1 24, arI cT q2 6, arI cT q3 6] 3 36
  refine k_aload_n 0 hO dX0_init_49 rfl ?_
  refine k_iconst (v := 0) hO dX0_init_50 (by decide) ?_
  refine k_put 0 hO dX0_init_51 fRX0_34 rfl rfl rfl (Nat.le_of_ble_eq_true rfl) ?_
  show Kz X D cT A 1 54 [(0, .ref h0)] [] [(h0, .inr (0, [.ref q1, .ref q2, .ref q3, .int 0, .int 10, .int 0, .int 0, .int 0])), arI cT q1 24, arI cT q2 6, arI cT q3 6] 3 36
  exact k_ret (q1, q2, q3) hO hr dX0_init_54 trivial rfl (Nat.le_of_ble_eq_true rfl) (Nat.le_of_ble_eq_true rfl)
set_option maxHeartbeats 4000000 in
theorem kX1_init (l : Launch) (D : va_G) (cT : Nat → ClassId) (h0 : Nat) : KC l 1 1 40 yX1_init cX1_init 1 D cT h0 [(h0, .inr (1, [.null, .int 0, .int 0]))] (fun _ _ => True) (Nat) (fun _ => True) (fun u => [(h0, .inr (1, [.ref u, .int 0, .int (-1)])), arI cT u 40]) := by
  refine KC.of RX1 rfl (by decide +kernel) rfl (by decide) (fun X A sz hl hA hO hI hE hr => ?_)
  refine k_aload_n 0 hO dX1_init_0 rfl ?_
  refine k_obj hO dX1_init_1 (tb_of 200 (by decide +kernel) rfl) (tb_of 106 (by decide +kernel) rfl) (tb_of 107 (by decide +kernel) rfl) (by decide) (Nat.le_of_ble_eq_true rfl) ?_
  refine k_aload_n 0 hO dX1_init_4 rfl ?_
  refine k_bipush (v := 40) hO dX1_init_5 (by decide) ?_
  refine k_newa (ty := .int) 0 10 40 hO dX1_init_7 rfl (tb_of 192 (by decide +kernel) rfl) rfl (fun _ _ z => z) rfl (by decide) (by decide) (by decide) (Nat.le_of_ble_eq_true rfl) (Nat.le_of_ble_eq_true rfl) (fun q1 hq1 => ?_)
  show Kz X D cT A 1 9 [(0, .ref h0)] [.ref q1, .ref h0] [(h0, .inr (1, [.null, .int 0, .int 0])), arI cT q1 40] 1 40
  refine k_putF (k := 0) (ty := .array .int) 0 hO hI dX1_init_9 ck1 (by decide) (by decide +kernel) rfl rfl (tb_of 201 (by decide +kernel) rfl) rfl rfl rfl (Nat.le_of_ble_eq_true rfl) ?_
  show Kz X D cT A 1 12 [(0, .ref h0)] [] [(h0, .inr (1, [.ref q1, .int 0, .int 0])), arI cT q1 40] 1 40
  refine k_aload_n 0 hO dX1_init_12 rfl ?_
  refine k_iconst (v := 0) hO dX1_init_13 (by decide) ?_
  refine k_put 0 hO dX1_init_14 fRX1_15 rfl rfl rfl (Nat.le_of_ble_eq_true rfl) ?_
  show Kz X D cT A 1 17 [(0, .ref h0)] [] [(h0, .inr (1, [.ref q1, .int 0, .int 0])), arI cT q1 40] 1 40
  refine k_aload_n 0 hO dX1_init_17 rfl ?_
  refine k_iconst (v := (-1)) hO dX1_init_18 (by decide) ?_
  refine k_put 0 hO dX1_init_19 fRX1_19 rfl rfl rfl (Nat.le_of_ble_eq_true rfl) ?_
  show Kz X D cT A 1 22 [(0, .ref h0)] [] [(h0, .inr (1, [.ref q1, .int 0, .int (-1)])), arI cT q1 40] 1 40
  exact k_ret q1 hO hr dX1_init_22 trivial rfl (Nat.le_of_ble_eq_true rfl) (Nat.le_of_ble_eq_true rfl)
set_option maxHeartbeats 4000000 in
theorem kX2_init (l : Launch) (D : va_G) (cT : Nat → ClassId) (h0 : Nat) : KC l 1 1 160 yX2_init cX2_init 1 D cT h0 [(h0, .inr (2, [.null, .int 0, .int 0, .int 0, .int 0, .int 0]))] (fun _ _ => True) (Nat) (fun _ => True) (fun u => [(h0, .inr (2, [.ref u, .int 0, .int 0, .int 0, .int 0, .int 0])), arB cT u 160]) := by
  refine KC.of RX2 rfl (by decide +kernel) rfl (by decide) (fun X A sz hl hA hO hI hE hr => ?_)
  refine k_aload_n 0 hO dX2_init_0 rfl ?_
  refine k_obj hO dX2_init_1 (tb_of 113 (by decide +kernel) rfl) (tb_of 106 (by decide +kernel) rfl) (tb_of 107 (by decide +kernel) rfl) (by decide) (Nat.le_of_ble_eq_true rfl) ?_
  refine k_aload_n 0 hO dX2_init_4 rfl ?_
  refine k_sipush (v := 160) hO dX2_init_5 (by decide) ?_
  refine k_newa (ty := .byte) 1 11 160 hO dX2_init_8 rfl (tb_of 138 (by decide +kernel) rfl) rfl (fun _ _ z => z) rfl (by decide) (by decide) (by decide) (Nat.le_of_ble_eq_true rfl) (Nat.le_of_ble_eq_true rfl) (fun q1 hq1 => ?_)
  show Kz X D cT A 1 10 [(0, .ref h0)] [.ref q1, .ref h0] [(h0, .inr (2, [.null, .int 0, .int 0, .int 0, .int 0, .int 0])), arB cT q1 160] 1 160
  refine k_putF (k := 0) (ty := .array .byte) 0 hO hI dX2_init_10 ck2 (by decide) (by decide +kernel) rfl rfl (tb_of 114 (by decide +kernel) rfl) rfl rfl rfl (Nat.le_of_ble_eq_true rfl) ?_
  show Kz X D cT A 1 13 [(0, .ref h0)] [] [(h0, .inr (2, [.ref q1, .int 0, .int 0, .int 0, .int 0, .int 0])), arB cT q1 160] 1 160
  refine k_aload_n 0 hO dX2_init_13 rfl ?_
  refine k_iconst (v := 0) hO dX2_init_14 (by decide) ?_
  refine k_put 0 hO dX2_init_15 fRX2_15 rfl rfl rfl (Nat.le_of_ble_eq_true rfl) ?_
  show Kz X D cT A 1 18 [(0, .ref h0)] [] [(h0, .inr (2, [.ref q1, .int 0, .int 0, .int 0, .int 0, .int 0])), arB cT q1 160] 1 160
  refine k_aload_n 0 hO dX2_init_18 rfl ?_
  refine k_iconst (v := 0) hO dX2_init_19 (by decide) ?_
  refine k_put 0 hO dX2_init_20 fRX2_19 rfl rfl rfl (Nat.le_of_ble_eq_true rfl) ?_
  show Kz X D cT A 1 23 [(0, .ref h0)] [] [(h0, .inr (2, [.ref q1, .int 0, .int 0, .int 0, .int 0, .int 0])), arB cT q1 160] 1 160
  refine k_aload_n 0 hO dX2_init_23 rfl ?_
  refine k_iconst (v := 0) hO dX2_init_24 (by decide) ?_
  refine k_put 0 hO dX2_init_25 fRX2_22 rfl rfl rfl (Nat.le_of_ble_eq_true rfl) ?_
  show Kz X D cT A 1 28 [(0, .ref h0)] [] [(h0, .inr (2, [.ref q1, .int 0, .int 0, .int 0, .int 0, .int 0])), arB cT q1 160] 1 160
  refine k_aload_n 0 hO dX2_init_28 rfl ?_
  refine k_iconst (v := 0) hO dX2_init_29 (by decide) ?_
  refine k_put 0 hO dX2_init_30 fRX2_25 rfl rfl rfl (Nat.le_of_ble_eq_true rfl) ?_
  show Kz X D cT A 1 33 [(0, .ref h0)] [] [(h0, .inr (2, [.ref q1, .int 0, .int 0, .int 0, .int 0, .int 0])), arB cT q1 160] 1 160
  refine k_aload_n 0 hO dX2_init_33 rfl ?_
  refine k_iconst (v := 0) hO dX2_init_34 (by decide) ?_
  refine k_put 0 hO dX2_init_35 fRX2_28 rfl rfl rfl (Nat.le_of_ble_eq_true rfl) ?_
  show Kz X D cT A 1 38 [(0, .ref h0)] [] [(h0, .inr (2, [.ref q1, .int 0, .int 0, .int 0, .int 0, .int 0])), arB cT q1 160] 1 160
  exact k_ret q1 hO hr dX2_init_38 trivial rfl (Nat.le_of_ble_eq_true rfl) (Nat.le_of_ble_eq_true rfl)
set_option maxHeartbeats 4000000 in
theorem kX3_init (l : Launch) (D : va_G) (cT : Nat → ClassId) (h0 : Nat) : KC l 1 0 0 yX3_init cX3_init 1 D cT h0 [(h0, .inr (3, [.int 0, .int 0]))] (fun _ _ => True) (Unit) (fun _ => True) (fun u => [(h0, .inr (3, [.int 0, .int 0]))]) := by
  refine KC.of RX3 rfl (by decide +kernel) rfl (by decide) (fun X A sz hl hA hO hI hE hr => ?_)
  refine k_aload_n 0 hO dX3_init_0 rfl ?_
  refine k_obj hO dX3_init_1 (tb_of 144 (by decide +kernel) rfl) (tb_of 106 (by decide +kernel) rfl) (tb_of 107 (by decide +kernel) rfl) (by decide) (Nat.le_of_ble_eq_true rfl) ?_
  refine k_aload_n 0 hO dX3_init_4 rfl ?_
  refine k_iconst (v := 0) hO dX3_init_5 (by decide) ?_
  refine k_put 0 hO dX3_init_6 fRX3_9 rfl rfl rfl (Nat.le_of_ble_eq_true rfl) ?_
  show Kz X D cT A 1 9 [(0, .ref h0)] [] [(h0, .inr (3, [.int 0, .int 0]))] 0 0
  refine k_aload_n 0 hO dX3_init_9 rfl ?_
  refine k_iconst (v := 0) hO dX3_init_10 (by decide) ?_
  refine k_put 0 hO dX3_init_11 fRX3_15 rfl rfl rfl (Nat.le_of_ble_eq_true rfl) ?_
  show Kz X D cT A 1 14 [(0, .ref h0)] [] [(h0, .inr (3, [.int 0, .int 0]))] 0 0
  exact k_ret () hO hr dX3_init_14 trivial rfl (Nat.le_of_ble_eq_true rfl) (Nat.le_of_ble_eq_true rfl)
