/-! the text, reference: tokens, words, numbers -/
def byD (t : List Nat) (a : Nat) : Int32 := match t[a]? with
  | some c => nI c
  | none => -1
theorem byD_s {t : List Nat} {a c : Nat} (h : t[a]? = some c) : byD t a = nI c := by unfold byD; rw [h]
theorem byD_n {t : List Nat} {a : Nat} (h : t.length ≤ a) : byD t a = -1 := by unfold byD; rw [List.getElem?_eq_none_iff.mpr h]
theorem zX5_byteD (l : Launch) {M : Mm} {t : List Nat} (h : TpD M t) {x : Int32} (a : Nat) (hx : x = nI a) (ha : a < 1000) : CFz l 0 yX5_byteAt cX5_byteAt 2 (some .int) [.ref 33, .int x] M (some (.int (byD t a))) M := by
  have e : (if a < t.length then M.1 38 a else -1) = byD t a := by
    by_cases q : a < t.length
    · rw [if_pos q, byD_s (List.getElem?_eq_getElem q)]; exact (h.2.2 a _ (List.getElem?_eq_getElem q)).1
    · rw [if_neg q, byD_n (by omega)]
  rw [← e]
  exact zX5_byteAt l a hx t.length h.2.1 h.1 ha
theorem TpD.at {M : Mm} {t : List Nat} (h : TpD M t) {i c : Nat} (hc : t[i]? = some c) : byD t i = nI c ∧ c ≤ 127 := ⟨byD_s hc, (h.2.2 i c hc).2⟩
theorem inI_R {lo hi c : Nat} (h1 : lo < 128) (h2 : hi < 128) (h3 : c < 128) : inI (nI c) (nI lo) (nI hi) = isR lo hi c := by
  unfold inI isR
  congr 1
  rw [nI_leI (by omega) (by omega), nI_leI (by omega) (by omega)]
def FKd (M M' : Mm) : Prop := ∀ a k, (a ≠ 33 ∨ k < 7 ∨ 12 < k) → M'.1 a k = M.1 a k
theorem FKd.rf {M : Mm} : FKd M M := fun _ _ _ => rfl
theorem FKd.tr {M M1 M2 : Mm} (h1 : FKd M M1) (h2 : FKd M1 M2) : FKd M M2 := fun a k x => (h2 a k x).trans (h1 a k x)
theorem FKd.put {M : Mm} {k : Nat} {x : Int32} (h1 : 7 ≤ k) (h2 : k ≤ 12) : FKd M (mput M 33 k x) := fun a j h => by rw [mpn (by omega)]
theorem TpD.k {M M' : Mm} {t : List Nat} (h : TpD M t) (F : FKd M M') : TpD M' t := h.eq (F _ _ (by omega)) (fun k => F _ _ (by omega))
def TokD (M : Mm) (T : Tk) : Prop := M.1 33 8 = nI T.2.1 ∧ (if T.1 = 4 then M.1 33 11 = 1 ∧ M.1 33 12 = nI T.2.1 else M.1 33 11 = 0 ∧ M.1 33 7 = nI T.2.2.1 ∧ M.1 33 9 = nI T.1 ∧ (T.1 = 2 → M.1 33 10 = nI T.2.2.2))
def FaD (M : Mm) (c : Fb) : Prop := M.1 33 11 = nI c.1 ∧ M.1 33 12 = nI c.2 ∧ 0 < c.1 ∧ c.1 ≤ 5
theorem TokD.g {M : Mm} {T : Tk} (h : TokD M T) (q : ¬ T.1 = 4) : M.1 33 11 = 0 ∧ M.1 33 7 = nI T.2.2.1 ∧ M.1 33 9 = nI T.1 ∧ (T.1 = 2 → M.1 33 10 = nI T.2.2.2) := by have := h.2; rw [if_neg q] at this; exact this
theorem TokD.b {M : Mm} {T : Tk} (h : TokD M T) (q : T.1 = 4) : FaD M (1, T.2.1) := by have := h.2; rw [if_pos q] at this; exact ⟨this.1, this.2, by show 0 < 1; omega, by show 1 ≤ 5; omega⟩
theorem TokD.mk4 {M : Mm} {b e v : Nat} (h1 : M.1 33 8 = nI b) (h2 : M.1 33 11 = 1) (h3 : M.1 33 12 = nI b) : TokD M (4, b, e, v) := ⟨h1, by rw [if_pos rfl]; exact ⟨h2, h3⟩⟩
theorem TokD.mk {M : Mm} {K b e v : Nat} (hK : ¬ K = 4) (h1 : M.1 33 8 = nI b) (h2 : M.1 33 11 = 0) (h3 : M.1 33 7 = nI e) (h4 : M.1 33 9 = nI K) (h5 : K = 2 → M.1 33 10 = nI v) : TokD M (K, b, e, v) := ⟨h1, by rw [if_neg hK]; exact ⟨h2, h3, h4, h5⟩⟩
theorem TokD.eq {M M' : Mm} {T : Tk} (h : TokD M T) (e : ∀ k, 7 ≤ k → k ≤ 12 → M'.1 33 k = M.1 33 k) : TokD M' T := by
  obtain ⟨h1, h2⟩ := h
  refine ⟨by rw [e _ (by omega) (by omega)]; exact h1, ?_⟩
  split at h2
  · rename_i q; rw [if_pos q, e _ (by omega) (by omega), e _ (by omega) (by omega)]; exact h2
  · rename_i q; rw [if_neg q, e _ (by omega) (by omega), e _ (by omega) (by omega), e _ (by omega) (by omega), e _ (by omega) (by omega)]; exact h2
theorem FaD.eq {M M' : Mm} {c : Fb} (h : FaD M c) (e : ∀ k, 7 ≤ k → k ≤ 12 → M'.1 33 k = M.1 33 k) : FaD M' c := ⟨by rw [e _ (by omega) (by omega)]; exact h.1, by rw [e _ (by omega) (by omega)]; exact h.2.1, h.2.2⟩
theorem nI_dg2 {v c : Nat} (hc : 48 ≤ c) : 10 * nI v + nI c - 48 = nI (v * 10 + (c - 48)) := by
  rw [show (10 : Int32) = nI 10 from rfl, show (48 : Int32) = nI 48 from rfl, pk_mul, nI_add, nI_sub (by omega)]
  congr 1
  omega
set_option maxHeartbeats 4000000 in
theorem zX5_readsF (l : Launch) {M : Mm} {c : Fb} (hf : FaD M c) : CFz l 1 yX5_reads cX5_reads 2 none [.ref 33] M (none) (M) := by
  refine Clz.on RX5 rfl (by decide +kernel) (Nat.le_of_ble_eq_true rfl) (fun X hL hO hr => ?_)
  show Gz X 0 [.ref 33, .null] [] M
  refine r_aload_n hO dX5_reads_0 rfl ?_
  refine r_getI hO dX5_reads_1 fRX5_64 rfl ?_
  refine r_if_le 8 hO dX5_reads_4 (by decide) (fun z => absurd z (by rw [hf.1]; exact nI_nle (by have := hf.2.2; omega) (by have := hf.2.2; omega))) (fun _ => ?_)
  exact r_return hO hr dX5_reads_7 ⟨rfl, rfl⟩
set_option maxHeartbeats 4000000 in
theorem zX5_reads (l : Launch) {M : Mm} {t : List Nat} (h : TpD M t) (p : Nat) (hp : M.1 33 7 = nI p) (hp2 : p ≤ t.length) (hf : M.1 33 11 = 0) : Clz l 1 yX5_reads cX5_reads 2 none [.ref 33] M (fun r M' => r = none ∧ FKd M M' ∧ TokD M' (tok t p)) := by
  refine Clz.on RX5 rfl (by decide +kernel) (Nat.le_of_ble_eq_true rfl) (fun X hL hO hr => ?_)
  show Gz X 0 [.ref 33, .null] [] M
  refine r_aload_n hO dX5_reads_0 rfl ?_
  refine r_getI hO dX5_reads_1 fRX5_64 rfl ?_
  refine r_if_le 8 hO dX5_reads_4 (by decide) (fun _ => ?_) (fun z => absurd (by rw [hf]; decide) z)
  have hl160 := h.1
  have hbl := tkB_le hp2
  have fin : ∀ (M1 : Mm), FKd M M1 → M1.1 33 7 = nI (tkB t p) → M1.1 33 11 = 0 → Gz X 34 [.ref 33, .null] [] M1 := by
    intro M1 hF hb1 hf1
    refine r_aload_n hO dX5_reads_34 rfl ?_
    refine r_aload_n hO dX5_reads_35 rfl ?_
    refine r_getI hO dX5_reads_36 fRX5_73 rfl ?_
    refine r_putI hO dX5_reads_39 fRX5_67 rfl ?_
    rw [hb1]
    have hF2 : FKd M (mput M1 33 8 (nI (tkB t p))) := hF.tr (FKd.put (by omega) (by omega))
    have hb2 : (mput M1 33 8 (nI (tkB t p))).1 33 8 = nI (tkB t p) := mpe
    have hb7 : (mput M1 33 8 (nI (tkB t p))).1 33 7 = nI (tkB t p) := by rw [mpn (by omega)]; exact hb1
    have hf2 : (mput M1 33 8 (nI (tkB t p))).1 33 11 = 0 := by rw [mpn (by omega)]; exact hf1
    refine r_aload_n hO dX5_reads_42 rfl ?_
    refine r_aload_n hO dX5_reads_43 rfl ?_
    refine r_getI hO dX5_reads_44 fRX5_73 rfl ?_
    refine r_fV hO dX5_reads_47 kRX5_76 miX5_byteAt (zX5_byteD _ (h.k hF2) (tkB t p) hb7 (by omega)) ⟨Nat.le_of_ble_eq_true rfl, Nat.le_of_ble_eq_true rfl, rfl, Nat.le_of_ble_eq_true rfl⟩ rfl rfl ?_
    refine s_istore_n hL hO dX5_reads_50 (Nat.le_of_ble_eq_true rfl) rfl ?_
    by_cases hlt : tkB t p < t.length
    · obtain ⟨c, hc⟩ : ∃ c, t[tkB t p]? = some c := ⟨_, List.getElem?_eq_getElem hlt⟩
      obtain ⟨a1, a2⟩ := h.at hc
      show Gz X 51 [.ref 33, .int (byD t (tkB t p))] [] (mput M1 33 8 (nI (tkB t p)))
      rw [a1]
      refine r_iload_n hO dX5_reads_51 rfl ?_
      refine r_if_ge 63 hO dX5_reads_52 (by decide) (fun _ => ?_) (fun z => absurd (nI_pos' (by omega)) z)
      refine r_iload_n hO dX5_reads_63 rfl ?_
      refine r_i2l hO dX5_reads_64 ?_
      refine r_ldc2 hO dX5_reads_65 wRX5_91 ?_
      refine r_ldc2 hO dX5_reads_68 wRX5_93 ?_
      refine r_fS hO dX5_reads_71 kRX5_56 msX5_in (zX5_inI _ (lo := 97) (hi := 122) (by decide) (by decide)) ⟨Nat.le_of_ble_eq_true rfl, Nat.le_of_ble_eq_true rfl, rfl, Nat.le_of_ble_eq_true rfl⟩ rfl ?_
      refine r_if_eq 116 hO dX5_reads_74 (by decide) (fun h74 => ?_) (fun h74 => ?_)
      · rw [show (97 : Int32) = nI 97 from rfl, show (122 : Int32) = nI 122 from rfl, inI_R (by omega) (by omega) (by omega), bI_0] at h74
        refine r_iload_n hO dX5_reads_116 rfl ?_
        refine r_i2l hO dX5_reads_117 ?_
        refine r_ldc2 hO dX5_reads_118 wRX5_95 ?_
        refine r_ldc2 hO dX5_reads_121 wRX5_97 ?_
        refine r_fS hO dX5_reads_124 kRX5_56 msX5_in (zX5_inI _ (lo := 48) (hi := 57) (by decide) (by decide)) ⟨Nat.le_of_ble_eq_true rfl, Nat.le_of_ble_eq_true rfl, rfl, Nat.le_of_ble_eq_true rfl⟩ rfl ?_
        refine r_if_eq 243 hO dX5_reads_127 (by decide) (fun h127 => ?_) (fun h127 => ?_)
        · rw [show (48 : Int32) = nI 48 from rfl, show (57 : Int32) = nI 57 from rfl, inI_R (by omega) (by omega) (by omega), bI_0] at h127
          refine r_aload_n hO dX5_reads_243 rfl ?_
          refine r_iconst hO dX5_reads_244 ic_3 ?_
          refine r_putI hO dX5_reads_245 fRX5_88 rfl ?_
          refine r_aload_n hO dX5_reads_248 rfl ?_
          refine r_iload_n hO dX5_reads_249 rfl ?_
          refine r_bipush hO dX5_reads_250 bc_59 ?_
          refine r_icmp_ne 259 hO dX5_reads_252 (by decide) (fun h252 => ?_) (fun h252 => ?_)
          · rw [show (59 : Int32) = nI 59 from rfl, nI_eq (by omega) (by omega)] at h252
            have eT : tok t p = (4, tkB t p, tkB t p + 1, 0) := by unfold tok tok1; rw [hc]; show (if _ then _ else _) = _; rw [if_neg (by rw [h74]; decide), if_neg (by rw [h127]; decide)]; exact if_neg h252
            refine r_iconst hO dX5_reads_259 ic_0 ?_
            refine r_iconst hO dX5_reads_260 ic_1 ?_
            refine r_fV hO dX5_reads_261 kRX5_102 miX5_requires (zX5_requires _) ⟨Nat.le_of_ble_eq_true rfl, Nat.le_of_ble_eq_true rfl, rfl, Nat.le_of_ble_eq_true rfl⟩ rfl rfl ?_
            rw [if_pos ⟨rfl, by rw [mpn (by omega)]; exact hf2⟩]
            refine r_aload_n hO dX5_reads_264 rfl ?_
            refine r_dup hO dX5_reads_265 rfl ?_
            refine r_getI hO dX5_reads_266 fRX5_73 rfl ?_
            refine r_iconst hO dX5_reads_269 ic_1 ?_
            refine r_iadd hO dX5_reads_270 ?_
            refine r_putI hO dX5_reads_271 fRX5_73 rfl ?_
            exact r_return hO hr dX5_reads_274 ⟨rfl, (((hF2.tr (FKd.put (by omega) (by omega))).tr (FKd.put (by omega) (by omega))).tr (FKd.put (by omega) (by omega))).tr (FKd.put (by omega) (by omega)), by rw [eT]; exact TokD.mk4 (by rw [mpn (by omega), mpn (by omega), mpn (by omega), mpn (by omega)]; exact hb2) (by rw [mpn (by omega), mpn (by omega), mpe]) (by rw [mpn (by omega), mpe, mpn (by omega)]; exact hb2)⟩
          · rw [show (59 : Int32) = nI 59 from rfl, nI_eq (by omega) (by omega)] at h252
            have eT : tok t p = (3, tkB t p, tkB t p + 1, 0) := by unfold tok tok1; rw [hc]; show (if _ then _ else _) = _; rw [if_neg (by rw [h74]; decide), if_neg (by rw [h127]; decide)]; exact if_pos h252
            refine r_iconst hO dX5_reads_255 ic_1 ?_
            refine r_goto 260 hO dX5_reads_256 (by decide) ?_
            refine r_iconst hO dX5_reads_260 ic_1 ?_
            refine r_fV hO dX5_reads_261 kRX5_102 miX5_requires (zX5_requires _) ⟨Nat.le_of_ble_eq_true rfl, Nat.le_of_ble_eq_true rfl, rfl, Nat.le_of_ble_eq_true rfl⟩ rfl rfl ?_
            rw [if_neg (fun z => absurd z.1 (by decide))]
            refine r_aload_n hO dX5_reads_264 rfl ?_
            refine r_dup hO dX5_reads_265 rfl ?_
            refine r_getI hO dX5_reads_266 fRX5_73 rfl ?_
            refine r_iconst hO dX5_reads_269 ic_1 ?_
            refine r_iadd hO dX5_reads_270 ?_
            refine r_putI hO dX5_reads_271 fRX5_73 rfl ?_
            exact r_return hO hr dX5_reads_274 ⟨rfl, (hF2.tr (FKd.put (by omega) (by omega))).tr (FKd.put (by omega) (by omega)), by rw [eT]; exact TokD.mk (by omega) (by rw [mpn (by omega), mpn (by omega)]; exact hb2) (by rw [mpn (by omega), mpn (by omega)]; exact hf2) (by rw [mpe, mpn (by omega), hb7, nI_1]) (by rw [mpn (by omega), mpe]; rfl) (fun z => by cases z)⟩
        · rw [show (48 : Int32) = nI 48 from rfl, show (57 : Int32) = nI 57 from rfl, inI_R (by omega) (by omega) (by omega), bI_n0] at h127
          have eT : tok t p = (if tkR t (tkB t p) 48 57 - tkB t p ≤ 2 then (2, tkB t p, tkR t (tkB t p) 48 57, dgV ((dgs t (tkB t p)).take 2)) else (4, tkB t p, tkR t (tkB t p) 48 57, 0)) := by unfold tok tok1; rw [hc]; show (if _ then _ else _) = _; rw [if_neg (by rw [h74]; decide)]; exact if_pos h127
          refine r_aload_n hO dX5_reads_130 rfl ?_
          refine r_iconst hO dX5_reads_131 ic_2 ?_
          refine r_putI hO dX5_reads_132 fRX5_88 rfl ?_
          refine r_aload_n hO dX5_reads_135 rfl ?_
          refine r_iconst hO dX5_reads_136 ic_0 ?_
          refine r_putI hO dX5_reads_137 fRX5_99 rfl ?_
          have hE : tkB t p + (dgs t (tkB t p)).length = tkR t (tkB t p) 48 57 := rfl
          have hdl : (dgs t (tkB t p)).length ≤ (t.drop (tkB t p)).length := tw_len _ _
          rw [List.length_drop] at hdl
          have done : ∀ (i : Nat) (M3 : Mm), i = (dgs t (tkB t p)).length → FKd M M3 → M3.1 33 7 = nI (tkB t p + i) → M3.1 33 8 = nI (tkB t p) → M3.1 33 9 = nI 2 → M3.1 33 10 = nI (dgV ((dgs t (tkB t p)).take (min i 2))) → M3.1 33 11 = 0 → Gz X 217 [.ref 33, .int (nI c)] [] M3 := by
            intro i M3 hil hF3 hi1 k8 k9 k10 k11
            refine r_aload_n hO dX5_reads_217 rfl ?_
            refine r_aload_n hO dX5_reads_218 rfl ?_
            refine r_getI hO dX5_reads_219 fRX5_73 rfl ?_
            refine r_aload_n hO dX5_reads_222 rfl ?_
            refine r_getI hO dX5_reads_223 fRX5_67 rfl ?_
            refine r_isub hO dX5_reads_226 ?_
            refine r_iconst hO dX5_reads_227 ic_2 ?_
            refine r_icmp_gt 235 hO dX5_reads_228 (by decide) (fun h228 => ?_) (fun h228 => ?_)
            · rw [hi1, k8, nI_sub (by omega), show (2 : Int32) = nI 2 from rfl, nI_ltI (by omega) (by omega)] at h228
              refine r_iconst hO dX5_reads_235 ic_0 ?_
              refine r_iconst hO dX5_reads_236 ic_1 ?_
              refine r_fV hO dX5_reads_237 kRX5_102 miX5_requires (zX5_requires _) ⟨Nat.le_of_ble_eq_true rfl, Nat.le_of_ble_eq_true rfl, rfl, Nat.le_of_ble_eq_true rfl⟩ rfl rfl ?_
              rw [if_pos ⟨rfl, k11⟩]
              refine r_goto 274 hO dX5_reads_240 (by decide) ?_
              exact r_return hO hr dX5_reads_274 ⟨rfl, (hF3.tr (FKd.put (by omega) (by omega))).tr (FKd.put (by omega) (by omega)), by rw [eT, if_neg (by omega)]; exact TokD.mk4 (by rw [mpn (by omega), mpn (by omega)]; exact k8) (by rw [mpn (by omega), mpe]) (by rw [mpe]; exact k8)⟩
            · rw [hi1, k8, nI_sub (by omega), show (2 : Int32) = nI 2 from rfl, nI_ltI (by omega) (by omega)] at h228
              refine r_iconst hO dX5_reads_231 ic_1 ?_
              refine r_goto 236 hO dX5_reads_232 (by decide) ?_
              refine r_iconst hO dX5_reads_236 ic_1 ?_
              refine r_fV hO dX5_reads_237 kRX5_102 miX5_requires (zX5_requires _) ⟨Nat.le_of_ble_eq_true rfl, Nat.le_of_ble_eq_true rfl, rfl, Nat.le_of_ble_eq_true rfl⟩ rfl rfl ?_
              rw [if_neg (fun z => absurd z.1 (by decide))]
              refine r_goto 274 hO dX5_reads_240 (by decide) ?_
              exact r_return hO hr dX5_reads_274 ⟨rfl, hF3, by rw [eT, if_pos (by omega)]; exact TokD.mk (by omega) k8 k11 (by rw [hi1, hil, hE]) k9 (fun _ => by rw [k10, show (dgs t (tkB t p)).take (min i 2) = dgs t (tkB t p) from List.take_of_length_le (by omega), show (dgs t (tkB t p)).take 2 = dgs t (tkB t p) from List.take_of_length_le (by omega)])⟩
          have loopD : ∀ (rest : List Nat) (i : Nat) (M3 : Mm), t.drop (tkB t p + i) = rest → (dgs t (tkB t p)).drop i = rest.takeWhile (isR 48 57) → i ≤ (dgs t (tkB t p)).length → tkB t p + i ≤ t.length → FKd M M3 → M3.1 33 7 = nI (tkB t p + i) → M3.1 33 8 = nI (tkB t p) → M3.1 33 9 = nI 2 → M3.1 33 10 = nI (dgV ((dgs t (tkB t p)).take (min i 2))) → M3.1 33 11 = 0 → Gz X 140 [.ref 33, .int (nI c)] [] M3 := by
            intro rest
            induction rest with
            | nil =>
              intro i M3 hdr hds hid hi2 hF3 hi1 k8 k9 k10 k11
              refine r_aload_n hO dX5_reads_140 rfl ?_
              refine r_aload_n hO dX5_reads_141 rfl ?_
              refine r_getI hO dX5_reads_142 fRX5_73 rfl ?_
              refine r_fV hO dX5_reads_145 kRX5_76 miX5_byteAt (zX5_byteD _ (h.k hF3) (tkB t p + i) hi1 (by omega)) ⟨Nat.le_of_ble_eq_true rfl, Nat.le_of_ble_eq_true rfl, rfl, Nat.le_of_ble_eq_true rfl⟩ rfl rfl ?_
              refine r_i2l hO dX5_reads_148 ?_
              refine r_ldc2 hO dX5_reads_149 wRX5_95 ?_
              refine r_ldc2 hO dX5_reads_152 wRX5_97 ?_
              refine r_fS hO dX5_reads_155 kRX5_56 msX5_in (zX5_inI _ (lo := 48) (hi := 57) (by decide) (by decide)) ⟨Nat.le_of_ble_eq_true rfl, Nat.le_of_ble_eq_true rfl, rfl, Nat.le_of_ble_eq_true rfl⟩ rfl ?_
              refine r_if_eq 217 hO dX5_reads_158 (by decide) (fun _ => ?_) (fun z => absurd (by rw [byD_n (by have := dr_n hdr hi2; omega)]; decide) z)
              exact done i M3 (by have := congrArg List.length hds; rw [List.length_drop] at this; have h0 : (List.takeWhile (isR 48 57) ([] : List Nat)).length = 0 := rfl; omega) hF3 hi1 k8 k9 k10 k11
            | cons c' rest ih =>
              intro i M3 hdr hds hid hi2 hF3 hi1 k8 k9 k10 k11
              obtain ⟨d1, d2, d3⟩ := dr_c hdr
              obtain ⟨a1, a2⟩ := h.at d1
              refine r_aload_n hO dX5_reads_140 rfl ?_
              refine r_aload_n hO dX5_reads_141 rfl ?_
              refine r_getI hO dX5_reads_142 fRX5_73 rfl ?_
              refine r_fV hO dX5_reads_145 kRX5_76 miX5_byteAt (zX5_byteD _ (h.k hF3) (tkB t p + i) hi1 (by omega)) ⟨Nat.le_of_ble_eq_true rfl, Nat.le_of_ble_eq_true rfl, rfl, Nat.le_of_ble_eq_true rfl⟩ rfl rfl ?_
              refine r_i2l hO dX5_reads_148 ?_
              refine r_ldc2 hO dX5_reads_149 wRX5_95 ?_
              refine r_ldc2 hO dX5_reads_152 wRX5_97 ?_
              refine r_fS hO dX5_reads_155 kRX5_56 msX5_in (zX5_inI _ (lo := 48) (hi := 57) (by decide) (by decide)) ⟨Nat.le_of_ble_eq_true rfl, Nat.le_of_ble_eq_true rfl, rfl, Nat.le_of_ble_eq_true rfl⟩ rfl ?_
              refine r_if_eq 217 hO dX5_reads_158 (by decide) (fun h158 => ?_) (fun h158 => ?_)
              · rw [a1, show (48 : Int32) = nI 48 from rfl, show (57 : Int32) = nI 57 from rfl, inI_R (by omega) (by omega) (by omega), bI_0] at h158
                exact done i M3 (by have := congrArg List.length hds; rw [List.length_drop, List.takeWhile_cons, h158, if_neg (by decide)] at this; have h0 : ([] : List Nat).length = 0 := rfl; omega) hF3 hi1 k8 k9 k10 k11
              · rw [a1, show (48 : Int32) = nI 48 from rfl, show (57 : Int32) = nI 57 from rfl, inI_R (by omega) (by omega) (by omega), bI_n0] at h158
                refine r_aload_n hO dX5_reads_161 rfl ?_
                refine r_aload_n hO dX5_reads_162 rfl ?_
                refine r_getI hO dX5_reads_163 fRX5_73 rfl ?_
                refine r_aload_n hO dX5_reads_166 rfl ?_
                refine r_getI hO dX5_reads_167 fRX5_67 rfl ?_
                refine r_isub hO dX5_reads_170 ?_
                refine r_iconst hO dX5_reads_171 ic_2 ?_
                refine r_icmp_ge 197 hO dX5_reads_172 (by decide) (fun h172 => ?_) (fun h172 => ?_)
                · rw [hi1, k8, nI_sub (by omega), show tkB t p + i - tkB t p = i from by omega, show (2 : Int32) = nI 2 from rfl, nI_leI (by omega) (by omega)] at h172
                  refine r_aload_n hO dX5_reads_197 rfl ?_
                  refine r_getI hO dX5_reads_198 fRX5_99 rfl ?_
                  refine r_putI hO dX5_reads_201 fRX5_99 rfl ?_
                  refine r_aload_n hO dX5_reads_204 rfl ?_
                  refine r_dup hO dX5_reads_205 rfl ?_
                  refine r_getI hO dX5_reads_206 fRX5_73 rfl ?_
                  refine r_iconst hO dX5_reads_209 ic_1 ?_
                  refine r_iadd hO dX5_reads_210 ?_
                  refine r_putI hO dX5_reads_211 fRX5_73 rfl ?_
                  refine r_goto 140 hO dX5_reads_214 (by decide) ?_
                  have hdc : (dgs t (tkB t p))[i]? = some c' := by have := congrArg (fun l => l[0]?) hds; rw [List.takeWhile_cons, h158, if_pos rfl] at this; simpa using this
                  have hds2 : (dgs t (tkB t p)).drop (i + 1) = rest.takeWhile (isR 48 57) := by have := congrArg List.tail hds; rw [List.takeWhile_cons, h158, if_pos rfl, List.tail_drop] at this; exact this
                  have hil2 := (List.getElem?_eq_some_iff.mp hdc).1
                  have c48 := (of_decide_eq_true h158).1
                  show Gz X 140 [.ref 33, .int (nI c)] [] (mput (mput M3 33 10 (M3.1 33 10)) 33 7 ((mput M3 33 10 (M3.1 33 10)).1 33 7 + 1))
                  rw [mpn (p := 33) (k := 10) (q := 33) (j := 7) (by omega), hi1, nI_1, show tkB t p + i + 1 = tkB t p + (i + 1) from by omega]
                  exact ih (i + 1) _ d2 hds2 (by omega) (by omega) ((hF3.tr (FKd.put (by omega) (by omega))).tr (FKd.put (by omega) (by omega))) mpe (by rw [mpn (by omega), mpn (by omega)]; exact k8) (by rw [mpn (by omega), mpn (by omega)]; exact k9) (by rw [mpn (by omega), mpe, k10, Nat.min_eq_right (by omega), Nat.min_eq_right (by omega)]) (by rw [mpn (by omega), mpn (by omega)]; exact k11)
                · rw [hi1, k8, nI_sub (by omega), show tkB t p + i - tkB t p = i from by omega, show (2 : Int32) = nI 2 from rfl, nI_leI (by omega) (by omega)] at h172
                  refine r_bipush hO dX5_reads_175 bc_10 ?_
                  refine r_aload_n hO dX5_reads_177 rfl ?_
                  refine r_getI hO dX5_reads_178 fRX5_99 rfl ?_
                  refine r_imul hO dX5_reads_181 ?_
                  refine r_aload_n hO dX5_reads_182 rfl ?_
                  refine r_aload_n hO dX5_reads_183 rfl ?_
                  refine r_getI hO dX5_reads_184 fRX5_73 rfl ?_
                  refine r_fV hO dX5_reads_187 kRX5_76 miX5_byteAt (zX5_byteD _ (h.k hF3) (tkB t p + i) hi1 (by omega)) ⟨Nat.le_of_ble_eq_true rfl, Nat.le_of_ble_eq_true rfl, rfl, Nat.le_of_ble_eq_true rfl⟩ rfl rfl ?_
                  refine r_iadd hO dX5_reads_190 ?_
                  refine r_bipush hO dX5_reads_191 bc_48 ?_
                  refine r_isub hO dX5_reads_193 ?_
                  refine r_goto 201 hO dX5_reads_194 (by decide) ?_
                  refine r_putI hO dX5_reads_201 fRX5_99 rfl ?_
                  refine r_aload_n hO dX5_reads_204 rfl ?_
                  refine r_dup hO dX5_reads_205 rfl ?_
                  refine r_getI hO dX5_reads_206 fRX5_73 rfl ?_
                  refine r_iconst hO dX5_reads_209 ic_1 ?_
                  refine r_iadd hO dX5_reads_210 ?_
                  refine r_putI hO dX5_reads_211 fRX5_73 rfl ?_
                  refine r_goto 140 hO dX5_reads_214 (by decide) ?_
                  have hdc : (dgs t (tkB t p))[i]? = some c' := by have := congrArg (fun l => l[0]?) hds; rw [List.takeWhile_cons, h158, if_pos rfl] at this; simpa using this
                  have hds2 : (dgs t (tkB t p)).drop (i + 1) = rest.takeWhile (isR 48 57) := by have := congrArg List.tail hds; rw [List.takeWhile_cons, h158, if_pos rfl, List.tail_drop] at this; exact this
                  have hil2 := (List.getElem?_eq_some_iff.mp hdc).1
                  have c48 := (of_decide_eq_true h158).1
                  show Gz X 140 [.ref 33, .int (nI c)] [] (mput (mput M3 33 10 (10 * M3.1 33 10 + byD t (tkB t p + i) - 48)) 33 7 ((mput M3 33 10 (10 * M3.1 33 10 + byD t (tkB t p + i) - 48)).1 33 7 + 1))
                  rw [mpn (p := 33) (k := 10) (q := 33) (j := 7) (by omega), hi1, nI_1, k10, a1, nI_dg2 c48, show tkB t p + i + 1 = tkB t p + (i + 1) from by omega]
                  exact ih (i + 1) _ d2 hds2 (by omega) (by omega) ((hF3.tr (FKd.put (by omega) (by omega))).tr (FKd.put (by omega) (by omega))) mpe (by rw [mpn (by omega), mpn (by omega)]; exact k8) (by rw [mpn (by omega), mpn (by omega)]; exact k9) (by rw [mpn (by omega), mpe, Nat.min_eq_left (by omega), Nat.min_eq_left (by omega), dgV_t hdc]) (by rw [mpn (by omega), mpn (by omega)]; exact k11)
          exact loopD _ 0 _ rfl rfl (Nat.zero_le _) (by omega) ((hF2.tr (FKd.put (by omega) (by omega))).tr (FKd.put (by omega) (by omega))) (by rw [mpn (by omega), mpn (by omega)]; exact hb7) (by rw [mpn (by omega), mpn (by omega)]; exact hb2) (by rw [mpn (by omega), mpe]; rfl) mpe (by rw [mpn (by omega), mpn (by omega)]; exact hf2)
      · rw [show (97 : Int32) = nI 97 from rfl, show (122 : Int32) = nI 122 from rfl, inI_R (by omega) (by omega) (by omega), bI_n0] at h74
        have eT : tok t p = (1, tkB t p, tkR t (tkB t p) 97 122, 0) := by unfold tok tok1; rw [hc]; exact if_pos h74
        refine r_aload_n hO dX5_reads_77 rfl ?_
        refine r_iconst hO dX5_reads_78 ic_1 ?_
        refine r_putI hO dX5_reads_79 fRX5_88 rfl ?_
        have loopL : ∀ (rest : List Nat) (i : Nat) (M3 : Mm), t.drop i = rest → i ≤ t.length → FKd M M3 → M3.1 33 7 = nI i → M3.1 33 8 = nI (tkB t p) → M3.1 33 9 = nI 1 → M3.1 33 11 = 0 → i + (rest.takeWhile (isR 97 122)).length = tkR t (tkB t p) 97 122 → Gz X 82 [.ref 33, .int (nI c)] [] M3 := by
          intro rest
          induction rest with
          | nil =>
            intro i M3 hdr hi2 hF3 hi1 k8 k9 k11 he
            refine r_aload_n hO dX5_reads_82 rfl ?_
            refine r_aload_n hO dX5_reads_83 rfl ?_
            refine r_getI hO dX5_reads_84 fRX5_73 rfl ?_
            refine r_fV hO dX5_reads_87 kRX5_76 miX5_byteAt (zX5_byteD _ (h.k hF3) i hi1 (by omega)) ⟨Nat.le_of_ble_eq_true rfl, Nat.le_of_ble_eq_true rfl, rfl, Nat.le_of_ble_eq_true rfl⟩ rfl rfl ?_
            refine r_i2l hO dX5_reads_90 ?_
            refine r_ldc2 hO dX5_reads_91 wRX5_91 ?_
            refine r_ldc2 hO dX5_reads_94 wRX5_93 ?_
            refine r_fS hO dX5_reads_97 kRX5_56 msX5_in (zX5_inI _ (lo := 97) (hi := 122) (by decide) (by decide)) ⟨Nat.le_of_ble_eq_true rfl, Nat.le_of_ble_eq_true rfl, rfl, Nat.le_of_ble_eq_true rfl⟩ rfl ?_
            refine r_if_eq 274 hO dX5_reads_100 (by decide) (fun _ => ?_) (fun z => absurd (by rw [byD_n (by have := dr_n hdr hi2; omega)]; decide) z)
            exact r_return hO hr dX5_reads_274 ⟨rfl, hF3, by rw [eT]; exact TokD.mk (by omega) k8 k11 (by rw [hi1, ← he]; rfl) k9 (fun z => by cases z)⟩
          | cons c' rest ih =>
            intro i M3 hdr hi2 hF3 hi1 k8 k9 k11 he
            obtain ⟨d1, d2, d3⟩ := dr_c hdr
            obtain ⟨a1, a2⟩ := h.at d1
            refine r_aload_n hO dX5_reads_82 rfl ?_
            refine r_aload_n hO dX5_reads_83 rfl ?_
            refine r_getI hO dX5_reads_84 fRX5_73 rfl ?_
            refine r_fV hO dX5_reads_87 kRX5_76 miX5_byteAt (zX5_byteD _ (h.k hF3) i hi1 (by omega)) ⟨Nat.le_of_ble_eq_true rfl, Nat.le_of_ble_eq_true rfl, rfl, Nat.le_of_ble_eq_true rfl⟩ rfl rfl ?_
            refine r_i2l hO dX5_reads_90 ?_
            refine r_ldc2 hO dX5_reads_91 wRX5_91 ?_
            refine r_ldc2 hO dX5_reads_94 wRX5_93 ?_
            refine r_fS hO dX5_reads_97 kRX5_56 msX5_in (zX5_inI _ (lo := 97) (hi := 122) (by decide) (by decide)) ⟨Nat.le_of_ble_eq_true rfl, Nat.le_of_ble_eq_true rfl, rfl, Nat.le_of_ble_eq_true rfl⟩ rfl ?_
            refine r_if_eq 274 hO dX5_reads_100 (by decide) (fun h100 => ?_) (fun h100 => ?_)
            · rw [a1, show (97 : Int32) = nI 97 from rfl, show (122 : Int32) = nI 122 from rfl, inI_R (by omega) (by omega) (by omega), bI_0] at h100
              exact r_return hO hr dX5_reads_274 ⟨rfl, hF3, by rw [eT]; exact TokD.mk (by omega) k8 k11 (by rw [hi1, ← he, List.takeWhile_cons, h100, if_neg (by decide)]; rfl) k9 (fun z => by cases z)⟩
            · rw [a1, show (97 : Int32) = nI 97 from rfl, show (122 : Int32) = nI 122 from rfl, inI_R (by omega) (by omega) (by omega), bI_n0] at h100
              refine r_aload_n hO dX5_reads_103 rfl ?_
              refine r_dup hO dX5_reads_104 rfl ?_
              refine r_getI hO dX5_reads_105 fRX5_73 rfl ?_
              refine r_iconst hO dX5_reads_108 ic_1 ?_
              refine r_iadd hO dX5_reads_109 ?_
              refine r_putI hO dX5_reads_110 fRX5_73 rfl ?_
              refine r_goto 82 hO dX5_reads_113 (by decide) ?_
              rw [hi1, nI_1]
              exact ih (i + 1) _ d2 (by omega) (hF3.tr (FKd.put (by omega) (by omega))) mpe (by rw [mpn (by omega)]; exact k8) (by rw [mpn (by omega)]; exact k9) (by rw [mpn (by omega)]; exact k11) (by rw [← he, List.takeWhile_cons, h100, if_pos rfl, List.length_cons]; omega)
        exact loopL _ (tkB t p) _ rfl (by omega) (hF2.tr (FKd.put (by omega) (by omega))) (by rw [mpn (by omega)]; exact hb7) (by rw [mpn (by omega)]; exact hb2) mpe (by rw [mpn (by omega)]; exact hf2) rfl
    · have eT : tok t p = (0, tkB t p, tkB t p, 0) := by unfold tok tok1; rw [List.getElem?_eq_none_iff.mpr (by omega)]
      show Gz X 51 [.ref 33, .int (byD t (tkB t p))] [] (mput M1 33 8 (nI (tkB t p)))
      rw [byD_n (by omega)]
      refine r_iload_n hO dX5_reads_51 rfl ?_
      refine r_if_ge 63 hO dX5_reads_52 (by decide) (fun z => absurd z (by decide)) (fun _ => ?_)
      refine r_aload_n hO dX5_reads_55 rfl ?_
      refine r_iconst hO dX5_reads_56 ic_0 ?_
      refine r_putI hO dX5_reads_57 fRX5_88 rfl ?_
      refine r_goto 274 hO dX5_reads_60 (by decide) ?_
      exact r_return hO hr dX5_reads_274 ⟨rfl, hF2.tr (FKd.put (by omega) (by omega)), by rw [eT]; exact TokD.mk (by omega) (by rw [mpn (by omega)]; exact hb2) (by rw [mpn (by omega)]; exact hf2) (by rw [mpn (by omega)]; exact hb7) (by rw [mpe]; rfl) (fun z => by cases z)⟩
  have loop : ∀ (rest : List Nat) (i : Nat) (M1 : Mm), t.drop i = rest → i ≤ t.length → FKd M M1 → M1.1 33 7 = nI i → M1.1 33 11 = 0 → i + (rest.takeWhile isS).length = tkB t p → Gz X 8 [.ref 33, .null] [] M1 := by
    intro rest
    induction rest with
    | nil =>
      intro i M1 hdr hi2 hF hi1 hf1 he
      refine r_aload_n hO dX5_reads_8 rfl ?_
      refine r_aload_n hO dX5_reads_9 rfl ?_
      refine r_getI hO dX5_reads_10 fRX5_73 rfl ?_
      refine r_fV hO dX5_reads_13 kRX5_76 miX5_byteAt (zX5_byteD _ (h.k hF) i hi1 (by omega)) ⟨Nat.le_of_ble_eq_true rfl, Nat.le_of_ble_eq_true rfl, rfl, Nat.le_of_ble_eq_true rfl⟩ rfl rfl ?_
      refine r_bipush hO dX5_reads_16 bc_32 ?_
      refine r_icmp_ne 34 hO dX5_reads_18 (by decide) (fun _ => ?_) (fun z => absurd z (by rw [byD_n (by have := dr_n hdr hi2; omega)]; decide))
      exact fin M1 hF (by rw [hi1, ← he]; rfl) hf1
    | cons c rest ih =>
      intro i M1 hdr hi2 hF hi1 hf1 he
      obtain ⟨d1, d2, d3⟩ := dr_c hdr
      obtain ⟨a1, a2⟩ := h.at d1
      refine r_aload_n hO dX5_reads_8 rfl ?_
      refine r_aload_n hO dX5_reads_9 rfl ?_
      refine r_getI hO dX5_reads_10 fRX5_73 rfl ?_
      refine r_fV hO dX5_reads_13 kRX5_76 miX5_byteAt (zX5_byteD _ (h.k hF) i hi1 (by omega)) ⟨Nat.le_of_ble_eq_true rfl, Nat.le_of_ble_eq_true rfl, rfl, Nat.le_of_ble_eq_true rfl⟩ rfl rfl ?_
      refine r_bipush hO dX5_reads_16 bc_32 ?_
      refine r_icmp_ne 34 hO dX5_reads_18 (by decide) (fun h18 => ?_) (fun h18 => ?_)
      · rw [a1, show (32 : Int32) = nI 32 from rfl, nI_eq (by omega) (by omega)] at h18
        exact fin M1 hF (by rw [hi1, ← he, List.takeWhile_cons, show isS c = false from decide_eq_false h18, if_neg (by decide)]; rfl) hf1
      · rw [a1, show (32 : Int32) = nI 32 from rfl, nI_eq (by omega) (by omega)] at h18
        refine r_aload_n hO dX5_reads_21 rfl ?_
        refine r_dup hO dX5_reads_22 rfl ?_
        refine r_getI hO dX5_reads_23 fRX5_73 rfl ?_
        refine r_iconst hO dX5_reads_26 ic_1 ?_
        refine r_iadd hO dX5_reads_27 ?_
        refine r_putI hO dX5_reads_28 fRX5_73 rfl ?_
        refine r_goto 8 hO dX5_reads_31 (by decide) ?_
        rw [hi1, nI_1]
        exact ih (i + 1) _ d2 (by omega) (hF.tr (FKd.put (by omega) (by omega))) mpe (by rw [mpn (by omega)]; exact hf1) (by rw [← he, List.takeWhile_cons, show isS c = true from decide_eq_true h18, if_pos rfl, List.length_cons]; omega)
  exact loop _ p M rfl hp2 FKd.rf hp hf rfl
