/-! THE CLASS: matrices are loaded, traced, reduced -/
theorem rowsB_stop (v : Nat → Row) (s : Nat) {i N : Nat} (h : i ≤ N) (e : pcb s N = pcb s i) : rowsB v s N = rowsB v s i := by
  induction N with
  | zero => rw [Nat.le_zero.mp h]
  | succ N ih =>
    by_cases z : i = N + 1
    · rw [z]
    · have h1 := pcb_mono s (show i ≤ N by omega)
      rw [pcb] at e
      rw [rowsB]
      cases q : s.testBit N with
      | true =>
        rw [q] at e
        simp at e
        omega
      | false =>
        rw [q] at e
        simp at e
        rw [if_neg (by decide)]
        exact ih (by omega) (by omega)
theorem rkC_act (q : Int) (hq : Dom q) (js : List Nat) (l : List Row) : rkC q js (act (rwf l) 0 l.length) = rkC q js l := by
  refine rkC_eq hq (fun x hx => ?_) (fun x hx => ?_)
  · obtain ⟨a, h1, h2, rfl⟩ := act_mem.mp hx
    exact Sp.mem hq js (rwf_mem h2)
  · obtain ⟨a, h1, rfl⟩ := mem_rwf hx
    exact Sp.mem hq js (act_mem.mpr ⟨a, Nat.zero_le _, h1, rfl⟩)
theorem rkC_cong (q : Int) (hq : Dom q) (js : List Nat) (w u : Nat → Row) (n : Nat) (h : ∀ a j, a < n → j ∈ js → q ∣ u a j - w a j) : rkC q js (act u 0 n) = rkC q js (act w 0 n) := by
  refine rkC_eq hq (fun x hx => ?_) (fun x hx => ?_)
  · obtain ⟨a, h1, h2, rfl⟩ := act_mem.mp hx
    refine Sp.div hq (g := 1) hq.1 (x := w a) (fun j hj => ?_) (Sp.mem hq js (act_mem.mpr ⟨a, h1, h2, rfl⟩))
    rw [Int.one_mul]
    exact h a j h2 hj
  · obtain ⟨a, h1, h2, rfl⟩ := act_mem.mp hx
    refine Sp.div hq (g := 1) hq.1 (x := u a) (fun j hj => ?_) (Sp.mem hq js (act_mem.mpr ⟨a, h1, h2, rfl⟩))
    rw [Int.one_mul]
    obtain ⟨z, hz⟩ := h a j h2 hj
    exact ⟨-z, by grind⟩
theorem and1_ne {s i : Nat} (h : ¬ (s / 2 ^ i) &&& 1 = 0) : s.testBit i = true := (tb_iff s i).mp (by
  have := @Nat.and_le_right (s / 2 ^ i) 1
  omega)
theorem and1_eq {s i : Nat} (h : (s / 2 ^ i) &&& 1 = 0) : s.testBit i = false := Bool.eq_false_iff.mpr (fun z => by
  rw [(tb_iff s i).mpr z] at h
  cases h)
set_option maxRecDepth 100000 in
set_option maxHeartbeats 4000000 in
theorem kMA_ld2 (T : amS) (s d i m : Nat) (v : Nat → Row) (hv : ∀ i j, -3 ≤ v i j ∧ v i j ≤ 3) (hd : d ≤ 4) (hi : i < 9) (hm : m < 5) (hT1 : T.1 20 1 = nI m) (hT2 : T.1 20 2 = nI d) (hT3 : ∀ j, j < 4 → T.2.1 2 (4 * i + j) = i32 (v i j)) (W : Nat → Row) (Q : Option Value → amS → Prop) (hq : ∀ f, Mw f m d W 3 → (∀ e, e < d → f (m * 9 + e) = i64 (v i e)) → X shX mX5_load 88 [.ref 20, .ref 1, .int (nI s), .int (nI i), .int (nI d)] [] (sL T 21 f) Q) : ∀ (e k : Nat) (f : Nat → Int64), k + e = d → Mw f m d W 3 → (∀ e, e < k → f (m * 9 + e) = i64 (v i e)) → X shX mX5_load 50 [.ref 20, .ref 1, .int (nI s), .int (nI i), .int (nI k)] [] (sL T 21 f) Q := by
  intro e
  induction e with
  | zero =>
    intro k f h1 h2 h3
    obtain rfl : k = d := by omega
    refine x_iload dX5_load_50 rfl ?_
    refine x_aload_n dX5_load_52 rfl ?_
    refine x_getIV dX5_load_53 fl_X5_24 rfl (hT2) ?_
    refine x_icmp_geN 88 dX5_load_56 rfl (by omega) (by omega) (fun c56 => ?_) (fun c56 => ?_)
    · exact hq f h2 h3
    · exact absurd c56 (by omega)
  | succ e ih =>
    intro k f h1 h2 h3
    have hvk := hv i k
    refine x_iload dX5_load_50 rfl ?_
    refine x_aload_n dX5_load_52 rfl ?_
    refine x_getIV dX5_load_53 fl_X5_24 rfl (hT2) ?_
    refine x_icmp_geN 88 dX5_load_56 rfl (by omega) (by omega) (fun c56 => ?_) (fun c56 => ?_)
    · exact absurd c56 (by omega)
    · refine x_aload_n dX5_load_59 rfl ?_
      refine x_getR dX5_load_60 fl_X5_11 rfl ?_
      refine x_aload_n dX5_load_63 rfl ?_
      refine x_getIV dX5_load_64 fl_X5_15 rfl (hT1) ?_
      refine x_bi _ bi_9 dX5_load_67 ?_
      refine x_imulN dX5_load_69 ?_
      refine x_iload dX5_load_70 rfl ?_
      refine x_iaddN dX5_load_72 ?_
      refine x_aload_n dX5_load_73 rfl ?_
      refine x_iload_n dX5_load_74 rfl ?_
      refine x_iload dX5_load_75 rfl ?_
      refine x_v2d (N := mX1_at) dX5_load_77 ml_X5_33 nv_X1_at rfl rfl (kx_at (sL T 21 f) i k (by omega) (by omega) (i32 (v i k)) (hT3 k (by omega))) ?_
      refine x_i2lI dX5_load_80 (by omega) (by omega) ?_
      refine x_lastN dX5_load_81 rfl rfl (by omega) ?_
      refine x_iincN dX5_load_82 rfl rfl ?_
      refine x_goto 50 dX5_load_85 rfl ?_
      rw [sL_sL, sL_at]
      refine ih (k + 1) _ (by omega) (fun a j ha hj => ?_) (fun e he => ?_)
      · have e2 : a * 9 + j ≠ m * 9 + k := by omega
        simp only [vp_updL, e2, if_false]
        exact h2 a j ha hj
      · by_cases q : e = k
        · subst q; simp [vp_updL]
        · simp only [vp_updL, show m * 9 + e ≠ m * 9 + k by omega, if_false]
          exact h3 e (by omega)
set_option maxRecDepth 100000 in
set_option maxHeartbeats 4000000 in
theorem kMA_ld1 (S : amS) (s d N : Nat) (hN : N ≤ 9) (hs : s < 2 ^ N) (v : Nat → Row) (hv : ∀ i j, -3 ≤ v i j ∧ v i j ≤ 3) (hd : d ≤ 4) (h5 : pcb s N ≤ 5) (hS1 : S.1 1 2 = nI N) (hS3 : ∀ i j, i < N → j < 4 → S.2.1 2 (4 * i + j) = i32 (v i j)) : ∀ (e i : Nat) (T : amS) (z : Value), i + e = N → FO [20] [] S T ∧ (T.1 20 1 = nI (pcb s i) ∧ T.1 20 2 = nI d ∧ T.1 20 3 = nI d) ∧ Mw (T.2.2.2 21) (pcb s i) d (rwf (rowsB v s i)) 3 → X shX mX5_load 23 [.ref 20, .ref 1, .int (nI s), .int (nI i), z] [] T (fun r S' => r = none ∧ FO [20] [] S S' ∧ (S'.1 20 1 = nI (pcb s N) ∧ S'.1 20 2 = nI d ∧ S'.1 20 3 = nI d) ∧ Mw (S'.2.2.2 21) (pcb s N) d (rwf (rowsB v s N)) 3) := by
  have hs512 := pow9 hN
  intro e
  induction e with
  | zero =>
    intro i T z h1 h2
    obtain rfl : i = N := by omega
    have e1 : T.1 1 2 = nI i := by rw [h2.1.1 1 (by decide)]; exact hS1
    refine x_iload_n dX5_load_23 rfl ?_
    refine x_aload_n dX5_load_24 rfl ?_
    refine x_getIV dX5_load_25 fl_X5_30 rfl (e1) ?_
    refine x_icmp_geN 104 dX5_load_28 rfl (by omega) (by omega) (fun c28 => ?_) (fun c28 => ?_)
    · refine x_ret dX5_load_104 rfl ?_
      exact ⟨rfl, h2⟩
    · exact absurd c28 (by omega)
  | succ e ih =>
    intro i T z h1 h2
    have e1 : T.1 1 2 = nI N := by rw [h2.1.1 1 (by decide)]; exact hS1
    have e3 : ∀ j, j < 4 → T.2.1 2 (4 * i + j) = i32 (v i j) := by rw [h2.1.2.1 2 (by decide)]; exact fun j hj => hS3 i j (by omega) hj
    have hp1 := pcb_mono s (show i ≤ N by omega)
    have hp2 := pcb_mono s (show i + 1 ≤ N by omega)
    obtain ⟨f0, ⟨g1, g2, g3⟩, hM⟩ := id h2
    refine x_iload_n dX5_load_23 rfl ?_
    refine x_aload_n dX5_load_24 rfl ?_
    refine x_getIV dX5_load_25 fl_X5_30 rfl (e1) ?_
    refine x_icmp_geN 104 dX5_load_28 rfl (by omega) (by omega) (fun c28 => ?_) (fun c28 => ?_)
    · exact absurd c28 (by omega)
    · refine x_aload_n dX5_load_31 rfl ?_
      refine x_getIV dX5_load_32 fl_X5_15 rfl (g1) ?_
      refine x_ic _ ic_5 dX5_load_35 ?_
      refine x_icmp_geN 104 dX5_load_36 rfl (by omega) (by omega) (fun c36 => ?_) (fun c36 => ?_)
      · refine x_ret dX5_load_104 rfl ?_
        have e4 : pcb s N = pcb s i := by omega
        rw [e4, rowsB_stop v s (show i ≤ N by omega) e4]
        exact ⟨rfl, h2⟩
      · refine x_iload_n dX5_load_39 rfl ?_
        refine x_iload_n dX5_load_40 rfl ?_
        refine x_ishrN dX5_load_41 (by omega) (by omega) ?_
        refine x_ic _ ic_1 dX5_load_42 ?_
        refine x_iandN dX5_load_43 ?_
        have hle : s / 2 ^ i &&& 1 ≤ 1 := Nat.and_le_right
        refine x_if_eqN 98 dX5_load_44 rfl (by omega) (fun c44 => ?_) (fun c44 => ?_)
        · have hb := and1_eq c44
          refine x_iincN dX5_load_98 rfl rfl ?_
          refine x_goto 23 dX5_load_101 rfl ?_
          refine ih (i + 1) T _ (by omega) ?_
          rw [pcb, rowsB, hb]
          exact h2
        · refine x_ic _ ic_0 dX5_load_47 ?_
          refine x_istore dX5_load_48 rfl ?_
          have hb := and1_ne c44
          refine x_st (sL_self T 21) ?_
          refine kMA_ld2 T s d i (pcb s i) v hv hd (by omega) (by omega) g1 g2 e3 (rwf (rowsB v s i)) _ (fun f k1 k2 => ?_) d 0 _ (by omega) hM (fun e he => absurd he (Nat.not_lt_zero e))
          refine x_aload_n dX5_load_88 rfl ?_
          refine x_dup dX5_load_89 rfl ?_
          refine x_getIV dX5_load_90 fl_X5_15 rfl (g1) ?_
          refine x_ic _ ic_1 dX5_load_93 ?_
          refine x_iaddN dX5_load_94 ?_
          refine x_put dX5_load_95 fp_X5_15 rfl rfl rfl ?_
          refine x_iincN dX5_load_98 rfl rfl ?_
          refine x_goto 23 dX5_load_101 rfl ?_
          refine ih (i + 1) _ _ (by omega) ⟨?_, ⟨?_, ?_, ?_⟩, ?_⟩
          · exact ((f0.sL (r := 21) f).sF _ (by simp))
          · rw [sF_at, upd_s, pcb, hb]; rfl
          · rw [sF_at, upd_n _ _ (by decide)]; exact g2
          · rw [sF_at, upd_n _ _ (by decide)]; exact g3
          · show Mw ((sL T 21 f).2.2.2 21) _ d _ 3
            rw [sL_at, pcb, rowsB, hb]
            have hl := rowsB_pcb v s i
            intro a j ha hj
            have ha2 : a < pcb s i + 1 := ha
            rw [if_pos rfl]
            by_cases q : a = pcb s i
            · rw [q, k2 j hj, ← hl, rwf_app_eq]
              exact ⟨rfl, hv i j⟩
            · rw [rwf_app_lt (by rw [hl]; omega)]
              exact k1 a j (by omega) hj
set_option maxRecDepth 100000 in
set_option maxHeartbeats 4000000 in
theorem kMA_load (S : amS) (s d N : Nat) (hN : N ≤ 9) (hs : s < 2 ^ N) (v : Nat → Row) (hv : ∀ i j, -3 ≤ v i j ∧ v i j ≤ 3) (hd : d ≤ 4) (h5 : pcb s N ≤ 5) (hS0 : S.1 1 1 = nI d) (hS1 : S.1 1 2 = nI N) (hS3 : ∀ i j, i < N → j < 4 → S.2.1 2 (4 * i + j) = i32 (v i j)) : X shX mX5_load 0 [.ref 20, .ref 1, .int (nI s), .null, .null] [] S (fun r S' => r = none ∧ FO [20] [] S S' ∧ (S'.1 20 1 = nI (pcb s N) ∧ S'.1 20 2 = nI d ∧ S'.1 20 3 = nI d) ∧ Mw (S'.2.2.2 21) (pcb s N) d (rwf (rowsB v s N)) 3) := by
  refine x_aload_n dX5_load_0 rfl ?_
  refine x_ic _ ic_0 dX5_load_1 ?_
  refine x_put dX5_load_2 fp_X5_15 rfl rfl rfl ?_
  refine x_aload_n dX5_load_5 rfl ?_
  refine x_aload_n dX5_load_6 rfl ?_
  refine x_getIV dX5_load_7 fl_X5_19 rfl (hS0) ?_
  refine x_put dX5_load_10 fp_X5_24 rfl rfl rfl ?_
  refine x_aload_n dX5_load_13 rfl ?_
  refine x_aload_n dX5_load_14 rfl ?_
  refine x_getIV dX5_load_15 fl_X5_24 rfl ((show _ = nI d by simp [sF, sA, va_up, upd])) ?_
  refine x_put dX5_load_18 fp_X5_27 rfl rfl rfl ?_
  refine x_ic _ ic_0 dX5_load_21 ?_
  refine x_istore_n dX5_load_22 rfl ?_
  refine kMA_ld1 S s d N hN hs v hv hd h5 hS1 hS3 N 0 _ _ (by omega) ⟨(((FO.rf _ _ S).sF _ (by simp)).sF _ (by simp)).sF _ (by simp), ⟨?_, ?_, ?_⟩, fun a j ha => absurd ha (Nat.not_lt_zero a)⟩
  · simp [sF, sA, va_up, upd]; rfl
  · simp [sF, sA, va_up, upd]
  · simp [sF, sA, va_up, upd]
set_option maxRecDepth 100000 in
set_option maxHeartbeats 4000000 in
theorem kMB_ld2 (T : amS) (s d i m : Nat) (v : Nat → Row) (hv : ∀ i j, -3 ≤ v i j ∧ v i j ≤ 3) (hd : d ≤ 4) (hi : i < 9) (hm : m < 5) (hT1 : T.1 39 1 = nI m) (hT2 : T.1 39 2 = nI d) (hT3 : ∀ j, j < 4 → T.2.1 2 (4 * i + j) = i32 (v i j)) (W : Nat → Row) (Q : Option Value → amS → Prop) (hq : ∀ f, Mw f m d W 3 → (∀ e, e < d → f (m * 9 + e) = i64 (v i e)) → X shX mX5_load 88 [.ref 39, .ref 1, .int (nI s), .int (nI i), .int (nI d)] [] (sL T 40 f) Q) : ∀ (e k : Nat) (f : Nat → Int64), k + e = d → Mw f m d W 3 → (∀ e, e < k → f (m * 9 + e) = i64 (v i e)) → X shX mX5_load 50 [.ref 39, .ref 1, .int (nI s), .int (nI i), .int (nI k)] [] (sL T 40 f) Q := by
  intro e
  induction e with
  | zero =>
    intro k f h1 h2 h3
    obtain rfl : k = d := by omega
    refine x_iload dX5_load_50 rfl ?_
    refine x_aload_n dX5_load_52 rfl ?_
    refine x_getIV dX5_load_53 fl_X5_24 rfl (hT2) ?_
    refine x_icmp_geN 88 dX5_load_56 rfl (by omega) (by omega) (fun c56 => ?_) (fun c56 => ?_)
    · exact hq f h2 h3
    · exact absurd c56 (by omega)
  | succ e ih =>
    intro k f h1 h2 h3
    have hvk := hv i k
    refine x_iload dX5_load_50 rfl ?_
    refine x_aload_n dX5_load_52 rfl ?_
    refine x_getIV dX5_load_53 fl_X5_24 rfl (hT2) ?_
    refine x_icmp_geN 88 dX5_load_56 rfl (by omega) (by omega) (fun c56 => ?_) (fun c56 => ?_)
    · exact absurd c56 (by omega)
    · refine x_aload_n dX5_load_59 rfl ?_
      refine x_getR dX5_load_60 fl_X5_11 rfl ?_
      refine x_aload_n dX5_load_63 rfl ?_
      refine x_getIV dX5_load_64 fl_X5_15 rfl (hT1) ?_
      refine x_bi _ bi_9 dX5_load_67 ?_
      refine x_imulN dX5_load_69 ?_
      refine x_iload dX5_load_70 rfl ?_
      refine x_iaddN dX5_load_72 ?_
      refine x_aload_n dX5_load_73 rfl ?_
      refine x_iload_n dX5_load_74 rfl ?_
      refine x_iload dX5_load_75 rfl ?_
      refine x_v2d (N := mX1_at) dX5_load_77 ml_X5_33 nv_X1_at rfl rfl (kx_at (sL T 40 f) i k (by omega) (by omega) (i32 (v i k)) (hT3 k (by omega))) ?_
      refine x_i2lI dX5_load_80 (by omega) (by omega) ?_
      refine x_lastN dX5_load_81 rfl rfl (by omega) ?_
      refine x_iincN dX5_load_82 rfl rfl ?_
      refine x_goto 50 dX5_load_85 rfl ?_
      rw [sL_sL, sL_at]
      refine ih (k + 1) _ (by omega) (fun a j ha hj => ?_) (fun e he => ?_)
      · have e2 : a * 9 + j ≠ m * 9 + k := by omega
        simp only [vp_updL, e2, if_false]
        exact h2 a j ha hj
      · by_cases q : e = k
        · subst q; simp [vp_updL]
        · simp only [vp_updL, show m * 9 + e ≠ m * 9 + k by omega, if_false]
          exact h3 e (by omega)
set_option maxRecDepth 100000 in
set_option maxHeartbeats 4000000 in
theorem kMB_ld1 (S : amS) (s d N : Nat) (hN : N ≤ 9) (hs : s < 2 ^ N) (v : Nat → Row) (hv : ∀ i j, -3 ≤ v i j ∧ v i j ≤ 3) (hd : d ≤ 4) (h5 : pcb s N ≤ 5) (hS1 : S.1 1 2 = nI N) (hS3 : ∀ i j, i < N → j < 4 → S.2.1 2 (4 * i + j) = i32 (v i j)) : ∀ (e i : Nat) (T : amS) (z : Value), i + e = N → FO [39] [] S T ∧ (T.1 39 1 = nI (pcb s i) ∧ T.1 39 2 = nI d ∧ T.1 39 3 = nI d) ∧ Mw (T.2.2.2 40) (pcb s i) d (rwf (rowsB v s i)) 3 → X shX mX5_load 23 [.ref 39, .ref 1, .int (nI s), .int (nI i), z] [] T (fun r S' => r = none ∧ FO [39] [] S S' ∧ (S'.1 39 1 = nI (pcb s N) ∧ S'.1 39 2 = nI d ∧ S'.1 39 3 = nI d) ∧ Mw (S'.2.2.2 40) (pcb s N) d (rwf (rowsB v s N)) 3) := by
  have hs512 := pow9 hN
  intro e
  induction e with
  | zero =>
    intro i T z h1 h2
    obtain rfl : i = N := by omega
    have e1 : T.1 1 2 = nI i := by rw [h2.1.1 1 (by decide)]; exact hS1
    refine x_iload_n dX5_load_23 rfl ?_
    refine x_aload_n dX5_load_24 rfl ?_
    refine x_getIV dX5_load_25 fl_X5_30 rfl (e1) ?_
    refine x_icmp_geN 104 dX5_load_28 rfl (by omega) (by omega) (fun c28 => ?_) (fun c28 => ?_)
    · refine x_ret dX5_load_104 rfl ?_
      exact ⟨rfl, h2⟩
    · exact absurd c28 (by omega)
  | succ e ih =>
    intro i T z h1 h2
    have e1 : T.1 1 2 = nI N := by rw [h2.1.1 1 (by decide)]; exact hS1
    have e3 : ∀ j, j < 4 → T.2.1 2 (4 * i + j) = i32 (v i j) := by rw [h2.1.2.1 2 (by decide)]; exact fun j hj => hS3 i j (by omega) hj
    have hp1 := pcb_mono s (show i ≤ N by omega)
    have hp2 := pcb_mono s (show i + 1 ≤ N by omega)
    obtain ⟨f0, ⟨g1, g2, g3⟩, hM⟩ := id h2
    refine x_iload_n dX5_load_23 rfl ?_
    refine x_aload_n dX5_load_24 rfl ?_
    refine x_getIV dX5_load_25 fl_X5_30 rfl (e1) ?_
    refine x_icmp_geN 104 dX5_load_28 rfl (by omega) (by omega) (fun c28 => ?_) (fun c28 => ?_)
    · exact absurd c28 (by omega)
    · refine x_aload_n dX5_load_31 rfl ?_
      refine x_getIV dX5_load_32 fl_X5_15 rfl (g1) ?_
      refine x_ic _ ic_5 dX5_load_35 ?_
      refine x_icmp_geN 104 dX5_load_36 rfl (by omega) (by omega) (fun c36 => ?_) (fun c36 => ?_)
      · refine x_ret dX5_load_104 rfl ?_
        have e4 : pcb s N = pcb s i := by omega
        rw [e4, rowsB_stop v s (show i ≤ N by omega) e4]
        exact ⟨rfl, h2⟩
      · refine x_iload_n dX5_load_39 rfl ?_
        refine x_iload_n dX5_load_40 rfl ?_
        refine x_ishrN dX5_load_41 (by omega) (by omega) ?_
        refine x_ic _ ic_1 dX5_load_42 ?_
        refine x_iandN dX5_load_43 ?_
        have hle : s / 2 ^ i &&& 1 ≤ 1 := Nat.and_le_right
        refine x_if_eqN 98 dX5_load_44 rfl (by omega) (fun c44 => ?_) (fun c44 => ?_)
        · have hb := and1_eq c44
          refine x_iincN dX5_load_98 rfl rfl ?_
          refine x_goto 23 dX5_load_101 rfl ?_
          refine ih (i + 1) T _ (by omega) ?_
          rw [pcb, rowsB, hb]
          exact h2
        · refine x_ic _ ic_0 dX5_load_47 ?_
          refine x_istore dX5_load_48 rfl ?_
          have hb := and1_ne c44
          refine x_st (sL_self T 40) ?_
          refine kMB_ld2 T s d i (pcb s i) v hv hd (by omega) (by omega) g1 g2 e3 (rwf (rowsB v s i)) _ (fun f k1 k2 => ?_) d 0 _ (by omega) hM (fun e he => absurd he (Nat.not_lt_zero e))
          refine x_aload_n dX5_load_88 rfl ?_
          refine x_dup dX5_load_89 rfl ?_
          refine x_getIV dX5_load_90 fl_X5_15 rfl (g1) ?_
          refine x_ic _ ic_1 dX5_load_93 ?_
          refine x_iaddN dX5_load_94 ?_
          refine x_put dX5_load_95 fp_X5_15 rfl rfl rfl ?_
          refine x_iincN dX5_load_98 rfl rfl ?_
          refine x_goto 23 dX5_load_101 rfl ?_
          refine ih (i + 1) _ _ (by omega) ⟨?_, ⟨?_, ?_, ?_⟩, ?_⟩
          · exact ((f0.sL (r := 40) f).sF _ (by simp))
          · rw [sF_at, upd_s, pcb, hb]; rfl
          · rw [sF_at, upd_n _ _ (by decide)]; exact g2
          · rw [sF_at, upd_n _ _ (by decide)]; exact g3
          · show Mw ((sL T 40 f).2.2.2 40) _ d _ 3
            rw [sL_at, pcb, rowsB, hb]
            have hl := rowsB_pcb v s i
            intro a j ha hj
            have ha2 : a < pcb s i + 1 := ha
            rw [if_pos rfl]
            by_cases q : a = pcb s i
            · rw [q, k2 j hj, ← hl, rwf_app_eq]
              exact ⟨rfl, hv i j⟩
            · rw [rwf_app_lt (by rw [hl]; omega)]
              exact k1 a j (by omega) hj
set_option maxRecDepth 100000 in
set_option maxHeartbeats 4000000 in
theorem kMB_load (S : amS) (s d N : Nat) (hN : N ≤ 9) (hs : s < 2 ^ N) (v : Nat → Row) (hv : ∀ i j, -3 ≤ v i j ∧ v i j ≤ 3) (hd : d ≤ 4) (h5 : pcb s N ≤ 5) (hS0 : S.1 1 1 = nI d) (hS1 : S.1 1 2 = nI N) (hS3 : ∀ i j, i < N → j < 4 → S.2.1 2 (4 * i + j) = i32 (v i j)) : X shX mX5_load 0 [.ref 39, .ref 1, .int (nI s), .null, .null] [] S (fun r S' => r = none ∧ FO [39] [] S S' ∧ (S'.1 39 1 = nI (pcb s N) ∧ S'.1 39 2 = nI d ∧ S'.1 39 3 = nI d) ∧ Mw (S'.2.2.2 40) (pcb s N) d (rwf (rowsB v s N)) 3) := by
  refine x_aload_n dX5_load_0 rfl ?_
  refine x_ic _ ic_0 dX5_load_1 ?_
  refine x_put dX5_load_2 fp_X5_15 rfl rfl rfl ?_
  refine x_aload_n dX5_load_5 rfl ?_
  refine x_aload_n dX5_load_6 rfl ?_
  refine x_getIV dX5_load_7 fl_X5_19 rfl (hS0) ?_
  refine x_put dX5_load_10 fp_X5_24 rfl rfl rfl ?_
  refine x_aload_n dX5_load_13 rfl ?_
  refine x_aload_n dX5_load_14 rfl ?_
  refine x_getIV dX5_load_15 fl_X5_24 rfl ((show _ = nI d by simp [sF, sA, va_up, upd])) ?_
  refine x_put dX5_load_18 fp_X5_27 rfl rfl rfl ?_
  refine x_ic _ ic_0 dX5_load_21 ?_
  refine x_istore_n dX5_load_22 rfl ?_
  refine kMB_ld1 S s d N hN hs v hv hd h5 hS1 hS3 N 0 _ _ (by omega) ⟨(((FO.rf _ _ S).sF _ (by simp)).sF _ (by simp)).sF _ (by simp), ⟨?_, ?_, ?_⟩, fun a j ha => absurd ha (Nat.not_lt_zero a)⟩
  · simp [sF, sA, va_up, upd]; rfl
  · simp [sF, sA, va_up, upd]
  · simp [sF, sA, va_up, upd]
set_option maxRecDepth 100000 in
set_option maxHeartbeats 4000000 in
theorem kMB_tr_l (S : amS) (n wid p : Nat) (hn : n ≤ 5) (h9 : wid ≤ 9) (hp : 2 ≤ p ∧ p ≤ 7) (hR : S.1 39 1 = nI n) (w : Nat → Row) (hw : ∀ a j, a < n → j < wid → -3 ≤ w a j ∧ w a j ≤ 3) : ∀ (e k : Nat) (f : Nat → Int64), k + e = n * 9 → (∀ a j, a < n → j < wid → f (a * 9 + j) = i64 (if a * 9 + j < k then (w a j).tmod p else w a j)) → X shX mX5_takeRemainders 7 [.ref 39, .int (nI p), .int (nI k)] [] (sL S 40 f) (fun r S' => r = none ∧ ∃ f, S' = sL S 40 f ∧ ∀ a j, a < n → j < wid → f (a * 9 + j) = i64 ((w a j).tmod p)) := by
  intro e
  induction e with
  | zero =>
    intro k f h1 h2
    obtain rfl : k = n * 9 := by omega
    refine x_iload_n dX5_takeRemainders_7 rfl ?_
    refine x_aload_n dX5_takeRemainders_8 rfl ?_
    refine x_getIV dX5_takeRemainders_9 fl_X5_15 rfl (hR) ?_
    refine x_bi _ bi_9 dX5_takeRemainders_12 ?_
    refine x_imulN dX5_takeRemainders_14 ?_
    refine x_icmp_geN 35 dX5_takeRemainders_15 rfl (by omega) (by omega) (fun c15 => ?_) (fun c15 => ?_)
    · refine x_ret dX5_takeRemainders_35 rfl ?_
      exact ⟨rfl, f, rfl, fun a j ha hj => by rw [h2 a j ha hj, if_pos (by omega)]⟩
    · exact absurd c15 (by omega)
  | succ e ih =>
    intro k f h1 h2
    refine x_iload_n dX5_takeRemainders_7 rfl ?_
    refine x_aload_n dX5_takeRemainders_8 rfl ?_
    refine x_getIV dX5_takeRemainders_9 fl_X5_15 rfl (hR) ?_
    refine x_bi _ bi_9 dX5_takeRemainders_12 ?_
    refine x_imulN dX5_takeRemainders_14 ?_
    refine x_icmp_geN 35 dX5_takeRemainders_15 rfl (by omega) (by omega) (fun c15 => ?_) (fun c15 => ?_)
    · exact absurd c15 (by omega)
    · refine x_aload_n dX5_takeRemainders_18 rfl ?_
      refine x_getR dX5_takeRemainders_19 fl_X5_11 rfl ?_
      refine x_iload_n dX5_takeRemainders_22 rfl ?_
      refine x_dup2 dX5_takeRemainders_23 rfl rfl ?_
      refine x_laldN dX5_takeRemainders_24 rfl rfl (by omega) (rfl) ?_
      refine x_iload_n dX5_takeRemainders_25 rfl ?_
      refine x_topI ?_
      refine x_i2lI dX5_takeRemainders_26 (by omega) (by omega) ?_
      refine x_lrem dX5_takeRemainders_27 (i64_ne0 (by omega) (by omega)) ?_
      refine x_lastN dX5_takeRemainders_28 rfl rfl (by omega) ?_
      refine x_iincN dX5_takeRemainders_29 rfl rfl ?_
      refine x_goto 7 dX5_takeRemainders_32 rfl ?_
      rw [sL_sL, sL_at]
      refine ih (k + 1) _ (by omega) (fun a j ha hj => ?_)
      by_cases q : a * 9 + j = k
      · have e0 := h2 a j ha hj
        rw [if_neg (by omega)] at e0
        have hb := hw a j ha hj
        rw [q] at e0
        rw [q, if_pos (by omega)]
        simp only [vp_updL, if_true]
        rw [e0]
        exact i64_rem (by omega) (by omega)
      · simp only [vp_updL, q, if_false]
        rw [h2 a j ha hj]
        by_cases z : a * 9 + j < k
        · rw [if_pos z, if_pos (by omega)]
        · rw [if_neg z, if_neg (by omega)]
set_option maxRecDepth 100000 in
set_option maxHeartbeats 4000000 in
theorem kMB_take (S : amS) (n wid p : Nat) (hn : n ≤ 5) (h9 : wid ≤ 9) (hp : 2 ≤ p ∧ p ≤ 7) (hR : S.1 39 1 = nI n) (w : Nat → Row) (hm : Mw (S.2.2.2 40) n wid w 3) : X shX mX5_takeRemainders 0 [.ref 39, .int (nI p), .null] [] S (fun r S' => r = none ∧ ∃ f, S' = sL S 40 f ∧ ∀ a j, a < n → j < wid → f (a * 9 + j) = i64 ((w a j).tmod p)) := by
  refine x_iload_n dX5_takeRemainders_0 rfl ?_
  refine x_topI ?_
  refine x_if_gtI 5 dX5_takeRemainders_1 rfl (by omega) (fun c1 => ?_) (fun c1 => ?_)
  · refine x_ic _ ic_0 dX5_takeRemainders_5 ?_
    refine x_istore_n dX5_takeRemainders_6 rfl ?_
    refine x_st (sL_self S 40) ?_
    exact kMB_tr_l S n wid p hn h9 hp hR w (fun a j ha hj => (hm a j ha hj).2) (n * 9) 0 _ (by omega) (fun a j ha hj => by rw [if_neg (Nat.not_lt_zero _)]; exact (hm a j ha hj).1)
  · exact absurd c1 (by omega)
set_option maxRecDepth 100000 in
set_option maxHeartbeats 4000000 in
theorem kMA_take (S : amS) : X shX mX5_takeRemainders 0 [.ref 20, .int (nI 0), .null] [] S (fun r S' => r = none ∧ S' = S) := by
  refine x_iload_n dX5_takeRemainders_0 rfl ?_
  refine x_topI ?_
  refine x_if_gtI 5 dX5_takeRemainders_1 rfl (by omega) (fun c1 => ?_) (fun c1 => ?_)
  · exact absurd c1 (by omega)
  · refine x_ret dX5_takeRemainders_4 rfl ?_
    exact ⟨rfl, rfl⟩
set_option maxRecDepth 100000 in
set_option maxHeartbeats 4000000 in
theorem kMA_reduce (S : amS) (n wid d : Nat) (hd : 2 ≤ d ∧ d ≤ 4) (hdw : d ≤ wid) (hn : n ≤ 5) (h9 : wid ≤ 9) (hR : S.1 20 1 = nI n) (hW : S.1 20 3 = nI wid) (hD : S.1 20 2 = nI d) (w0 : Nat → Row) (hm : Mw (S.2.2.2 21) n wid w0 3) : X shX mX5_reduce 0 [.ref 20, .int (nI 0), .null, .null, .null] [] S (fun v S' => v = some (.int (nI (rkC 0 (cl d d) (act w0 0 n)))) ∧ ∃ f u, S' = sL S 21 f ∧ Mw f n wid u (bnd 4) ∧ TrI w0 u n wid ∧ ∀ a e, rkC 0 (cl d d) (act w0 0 n) ≤ a → a < n → e < d → u a e = 0) := by
  refine x_aload_n dX5_reduce_0 rfl ?_
  refine x_iload_n dX5_reduce_1 rfl ?_
  refine x_v1n (N := mX5_takeRemainders) dX5_reduce_2 ml_X5_37 nv_X5_takeRemainders rfl rfl (kMA_take S) ?_
  refine x_ic _ ic_0 dX5_reduce_5 ?_
  refine x_istore_n dX5_reduce_6 rfl ?_
  refine x_ic _ ic_0 dX5_reduce_7 ?_
  refine x_istore_n dX5_reduce_8 rfl ?_
  refine x_st (sL_self S 21) ?_
  exact kMA_out S n wid d hd hdw hn h9 hR hW hD w0 _ d 0 0 _ w0 _ (by omega) (Nat.le_refl _) (Nat.zero_le _) hm (TrI.rf w0 n wid) (fun a c _ _ h => absurd h (Nat.not_lt_zero c)) (Nat.zero_add _)
set_option maxRecDepth 100000 in
set_option maxHeartbeats 4000000 in
theorem kMB_reduce (S : amS) (n wid d : Nat) (hd : 2 ≤ d ∧ d ≤ 4) (hdw : d ≤ wid) (hn : n ≤ 5) (h9 : wid ≤ 9) (hR : S.1 39 1 = nI n) (hW : S.1 39 3 = nI wid) (hD : S.1 39 2 = nI d) (w0 : Nat → Row) (hm : Mw (S.2.2.2 40) n wid w0 3) (p : Nat) (hp : 2 ≤ p ∧ p ≤ 7) (hdom : Dom p) : X shX mX5_reduce 0 [.ref 39, .int (nI p), .null, .null, .null] [] S (fun v S' => v = some (.int (nI (rkC p (cl d d) (act w0 0 n)))) ∧ ∃ f, S' = sL S 40 f) := by
  refine x_aload_n dX5_reduce_0 rfl ?_
  refine x_iload_n dX5_reduce_1 rfl ?_
  refine x_v1 (N := mX5_takeRemainders) dX5_reduce_2 ml_X5_37 nv_X5_takeRemainders rfl rfl (kMB_take S n wid p hn h9 hp hR w0 hm) ?_
  rintro _ _ ⟨rfl, f1, rfl, hf1⟩
  refine x_ic _ ic_0 dX5_reduce_5 ?_
  refine x_istore_n dX5_reduce_6 rfl ?_
  refine x_ic _ ic_0 dX5_reduce_7 ?_
  refine x_istore_n dX5_reduce_8 rfl ?_
  have e0 : rkC p (cl d d) (act (fun a j => (w0 a j).tmod p) 0 n) = rkC p (cl d d) (act w0 0 n) := rkC_cong p hdom _ _ _ n (fun a j ha hj => ⟨-((w0 a j).tdiv p), by have := Int.mul_tdiv_add_tmod (w0 a j) p; grind⟩)
  refine x_mono ?_ (kMB_out S n wid d hd hdw hn h9 hR hW hD p hp hdom w0 (rkC p (cl d d) (act (fun a j => (w0 a j).tmod p) 0 n)) d 0 0 f1 (fun a j => (w0 a j).tmod p) _ (by omega) (Nat.le_refl _) (Nat.zero_le _) (fun a j ha hj => ⟨hf1 a j ha hj, ?_⟩) (Nat.zero_add _))
  · rintro _ S' ⟨rfl, h⟩
    exact ⟨by rw [e0], h⟩
  · show -(p - 1 : Int) ≤ (w0 a j).tmod p ∧ (w0 a j).tmod p ≤ (p - 1 : Int)
    have z1 := Int.tmod_lt_of_pos (w0 a j) (b := (p : Int)) (by omega)
    have z2 := Int.lt_tmod_of_pos (w0 a j) (b := (p : Int)) (by omega)
    exact ⟨by omega, by omega⟩
set_option maxRecDepth 100000 in
set_option maxHeartbeats 4000000 in
theorem kM_tc2 (T : amS) (n d r : Nat) (hd : 2 ≤ d ∧ d ≤ 4) (hn : n ≤ 5) (hr : r < n) (hR : T.1 20 1 = nI n) (hD : T.1 20 2 = nI d) (Q : Option Value → amS → Prop) (w0 : Nat → Row) (hq : ∀ f, (∀ a c, a < n → c < d + n → c < d ∨ a < r + 1 → f (a * 9 + c) = i64 ((fun a c => if c < d then w0 a c else if c = d + a then 1 else 0) a c)) → X shX mX5_trace 65 [.ref 20, .int (nI r), .int (nI n)] [] (sL T 21 f) Q) : ∀ (e k : Nat) (f : Nat → Int64), k + e = n → (∀ a c, a < n → c < d + n → c < d ∨ a < r ∨ (a = r ∧ c < d + k) → f (a * 9 + c) = i64 ((fun a c => if c < d then w0 a c else if c = d + a then 1 else 0) a c)) → X shX mX5_trace 25 [.ref 20, .int (nI r), .int (nI k)] [] (sL T 21 f) Q := by
  intro e
  induction e with
  | zero =>
    intro k f h1 h2
    obtain rfl : k = n := by omega
    refine x_iload_n dX5_trace_25 rfl ?_
    refine x_aload_n dX5_trace_26 rfl ?_
    refine x_getIV dX5_trace_27 fl_X5_15 rfl (hR) ?_
    refine x_icmp_geN 65 dX5_trace_30 rfl (by omega) (by omega) (fun c30 => ?_) (fun c30 => ?_)
    · exact hq f (fun a c ha hc hz => h2 a c ha hc (by omega))
    · exact absurd c30 (by omega)
  | succ e ih =>
    intro k f h1 h2
    refine x_iload_n dX5_trace_25 rfl ?_
    refine x_aload_n dX5_trace_26 rfl ?_
    refine x_getIV dX5_trace_27 fl_X5_15 rfl (hR) ?_
    refine x_icmp_geN 65 dX5_trace_30 rfl (by omega) (by omega) (fun c30 => ?_) (fun c30 => ?_)
    · exact absurd c30 (by omega)
    · refine x_aload_n dX5_trace_33 rfl ?_
      refine x_getR dX5_trace_34 fl_X5_11 rfl ?_
      refine x_iload_n dX5_trace_37 rfl ?_
      refine x_bi _ bi_9 dX5_trace_38 ?_
      refine x_imulN dX5_trace_40 ?_
      refine x_aload_n dX5_trace_41 rfl ?_
      refine x_getIV dX5_trace_42 fl_X5_24 rfl (hD) ?_
      refine x_iaddN dX5_trace_45 ?_
      refine x_iload_n dX5_trace_46 rfl ?_
      refine x_iaddN dX5_trace_47 ?_
      refine x_iload_n dX5_trace_48 rfl ?_
      refine x_iload_n dX5_trace_49 rfl ?_
      refine x_icmp_neN 57 dX5_trace_50 rfl (by omega) (by omega) (fun c50 => ?_) (fun c50 => ?_)
      · refine x_lc _ lc_0 dX5_trace_57 ?_
        refine x_lastN dX5_trace_58 rfl rfl (by omega) ?_
        refine x_iincN dX5_trace_59 rfl rfl ?_
        refine x_goto 25 dX5_trace_62 rfl ?_
        rw [sL_sL, sL_at]
        refine ih (k + 1) _ (by omega) (fun a c ha hc hz => ?_)
        by_cases q : a * 9 + c = r * 9 + d + k
        · obtain ⟨rfl, rfl⟩ : a = r ∧ c = d + k := by omega
          rw [q]
          simp only [vp_updL, if_true]
          rw [if_neg (by omega), if_neg (by omega)]
        · simp only [vp_updL, q, if_false]
          exact h2 a c ha hc (by omega)
      · refine x_lc _ lc_1 dX5_trace_53 ?_
        refine x_goto 58 dX5_trace_54 rfl ?_
        refine x_lastN dX5_trace_58 rfl rfl (by omega) ?_
        refine x_iincN dX5_trace_59 rfl rfl ?_
        refine x_goto 25 dX5_trace_62 rfl ?_
        rw [sL_sL, sL_at]
        refine ih (k + 1) _ (by omega) (fun a c ha hc hz => ?_)
        by_cases q : a * 9 + c = r * 9 + d + k
        · obtain ⟨rfl, rfl⟩ : a = r ∧ c = d + k := by omega
          rw [q]
          simp only [vp_updL, if_true]
          rw [if_neg (by omega), if_pos (by omega)]
        · simp only [vp_updL, q, if_false]
          exact h2 a c ha hc (by omega)
set_option maxRecDepth 100000 in
set_option maxHeartbeats 4000000 in
theorem kM_tc1 (T : amS) (n d : Nat) (hd : 2 ≤ d ∧ d ≤ 4) (hn : n ≤ 5) (hR : T.1 20 1 = nI n) (hD : T.1 20 2 = nI d) (w0 : Nat → Row) : ∀ (e r : Nat) (f : Nat → Int64) (z : Value), r + e = n → (∀ a c, a < n → c < d + n → c < d ∨ a < r → f (a * 9 + c) = i64 ((fun a c => if c < d then w0 a c else if c = d + a then 1 else 0) a c)) → X shX mX5_trace 15 [.ref 20, .int (nI r), z] [] (sL T 21 f) (fun q S' => q = none ∧ ∃ f, S' = sL T 21 f ∧ ∀ a c, a < n → c < d + n → f (a * 9 + c) = i64 ((fun a c => if c < d then w0 a c else if c = d + a then 1 else 0) a c)) := by
  intro e
  induction e with
  | zero =>
    intro r f z h1 h2
    obtain rfl : r = n := by omega
    refine x_iload_n dX5_trace_15 rfl ?_
    refine x_aload_n dX5_trace_16 rfl ?_
    refine x_getIV dX5_trace_17 fl_X5_15 rfl (hR) ?_
    refine x_icmp_geN 71 dX5_trace_20 rfl (by omega) (by omega) (fun c20 => ?_) (fun c20 => ?_)
    · refine x_ret dX5_trace_71 rfl ?_
      exact ⟨rfl, f, rfl, fun a c ha hc => h2 a c ha hc (Or.inr ha)⟩
    · exact absurd c20 (by omega)
  | succ e ih =>
    intro r f z h1 h2
    refine x_iload_n dX5_trace_15 rfl ?_
    refine x_aload_n dX5_trace_16 rfl ?_
    refine x_getIV dX5_trace_17 fl_X5_15 rfl (hR) ?_
    refine x_icmp_geN 71 dX5_trace_20 rfl (by omega) (by omega) (fun c20 => ?_) (fun c20 => ?_)
    · exact absurd c20 (by omega)
    · refine x_ic _ ic_0 dX5_trace_23 ?_
      refine x_istore_n dX5_trace_24 rfl ?_
      refine kM_tc2 T n d r hd hn (by omega) hR hD _ w0 (fun f2 h3 => ?_) n 0 f (by omega) (fun a c ha hc hz => h2 a c ha hc (by omega))
      refine x_iincN dX5_trace_65 rfl rfl ?_
      refine x_goto 15 dX5_trace_68 rfl ?_
      exact ih (r + 1) f2 _ (by omega) (fun a c ha hc hz => h3 a c ha hc (by omega))
set_option maxRecDepth 100000 in
set_option maxHeartbeats 4000000 in
theorem kM_trace (S : amS) (n d : Nat) (hd : 2 ≤ d ∧ d ≤ 4) (hn : n ≤ 5) (hR : S.1 20 1 = nI n) (hD : S.1 20 2 = nI d) (w0 : Nat → Row) (hm : Mw (S.2.2.2 21) n d w0 3) : X shX mX5_trace 0 [.ref 20, .null, .null] [] S (fun q S' => q = none ∧ FO [20] [] S S' ∧ (S'.1 20 1 = nI n ∧ S'.1 20 2 = nI d ∧ S'.1 20 3 = nI (d + n)) ∧ Mw (S'.2.2.2 21) n (d + n) (fun a c => if c < d then w0 a c else if c = d + a then 1 else 0) 3) := by
  refine x_aload_n dX5_trace_0 rfl ?_
  refine x_aload_n dX5_trace_1 rfl ?_
  refine x_getIV dX5_trace_2 fl_X5_24 rfl (hD) ?_
  refine x_aload_n dX5_trace_5 rfl ?_
  refine x_getIV dX5_trace_6 fl_X5_15 rfl (hR) ?_
  refine x_iaddN dX5_trace_9 ?_
  refine x_put dX5_trace_10 fp_X5_27 rfl rfl rfl ?_
  refine x_ic _ ic_0 dX5_trace_13 ?_
  refine x_istore_n dX5_trace_14 rfl ?_
  have e1 : (sF S 20 (upd (S.1 20) 3 (nI (d + n)))).1 20 1 = nI n := by simp [sF, sA, va_up, upd]; exact hR
  have e2 : (sF S 20 (upd (S.1 20) 3 (nI (d + n)))).1 20 2 = nI d := by simp [sF, sA, va_up, upd]; exact hD
  have e3 : (sF S 20 (upd (S.1 20) 3 (nI (d + n)))).1 20 3 = nI (d + n) := by simp [sF, sA, va_up, upd]
  have f0 : FO [20] [] S (sF S 20 (upd (S.1 20) 3 (nI (d + n)))) := (FO.rf _ _ S).sF _ (by simp)
  have hm2 : Mw ((sF S 20 (upd (S.1 20) 3 (nI (d + n)))).2.2.2 21) n d w0 3 := hm
  generalize sF S 20 (upd (S.1 20) 3 (nI (d + n))) = T at e1 e2 e3 f0 hm2
  refine x_st (sL_self T 21) ?_
  refine x_mono ?_ (kM_tc1 T n d hd hn e1 e2 w0 n 0 _ _ (by omega) (fun a c ha hc hz => ?_))
  · rintro _ S' ⟨rfl, f, rfl, hf⟩
    refine ⟨rfl, f0.sL f, ⟨e1, e2, e3⟩, ?_⟩
    rw [sL_at]
    intro a c ha hc
    refine ⟨hf a c ha hc, ?_⟩
    show -3 ≤ (if c < d then w0 a c else if c = d + a then 1 else 0) ∧ (if c < d then w0 a c else if c = d + a then 1 else 0) ≤ 3
    by_cases z : c < d
    · rw [if_pos z]; exact (hm a c ha z).2
    · rw [if_neg z]; split <;> decide
  · show _ = i64 (if c < d then w0 a c else if c = d + a then 1 else 0)
    rw [if_pos (by omega)]
    exact (hm2 a c ha (by omega)).1
set_option maxRecDepth 100000 in
set_option maxHeartbeats 4000000 in
theorem kM_til (S : amS) (n d wid k : Nat) (hd : d ≤ 4) (hn : n ≤ 5) (hR : S.1 20 1 = nI n) (hD : S.1 20 2 = nI d) (hk : k < n) (y : Int64) (hy : S.2.2.2 21 ((n - 1) * 9 + d + k) = y) : X shX mX5_traceInLast 0 [.ref 20, .int (nI k)] [] S (fun q S' => q = some (.long y) ∧ S' = S) := by
  refine x_iload_n dX5_traceInLast_0 rfl ?_
  refine x_topI ?_
  refine x_if_ltI 36 dX5_traceInLast_1 rfl (by omega) (fun c1 => ?_) (fun c1 => ?_)
  · exact absurd c1 (by omega)
  · refine x_iload_n dX5_traceInLast_4 rfl ?_
    refine x_aload_n dX5_traceInLast_5 rfl ?_
    refine x_getIV dX5_traceInLast_6 fl_X5_15 rfl (hR) ?_
    refine x_icmp_geN 36 dX5_traceInLast_9 rfl (by omega) (by omega) (fun c9 => ?_) (fun c9 => ?_)
    · exact absurd c9 (by omega)
    · refine x_aload_n dX5_traceInLast_12 rfl ?_
      refine x_getR dX5_traceInLast_13 fl_X5_11 rfl ?_
      refine x_aload_n dX5_traceInLast_16 rfl ?_
      refine x_getIV dX5_traceInLast_17 fl_X5_15 rfl (hR) ?_
      refine x_ic _ ic_1 dX5_traceInLast_20 ?_
      refine x_isubN dX5_traceInLast_21 (by omega) ?_
      refine x_bi _ bi_9 dX5_traceInLast_22 ?_
      refine x_imulN dX5_traceInLast_24 ?_
      refine x_aload_n dX5_traceInLast_25 rfl ?_
      refine x_getIV dX5_traceInLast_26 fl_X5_24 rfl (hD) ?_
      refine x_iaddN dX5_traceInLast_29 ?_
      refine x_iload_n dX5_traceInLast_30 rfl ?_
      refine x_iaddN dX5_traceInLast_31 ?_
      refine x_laldN dX5_traceInLast_32 rfl rfl (by omega) (hy) ?_
      refine x_goto 37 dX5_traceInLast_33 rfl ?_
      refine x_lret dX5_traceInLast_37 rfl ?_
      exact ⟨rfl, rfl⟩
