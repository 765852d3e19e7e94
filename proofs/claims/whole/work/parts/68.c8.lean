/-! THE CLASS: ranks, flats, circuits -/
theorem pc9_posb : ∀ s, s < 512 → ∀ i, i < 9 → s.testBit i = true → 1 ≤ pc9 s := by
  intro s hs i hi h
  have := pc9_less s hs i hi h
  omega
def mxB (r : Nat → Nat) (s : Nat) : Nat → Nat
  | 0 => 0
  | i + 1 => if s.testBit i then max (mxB r s i) (r (less s i)) else mxB r s i
def opB (r : Nat → Nat) (s d : Nat) : Nat → Bool
  | 0 => decide (pc9 s ≤ d)
  | i + 1 => opB r s d i && (!s.testBit i || r (less s i) == pc9 s - 1)
theorem mxB_le {r : Nat → Nat} {s B : Nat} (h : ∀ i, s.testBit i = true → r (less s i) ≤ B) : ∀ n, mxB r s n ≤ B := by
  intro n
  induction n with
  | zero => exact Nat.zero_le _
  | succ n ih =>
    rw [mxB]
    split
    · rename_i q
      exact Nat.max_le.mpr ⟨ih, h n q⟩
    · exact ih
theorem mxB_ge {r : Nat → Nat} {s i : Nat} (hi : s.testBit i = true) : ∀ n, i < n → r (less s i) ≤ mxB r s n := by
  intro n
  induction n with
  | zero => intro h; omega
  | succ n ih =>
    intro h
    rw [mxB]
    by_cases q : i = n
    · subst q
      rw [if_pos hi]
      exact Nat.le_max_right _ _
    · have := ih (by omega)
      split
      · exact Nat.le_trans this (Nat.le_max_left _ _)
      · exact this
theorem opB_iff {r : Nat → Nat} {s d : Nat} : ∀ n, opB r s d n = true ↔ pc9 s ≤ d ∧ ∀ i, i < n → s.testBit i = true → r (less s i) = pc9 s - 1 := by
  intro n
  induction n with
  | zero => simp [opB]
  | succ n ih =>
    rw [opB, Bool.and_eq_true, ih]
    constructor
    · rintro ⟨⟨h1, h2⟩, h3⟩
      refine ⟨h1, fun i hi hb => ?_⟩
      by_cases q : i = n
      · subst q
        rw [hb] at h3
        simpa using h3
      · exact h2 i (by omega) hb
    · rintro ⟨h1, h2⟩
      refine ⟨⟨h1, fun i hi hb => h2 i (by omega) hb⟩, ?_⟩
      cases e : s.testBit n with
      | false => rfl
      | true =>
        have := h2 n (by omega) e
        simpa using this
theorem less_sub (s i j : Nat) (h : (less s i).testBit j = true) : s.testBit j = true := by
  rw [less_tb, Bool.and_eq_true] at h
  exact h.1
theorem mx_rank {d N : Nat} {v : Nat → Row} (hA : Arr d N v) {s : Nat} (hs : s < 2 ^ N) (h : ¬ opB (rkV v) s d N = true) : mxB (rkV v) s N = rkV v s := by
  have hp := pow9 hA.2.2.1
  have hdep : rkV v s < pc9 s := by
    by_cases q : pc9 s ≤ d
    · rw [opB_iff] at h
      have : ∃ i, i < N ∧ s.testBit i = true ∧ rkV v (less s i) ≠ pc9 s - 1 := by
        refine Classical.byContradiction (fun z => h ⟨q, fun i hi hb => ?_⟩)
        exact Classical.byContradiction (fun z2 => z ⟨i, hi, hb, z2⟩)
      obtain ⟨i, hi, hb, hne⟩ := this
      have h1 := pc9_less s (by omega) i (by have := hA.2.2.1; omega) hb
      have h2 := rkV_le (v := v) (s := less s i) (by have := less_lt (i := i) hs; omega)
      exact dep_up hA.2.2.2.1 (by omega) (less_sub s i) (by omega) (by have := less_lt (i := i) hs; omega)
    · have := rkV_d hA s
      omega
  obtain ⟨i, hi, hb, he⟩ := dep_less hA.2.2.2.1 (by omega) hdep
  refine Nat.le_antisymm (mxB_le (fun j hj => rkV_mono (fun k _ hk => less_sub s j k hk)) N) ?_
  rw [← he]
  exact mxB_ge hb N (tb_lt hs hb)
theorem rank_load {d N : Nat} {v : Nat → Row} (hA : Arr d N v) {s : Nat} (hs : s < 2 ^ N) : rkC 0 (cl d d) (act (rwf (rowsB v s N)) 0 (pcb s N)) = rkV v s := by
  rw [← rowsB_pcb v s N, rkC_act 0 dom0, rkV_cl hA s]
  obtain ⟨k, hk⟩ : ∃ k, 9 = N + k := ⟨9 - N, by have := hA.2.2.1; omega⟩
  rw [hk, rowsB_hi v hs k]
theorem nI_max {a b : Nat} (ha : a < 2 ^ 31) (hb : b < 2 ^ 31) : (if nI a < nI b then nI b else nI a) = nI (max a b) := by
  by_cases q : a < b
  · rw [if_pos (nI_lt q hb), Nat.max_eq_right (by omega)]
  · rw [if_neg (Int32.not_lt.mpr (nI_le (by omega) ha)), Nat.max_eq_left (by omega)]
set_option maxRecDepth 100000 in
set_option maxHeartbeats 4000000 in
theorem kx_rfs_l (S : amS) (a : Ar) (hA : Arr a.1 a.2.1 a.2.2) (ho : aObj S 1 2 a) (s : Nat) (hs : s < 2 ^ a.2.1) (hr : ∀ t, t < s → S.2.1 22 t = nI (rkV a.2.2 t)) : ∀ (e i : Nat) (z : Value), i + e = a.2.1 → X shX mX6_rankFromSubsets 28 [.ref 19, .int (nI s), .int (nI (pc9 s)), .int (nI (mxB (rkV a.2.2) s i)), .int (zB (opB (rkV a.2.2) s a.1 i)), .int (nI i), z] [] S (fun r S' => r = some (.int (nI (rkV a.2.2 s))) ∧ FO [20] [] S S') := by
  obtain ⟨a1, a2, a3, a4, a5, a6, a7⟩ := id hA
  obtain ⟨m1, m2, m3⟩ := id ho
  have h512 := pow9 a3
  have hpc := pc9_le s (by omega)
  have hr9 : ∀ t, t < 512 → rkV a.2.2 t ≤ 9 := fun t ht => Nat.le_trans (rkV_le ht) (pc9_le t ht)
  have hmx : ∀ i, mxB (rkV a.2.2) s i ≤ 9 := mxB_le (fun i hi => hr9 _ (by have := less_lt (i := i) hs; omega))
  intro e
  induction e with
  | zero =>
    intro i z h1
    obtain rfl : i = a.2.1 := by omega
    refine x_iload dX6_rankFromSubsets_28 rfl ?_
    refine x_aload_n dX6_rankFromSubsets_30 rfl ?_
    refine x_getR dX6_rankFromSubsets_31 fl_X6_45 rfl ?_
    refine x_getIV dX6_rankFromSubsets_34 fl_X6_83 rfl (m2) ?_
    refine x_icmp_geN 95 dX6_rankFromSubsets_37 rfl (by omega) (by omega) (fun c37 => ?_) (fun c37 => ?_)
    · refine x_iload dX6_rankFromSubsets_95 rfl ?_
      refine x_if_neB 102 dX6_rankFromSubsets_97 rfl (fun c97 => ?_) (fun c97 => ?_)
      · refine x_aload_n dX6_rankFromSubsets_102 rfl ?_
        refine x_getR dX6_rankFromSubsets_103 fl_X6_12 rfl ?_
        refine x_aload_n dX6_rankFromSubsets_106 rfl ?_
        refine x_getR dX6_rankFromSubsets_107 fl_X6_45 rfl ?_
        refine x_iload_n dX6_rankFromSubsets_110 rfl ?_
        have h5 : pcb s a.2.1 ≤ 5 := by
          rw [pcb_pc9 a.2.1 (by omega) s hs]
          have := (opB_iff a.2.1).mp c97
          omega
        refine x_v2 (N := mX5_load) dX6_rankFromSubsets_111 ml_X6_92 nv_X5_load rfl rfl (kMA_load S s a.1 a.2.1 a3 hs a.2.2 a4 (by omega) h5 m1 m2 m3) ?_
        rintro _ S1 ⟨rfl, f1, ⟨g1, g2, g3⟩, hM⟩
        refine x_aload_n dX6_rankFromSubsets_114 rfl ?_
        refine x_getR dX6_rankFromSubsets_115 fl_X6_12 rfl ?_
        refine x_ic _ ic_0 dX6_rankFromSubsets_118 ?_
        refine x_v1 (N := mX5_reduce) dX6_rankFromSubsets_119 ml_X6_96 nv_X5_reduce rfl rfl (kMA_reduce S1 (pcb s a.2.1) a.1 a.1 ⟨a1, a2⟩ (Nat.le_refl _) h5 (by omega) g1 g3 g2 (rwf (rowsB a.2.2 s a.2.1)) hM) ?_
        rintro _ S2 ⟨rfl, f, u, rfl, -⟩
        refine x_iretI dX6_rankFromSubsets_122 rfl ?_
        exact ⟨by rw [rank_load hA hs], f1.sL f⟩
      · refine x_iload_n dX6_rankFromSubsets_100 rfl ?_
        refine x_iretI dX6_rankFromSubsets_101 rfl ?_
        exact ⟨by rw [mx_rank hA hs (by rw [c97]; decide)], FO.rf _ _ S⟩
    · exact absurd c37 (by omega)
  | succ e ih =>
    intro i z h1
    have hle : s / 2 ^ i &&& 1 ≤ 1 := Nat.and_le_right
    have hp9 := pow9' (show i < 9 by omega)
    refine x_iload dX6_rankFromSubsets_28 rfl ?_
    refine x_aload_n dX6_rankFromSubsets_30 rfl ?_
    refine x_getR dX6_rankFromSubsets_31 fl_X6_45 rfl ?_
    refine x_getIV dX6_rankFromSubsets_34 fl_X6_83 rfl (m2) ?_
    refine x_icmp_geN 95 dX6_rankFromSubsets_37 rfl (by omega) (by omega) (fun c37 => ?_) (fun c37 => ?_)
    · exact absurd c37 (by omega)
    · refine x_iload_n dX6_rankFromSubsets_40 rfl ?_
      refine x_iload dX6_rankFromSubsets_41 rfl ?_
      refine x_ishrN dX6_rankFromSubsets_43 (by omega) (by omega) ?_
      refine x_ic _ ic_1 dX6_rankFromSubsets_44 ?_
      refine x_iandN dX6_rankFromSubsets_45 ?_
      refine x_if_eqN 89 dX6_rankFromSubsets_46 rfl (by omega) (fun c46 => ?_) (fun c46 => ?_)
      · have hb := and1_eq c46
        refine x_iincN dX6_rankFromSubsets_89 rfl rfl ?_
        refine x_goto 28 dX6_rankFromSubsets_92 rfl ?_
        have := ih (i + 1) z (by omega)
        rw [mxB, if_neg (by rw [hb]; decide), opB, hb, Bool.not_false, Bool.true_or, Bool.and_true] at this
        exact this
      · have hb := and1_ne c46
        have hlt := less_lt_self hb
        have hpos := pc9_posb s (by omega) i (by omega) hb
        have hll := less_lt (i := i) hs
        refine x_aload_n dX6_rankFromSubsets_49 rfl ?_
        refine x_getR dX6_rankFromSubsets_50 fl_X6_18 rfl ?_
        refine x_iload_n dX6_rankFromSubsets_53 rfl ?_
        refine x_ic _ ic_1 dX6_rankFromSubsets_54 ?_
        refine x_iload dX6_rankFromSubsets_55 rfl ?_
        refine x_ishl1 dX6_rankFromSubsets_57 (by omega) ?_
        refine x_ixorN dX6_rankFromSubsets_58 ?_
        rw [xor_less hb]
        refine x_ialdN dX6_rankFromSubsets_59 rfl rfl (by omega) (hr _ hlt) ?_
        refine x_istore dX6_rankFromSubsets_60 rfl ?_
        refine x_iload_n dX6_rankFromSubsets_62 rfl ?_
        refine x_iload dX6_rankFromSubsets_63 rfl ?_
        have hr99 := hr9 (less s i) (by omega)
        have hmxi := hmx i
        refine x_mmax dX6_rankFromSubsets_65 ml_X6_86 rfl rfl ?_
        refine x_top (nI_max (by omega) (by omega)) ?_
        refine x_istore_n dX6_rankFromSubsets_68 rfl ?_
        refine x_iload dX6_rankFromSubsets_69 rfl ?_
        refine x_if_eqB 86 dX6_rankFromSubsets_71 rfl (fun c71 => ?_) (fun c71 => ?_)
        · refine x_ic _ ic_0 dX6_rankFromSubsets_86 ?_
          refine x_top (b := zB (opB (rkV a.2.2) s a.1 (i + 1))) (by rw [opB, c71]; rfl) ?_
          refine x_istore dX6_rankFromSubsets_87 rfl ?_
          refine x_iincN dX6_rankFromSubsets_89 rfl rfl ?_
          refine x_goto 28 dX6_rankFromSubsets_92 rfl ?_
          have := ih (i + 1) (.int (nI (rkV a.2.2 (less s i)))) (by omega)
          rw [mxB, if_pos hb] at this
          exact this
        · refine x_iload dX6_rankFromSubsets_74 rfl ?_
          refine x_iload_n dX6_rankFromSubsets_76 rfl ?_
          refine x_ic _ ic_1 dX6_rankFromSubsets_77 ?_
          refine x_isubN dX6_rankFromSubsets_78 (by omega) ?_
          refine x_icmp_neN 86 dX6_rankFromSubsets_79 rfl (by omega) (by omega) (fun c79 => ?_) (fun c79 => ?_)
          · refine x_ic _ ic_0 dX6_rankFromSubsets_86 ?_
            refine x_top (b := zB (opB (rkV a.2.2) s a.1 (i + 1))) (by rw [opB, c71, hb, zB_f]; simpa using c79) ?_
            refine x_istore dX6_rankFromSubsets_87 rfl ?_
            refine x_iincN dX6_rankFromSubsets_89 rfl rfl ?_
            refine x_goto 28 dX6_rankFromSubsets_92 rfl ?_
            have := ih (i + 1) (.int (nI (rkV a.2.2 (less s i)))) (by omega)
            rw [mxB, if_pos hb] at this
            exact this
          · refine x_ic _ ic_1 dX6_rankFromSubsets_82 ?_
            refine x_goto 87 dX6_rankFromSubsets_83 rfl ?_
            refine x_top (b := zB (opB (rkV a.2.2) s a.1 (i + 1))) (by rw [opB, c71, hb, zB_t]; simpa using c79) ?_
            refine x_istore dX6_rankFromSubsets_87 rfl ?_
            refine x_iincN dX6_rankFromSubsets_89 rfl rfl ?_
            refine x_goto 28 dX6_rankFromSubsets_92 rfl ?_
            have := ih (i + 1) (.int (nI (rkV a.2.2 (less s i)))) (by omega)
            rw [mxB, if_pos hb] at this
            exact this
set_option maxRecDepth 100000 in
set_option maxHeartbeats 4000000 in
theorem kx_rfs (S : amS) (a : Ar) (hA : Arr a.1 a.2.1 a.2.2) (ho : aObj S 1 2 a) (s : Nat) (hs : s < 2 ^ a.2.1) (hr : ∀ t, t < s → S.2.1 22 t = nI (rkV a.2.2 t)) : X shX mX6_rankFromSubsets 0 [.ref 19, .int (nI s), .null, .null, .null, .null, .null] [] S (fun r S' => r = some (.int (nI (rkV a.2.2 s))) ∧ FO [20] [] S S') := by
  obtain ⟨a1, a2, a3, a4, a5, a6, a7⟩ := id hA
  obtain ⟨m1, m2, m3⟩ := id ho
  have h512 := pow9 a3
  have hpc := pc9_le s (by omega)
  refine x_iload_n dX6_rankFromSubsets_0 rfl ?_
  refine x_s1d (N := mJ6_bitCount_0f7a4) dX6_rankFromSubsets_1 ml_X6_71 ns_J6_bitCount_0f7a4 rfl (kx_bc S s (by omega)) ?_
  refine x_istore_n dX6_rankFromSubsets_4 rfl ?_
  refine x_ic _ ic_0 dX6_rankFromSubsets_5 ?_
  refine x_istore_n dX6_rankFromSubsets_6 rfl ?_
  refine x_iload_n dX6_rankFromSubsets_7 rfl ?_
  refine x_aload_n dX6_rankFromSubsets_8 rfl ?_
  refine x_getR dX6_rankFromSubsets_9 fl_X6_45 rfl ?_
  refine x_getIV dX6_rankFromSubsets_12 fl_X6_68 rfl (m1) ?_
  refine x_icmp_gtN 22 dX6_rankFromSubsets_15 rfl (by omega) (by omega) (fun c15 => ?_) (fun c15 => ?_)
  · refine x_ic _ ic_0 dX6_rankFromSubsets_22 ?_
    refine x_top (b := zB (opB (rkV a.2.2) s a.1 0)) (by rw [opB, zB_f]; exact decide_eq_false (by omega)) ?_
    refine x_istore dX6_rankFromSubsets_23 rfl ?_
    refine x_ic _ ic_0 dX6_rankFromSubsets_25 ?_
    refine x_istore dX6_rankFromSubsets_26 rfl ?_
    exact kx_rfs_l S a hA ho s hs hr a.2.1 0 _ (by omega)
  · refine x_ic _ ic_1 dX6_rankFromSubsets_18 ?_
    refine x_goto 23 dX6_rankFromSubsets_19 rfl ?_
    refine x_top (b := zB (opB (rkV a.2.2) s a.1 0)) (by rw [opB, zB_t]; exact decide_eq_true (by omega)) ?_
    refine x_istore dX6_rankFromSubsets_23 rfl ?_
    refine x_ic _ ic_0 dX6_rankFromSubsets_25 ?_
    refine x_istore dX6_rankFromSubsets_26 rfl ?_
    exact kx_rfs_l S a hA ho s hs hr a.2.1 0 _ (by omega)
set_option maxRecDepth 100000 in
set_option maxHeartbeats 4000000 in
theorem kx_cfr_l (S : amS) (N : Nat) (r : Nat → Nat) (hN : N ≤ 9) (m2 : S.1 1 2 = nI N) (hr : ∀ s, s < 2 ^ N → S.2.1 22 s = nI (r s)) (hr9 : ∀ s, s < 2 ^ N → r s ≤ 9) (s : Nat) (hs : s < 2 ^ N) : ∀ (e i : Nat), i + e = N → X shX mX6_closureFromRanks 4 [.ref 19, .int (nI s), .int (nI (clB r s i)), .int (nI i)] [] S (fun q S' => q = some (.int (nI (clB r s N))) ∧ S' = S) := by
  have h512 := pow9 hN
  intro e
  induction e with
  | zero =>
    intro i h1
    obtain rfl : i = N := by omega
    refine x_iload_n dX6_closureFromRanks_4 rfl ?_
    refine x_aload_n dX6_closureFromRanks_5 rfl ?_
    refine x_getR dX6_closureFromRanks_6 fl_X6_45 rfl ?_
    refine x_getIV dX6_closureFromRanks_9 fl_X6_83 rfl (m2) ?_
    refine x_icmp_geN 46 dX6_closureFromRanks_12 rfl (by omega) (by omega) (fun c12 => ?_) (fun c12 => ?_)
    · refine x_iload_n dX6_closureFromRanks_46 rfl ?_
      refine x_iretI dX6_closureFromRanks_47 rfl ?_
      exact ⟨rfl, rfl⟩
    · exact absurd c12 (by omega)
  | succ e ih =>
    intro i h1
    have hpi := pow_ltN (show i < N by omega)
    have hor := or_lt9 hs hpi
    have h9a := hr9 _ hor
    have h9b := hr9 s hs
    refine x_iload_n dX6_closureFromRanks_4 rfl ?_
    refine x_aload_n dX6_closureFromRanks_5 rfl ?_
    refine x_getR dX6_closureFromRanks_6 fl_X6_45 rfl ?_
    refine x_getIV dX6_closureFromRanks_9 fl_X6_83 rfl (m2) ?_
    refine x_icmp_geN 46 dX6_closureFromRanks_12 rfl (by omega) (by omega) (fun c12 => ?_) (fun c12 => ?_)
    · exact absurd c12 (by omega)
    · refine x_aload_n dX6_closureFromRanks_15 rfl ?_
      refine x_getR dX6_closureFromRanks_16 fl_X6_18 rfl ?_
      refine x_iload_n dX6_closureFromRanks_19 rfl ?_
      refine x_ic _ ic_1 dX6_closureFromRanks_20 ?_
      refine x_iload_n dX6_closureFromRanks_21 rfl ?_
      refine x_ishl1 dX6_closureFromRanks_22 (by omega) ?_
      refine x_iorN dX6_closureFromRanks_23 ?_
      refine x_ialdN dX6_closureFromRanks_24 rfl rfl (by omega) (hr _ hor) ?_
      refine x_aload_n dX6_closureFromRanks_25 rfl ?_
      refine x_getR dX6_closureFromRanks_26 fl_X6_18 rfl ?_
      refine x_iload_n dX6_closureFromRanks_29 rfl ?_
      refine x_ialdN dX6_closureFromRanks_30 rfl rfl (by omega) (hr s hs) ?_
      refine x_icmp_neN 40 dX6_closureFromRanks_31 rfl (by omega) (by omega) (fun c31 => ?_) (fun c31 => ?_)
      · refine x_iincN dX6_closureFromRanks_40 rfl rfl ?_
        refine x_goto 4 dX6_closureFromRanks_43 rfl ?_
        have := ih (i + 1) (by omega)
        rw [clB, if_neg c31, Nat.or_zero] at this
        exact this
      · refine x_iload_n dX6_closureFromRanks_34 rfl ?_
        refine x_ic _ ic_1 dX6_closureFromRanks_35 ?_
        refine x_iload_n dX6_closureFromRanks_36 rfl ?_
        refine x_ishl1 dX6_closureFromRanks_37 (by omega) ?_
        refine x_iorN dX6_closureFromRanks_38 ?_
        refine x_istore_n dX6_closureFromRanks_39 rfl ?_
        refine x_iincN dX6_closureFromRanks_40 rfl rfl ?_
        refine x_goto 4 dX6_closureFromRanks_43 rfl ?_
        have := ih (i + 1) (by omega)
        rw [clB, if_pos c31] at this
        exact this
set_option maxRecDepth 100000 in
set_option maxHeartbeats 4000000 in
theorem kx_cfr (S : amS) (N : Nat) (r : Nat → Nat) (hN : N ≤ 9) (m2 : S.1 1 2 = nI N) (hr : ∀ s, s < 2 ^ N → S.2.1 22 s = nI (r s)) (hr9 : ∀ s, s < 2 ^ N → r s ≤ 9) (s : Nat) (hs : s < 2 ^ N) : X shX mX6_closureFromRanks 0 [.ref 19, .int (nI s), .null, .null] [] S (fun q S' => q = some (.int (nI (clB r s N))) ∧ S' = S) := by
  refine x_iload_n dX6_closureFromRanks_0 rfl ?_
  refine x_istore_n dX6_closureFromRanks_1 rfl ?_
  refine x_ic _ ic_0 dX6_closureFromRanks_2 ?_
  refine x_istore_n dX6_closureFromRanks_3 rfl ?_
  exact kx_cfr_l S N r hN m2 hr hr9 s hs N 0 (by omega)
set_option maxRecDepth 100000 in
set_option maxHeartbeats 4000000 in
theorem kx_isC_l (S : amS) (N : Nat) (r : Nat → Nat) (hN : N ≤ 9) (m2 : S.1 1 2 = nI N) (hr : ∀ s, s < 2 ^ N → S.2.1 22 s = nI (r s)) (hr9 : ∀ s, s < 2 ^ N → r s ≤ 9) (hrp : ∀ s, s < 2 ^ N → r s ≤ pc9 s) (s : Nat) (hs : s < 2 ^ N) (hd : r s < pc9 s) : ∀ (e i : Nat), i + e = N → (∀ j, j < i → s.testBit j = true → ¬ r (less s j) < pc9 (less s j)) → X shX mX6_isCircuit 14 [.ref 19, .int (nI s), .int (nI (pc9 s)), .int (nI i)] [] S (fun q S' => q = some (.int (zB (rgB r s N))) ∧ S' = S) := by
  have h512 := pow9 hN
  have hpc := pc9_le s (by omega)
  intro e
  induction e with
  | zero =>
    intro i h1 h2
    obtain rfl : i = N := by omega
    refine x_iload_n dX6_isCircuit_14 rfl ?_
    refine x_aload_n dX6_isCircuit_15 rfl ?_
    refine x_getR dX6_isCircuit_16 fl_X6_45 rfl ?_
    refine x_getIV dX6_isCircuit_19 fl_X6_83 rfl (m2) ?_
    refine x_icmp_geN 57 dX6_isCircuit_22 rfl (by omega) (by omega) (fun c22 => ?_) (fun c22 => ?_)
    · refine x_ic _ ic_1 dX6_isCircuit_57 ?_
      refine x_zret1 dX6_isCircuit_58 rfl ?_
      exact ⟨by rw [zB_t ((rgB_iff i).mpr ⟨hd, h2⟩)], rfl⟩
    · exact absurd c22 (by omega)
  | succ e ih =>
    intro i h1 h2
    have hle : s / 2 ^ i &&& 1 ≤ 1 := Nat.and_le_right
    have hp9 := pow9' (show i < 9 by omega)
    refine x_iload_n dX6_isCircuit_14 rfl ?_
    refine x_aload_n dX6_isCircuit_15 rfl ?_
    refine x_getR dX6_isCircuit_16 fl_X6_45 rfl ?_
    refine x_getIV dX6_isCircuit_19 fl_X6_83 rfl (m2) ?_
    refine x_icmp_geN 57 dX6_isCircuit_22 rfl (by omega) (by omega) (fun c22 => ?_) (fun c22 => ?_)
    · exact absurd c22 (by omega)
    · refine x_iload_n dX6_isCircuit_25 rfl ?_
      refine x_iload_n dX6_isCircuit_26 rfl ?_
      refine x_ishrN dX6_isCircuit_27 (by omega) (by omega) ?_
      refine x_ic _ ic_1 dX6_isCircuit_28 ?_
      refine x_iandN dX6_isCircuit_29 ?_
      refine x_if_eqN 51 dX6_isCircuit_30 rfl (by omega) (fun c30 => ?_) (fun c30 => ?_)
      · have hb := and1_eq c30
        refine x_iincN dX6_isCircuit_51 rfl rfl ?_
        refine x_goto 14 dX6_isCircuit_54 rfl ?_
        refine ih (i + 1) (by omega) (fun j hj hjb => ?_)
        by_cases q : j = i
        · rw [q, hb] at hjb; cases hjb
        · exact h2 j (by omega) hjb
      · have hb := and1_ne c30
        have hll := less_lt (i := i) hs
        have hpos := pc9_less s (by omega) i (by omega) hb
        have hlp := hrp _ hll
        have h9a := hr9 _ hll
        refine x_aload_n dX6_isCircuit_33 rfl ?_
        refine x_getR dX6_isCircuit_34 fl_X6_18 rfl ?_
        refine x_iload_n dX6_isCircuit_37 rfl ?_
        refine x_ic _ ic_1 dX6_isCircuit_38 ?_
        refine x_iload_n dX6_isCircuit_39 rfl ?_
        refine x_ishl1 dX6_isCircuit_40 (by omega) ?_
        refine x_ixorN dX6_isCircuit_41 ?_
        rw [xor_less hb]
        refine x_ialdN dX6_isCircuit_42 rfl rfl (by omega) (hr _ hll) ?_
        refine x_iload_n dX6_isCircuit_43 rfl ?_
        refine x_ic _ ic_1 dX6_isCircuit_44 ?_
        refine x_isubN dX6_isCircuit_45 (by omega) ?_
        refine x_icmp_eqN 51 dX6_isCircuit_46 rfl (by omega) (by omega) (fun c46 => ?_) (fun c46 => ?_)
        · refine x_iincN dX6_isCircuit_51 rfl rfl ?_
          refine x_goto 14 dX6_isCircuit_54 rfl ?_
          refine ih (i + 1) (by omega) (fun j hj hjb => ?_)
          by_cases q : j = i
          · rw [q]; omega
          · exact h2 j (by omega) hjb
        · refine x_ic _ ic_0 dX6_isCircuit_49 ?_
          refine x_zret0 dX6_isCircuit_50 rfl ?_
          exact ⟨by rw [zB_f]; exact Bool.eq_false_iff.mpr (fun z => ((rgB_iff N).mp z).2 i (by omega) hb (by omega)), rfl⟩
set_option maxRecDepth 100000 in
set_option maxHeartbeats 4000000 in
theorem kx_isCircuit (S : amS) (N : Nat) (r : Nat → Nat) (hN : N ≤ 9) (m2 : S.1 1 2 = nI N) (hr : ∀ s, s < 2 ^ N → S.2.1 22 s = nI (r s)) (hr9 : ∀ s, s < 2 ^ N → r s ≤ 9) (hrp : ∀ s, s < 2 ^ N → r s ≤ pc9 s) (s : Nat) (hs : s < 2 ^ N) : X shX mX6_isCircuit 0 [.ref 19, .int (nI s), .int (nI (pc9 s)), .null] [] S (fun q S' => q = some (.int (zB (rgB r s N))) ∧ S' = S) := by
  have h512 := pow9 hN
  have hpc := pc9_le s (by omega)
  have hlp := hrp s hs
  have h9a := hr9 s hs
  refine x_aload_n dX6_isCircuit_0 rfl ?_
  refine x_getR dX6_isCircuit_1 fl_X6_18 rfl ?_
  refine x_iload_n dX6_isCircuit_4 rfl ?_
  refine x_ialdN dX6_isCircuit_5 rfl rfl (by omega) (hr s hs) ?_
  refine x_iload_n dX6_isCircuit_6 rfl ?_
  refine x_icmp_neN 12 dX6_isCircuit_7 rfl (by omega) (by omega) (fun c7 => ?_) (fun c7 => ?_)
  · refine x_ic _ ic_0 dX6_isCircuit_12 ?_
    refine x_istore_n dX6_isCircuit_13 rfl ?_
    exact kx_isC_l S N r hN m2 hr hr9 hrp s hs (by omega) N 0 (by omega) (fun j hj => absurd hj (Nat.not_lt_zero j))
  · refine x_ic _ ic_0 dX6_isCircuit_10 ?_
    refine x_zret0 dX6_isCircuit_11 rfl ?_
    exact ⟨by rw [zB_f]; exact Bool.eq_false_iff.mpr (fun z => absurd ((rgB_iff N).mp z).1 (by omega)), rfl⟩
set_option maxRecDepth 100000 in
set_option maxHeartbeats 4000000 in
theorem kx_rf_1 (S0 : amS) (a : Ar) (hA : Arr a.1 a.2.1 a.2.2) (ho0 : aObj S0 1 2 a) (Q : Option Value → amS → Prop) (hq : ∀ S, FO [19, 20, 24] [22, 23, 25] S0 S → S.1 19 7 = S0.1 19 7 → (∀ t, t < 2 ^ a.2.1 → S.2.1 22 t = nI (rkV a.2.2 t)) → X shX mX6_refresh 58 [.ref 19, .int (nI (2 ^ a.2.1 - 1)), .int (nI (2 ^ a.2.1)), .null] [] S Q) : ∀ (e t : Nat) (S : amS), t + e = 2 ^ a.2.1 → FO [19, 20, 24] [22, 23, 25] S0 S → S.1 19 7 = S0.1 19 7 → (∀ u, u < t → S.2.1 22 u = nI (rkV a.2.2 u)) → X shX mX6_refresh 36 [.ref 19, .int (nI (2 ^ a.2.1 - 1)), .int (nI t), .null] [] S Q := by
  have h512 := pow9 hA.2.2.1
  have hpos := Nat.two_pow_pos a.2.1
  intro e
  induction e with
  | zero =>
    intro t S h1 h2 h3 h4
    obtain rfl : t = 2 ^ a.2.1 := by omega
    refine x_iload_n dX6_refresh_36 rfl ?_
    refine x_iload_n dX6_refresh_37 rfl ?_
    refine x_icmp_gtN 58 dX6_refresh_38 rfl (by omega) (by omega) (fun c38 => ?_) (fun c38 => ?_)
    · exact hq S h2 h3 h4
    · exact absurd c38 (by omega)
  | succ e ih =>
    intro t S h1 h2 h3 h4
    have ho := ho0.fo h2 (by decide) (by decide)
    refine x_iload_n dX6_refresh_36 rfl ?_
    refine x_iload_n dX6_refresh_37 rfl ?_
    refine x_icmp_gtN 58 dX6_refresh_38 rfl (by omega) (by omega) (fun c38 => ?_) (fun c38 => ?_)
    · exact absurd c38 (by omega)
    · refine x_aload_n dX6_refresh_41 rfl ?_
      refine x_getR dX6_refresh_42 fl_X6_18 rfl ?_
      refine x_iload_n dX6_refresh_45 rfl ?_
      refine x_aload_n dX6_refresh_46 rfl ?_
      refine x_iload_n dX6_refresh_47 rfl ?_
      refine x_v1 (N := mX6_rankFromSubsets) dX6_refresh_48 ml_X6_58 nv_X6_rankFromSubsets rfl rfl (kx_rfs S a hA ho t (by omega) h4) ?_
      rintro _ S' ⟨rfl, f1⟩
      refine x_iastN dX6_refresh_51 rfl rfl (by omega) ?_
      refine x_iincN dX6_refresh_52 rfl rfl ?_
      refine x_goto 36 dX6_refresh_55 rfl ?_
      refine ih (t + 1) _ (by omega) ((h2.tr (f1.mono (by decide) (by decide))).sA _ (by decide)) ?_ (fun u hu => ?_)
      · show S'.1 19 7 = _
        rw [f1.1 19 (by decide)]; exact h3
      · rw [sA_at]
        by_cases q : u = t
        · rw [q, upd_s]
        · rw [upd_n _ _ q, f1.2.1 22 (by decide)]; exact h4 u (by omega)
set_option maxRecDepth 100000 in
set_option maxHeartbeats 4000000 in
theorem kx_rf_2 (S0 : amS) (a : Ar) (hA : Arr a.1 a.2.1 a.2.2) (ho0 : aObj S0 1 2 a) (Q : Option Value → amS → Prop) (hq : ∀ S, FO [19, 20, 24] [22, 23, 25] S0 S → S.1 19 7 = S0.1 19 7 → (∀ t, t < 2 ^ a.2.1 → S.2.1 22 t = nI (rkV a.2.2 t)) → (∀ t, t < 2 ^ a.2.1 → S.2.1 23 t = zB (flB (rkV a.2.2) a.2.1 t)) → X shX mX6_refresh 91 [.ref 19, .int (nI (2 ^ a.2.1 - 1)), .int (nI (2 ^ a.2.1)), .null] [] S Q) : ∀ (e t : Nat) (S : amS), t + e = 2 ^ a.2.1 → FO [19, 20, 24] [22, 23, 25] S0 S → S.1 19 7 = S0.1 19 7 → (∀ t, t < 2 ^ a.2.1 → S.2.1 22 t = nI (rkV a.2.2 t)) → (∀ u, u < t → S.2.1 23 u = zB (flB (rkV a.2.2) a.2.1 u)) → X shX mX6_refresh 60 [.ref 19, .int (nI (2 ^ a.2.1 - 1)), .int (nI t), .null] [] S Q := by
  have h512 := pow9 hA.2.2.1
  have hpos := Nat.two_pow_pos a.2.1
  have hr9 : ∀ t, t < 2 ^ a.2.1 → rkV a.2.2 t ≤ 9 := fun t ht => Nat.le_trans (rkV_le (by omega)) (pc9_le t (by omega))
  intro e
  induction e with
  | zero =>
    intro t S h1 h2 h3 h4 h5
    obtain rfl : t = 2 ^ a.2.1 := by omega
    refine x_iload_n dX6_refresh_60 rfl ?_
    refine x_iload_n dX6_refresh_61 rfl ?_
    refine x_icmp_gtN 91 dX6_refresh_62 rfl (by omega) (by omega) (fun c62 => ?_) (fun c62 => ?_)
    · exact hq S h2 h3 h4 h5
    · exact absurd c62 (by omega)
  | succ e ih =>
    intro t S h1 h2 h3 h4 h5
    have ho := ho0.fo h2 (by decide) (by decide)
    have hcl := clB_lt (r := rkV a.2.2) (show t < 2 ^ a.2.1 by omega) a.2.1 (Nat.le_refl _)
    refine x_iload_n dX6_refresh_60 rfl ?_
    refine x_iload_n dX6_refresh_61 rfl ?_
    refine x_icmp_gtN 91 dX6_refresh_62 rfl (by omega) (by omega) (fun c62 => ?_) (fun c62 => ?_)
    · exact absurd c62 (by omega)
    · refine x_aload_n dX6_refresh_65 rfl ?_
      refine x_getR dX6_refresh_66 fl_X6_22 rfl ?_
      refine x_iload_n dX6_refresh_69 rfl ?_
      refine x_aload_n dX6_refresh_70 rfl ?_
      refine x_iload_n dX6_refresh_71 rfl ?_
      refine x_v1d (N := mX6_closureFromRanks) dX6_refresh_72 ml_X6_62 nv_X6_closureFromRanks rfl rfl (kx_cfr S a.2.1 (rkV a.2.2) hA.2.2.1 ho.2.1 h4 hr9 t (by omega)) ?_
      refine x_iload_n dX6_refresh_75 rfl ?_
      refine x_icmp_neN 83 dX6_refresh_76 rfl (by omega) (by omega) (fun c76 => ?_) (fun c76 => ?_)
      · refine x_ic _ ic_0 dX6_refresh_83 ?_
        refine x_zastN dX6_refresh_84 rfl rfl (by omega) (show vp_nar .boolean (nI 0) = nI 0 by decide) ?_
        refine x_iincN dX6_refresh_85 rfl rfl ?_
        refine x_goto 60 dX6_refresh_88 rfl ?_
        refine ih (t + 1) _ (by omega) (h2.sA _ (by decide)) h3 (fun u hu => ?_) (fun u hu => ?_)
        · rw [sA_ne _ _ (by decide)]; exact h4 u hu
        · rw [sA_at]
          by_cases q : u = t
          · rw [q, upd_s, zB_f (by unfold flB; simpa using c76)]
          · rw [upd_n _ _ q]; exact h5 u (by omega)
      · refine x_ic _ ic_1 dX6_refresh_79 ?_
        refine x_goto 84 dX6_refresh_80 rfl ?_
        refine x_zastN dX6_refresh_84 rfl rfl (by omega) (show vp_nar .boolean (nI 1) = nI 1 by decide) ?_
        refine x_iincN dX6_refresh_85 rfl rfl ?_
        refine x_goto 60 dX6_refresh_88 rfl ?_
        refine ih (t + 1) _ (by omega) (h2.sA _ (by decide)) h3 (fun u hu => ?_) (fun u hu => ?_)
        · rw [sA_ne _ _ (by decide)]; exact h4 u hu
        · rw [sA_at]
          by_cases q : u = t
          · rw [q, upd_s, zB_t (by unfold flB; simpa using c76)]
          · rw [upd_n _ _ q]; exact h5 u (by omega)
set_option maxRecDepth 100000 in
set_option maxHeartbeats 4000000 in
theorem kx_rf_4 (S0 : amS) (a : Ar) (hA : Arr a.1 a.2.1 a.2.2) (ho0 : aObj S0 1 2 a) (Q : Option Value → amS → Prop) (k : Nat) (hk : k ≤ a.1) (hq : ∀ S, FO [19, 20, 24] [22, 23, 25] S0 S → S.1 19 7 = S0.1 19 7 → (∀ t, t < 2 ^ a.2.1 → S.2.1 22 t = nI (rkV a.2.2 t)) → (∀ t, t < 2 ^ a.2.1 → S.2.1 23 t = zB (flB (rkV a.2.2) a.2.1 t)) → LsX S 24 25 (ringsB a.2.2 a.2.1 (k + 1)) → X shX mX6_refresh 152 [.ref 19, .int (nI (2 ^ a.2.1 - 1)), .int (nI (k + 1)), .int (nI (2 ^ a.2.1))] [] S Q) : ∀ (e t : Nat) (S : amS), t + e = 2 ^ a.2.1 → FO [19, 20, 24] [22, 23, 25] S0 S → S.1 19 7 = S0.1 19 7 → (∀ t, t < 2 ^ a.2.1 → S.2.1 22 t = nI (rkV a.2.2 t)) → (∀ t, t < 2 ^ a.2.1 → S.2.1 23 t = zB (flB (rkV a.2.2) a.2.1 t)) → LsX S 24 25 (ringsB a.2.2 a.2.1 k ++ pfB a.2.2 a.2.1 (k + 1) t) → X shX mX6_refresh 116 [.ref 19, .int (nI (2 ^ a.2.1 - 1)), .int (nI (k + 1)), .int (nI t)] [] S Q := by
  have h512 := pow9 hA.2.2.1
  have h4 := hA.2.1
  have hpos := Nat.two_pow_pos a.2.1
  have hr9 : ∀ t, t < 2 ^ a.2.1 → rkV a.2.2 t ≤ 9 := fun t ht => Nat.le_trans (rkV_le (by omega)) (pc9_le t (by omega))
  intro e
  induction e with
  | zero =>
    intro t S h1 h2 h3 h4 h5 h6
    obtain rfl : t = 2 ^ a.2.1 := by omega
    refine x_iload_n dX6_refresh_116 rfl ?_
    refine x_iload_n dX6_refresh_117 rfl ?_
    refine x_icmp_gtN 152 dX6_refresh_118 rfl (by omega) (by omega) (fun c118 => ?_) (fun c118 => ?_)
    · exact hq S h2 h3 h4 h5 h6
    · exact absurd c118 (by omega)
  | succ e ih =>
    intro t S h1 h2 h3 h4 h5 h6
    have ho := ho0.fo h2 (by decide) (by decide)
    have hpc := pc9_le t (by omega)
    have hps := pfB_succ a.2.2 a.2.1 (k + 1) t
    refine x_iload_n dX6_refresh_116 rfl ?_
    refine x_iload_n dX6_refresh_117 rfl ?_
    refine x_icmp_gtN 152 dX6_refresh_118 rfl (by omega) (by omega) (fun c118 => ?_) (fun c118 => ?_)
    · exact absurd c118 (by omega)
    · refine x_iload_n dX6_refresh_121 rfl ?_
      refine x_s1d (N := mJ6_bitCount_0f7a4) dX6_refresh_122 ml_X6_71 ns_J6_bitCount_0f7a4 rfl (kx_bc S t (by omega)) ?_
      refine x_iload_n dX6_refresh_125 rfl ?_
      refine x_icmp_neN 146 dX6_refresh_126 rfl (by omega) (by omega) (fun c126 => ?_) (fun c126 => ?_)
      · refine x_iincN dX6_refresh_146 rfl rfl ?_
        refine x_goto 116 dX6_refresh_149 rfl ?_
        refine ih (t + 1) S (by omega) h2 h3 h4 h5 ?_
        rw [hps, if_neg (by simp; intro z; exact absurd z c126)]
        exact h6
      · refine x_loc (show _ = [Value.ref 19, .int (nI (2 ^ a.2.1 - 1)), .int (nI (pc9 t)), .int (nI t)] by rw [c126]) ?_
        refine x_aload_n dX6_refresh_129 rfl ?_
        refine x_iload_n dX6_refresh_130 rfl ?_
        refine x_iload_n dX6_refresh_131 rfl ?_
        refine x_v2d (N := mX6_isCircuit) dX6_refresh_132 ml_X6_76 nv_X6_isCircuit rfl rfl (kx_isCircuit S a.2.1 (rkV a.2.2) hA.2.2.1 ho.2.1 h4 hr9 (fun s hs => rkV_le (by omega)) t (by omega)) ?_
        refine x_if_eqB 146 dX6_refresh_135 rfl (fun c135 => ?_) (fun c135 => ?_)
        · rw [c126]
          refine x_iincN dX6_refresh_146 rfl rfl ?_
          refine x_goto 116 dX6_refresh_149 rfl ?_
          refine ih (t + 1) S (by omega) h2 h3 h4 h5 ?_
          rw [hps, if_neg (by rw [c135]; simp)]
          exact h6
        · refine x_aload_n dX6_refresh_138 rfl ?_
          refine x_getR dX6_refresh_139 fl_X6_31 rfl ?_
          refine x_iload_n dX6_refresh_142 rfl ?_
          have hpp : pfB a.2.2 a.2.1 (k + 1) (t + 1) = pfB a.2.2 a.2.1 (k + 1) t ++ [t] := by rw [hps, if_pos (by rw [c135, c126]; simp)]
          have hlt : (ringsB a.2.2 a.2.1 k ++ pfB a.2.2 a.2.1 (k + 1) t).length < 126 := by
            have := rings_pf hA k (t + 1) (by omega)
            rw [hpp, ← List.append_assoc, List.length_append] at this
            simp only [List.length_singleton] at this
            omega
          refine x_v1 (N := mX4_append) dX6_refresh_143 ml_X6_80 nv_X4_append rfl rfl (kx_app_24 S _ h6 hlt t) ?_
          rintro _ S' ⟨rfl, hl, f1⟩
          refine x_iincN dX6_refresh_146 rfl rfl ?_
          refine x_goto 116 dX6_refresh_149 rfl ?_
          rw [c126]
          refine ih (t + 1) S' (by omega) (h2.tr (f1.mono (by decide) (by decide))) (by rw [f1.1 19 (by decide)]; exact h3) (fun u hu => by rw [f1.2.1 22 (by decide)]; exact h4 u hu) (fun u hu => by rw [f1.2.1 23 (by decide)]; exact h5 u hu) ?_
          rw [hpp, ← List.append_assoc]
          exact hl
set_option maxRecDepth 100000 in
set_option maxHeartbeats 4000000 in
theorem kx_rf_3 (S0 : amS) (a : Ar) (hA : Arr a.1 a.2.1 a.2.2) (ho0 : aObj S0 1 2 a) (Q : Option Value → amS → Prop) (hq : ∀ S, FO [19, 20, 24] [22, 23, 25] S0 S → S.1 19 7 = S0.1 19 7 → laidX S a.2.1 a.2.2 → Q none S) : ∀ (e k : Nat) (S : amS) (z : Value), k + e = a.1 + 1 → FO [19, 20, 24] [22, 23, 25] S0 S → S.1 19 7 = S0.1 19 7 → (∀ t, t < 2 ^ a.2.1 → S.2.1 22 t = nI (rkV a.2.2 t)) → (∀ t, t < 2 ^ a.2.1 → S.2.1 23 t = zB (flB (rkV a.2.2) a.2.1 t)) → LsX S 24 25 (ringsB a.2.2 a.2.1 k) → X shX mX6_refresh 101 [.ref 19, .int (nI (2 ^ a.2.1 - 1)), .int (nI (k + 1)), z] [] S Q := by
  have h512 := pow9 hA.2.2.1
  have hpos := Nat.two_pow_pos a.2.1
  have ha4 := hA.2.1
  intro e
  induction e with
  | zero =>
    intro k S z h1 h2 h3 h4 h5 h6
    obtain rfl : k = a.1 + 1 := by omega
    have ho := ho0.fo h2 (by decide) (by decide)
    refine x_iload_n dX6_refresh_101 rfl ?_
    refine x_aload_n dX6_refresh_102 rfl ?_
    refine x_getR dX6_refresh_103 fl_X6_45 rfl ?_
    refine x_getIV dX6_refresh_106 fl_X6_68 rfl (ho.1) ?_
    refine x_ic _ ic_1 dX6_refresh_109 ?_
    refine x_iaddN dX6_refresh_110 ?_
    refine x_icmp_gtN 158 dX6_refresh_111 rfl (by omega) (by omega) (fun c111 => ?_) (fun c111 => ?_)
    · refine x_ret dX6_refresh_158 rfl ?_
      refine hq S h2 h3 ⟨h4, h5, ?_⟩
      rw [ringsB_stop hA 5 (by omega)]
      exact h6
    · exact absurd c111 (by omega)
  | succ e ih =>
    intro k S z h1 h2 h3 h4 h5 h6
    have ho := ho0.fo h2 (by decide) (by decide)
    refine x_iload_n dX6_refresh_101 rfl ?_
    refine x_aload_n dX6_refresh_102 rfl ?_
    refine x_getR dX6_refresh_103 fl_X6_45 rfl ?_
    refine x_getIV dX6_refresh_106 fl_X6_68 rfl (ho.1) ?_
    refine x_ic _ ic_1 dX6_refresh_109 ?_
    refine x_iaddN dX6_refresh_110 ?_
    refine x_icmp_gtN 158 dX6_refresh_111 rfl (by omega) (by omega) (fun c111 => ?_) (fun c111 => ?_)
    · exact absurd c111 (by omega)
    · refine x_ic _ ic_0 dX6_refresh_114 ?_
      refine x_istore_n dX6_refresh_115 rfl ?_
      refine kx_rf_4 S0 a hA ho0 Q k (by omega) (fun S' i1 i2 i3 i4 i5 => ?_) (2 ^ a.2.1) 0 S (by omega) h2 h3 h4 h5 (by simpa [pfB] using h6)
      refine x_iincN dX6_refresh_152 rfl rfl ?_
      refine x_goto 101 dX6_refresh_155 rfl ?_
      exact ih (k + 1) S' _ (by omega) i1 i2 i3 i4 i5
set_option maxRecDepth 100000 in
set_option maxHeartbeats 4000000 in
theorem kx_mrefresh (S : amS) (a : Ar) (hA : Arr a.1 a.2.1 a.2.2) (ho : aObj S 1 2 a) (V : Nat) (hV : S.1 1 3 = nI V) (hVb : V < 2147483648) (hsn : seenX S 19 7 V (laidX S a.2.1 a.2.2)) : X shX mX6_refresh 0 [.ref 19, .null, .null, .null] [] S (fun r S' => r = none ∧ FO [19, 20, 24] [22, 23, 25] S S' ∧ S'.1 19 7 = nI V ∧ laidX S' a.2.1 a.2.2) := by
  obtain ⟨a1, a2, a3, a4, a5, a6, a7⟩ := id hA
  obtain ⟨m1, m2, m3⟩ := id ho
  have h512 := pow9 a3
  obtain ⟨w, w1, w2, w3, w4⟩ := hsn
  have hpos := Nat.two_pow_pos a.2.1
  refine x_aload_n dX6_refresh_0 rfl ?_
  refine x_getIV dX6_refresh_1 fl_X6_41 rfl (w3) ?_
  refine x_aload_n dX6_refresh_4 rfl ?_
  refine x_getR dX6_refresh_5 fl_X6_45 rfl ?_
  refine x_getIV dX6_refresh_8 fl_X6_49 rfl (hV) ?_
  refine x_topI ?_
  refine x_icmp_neI 15 dX6_refresh_11 rfl (by omega) (by omega) (fun c11 => ?_) (fun c11 => ?_)
  · refine x_aload_n dX6_refresh_15 rfl ?_
    refine x_aload_n dX6_refresh_16 rfl ?_
    refine x_getR dX6_refresh_17 fl_X6_45 rfl ?_
    refine x_getIV dX6_refresh_20 fl_X6_49 rfl (hV) ?_
    refine x_put dX6_refresh_23 fp_X6_41 rfl rfl rfl ?_
    refine x_aload_n dX6_refresh_26 rfl ?_
    refine x_getR dX6_refresh_27 fl_X6_45 rfl ?_
    refine x_v0d (N := mX1_all) dX6_refresh_30 ml_X6_54 nv_X1_all rfl rfl (kx_all _ a.2.1 a3 m2) ?_
    refine x_istore_n dX6_refresh_33 rfl ?_
    refine x_ic _ ic_0 dX6_refresh_34 ?_
    refine x_istore_n dX6_refresh_35 rfl ?_
    have e7 : (sF S 19 (upd (S.1 19) 7 (nI V))).1 19 7 = nI V := by simp [sF, sA, va_up, upd]
    have f0 : FO [19, 20, 24] [22, 23, 25] S (sF S 19 (upd (S.1 19) 7 (nI V))) := (FO.rf _ _ S).sF _ (by simp)
    have hoT := ho.fo f0 (by decide) (by decide)
    generalize sF S 19 (upd (S.1 19) 7 (nI V)) = T at e7 f0 hoT ⊢
    refine kx_rf_1 T a hA hoT _ (fun S1 i1 i2 i3 => ?_) (2 ^ a.2.1) 0 T (by omega) (FO.rf _ _ T) rfl (fun u hu => absurd hu (Nat.not_lt_zero u))
    refine x_ic _ ic_0 dX6_refresh_58 ?_
    refine x_istore_n dX6_refresh_59 rfl ?_
    refine kx_rf_2 T a hA hoT _ (fun S2 j1 j2 j3 j4 => ?_) (2 ^ a.2.1) 0 S1 (by omega) i1 i2 i3 (fun u hu => absurd hu (Nat.not_lt_zero u))
    refine x_aload_n dX6_refresh_91 rfl ?_
    refine x_getR dX6_refresh_92 fl_X6_31 rfl ?_
    refine x_ic _ ic_0 dX6_refresh_95 ?_
    refine x_put dX6_refresh_96 fp_X6_65 rfl rfl rfl ?_
    refine x_ic _ ic_1 dX6_refresh_99 ?_
    refine x_istore_n dX6_refresh_100 rfl ?_
    refine kx_rf_3 T a hA hoT _ (fun S3 k1 k2 k3 => ⟨rfl, f0.tr k1, k2.trans e7, k3⟩) (a.1 + 1) 0 _ _ (by omega) (j1.sF _ (by decide)) ?_ j3 j4 ⟨?_, fun k c hk => ?_⟩
    · rw [sF_ne _ _ (by decide)]; exact j2
    · rw [sF_at, upd_s]; rfl
    · simp [ringsB] at hk
  · refine x_ret dX6_refresh_14 rfl ?_
    exact ⟨rfl, FO.rf _ _ S, by rw [w3, nI_i32, c11], w4 c11⟩
