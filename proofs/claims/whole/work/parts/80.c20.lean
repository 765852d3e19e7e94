/-! THE CLASS: digest -/
set_option maxRecDepth 100000 in
set_option maxHeartbeats 4000000 in
theorem kx_mixed (S : amS) (H V : Int64) : X shX mX10_mixed 0 [.long H, .null, .long V, .null] [] S (fun r S' => r = some (.long (31 * H + V)) ∧ S' = S) := by
  refine x_ldc2 cn_X10_273 dX10_mixed_0 ?_
  refine x_lload_n dX10_mixed_3 rfl ?_
  refine x_lmul dX10_mixed_4 ?_
  refine x_lload_n dX10_mixed_5 rfl ?_
  refine x_ladd dX10_mixed_6 ?_
  refine x_lret dX10_mixed_7 rfl ?_
  exact ⟨rfl, rfl⟩
set_option maxRecDepth 100000 in
set_option maxHeartbeats 4000000 in
theorem kx_dt_0 (B : Nat) (a : Ar) (hs : List Ar) (tx : List Nat) (u0 u1 u2 ck co : Int32) (hB : B < 2147483648) (Q : Option Value → amS → Prop) (S : amS) (H : Int64) (hc : xCore S B a hs tx u0 u1 u2 ck co) (hq : ∀ S', xCore S' B a hs tx u0 u1 u2 ck co → X shX mX10_digest 6 [.ref 0, .long (31 * H + (u0).toInt64), .null, .int (nI 1), .null] [] S' Q) : X shX mX10_digest 6 [.ref 0, .long H, .null, .int (nI 0), .null] [] S Q := by
  refine x_iload_n dX10_digest_6 rfl ?_
  refine x_bi _ bi_7 dX10_digest_7 ?_
  refine x_icmp_gtN 29 dX10_digest_9 rfl (by omega) (by omega) (fun c9 => ?_) (fun c9 => ?_)
  · exact absurd c9 (by omega)
  · refine x_lload_n dX10_digest_12 rfl ?_
    refine x_aload_n dX10_digest_13 rfl ?_
    refine x_iload_n dX10_digest_14 rfl ?_
    refine x_v1 (N := mX10_told) dX10_digest_15 ml_X10_251 nv_X10_told rfl rfl (kx_told_0 S B a hs tx u0 u1 u2 ck co hc) ?_
    rintro _ S' ⟨rfl, hc'⟩
    refine x_i2l dX10_digest_18 ?_
    refine x_s2d (N := mX10_mixed) dX10_digest_19 ml_X10_254 ns_X10_mixed rfl (kx_mixed S' _ _) ?_
    refine x_lstore_n dX10_digest_22 rfl ?_
    refine x_iincN dX10_digest_23 rfl rfl ?_
    refine x_goto 6 dX10_digest_26 rfl ?_
    exact hq S' hc'
set_option maxRecDepth 100000 in
set_option maxHeartbeats 4000000 in
theorem kx_dt_1 (B : Nat) (a : Ar) (hs : List Ar) (tx : List Nat) (u0 u1 u2 ck co : Int32) (hB : B < 2147483648) (Q : Option Value → amS → Prop) (S : amS) (H : Int64) (hc : xCore S B a hs tx u0 u1 u2 ck co) (hq : ∀ S', xCore S' B a hs tx u0 u1 u2 ck co → X shX mX10_digest 6 [.ref 0, .long (31 * H + (u1).toInt64), .null, .int (nI 2), .null] [] S' Q) : X shX mX10_digest 6 [.ref 0, .long H, .null, .int (nI 1), .null] [] S Q := by
  refine x_iload_n dX10_digest_6 rfl ?_
  refine x_bi _ bi_7 dX10_digest_7 ?_
  refine x_icmp_gtN 29 dX10_digest_9 rfl (by omega) (by omega) (fun c9 => ?_) (fun c9 => ?_)
  · exact absurd c9 (by omega)
  · refine x_lload_n dX10_digest_12 rfl ?_
    refine x_aload_n dX10_digest_13 rfl ?_
    refine x_iload_n dX10_digest_14 rfl ?_
    refine x_v1 (N := mX10_told) dX10_digest_15 ml_X10_251 nv_X10_told rfl rfl (kx_told_1 S B a hs tx u0 u1 u2 ck co hc) ?_
    rintro _ S' ⟨rfl, hc'⟩
    refine x_i2l dX10_digest_18 ?_
    refine x_s2d (N := mX10_mixed) dX10_digest_19 ml_X10_254 ns_X10_mixed rfl (kx_mixed S' _ _) ?_
    refine x_lstore_n dX10_digest_22 rfl ?_
    refine x_iincN dX10_digest_23 rfl rfl ?_
    refine x_goto 6 dX10_digest_26 rfl ?_
    exact hq S' hc'
set_option maxRecDepth 100000 in
set_option maxHeartbeats 4000000 in
theorem kx_dt_2 (B : Nat) (a : Ar) (hs : List Ar) (tx : List Nat) (u0 u1 u2 ck co : Int32) (hB : B < 2147483648) (Q : Option Value → amS → Prop) (S : amS) (H : Int64) (hc : xCore S B a hs tx u0 u1 u2 ck co) (hq : ∀ S', xCore S' B a hs tx u0 u1 u2 ck co → X shX mX10_digest 6 [.ref 0, .long (31 * H + (u2).toInt64), .null, .int (nI 3), .null] [] S' Q) : X shX mX10_digest 6 [.ref 0, .long H, .null, .int (nI 2), .null] [] S Q := by
  refine x_iload_n dX10_digest_6 rfl ?_
  refine x_bi _ bi_7 dX10_digest_7 ?_
  refine x_icmp_gtN 29 dX10_digest_9 rfl (by omega) (by omega) (fun c9 => ?_) (fun c9 => ?_)
  · exact absurd c9 (by omega)
  · refine x_lload_n dX10_digest_12 rfl ?_
    refine x_aload_n dX10_digest_13 rfl ?_
    refine x_iload_n dX10_digest_14 rfl ?_
    refine x_v1 (N := mX10_told) dX10_digest_15 ml_X10_251 nv_X10_told rfl rfl (kx_told_2 S B a hs tx u0 u1 u2 ck co hc) ?_
    rintro _ S' ⟨rfl, hc'⟩
    refine x_i2l dX10_digest_18 ?_
    refine x_s2d (N := mX10_mixed) dX10_digest_19 ml_X10_254 ns_X10_mixed rfl (kx_mixed S' _ _) ?_
    refine x_lstore_n dX10_digest_22 rfl ?_
    refine x_iincN dX10_digest_23 rfl rfl ?_
    refine x_goto 6 dX10_digest_26 rfl ?_
    exact hq S' hc'
set_option maxRecDepth 100000 in
set_option maxHeartbeats 4000000 in
theorem kx_dt_3 (B : Nat) (a : Ar) (hs : List Ar) (tx : List Nat) (u0 u1 u2 ck co : Int32) (hB : B < 2147483648) (Q : Option Value → amS → Prop) (S : amS) (H : Int64) (hc : xCore S B a hs tx u0 u1 u2 ck co) (hq : ∀ S', xCore S' B a hs tx u0 u1 u2 ck co → X shX mX10_digest 6 [.ref 0, .long (31 * H + (nI tx.length).toInt64), .null, .int (nI 4), .null] [] S' Q) : X shX mX10_digest 6 [.ref 0, .long H, .null, .int (nI 3), .null] [] S Q := by
  refine x_iload_n dX10_digest_6 rfl ?_
  refine x_bi _ bi_7 dX10_digest_7 ?_
  refine x_icmp_gtN 29 dX10_digest_9 rfl (by omega) (by omega) (fun c9 => ?_) (fun c9 => ?_)
  · exact absurd c9 (by omega)
  · refine x_lload_n dX10_digest_12 rfl ?_
    refine x_aload_n dX10_digest_13 rfl ?_
    refine x_iload_n dX10_digest_14 rfl ?_
    refine x_v1 (N := mX10_told) dX10_digest_15 ml_X10_251 nv_X10_told rfl rfl (kx_told_3 S B a hs tx u0 u1 u2 ck co hc) ?_
    rintro _ S' ⟨rfl, hc'⟩
    refine x_i2l dX10_digest_18 ?_
    refine x_s2d (N := mX10_mixed) dX10_digest_19 ml_X10_254 ns_X10_mixed rfl (kx_mixed S' _ _) ?_
    refine x_lstore_n dX10_digest_22 rfl ?_
    refine x_iincN dX10_digest_23 rfl rfl ?_
    refine x_goto 6 dX10_digest_26 rfl ?_
    exact hq S' hc'
set_option maxRecDepth 100000 in
set_option maxHeartbeats 4000000 in
theorem kx_dt_4 (B : Nat) (a : Ar) (hs : List Ar) (tx : List Nat) (u0 u1 u2 ck co : Int32) (hB : B < 2147483648) (Q : Option Value → amS → Prop) (S : amS) (H : Int64) (hc : xCore S B a hs tx u0 u1 u2 ck co) (hq : ∀ S', xCore S' B a hs tx u0 u1 u2 ck co → X shX mX10_digest 6 [.ref 0, .long (31 * H + (nI a.1).toInt64), .null, .int (nI 5), .null] [] S' Q) : X shX mX10_digest 6 [.ref 0, .long H, .null, .int (nI 4), .null] [] S Q := by
  refine x_iload_n dX10_digest_6 rfl ?_
  refine x_bi _ bi_7 dX10_digest_7 ?_
  refine x_icmp_gtN 29 dX10_digest_9 rfl (by omega) (by omega) (fun c9 => ?_) (fun c9 => ?_)
  · exact absurd c9 (by omega)
  · refine x_lload_n dX10_digest_12 rfl ?_
    refine x_aload_n dX10_digest_13 rfl ?_
    refine x_iload_n dX10_digest_14 rfl ?_
    refine x_v1 (N := mX10_told) dX10_digest_15 ml_X10_251 nv_X10_told rfl rfl (kx_told_4 S B a hs tx u0 u1 u2 ck co hc) ?_
    rintro _ S' ⟨rfl, hc'⟩
    refine x_i2l dX10_digest_18 ?_
    refine x_s2d (N := mX10_mixed) dX10_digest_19 ml_X10_254 ns_X10_mixed rfl (kx_mixed S' _ _) ?_
    refine x_lstore_n dX10_digest_22 rfl ?_
    refine x_iincN dX10_digest_23 rfl rfl ?_
    refine x_goto 6 dX10_digest_26 rfl ?_
    exact hq S' hc'
set_option maxRecDepth 100000 in
set_option maxHeartbeats 4000000 in
theorem kx_dt_5 (B : Nat) (a : Ar) (hs : List Ar) (tx : List Nat) (u0 u1 u2 ck co : Int32) (hB : B < 2147483648) (Q : Option Value → amS → Prop) (S : amS) (H : Int64) (hc : xCore S B a hs tx u0 u1 u2 ck co) (hq : ∀ S', xCore S' B a hs tx u0 u1 u2 ck co → X shX mX10_digest 6 [.ref 0, .long (31 * H + (nI a.2.1).toInt64), .null, .int (nI 6), .null] [] S' Q) : X shX mX10_digest 6 [.ref 0, .long H, .null, .int (nI 5), .null] [] S Q := by
  refine x_iload_n dX10_digest_6 rfl ?_
  refine x_bi _ bi_7 dX10_digest_7 ?_
  refine x_icmp_gtN 29 dX10_digest_9 rfl (by omega) (by omega) (fun c9 => ?_) (fun c9 => ?_)
  · exact absurd c9 (by omega)
  · refine x_lload_n dX10_digest_12 rfl ?_
    refine x_aload_n dX10_digest_13 rfl ?_
    refine x_iload_n dX10_digest_14 rfl ?_
    refine x_v1 (N := mX10_told) dX10_digest_15 ml_X10_251 nv_X10_told rfl rfl (kx_told_5 S B a hs tx u0 u1 u2 ck co hc) ?_
    rintro _ S' ⟨rfl, hc'⟩
    refine x_i2l dX10_digest_18 ?_
    refine x_s2d (N := mX10_mixed) dX10_digest_19 ml_X10_254 ns_X10_mixed rfl (kx_mixed S' _ _) ?_
    refine x_lstore_n dX10_digest_22 rfl ?_
    refine x_iincN dX10_digest_23 rfl rfl ?_
    refine x_goto 6 dX10_digest_26 rfl ?_
    exact hq S' hc'
set_option maxRecDepth 100000 in
set_option maxHeartbeats 4000000 in
theorem kx_dt_6 (B : Nat) (a : Ar) (hs : List Ar) (tx : List Nat) (u0 u1 u2 ck co : Int32) (hB : B < 2147483648) (Q : Option Value → amS → Prop) (S : amS) (H : Int64) (hc : xCore S B a hs tx u0 u1 u2 ck co) (hq : ∀ S', xCore S' B a hs tx u0 u1 u2 ck co → X shX mX10_digest 6 [.ref 0, .long (31 * H + (nI (rkV a.2.2 (2 ^ a.2.1 - 1))).toInt64), .null, .int (nI 7), .null] [] S' Q) : X shX mX10_digest 6 [.ref 0, .long H, .null, .int (nI 6), .null] [] S Q := by
  refine x_iload_n dX10_digest_6 rfl ?_
  refine x_bi _ bi_7 dX10_digest_7 ?_
  refine x_icmp_gtN 29 dX10_digest_9 rfl (by omega) (by omega) (fun c9 => ?_) (fun c9 => ?_)
  · exact absurd c9 (by omega)
  · refine x_lload_n dX10_digest_12 rfl ?_
    refine x_aload_n dX10_digest_13 rfl ?_
    refine x_iload_n dX10_digest_14 rfl ?_
    refine x_v1 (N := mX10_told) dX10_digest_15 ml_X10_251 nv_X10_told rfl rfl (kx_told_6 S B a hs tx u0 u1 u2 ck co hc hB) ?_
    rintro _ S' ⟨rfl, hc'⟩
    refine x_i2l dX10_digest_18 ?_
    refine x_s2d (N := mX10_mixed) dX10_digest_19 ml_X10_254 ns_X10_mixed rfl (kx_mixed S' _ _) ?_
    refine x_lstore_n dX10_digest_22 rfl ?_
    refine x_iincN dX10_digest_23 rfl rfl ?_
    refine x_goto 6 dX10_digest_26 rfl ?_
    exact hq S' hc'
set_option maxRecDepth 100000 in
set_option maxHeartbeats 4000000 in
theorem kx_dt_7 (B : Nat) (a : Ar) (hs : List Ar) (tx : List Nat) (u0 u1 u2 ck co : Int32) (hB : B < 2147483648) (Q : Option Value → amS → Prop) (S : amS) (H : Int64) (hc : xCore S B a hs tx u0 u1 u2 ck co) (hq : ∀ S', xCore S' B a hs tx u0 u1 u2 ck co → X shX mX10_digest 6 [.ref 0, .long (31 * H + (nI hs.length).toInt64), .null, .int (nI 8), .null] [] S' Q) : X shX mX10_digest 6 [.ref 0, .long H, .null, .int (nI 7), .null] [] S Q := by
  refine x_iload_n dX10_digest_6 rfl ?_
  refine x_bi _ bi_7 dX10_digest_7 ?_
  refine x_icmp_gtN 29 dX10_digest_9 rfl (by omega) (by omega) (fun c9 => ?_) (fun c9 => ?_)
  · exact absurd c9 (by omega)
  · refine x_lload_n dX10_digest_12 rfl ?_
    refine x_aload_n dX10_digest_13 rfl ?_
    refine x_iload_n dX10_digest_14 rfl ?_
    refine x_v1 (N := mX10_told) dX10_digest_15 ml_X10_251 nv_X10_told rfl rfl (kx_told_7 S B a hs tx u0 u1 u2 ck co hc) ?_
    rintro _ S' ⟨rfl, hc'⟩
    refine x_i2l dX10_digest_18 ?_
    refine x_s2d (N := mX10_mixed) dX10_digest_19 ml_X10_254 ns_X10_mixed rfl (kx_mixed S' _ _) ?_
    refine x_lstore_n dX10_digest_22 rfl ?_
    refine x_iincN dX10_digest_23 rfl rfl ?_
    refine x_goto 6 dX10_digest_26 rfl ?_
    exact hq S' hc'
set_option maxRecDepth 100000 in
set_option maxHeartbeats 4000000 in
theorem kx_dg_r (B : Nat) (a : Ar) (hs : List Ar) (tx : List Nat) (u0 u1 u2 ck co : Int32) (hB : B < 2147483648) (H : Int64) (i : Nat) (hi : i < a.2.1) (Q : Option Value → amS → Prop) (hq : ∀ S, xCore S B a hs tx u0 u1 u2 ck co → X shX mX10_digest 96 [.ref 0, .long (dgF H (dgR a i)), .null, .int (nI i), .int (nI a.1)] [] S Q) : ∀ (e j : Nat) (S : amS), j + e = a.1 → xCore S B a hs tx u0 u1 u2 ck co → X shX mX10_digest 65 [.ref 0, .long (dgF H ((List.range j).map (fun j => i32 (a.2.2 i j + (10 : Nat))))), .null, .int (nI i), .int (nI j)] [] S Q := by
  intro e
  induction e with
  | zero =>
    intro j S h1 hc
    obtain rfl : j = a.1 := by omega
    obtain ⟨⟨hA, ho⟩, hrest, hV⟩ := id hc
    obtain ⟨a1, a2, a3, a4, a5, a6, a7⟩ := id hA
    obtain ⟨m1, m2, m3⟩ := id ho
    refine x_iload dX10_digest_65 rfl ?_
    refine x_aload_n dX10_digest_67 rfl ?_
    refine x_getR dX10_digest_68 fl_X10_17 rfl ?_
    refine x_getIV dX10_digest_71 fl_X10_117 rfl (hc.1.2.1) ?_
    refine x_icmp_geN 96 dX10_digest_74 rfl (by omega) (by omega) (fun c74 => ?_) (fun c74 => ?_)
    · exact hq S hc
    · exact absurd c74 (by omega)
  | succ e ih =>
    intro j S h1 hc
    obtain ⟨⟨hA, ho⟩, hrest, hV⟩ := id hc
    obtain ⟨a1, a2, a3, a4, a5, a6, a7⟩ := id hA
    obtain ⟨m1, m2, m3⟩ := id ho
    refine x_iload dX10_digest_65 rfl ?_
    refine x_aload_n dX10_digest_67 rfl ?_
    refine x_getR dX10_digest_68 fl_X10_17 rfl ?_
    refine x_getIV dX10_digest_71 fl_X10_117 rfl (hc.1.2.1) ?_
    refine x_icmp_geN 96 dX10_digest_74 rfl (by omega) (by omega) (fun c74 => ?_) (fun c74 => ?_)
    · exact absurd c74 (by omega)
    · refine x_lload_n dX10_digest_77 rfl ?_
      refine x_aload_n dX10_digest_78 rfl ?_
      refine x_iload_n dX10_digest_79 rfl ?_
      refine x_iload dX10_digest_80 rfl ?_
      refine x_v2 (N := mX10_of) dX10_digest_82 ml_X10_261 nv_X10_of rfl rfl (kx_of_ok S B a hs tx u0 u1 u2 ck co hc i j hi (by omega)) ?_
      rintro _ S' ⟨rfl, hc'⟩
      refine x_i2l dX10_digest_85 ?_
      refine x_s2d (N := mX10_mixed) dX10_digest_86 ml_X10_254 ns_X10_mixed rfl (kx_mixed S' _ _) ?_
      refine x_lstore_n dX10_digest_89 rfl ?_
      refine x_iincN dX10_digest_90 rfl rfl ?_
      refine x_goto 65 dX10_digest_93 rfl ?_
      have h3 := ih (j + 1) S' (by omega) hc'
      rw [map_snoc, dgF_snoc] at h3
      exact h3
set_option maxRecDepth 100000 in
set_option maxHeartbeats 4000000 in
theorem kx_dg_c (B : Nat) (a : Ar) (hs : List Ar) (tx : List Nat) (u0 u1 u2 ck co : Int32) (hB : B < 2147483648) (H : Int64) (Q : Option Value → amS → Prop) (hq : ∀ S z2, xCore S B a hs tx u0 u1 u2 ck co → X shX mX10_digest 102 [.ref 0, .long (dgF H (dgC a)), .null, .int (nI a.2.1), z2] [] S Q) : ∀ (e i : Nat) (S : amS) (z2 : Value), i + e = a.2.1 → xCore S B a hs tx u0 u1 u2 ck co → X shX mX10_digest 51 [.ref 0, .long (dgF H ((List.range i).flatMap (dgR a))), .null, .int (nI i), z2] [] S Q := by
  intro e
  induction e with
  | zero =>
    intro i S z2 h1 hc
    obtain rfl : i = a.2.1 := by omega
    obtain ⟨⟨hA, ho⟩, hrest, hV⟩ := id hc
    obtain ⟨a1, a2, a3, a4, a5, a6, a7⟩ := id hA
    obtain ⟨m1, m2, m3⟩ := id ho
    refine x_iload_n dX10_digest_51 rfl ?_
    refine x_aload_n dX10_digest_52 rfl ?_
    refine x_getR dX10_digest_53 fl_X10_17 rfl ?_
    refine x_getIV dX10_digest_56 fl_X10_246 rfl (hc.1.2.2.1) ?_
    refine x_icmp_geN 102 dX10_digest_59 rfl (by omega) (by omega) (fun c59 => ?_) (fun c59 => ?_)
    · exact hq S _ hc
    · exact absurd c59 (by omega)
  | succ e ih =>
    intro i S z2 h1 hc
    obtain ⟨⟨hA, ho⟩, hrest, hV⟩ := id hc
    obtain ⟨a1, a2, a3, a4, a5, a6, a7⟩ := id hA
    obtain ⟨m1, m2, m3⟩ := id ho
    refine x_iload_n dX10_digest_51 rfl ?_
    refine x_aload_n dX10_digest_52 rfl ?_
    refine x_getR dX10_digest_53 fl_X10_17 rfl ?_
    refine x_getIV dX10_digest_56 fl_X10_246 rfl (hc.1.2.2.1) ?_
    refine x_icmp_geN 102 dX10_digest_59 rfl (by omega) (by omega) (fun c59 => ?_) (fun c59 => ?_)
    · exact absurd c59 (by omega)
    · refine x_ic _ ic_0 dX10_digest_62 ?_
      refine x_istore dX10_digest_63 rfl ?_
      refine kx_dg_r B a hs tx u0 u1 u2 ck co hB (dgF H ((List.range i).flatMap (dgR a))) i (by omega) Q (fun S2 h2 => ?_) a.1 0 S (by omega) hc
      refine x_iincN dX10_digest_96 rfl rfl ?_
      refine x_goto 51 dX10_digest_99 rfl ?_
      have h3 := ih (i + 1) S2 (.int (nI a.1)) (by omega) h2
      rw [List.range_succ, List.flatMap_append, dgF_app, List.flatMap_singleton] at h3
      exact h3
theorem kx_dg_c0 (B : Nat) (a : Ar) (hs : List Ar) (tx : List Nat) (u0 u1 u2 ck co : Int32) (hB : B < 2147483648) (H : Int64) (z2 : Value) (Q : Option Value → amS → Prop) (S : amS) (hc : xCore S B a hs tx u0 u1 u2 ck co) (hq : ∀ S z2, xCore S B a hs tx u0 u1 u2 ck co → X shX mX10_digest 102 [.ref 0, .long (dgF H (dgC a)), .null, .int (nI a.2.1), z2] [] S Q) : X shX mX10_digest 51 [.ref 0, .long H, .null, .int (nI 0), z2] [] S Q := kx_dg_c B a hs tx u0 u1 u2 ck co hB H Q hq a.2.1 0 S z2 (Nat.zero_add _) hc
set_option maxRecDepth 100000 in
set_option maxHeartbeats 4000000 in
theorem kx_dg_f (B : Nat) (a : Ar) (hs : List Ar) (tx : List Nat) (u0 u1 u2 ck co : Int32) (hB : B < 2147483648) (H : Int64) (z2 : Value) (Q : Option Value → amS → Prop) (hq : ∀ S, xCore S B a hs tx u0 u1 u2 ck co → X shX mX10_digest 127 [.ref 0, .long (dgF H ((List.range 5).map (fun k => nI (flL (rkV a.2.2) a.2.1 k).length))), .null, .int (nI 5), z2] [] S Q) : ∀ (e k : Nat) (S : amS), k + e = 5 → xCore S B a hs tx u0 u1 u2 ck co → X shX mX10_digest 104 [.ref 0, .long (dgF H ((List.range k).map (fun k => nI (flL (rkV a.2.2) a.2.1 k).length))), .null, .int (nI k), z2] [] S Q := by
  intro e
  induction e with
  | zero =>
    intro k S h1 hc
    obtain rfl : k = 5 := by omega
    refine x_iload_n dX10_digest_104 rfl ?_
    refine x_ic _ ic_4 dX10_digest_105 ?_
    refine x_icmp_gtN 127 dX10_digest_106 rfl (by omega) (by omega) (fun c106 => ?_) (fun c106 => ?_)
    · exact hq S hc
    · exact absurd c106 (by omega)
  | succ e ih =>
    intro k S h1 hc
    obtain ⟨⟨hA, ho⟩, hrest, hV⟩ := id hc
    obtain ⟨a1, a2, a3, a4, a5, a6, a7⟩ := id hA
    obtain ⟨m1, m2, m3⟩ := id ho
    have h512 := pow9 a3
    have hpos := Nat.two_pow_pos a.2.1
    refine x_iload_n dX10_digest_104 rfl ?_
    refine x_ic _ ic_4 dX10_digest_105 ?_
    refine x_icmp_gtN 127 dX10_digest_106 rfl (by omega) (by omega) (fun c106 => ?_) (fun c106 => ?_)
    · exact absurd c106 (by omega)
    · refine x_lload_n dX10_digest_109 rfl ?_
      refine x_aload_n dX10_digest_110 rfl ?_
      refine x_iload_n dX10_digest_111 rfl ?_
      refine x_ic _ ic_m1 dX10_digest_112 ?_
      refine x_v2 (N := mX10_flats) dX10_digest_113 ml_X10_264 nv_X10_flats rfl rfl (kx_flats_ok S B a hs tx u0 u1 u2 ck co hc hB k (by omega) (i32 (-1)) (by rw [i32_lt (by omega) (by omega)]; omega)) ?_
      rintro _ S' ⟨rfl, hc'⟩
      rw [lAns_cnt]
      refine x_i2l dX10_digest_116 ?_
      refine x_s2d (N := mX10_mixed) dX10_digest_117 ml_X10_254 ns_X10_mixed rfl (kx_mixed S' _ _) ?_
      refine x_lstore_n dX10_digest_120 rfl ?_
      refine x_iincN dX10_digest_121 rfl rfl ?_
      refine x_goto 104 dX10_digest_124 rfl ?_
      have h3 := ih (k + 1) S' (by omega) hc'
      rw [map_snoc, dgF_snoc] at h3
      exact h3
theorem kx_dg_f0 (B : Nat) (a : Ar) (hs : List Ar) (tx : List Nat) (u0 u1 u2 ck co : Int32) (hB : B < 2147483648) (H : Int64) (z2 : Value) (Q : Option Value → amS → Prop) (S : amS) (hc : xCore S B a hs tx u0 u1 u2 ck co) (hq : ∀ S, xCore S B a hs tx u0 u1 u2 ck co → X shX mX10_digest 127 [.ref 0, .long (dgF H ((List.range 5).map (fun k => nI (flL (rkV a.2.2) a.2.1 k).length))), .null, .int (nI 5), z2] [] S Q) : X shX mX10_digest 104 [.ref 0, .long H, .null, .int (nI 0), z2] [] S Q := kx_dg_f B a hs tx u0 u1 u2 ck co hB H z2 Q hq 5 0 S rfl hc
set_option maxRecDepth 100000 in
set_option maxHeartbeats 4000000 in
theorem kx_dg_p (B : Nat) (a : Ar) (hs : List Ar) (tx : List Nat) (u0 u1 u2 ck co : Int32) (hB : B < 2147483648) (H : Int64) (z2 : Value) (Q : Option Value → amS → Prop) (hq : ∀ S, xCore S B a hs tx u0 u1 u2 ck co → X shX mX10_digest 158 [.ref 0, .long (dgF H ((List.range 5).map (fun j => i32 (polB (rkV a.2.2) a.1 (2 ^ a.2.1 - 1) j (2 ^ a.2.1) + (1000 : Nat))))), .null, .int (nI 5), z2] [] S Q) : ∀ (e k : Nat) (S : amS), k + e = 5 → xCore S B a hs tx u0 u1 u2 ck co → X shX mX10_digest 129 [.ref 0, .long (dgF H ((List.range k).map (fun j => i32 (polB (rkV a.2.2) a.1 (2 ^ a.2.1 - 1) j (2 ^ a.2.1) + (1000 : Nat))))), .null, .int (nI k), z2] [] S Q := by
  intro e
  induction e with
  | zero =>
    intro k S h1 hc
    obtain rfl : k = 5 := by omega
    refine x_iload_n dX10_digest_129 rfl ?_
    refine x_ic _ ic_4 dX10_digest_130 ?_
    refine x_icmp_gtN 158 dX10_digest_131 rfl (by omega) (by omega) (fun c131 => ?_) (fun c131 => ?_)
    · exact hq S hc
    · exact absurd c131 (by omega)
  | succ e ih =>
    intro k S h1 hc
    obtain ⟨⟨hA, ho⟩, hrest, hV⟩ := id hc
    obtain ⟨a1, a2, a3, a4, a5, a6, a7⟩ := id hA
    obtain ⟨m1, m2, m3⟩ := id ho
    have h512 := pow9 a3
    have hpos := Nat.two_pow_pos a.2.1
    refine x_iload_n dX10_digest_129 rfl ?_
    refine x_ic _ ic_4 dX10_digest_130 ?_
    refine x_icmp_gtN 158 dX10_digest_131 rfl (by omega) (by omega) (fun c131 => ?_) (fun c131 => ?_)
    · exact absurd c131 (by omega)
    · refine x_lload_n dX10_digest_134 rfl ?_
      refine x_aload_n dX10_digest_135 rfl ?_
      refine x_aload_n dX10_digest_136 rfl ?_
      refine x_getR dX10_digest_137 fl_X10_17 rfl ?_
      refine x_v0d (N := mX1_all) dX10_digest_140 ml_X10_104 nv_X1_all rfl rfl (kx_all S a.2.1 a3 hc.1.2.2.1) ?_
      refine x_iload_n dX10_digest_143 rfl ?_
      refine x_v2 (N := mX10_polynomial) dX10_digest_144 ml_X10_267 nv_X10_polynomial rfl rfl (kx_polynomial_ok S B a hs tx u0 u1 u2 ck co hc hB (2 ^ a.2.1 - 1) (by omega) k (by omega)) ?_
      rintro _ S' ⟨rfl, hc'⟩
      rw [show 2 ^ a.2.1 - 1 + 1 = 2 ^ a.2.1 by omega]
      refine x_i2l dX10_digest_147 ?_
      refine x_s2d (N := mX10_mixed) dX10_digest_148 ml_X10_254 ns_X10_mixed rfl (kx_mixed S' _ _) ?_
      refine x_lstore_n dX10_digest_151 rfl ?_
      refine x_iincN dX10_digest_152 rfl rfl ?_
      refine x_goto 129 dX10_digest_155 rfl ?_
      have h3 := ih (k + 1) S' (by omega) hc'
      rw [map_snoc, dgF_snoc] at h3
      exact h3
theorem kx_dg_p0 (B : Nat) (a : Ar) (hs : List Ar) (tx : List Nat) (u0 u1 u2 ck co : Int32) (hB : B < 2147483648) (H : Int64) (z2 : Value) (Q : Option Value → amS → Prop) (S : amS) (hc : xCore S B a hs tx u0 u1 u2 ck co) (hq : ∀ S, xCore S B a hs tx u0 u1 u2 ck co → X shX mX10_digest 158 [.ref 0, .long (dgF H ((List.range 5).map (fun j => i32 (polB (rkV a.2.2) a.1 (2 ^ a.2.1 - 1) j (2 ^ a.2.1) + (1000 : Nat))))), .null, .int (nI 5), z2] [] S Q) : X shX mX10_digest 129 [.ref 0, .long H, .null, .int (nI 0), z2] [] S Q := kx_dg_p B a hs tx u0 u1 u2 ck co hB H z2 Q hq 5 0 S rfl hc
set_option maxRecDepth 100000 in
set_option maxHeartbeats 4000000 in
theorem kx_dg_b (B : Nat) (a : Ar) (hs : List Ar) (tx : List Nat) (u0 u1 u2 ck co : Int32) (hB : B < 2147483648) (H : Int64) (z2 : Value) (Q : Option Value → amS → Prop) (hq : ∀ S, xCore S B a hs tx u0 u1 u2 ck co → X shX mX10_digest 210 [.ref 0, .long (dgF H ((List.range 5).map (fun k => nI (baL (rkV a.2.2) (ringsB a.2.2 a.2.1 5) a.2.1 k).length))), .null, .int (nI 5), z2] [] S Q) : ∀ (e k : Nat) (S : amS), k + e = 5 → xCore S B a hs tx u0 u1 u2 ck co → X shX mX10_digest 182 [.ref 0, .long (dgF H ((List.range k).map (fun k => nI (baL (rkV a.2.2) (ringsB a.2.2 a.2.1 5) a.2.1 k).length))), .null, .int (nI k), z2] [] S Q := by
  intro e
  induction e with
  | zero =>
    intro k S h1 hc
    obtain rfl : k = 5 := by omega
    refine x_iload_n dX10_digest_182 rfl ?_
    refine x_ic _ ic_4 dX10_digest_183 ?_
    refine x_icmp_gtN 210 dX10_digest_184 rfl (by omega) (by omega) (fun c184 => ?_) (fun c184 => ?_)
    · exact hq S hc
    · exact absurd c184 (by omega)
  | succ e ih =>
    intro k S h1 hc
    obtain ⟨⟨hA, ho⟩, hrest, hV⟩ := id hc
    obtain ⟨a1, a2, a3, a4, a5, a6, a7⟩ := id hA
    obtain ⟨m1, m2, m3⟩ := id ho
    have h512 := pow9 a3
    have hpos := Nat.two_pow_pos a.2.1
    refine x_iload_n dX10_digest_182 rfl ?_
    refine x_ic _ ic_4 dX10_digest_183 ?_
    refine x_icmp_gtN 210 dX10_digest_184 rfl (by omega) (by omega) (fun c184 => ?_) (fun c184 => ?_)
    · exact absurd c184 (by omega)
    · refine x_lload_n dX10_digest_187 rfl ?_
      refine x_aload_n dX10_digest_188 rfl ?_
      refine x_getR dX10_digest_189 fl_X10_61 rfl ?_
      refine x_iload_n dX10_digest_192 rfl ?_
      refine x_v1 (N := mX0_baseSetsOfSize) dX10_digest_193 ml_X10_205 nv_X0_baseSetsOfSize rfl rfl (kx_baseSets S B a hs tx u0 u1 u2 ck co hc hB k (by omega)) ?_
      rintro _ S' ⟨rfl, hc', hl', hL⟩
      refine x_getIV dX10_digest_196 fl_X10_151 rfl (hL.1) ?_
      refine x_i2l dX10_digest_199 ?_
      refine x_s2d (N := mX10_mixed) dX10_digest_200 ml_X10_254 ns_X10_mixed rfl (kx_mixed S' _ _) ?_
      refine x_lstore_n dX10_digest_203 rfl ?_
      refine x_iincN dX10_digest_204 rfl rfl ?_
      refine x_goto 182 dX10_digest_207 rfl ?_
      have h3 := ih (k + 1) S' (by omega) hc'
      rw [map_snoc, dgF_snoc] at h3
      exact h3
theorem kx_dg_b0 (B : Nat) (a : Ar) (hs : List Ar) (tx : List Nat) (u0 u1 u2 ck co : Int32) (hB : B < 2147483648) (H : Int64) (z2 : Value) (Q : Option Value → amS → Prop) (S : amS) (hc : xCore S B a hs tx u0 u1 u2 ck co) (hq : ∀ S, xCore S B a hs tx u0 u1 u2 ck co → X shX mX10_digest 210 [.ref 0, .long (dgF H ((List.range 5).map (fun k => nI (baL (rkV a.2.2) (ringsB a.2.2 a.2.1 5) a.2.1 k).length))), .null, .int (nI 5), z2] [] S Q) : X shX mX10_digest 182 [.ref 0, .long H, .null, .int (nI 0), z2] [] S Q := kx_dg_b B a hs tx u0 u1 u2 ck co hB H z2 Q hq 5 0 S rfl hc
set_option maxRecDepth 100000 in
set_option maxHeartbeats 4000000 in
theorem kx_dg_z (B : Nat) (a : Ar) (hs : List Ar) (tx : List Nat) (u0 u1 u2 ck co : Int32) (hB : B < 2147483648) (H : Int64) (S : amS) (hc : xCore S B a hs tx u0 u1 u2 ck co) : X shX mX10_digest 29 [.ref 0, .long H, .null, .int (nI 8), .null] [] S (fun r S' => r = some (.long (dgF (31 * (31 * H + ck.toInt64) + co.toInt64) (dgC a ++ dgL a))) ∧ xCore S' B a hs tx u0 u1 u2 ck co) := by
  refine x_lload_n dX10_digest_29 rfl ?_
  refine x_aload_n dX10_digest_30 rfl ?_
  refine x_ic _ ic_0 dX10_digest_31 ?_
  refine x_v1 (N := mX10_why) dX10_digest_32 ml_X10_258 nv_X10_why rfl rfl (kx_why_0 S B a hs tx u0 u1 u2 ck co hc) ?_
  rintro _ S1 ⟨rfl, hc1⟩
  refine x_i2l dX10_digest_35 ?_
  refine x_s2d (N := mX10_mixed) dX10_digest_36 ml_X10_254 ns_X10_mixed rfl (kx_mixed S1 _ _) ?_
  refine x_aload_n dX10_digest_39 rfl ?_
  refine x_ic _ ic_1 dX10_digest_40 ?_
  refine x_v1 (N := mX10_why) dX10_digest_41 ml_X10_258 nv_X10_why rfl rfl (kx_why_1 S1 B a hs tx u0 u1 u2 ck co hc1) ?_
  rintro _ S2 ⟨rfl, hc2⟩
  refine x_i2l dX10_digest_44 ?_
  refine x_s2d (N := mX10_mixed) dX10_digest_45 ml_X10_254 ns_X10_mixed rfl (kx_mixed S2 _ _) ?_
  refine x_lstore_n dX10_digest_48 rfl ?_
  refine x_ic _ ic_0 dX10_digest_49 ?_
  refine x_istore_n dX10_digest_50 rfl ?_
  refine kx_dg_c0 B a hs tx u0 u1 u2 ck co hB _ _ _ S2 hc2 (fun S3 z2 hc3 => ?_)
  refine x_ic _ ic_0 dX10_digest_102 ?_
  refine x_istore_n dX10_digest_103 rfl ?_
  refine kx_dg_f0 B a hs tx u0 u1 u2 ck co hB _ _ _ S3 hc3 (fun S4 hc4 => ?_)
  refine x_ic _ ic_0 dX10_digest_127 ?_
  refine x_istore_n dX10_digest_128 rfl ?_
  refine kx_dg_p0 B a hs tx u0 u1 u2 ck co hB _ _ _ S4 hc4 (fun S5 hc5 => ?_)
  refine x_lload_n dX10_digest_158 rfl ?_
  refine x_aload_n dX10_digest_159 rfl ?_
  refine x_ic _ ic_m1 dX10_digest_160 ?_
  refine x_v1 (N := mX10_rings) dX10_digest_161 ml_X10_270 nv_X10_rings rfl rfl (kx_rings_ok S5 B a hs tx u0 u1 u2 ck co hc5 hB (i32 (-1)) (by rw [i32_lt (by omega) (by omega)]; omega)) ?_
  rintro _ S6 ⟨rfl, hc6⟩
  rw [lAns_cnt]
  refine x_i2l dX10_digest_164 ?_
  refine x_s2d (N := mX10_mixed) dX10_digest_165 ml_X10_254 ns_X10_mixed rfl (kx_mixed S6 _ _) ?_
  refine x_aload_n dX10_digest_168 rfl ?_
  refine x_getR dX10_digest_169 fl_X10_21 rfl ?_
  refine x_v0 (N := mX6_countRegions) dX10_digest_172 ml_X10_93 nv_X6_countRegions rfl rfl (kx_countRegions S6 B a hs tx u0 u1 u2 ck co hc6 hB) ?_
  rintro _ S7 ⟨rfl, hc7, hl7⟩
  rw [zas hc7.1.1]
  refine x_i2l dX10_digest_175 ?_
  refine x_s2d (N := mX10_mixed) dX10_digest_176 ml_X10_254 ns_X10_mixed rfl (kx_mixed S7 _ _) ?_
  refine x_lstore_n dX10_digest_179 rfl ?_
  refine x_ic _ ic_0 dX10_digest_180 ?_
  refine x_istore_n dX10_digest_181 rfl ?_
  refine kx_dg_b0 B a hs tx u0 u1 u2 ck co hB _ _ _ S7 hc7 (fun S8 hc8 => ?_)
  refine x_lload_n dX10_digest_210 rfl ?_
  refine x_lret dX10_digest_211 rfl ?_
  refine ⟨?_, hc8⟩
  rw [dgF_app, dgL, dgF_app, dgF_app, dgF_app]
  rfl
set_option maxRecDepth 100000 in
set_option maxHeartbeats 4000000 in
theorem kx_digest (S : amS) (B : Nat) (a : Ar) (hs : List Ar) (tx : List Nat) (u0 u1 u2 ck co : Int32) (hc : xCore S B a hs tx u0 u1 u2 ck co) (hB : B < 2147483648) : X shX mX10_digest 0 [.ref 0, .null, .null, .null, .null] [] S (fun r S' => r = some (.long (dgA a hs tx u0 u1 u2 ck co)) ∧ xCore S' B a hs tx u0 u1 u2 ck co) := by
  refine x_ldc2 cn_X10_249 dX10_digest_0 ?_
  refine x_lstore_n dX10_digest_3 rfl ?_
  refine x_ic _ ic_0 dX10_digest_4 ?_
  refine x_istore_n dX10_digest_5 rfl ?_
  refine kx_dt_0 B a hs tx u0 u1 u2 ck co hB _ S _ hc (fun S1 h1 => ?_)
  refine kx_dt_1 B a hs tx u0 u1 u2 ck co hB _ S1 _ h1 (fun S2 h2 => ?_)
  refine kx_dt_2 B a hs tx u0 u1 u2 ck co hB _ S2 _ h2 (fun S3 h3 => ?_)
  refine kx_dt_3 B a hs tx u0 u1 u2 ck co hB _ S3 _ h3 (fun S4 h4 => ?_)
  refine kx_dt_4 B a hs tx u0 u1 u2 ck co hB _ S4 _ h4 (fun S5 h5 => ?_)
  refine kx_dt_5 B a hs tx u0 u1 u2 ck co hB _ S5 _ h5 (fun S6 h6 => ?_)
  refine kx_dt_6 B a hs tx u0 u1 u2 ck co hB _ S6 _ h6 (fun S7 h7 => ?_)
  refine kx_dt_7 B a hs tx u0 u1 u2 ck co hB _ S7 _ h7 (fun S8 h8 => ?_)
  refine x_iload_n dX10_digest_6 rfl ?_
  refine x_bi _ bi_7 dX10_digest_7 ?_
  refine x_icmp_gtN 29 dX10_digest_9 rfl (by omega) (by omega) (fun c9 => ?_) (fun c9 => ?_)
  · refine x_mono ?_ (kx_dg_z B a hs tx u0 u1 u2 ck co hB _ S8 h8)
    rintro _ S9 ⟨rfl, h9⟩
    refine ⟨?_, h9⟩
    rw [dgA, dgF_app 2351]
    rfl
  · exact absurd c9 (by omega)
