/-! THE REFERENCE: value, within, rings, factor, why, told, type, clear -/
/-- the value at t, from power 4 down to k -/
def valB (r : Nat → Nat) (d N : Nat) (t : Int32) : Nat → Int32
  | 0 => nI 0
  | k + 1 => valB r d N t k * t + i32 (polB r d (2 ^ N - 1) (4 - k) (2 ^ N))
set_option maxRecDepth 100000 in
set_option maxHeartbeats 4000000 in
theorem k_value_l (t : Int32) : ∀ (k : Nat) (S : amS) (a : Ar) (hs : List Ar) (tx : List Nat) (u0 u1 u2 ck co : Int32) (hc : mCore S a hs tx u0 u1 u2 ck co), k ≤ 5 → X shM mX11_value 22 [.ref 0, .int t, .int (valB (rkV a.2.2) a.1 a.2.1 t (5 - k)), .int (i32 ((k : Int) - 1))] [] S (fun r S' => r = some (.int (valB (rkV a.2.2) a.1 a.2.1 t 5 + 100000)) ∧ mCore S' a hs tx u0 u1 u2 ck co) := by
  intro k
  induction k with
  | zero =>
    intro S a hs tx u0 u1 u2 ck co hc hk
    refine x_iload_n dX11_value_22 rfl ?_
    refine x_if_ltI 46 dX11_value_23 rfl (by omega) (fun c23 => ?_) (fun c23 => ?_)
    · refine x_iload_n dX11_value_46 rfl ?_
      refine x_ldc cn_X11_208 dX11_value_47 ?_
      refine x_iadd dX11_value_49 ?_
      refine x_iretI dX11_value_50 rfl ?_
      exact ⟨rfl, hc⟩
    · exact absurd c23 (by omega)
  | succ k ih =>
    intro S a hs tx u0 u1 u2 ck co hc hk
    have hA := hc.1.1
    have hm := hc.1.2
    obtain ⟨a1, a2, a3, a4, a5, a6, a7⟩ := id hA
    have hpos := Nat.two_pow_pos a.2.1
    refine x_iload_n dX11_value_22 rfl ?_
    refine x_if_ltI 46 dX11_value_23 rfl (by omega) (fun c23 => ?_) (fun c23 => ?_)
    · exact absurd c23 (by omega)
    · refine x_iload_n dX11_value_26 rfl ?_
      refine x_iload_n dX11_value_27 rfl ?_
      refine x_imul dX11_value_28 ?_
      refine x_aload_n dX11_value_29 rfl ?_
      refine x_aload_n dX11_value_30 rfl ?_
      refine x_v0d (N := mX11_all) dX11_value_31 ml_X11_109 nv_X11_all rfl rfl (k_all S a.2.1 a3 hm.2.1) ?_
      refine x_iload_n dX11_value_34 rfl ?_
      refine x_top (show i32 (((k + 1 : Nat) : Int) - 1) = nI k from by rw [nI_i32]; congr 1; omega) ?_
      refine x_v2 (N := mX11_polynomialOf) dX11_value_35 ml_X11_205 nv_X11_polynomialOf rfl rfl (k_polynomialOf S a hs tx u0 u1 u2 ck co hc (2 ^ a.2.1 - 1) k (by omega) (by omega)) ?_
      rintro _ S' ⟨rfl, hc'⟩
      refine x_iadd dX11_value_38 ?_
      rw [show 2 ^ a.2.1 - 1 + 1 = 2 ^ a.2.1 by omega, show valB (rkV a.2.2) a.1 a.2.1 t (5 - (k + 1)) * t + i32 (polB (rkV a.2.2) a.1 (2 ^ a.2.1 - 1) k (2 ^ a.2.1)) = valB (rkV a.2.2) a.1 a.2.1 t (5 - k) from by rw [show 5 - k = (5 - (k + 1)) + 1 by omega, valB, show 4 - (5 - (k + 1)) = k by omega]]
      refine x_istore_n dX11_value_39 rfl ?_
      refine x_iinc dX11_value_40 rfl rfl ?_
      refine x_goto 22 dX11_value_43 rfl ?_
      rw [show i32 (((k + 1 : Nat) : Int) - 1) + Int32.ofInt (-1) = i32 ((k : Int) - 1) from by rw [show Int32.ofInt (-1) = i32 (-1) from rfl, i32_add]; congr 1; omega]
      exact ih S' a hs tx u0 u1 u2 ck co hc' (by omega)
set_option maxRecDepth 100000 in
set_option maxHeartbeats 4000000 in
theorem k_value_ok (S : amS) (a : Ar) (hs : List Ar) (tx : List Nat) (u0 u1 u2 ck co : Int32) (hc : mCore S a hs tx u0 u1 u2 ck co) (x : Int32) (hx : decide (i32 (-9) ≤ x ∧ x ≤ nI 9) = true) : X shM mX11_value 0 [.ref 0, .int x, .null, .null] [] S (fun r S' => r = some (.int (valB (rkV a.2.2) a.1 a.2.1 x 5 + 100000)) ∧ mCore S' a hs tx u0 u1 u2 ck co) := by
  have hA := hc.1.1
  have hm := hc.1.2
  obtain ⟨a1, a2, a3, a4, a5, a6, a7⟩ := id hA
  refine x_iload_n dX11_value_0 rfl ?_
  refine x_bi _ bi_m9 dX11_value_1 ?_
  refine x_bi _ bi_9 dX11_value_3 ?_
  refine x_s3d (N := mX11_in) dX11_value_5 ml_X11_113 ns_X11_in rfl (k_in S _ _ _) ?_
  refine x_if_neB 18 dX11_value_8 rfl (fun c8 => ?_) (fun c8 => ?_)
  · refine x_ic _ ic_0 dX11_value_18 ?_
    refine x_istore_n dX11_value_19 rfl ?_
    refine x_ic _ ic_4 dX11_value_20 ?_
    refine x_istore_n dX11_value_21 rfl ?_
    exact k_value_l x 5 S a hs tx u0 u1 u2 ck co hc (by omega)
  · rw [hx] at c8; cases c8
set_option maxRecDepth 100000 in
set_option maxHeartbeats 4000000 in
theorem k_value_bad (S : amS) (a : Ar) (hs : List Ar) (tx : List Nat) (u0 u1 u2 ck co : Int32) (hc : mCore S a hs tx u0 u1 u2 ck co) (x : Int32) (hx : ¬ decide (i32 (-9) ≤ x ∧ x ≤ nI 9) = true) : X shM mX11_value 0 [.ref 0, .int x, .null, .null] [] S (fun r S' => r = some (.int (i32 (-2))) ∧ mCore S' a hs tx (u0 + nI 1) u1 u2 ck co) := by
  have hA := hc.1.1
  have hm := hc.1.2
  obtain ⟨a1, a2, a3, a4, a5, a6, a7⟩ := id hA
  refine x_iload_n dX11_value_0 rfl ?_
  refine x_bi _ bi_m9 dX11_value_1 ?_
  refine x_bi _ bi_9 dX11_value_3 ?_
  refine x_s3d (N := mX11_in) dX11_value_5 ml_X11_113 ns_X11_in rfl (k_in S _ _ _) ?_
  refine x_if_neB 18 dX11_value_8 rfl (fun c8 => ?_) (fun c8 => ?_)
  · exact absurd c8 hx
  · refine x_aload_n dX11_value_11 rfl ?_
    refine x_bi _ bi_m2 dX11_value_12 ?_
    refine x_v1 (N := mX11_refuses) dX11_value_14 ml_X11_89 nv_X11_refuses rfl rfl (k_bad S a hs tx u0 u1 u2 ck co hc) ?_
    rintro _ S' ⟨rfl, hc'⟩
    refine x_iretI dX11_value_17 rfl ?_
    exact ⟨rfl, hc'⟩
set_option maxRecDepth 100000 in
set_option maxHeartbeats 4000000 in
theorem k_within_ok (S : amS) (a : Ar) (hs : List Ar) (tx : List Nat) (u0 u1 u2 ck co : Int32) (hc : mCore S a hs tx u0 u1 u2 ck co) (i j : Nat) (hi : i < a.2.1) (hj : j < 4) : X shM mX11_within 0 [.ref 0, .int (nI i), .int (nI j)] [] S (fun r S' => r = some (.int (i32 (polB (rkV a.2.2) a.1 (less (2 ^ a.2.1 - 1) i) j (less (2 ^ a.2.1 - 1) i + 1) - polB (rkV a.2.2) a.1 (2 ^ a.2.1 - 1) j (2 ^ a.2.1) + (1000 : Nat)))) ∧ mCore S' a hs tx u0 u1 u2 ck co) := by
  have hA := hc.1.1
  have hm := hc.1.2
  obtain ⟨a1, a2, a3, a4, a5, a6, a7⟩ := id hA
  have h512 := pow9 a3
  have hr9 : ∀ t, t < 2 ^ a.2.1 → rkV a.2.2 t ≤ 9 := fun t ht => Nat.le_trans (rkV_le (by omega)) (pc9_le t (by omega))
  have hpos := Nat.two_pow_pos a.2.1
  refine x_aload_n dX11_within_0 rfl ?_
  refine x_iload_n dX11_within_1 rfl ?_
  refine x_v1d (N := mX11_isPlane) dX11_within_2 ml_X11_151 nv_X11_isPlane rfl rfl (k_isPlane S a.2.1 a3 hm.2.1 _) ?_
  refine x_if_eqB 17 dX11_within_5 rfl (fun c5 => ?_) (fun c5 => ?_)
  · exact absurd (((in_N (nI i) (n := a.2.1) (by omega)).mpr (InR_in hi)).symm.trans c5) (by decide)
  · refine x_iload_n dX11_within_8 rfl ?_
    refine x_ic _ ic_0 dX11_within_9 ?_
    refine x_ic _ ic_3 dX11_within_10 ?_
    refine x_s3d (N := mX11_in) dX11_within_11 ml_X11_113 ns_X11_in rfl (k_in S _ _ _) ?_
    refine x_if_neB 24 dX11_within_14 rfl (fun c14 => ?_) (fun c14 => ?_)
    · refine x_aload_n dX11_within_24 rfl ?_
      refine x_aload_n dX11_within_25 rfl ?_
      refine x_v0d (N := mX11_all) dX11_within_26 ml_X11_109 nv_X11_all rfl rfl (k_all S a.2.1 a3 hm.2.1) ?_
      refine x_ic _ ic_1 dX11_within_29 ?_
      refine x_iload_n dX11_within_30 rfl ?_
      refine x_ishl1 dX11_within_31 (by omega) ?_
      refine x_ic _ ic_m1 dX11_within_32 ?_
      refine x_ixor dX11_within_33 ?_
      refine x_iandNX dX11_within_34 ?_
      refine x_iload_n dX11_within_35 rfl ?_
      refine x_v2 (N := mX11_polynomialOf) dX11_within_36 ml_X11_205 nv_X11_polynomialOf rfl rfl (k_polynomialOf S a hs tx u0 u1 u2 ck co hc (less (2 ^ a.2.1 - 1) i) j (less_lt (by omega)) (by omega)) ?_
      rintro _ S' ⟨rfl, hc'⟩
      refine x_aload_n dX11_within_39 rfl ?_
      refine x_aload_n dX11_within_40 rfl ?_
      refine x_v0d (N := mX11_all) dX11_within_41 ml_X11_109 nv_X11_all rfl rfl (k_all S' a.2.1 a3 hc'.1.2.2.1) ?_
      refine x_iload_n dX11_within_44 rfl ?_
      refine x_v2 (N := mX11_polynomialOf) dX11_within_45 ml_X11_205 nv_X11_polynomialOf rfl rfl (k_polynomialOf S' a hs tx u0 u1 u2 ck co hc' (2 ^ a.2.1 - 1) j (by omega) (by omega)) ?_
      rintro _ S'' ⟨rfl, hc''⟩
      rw [show 2 ^ a.2.1 - 1 + 1 = 2 ^ a.2.1 by omega]
      refine x_isubI dX11_within_48 ?_
      refine x_si _ si_1000 dX11_within_49 ?_
      refine x_iaddIN dX11_within_52 ?_
      refine x_iretI dX11_within_53 rfl ?_
      exact ⟨rfl, hc''⟩
    · rw [Bool.eq_false_iff, ne_eq, in_R _ (by omega)] at c14
      exact absurd (InR_in hj) c14
set_option maxRecDepth 100000 in
set_option maxHeartbeats 4000000 in
theorem k_within_bad (S : amS) (a : Ar) (hs : List Ar) (tx : List Nat) (u0 u1 u2 ck co : Int32) (hc : mCore S a hs tx u0 u1 u2 ck co) (x y : Int32) (hxy : ¬ (InR x a.2.1 ∧ InR y 4)) : X shM mX11_within 0 [.ref 0, .int x, .int y] [] S (fun r S' => r = some (.int (i32 (-2))) ∧ mCore S' a hs tx (u0 + nI 1) u1 u2 ck co) := by
  have hA := hc.1.1
  have hm := hc.1.2
  obtain ⟨a1, a2, a3, a4, a5, a6, a7⟩ := id hA
  have h512 := pow9 a3
  have hr9 : ∀ t, t < 2 ^ a.2.1 → rkV a.2.2 t ≤ 9 := fun t ht => Nat.le_trans (rkV_le (by omega)) (pc9_le t (by omega))
  refine x_aload_n dX11_within_0 rfl ?_
  refine x_iload_n dX11_within_1 rfl ?_
  refine x_v1d (N := mX11_isPlane) dX11_within_2 ml_X11_151 nv_X11_isPlane rfl rfl (k_isPlane S a.2.1 a3 hm.2.1 _) ?_
  refine x_if_eqB 17 dX11_within_5 rfl (fun c5 => ?_) (fun c5 => ?_)
  · refine x_aload_n dX11_within_17 rfl ?_
    refine x_bi _ bi_m2 dX11_within_18 ?_
    refine x_v1 (N := mX11_refuses) dX11_within_20 ml_X11_89 nv_X11_refuses rfl rfl (k_bad S a hs tx u0 u1 u2 ck co hc) ?_
    rintro _ S' ⟨rfl, hc'⟩
    refine x_iretI dX11_within_23 rfl ?_
    exact ⟨rfl, hc'⟩
  · refine x_iload_n dX11_within_8 rfl ?_
    refine x_ic _ ic_0 dX11_within_9 ?_
    refine x_ic _ ic_3 dX11_within_10 ?_
    refine x_s3d (N := mX11_in) dX11_within_11 ml_X11_113 ns_X11_in rfl (k_in S _ _ _) ?_
    refine x_if_neB 24 dX11_within_14 rfl (fun c14 => ?_) (fun c14 => ?_)
    · rw [in_R _ (by omega)] at c14
      exact absurd ⟨(in_N _ (by omega)).mp c5, c14⟩ hxy
    · refine x_aload_n dX11_within_17 rfl ?_
      refine x_bi _ bi_m2 dX11_within_18 ?_
      refine x_v1 (N := mX11_refuses) dX11_within_20 ml_X11_89 nv_X11_refuses rfl rfl (k_bad S a hs tx u0 u1 u2 ck co hc) ?_
      rintro _ S' ⟨rfl, hc'⟩
      refine x_iretI dX11_within_23 rfl ?_
      exact ⟨rfl, hc'⟩
set_option maxRecDepth 100000 in
set_option maxHeartbeats 4000000 in
theorem k_rings_bad (S : amS) (a : Ar) (hs : List Ar) (tx : List Nat) (u0 u1 u2 ck co : Int32) (hc : mCore S a hs tx u0 u1 u2 ck co) (x : Int32) (hx : x < i32 (-1)) : X shM mX11_rings 0 [.ref 0, .int x] [] S (fun r S' => r = some (.int (i32 (-2))) ∧ mCore S' a hs tx (u0 + nI 1) u1 u2 ck co) := by
  have hA := hc.1.1
  have hm := hc.1.2
  obtain ⟨a1, a2, a3, a4, a5, a6, a7⟩ := id hA
  refine x_iload_n dX11_rings_0 rfl ?_
  refine x_ic _ ic_m1 dX11_rings_1 ?_
  refine x_icmp_ge 12 dX11_rings_2 rfl (fun c2 => ?_) (fun c2 => ?_)
  · exact absurd hx (Int32.not_lt.mpr c2)
  · refine x_aload_n dX11_rings_5 rfl ?_
    refine x_bi _ bi_m2 dX11_rings_6 ?_
    refine x_v1 (N := mX11_refuses) dX11_rings_8 ml_X11_89 nv_X11_refuses rfl rfl (k_bad S a hs tx u0 u1 u2 ck co hc) ?_
    rintro _ S' ⟨rfl, hc'⟩
    refine x_iretI dX11_rings_11 rfl ?_
    exact ⟨rfl, hc'⟩
set_option maxRecDepth 100000 in
set_option maxHeartbeats 4000000 in
theorem k_rings_cnt (S : amS) (a : Ar) (hs : List Ar) (tx : List Nat) (u0 u1 u2 ck co : Int32) (hc : mCore S a hs tx u0 u1 u2 ck co) : X shM mX11_rings 0 [.ref 0, .int (i32 (-1))] [] S (fun r S' => r = some (.int (lAns (ringsB a.2.2 a.2.1 5) (i32 (-1)))) ∧ mCore S' a hs tx u0 u1 u2 ck co) := by
  have hA := hc.1.1
  have hm := hc.1.2
  obtain ⟨a1, a2, a3, a4, a5, a6, a7⟩ := id hA
  refine x_iload_n dX11_rings_0 rfl ?_
  refine x_ic _ ic_m1 dX11_rings_1 ?_
  refine x_icmp_geI 12 dX11_rings_2 rfl (by omega) (by omega) (fun c2 => ?_) (fun c2 => ?_)
  · refine x_aload_n dX11_rings_12 rfl ?_
    refine x_v0 (N := mX11_lay) dX11_rings_13 ml_X11_187 nv_X11_lay rfl rfl (k_layq S a hs tx u0 u1 u2 ck co hc) ?_
    rintro _ S' ⟨rfl, hc', hl, hf⟩
    refine x_iload_n dX11_rings_16 rfl ?_
    refine x_ic _ ic_m1 dX11_rings_17 ?_
    refine x_icmp_neI 28 dX11_rings_18 rfl (by omega) (by omega) (fun c18 => ?_) (fun c18 => ?_)
    · exact absurd rfl c18
    · refine x_aload_n dX11_rings_21 rfl ?_
      refine x_getIV dX11_rings_22 fl_X11_120 rfl (hl.2.1) ?_
      refine x_goto 47 dX11_rings_25 rfl ?_
      refine x_iretI dX11_rings_47 rfl ?_
      exact ⟨by rw [lAns_cnt], hc'⟩
  · omega
set_option maxRecDepth 100000 in
set_option maxHeartbeats 4000000 in
theorem k_rings_at (S : amS) (a : Ar) (hs : List Ar) (tx : List Nat) (u0 u1 u2 ck co : Int32) (hc : mCore S a hs tx u0 u1 u2 ck co) (k : Nat) (hk : k < 2 ^ 31) : X shM mX11_rings 0 [.ref 0, .int (nI k)] [] S (fun r S' => r = some (.int (lAns (ringsB a.2.2 a.2.1 5) (nI k))) ∧ mCore S' a hs tx u0 u1 u2 ck co) := by
  have hA := hc.1.1
  have hm := hc.1.2
  obtain ⟨a1, a2, a3, a4, a5, a6, a7⟩ := id hA
  refine x_iload_n dX11_rings_0 rfl ?_
  refine x_ic _ ic_m1 dX11_rings_1 ?_
  refine x_topI2 ?_
  refine x_icmp_geI 12 dX11_rings_2 rfl (by omega) (by omega) (fun c2 => ?_) (fun c2 => ?_)
  · refine x_aload_n dX11_rings_12 rfl ?_
    refine x_v0 (N := mX11_lay) dX11_rings_13 ml_X11_187 nv_X11_lay rfl rfl (k_layq S a hs tx u0 u1 u2 ck co hc) ?_
    rintro _ S' ⟨rfl, hc', hl, hf⟩
    refine x_iload_n dX11_rings_16 rfl ?_
    refine x_ic _ ic_m1 dX11_rings_17 ?_
    refine x_topI2 ?_
    refine x_icmp_neI 28 dX11_rings_18 rfl (by omega) (by omega) (fun c18 => ?_) (fun c18 => ?_)
    · refine x_iload_n dX11_rings_28 rfl ?_
      refine x_aload_n dX11_rings_29 rfl ?_
      refine x_getIV dX11_rings_30 fl_X11_120 rfl (hl.2.1) ?_
      have hlen := ringsB_le a.2.2 a3 4 (2 ^ a.2.1) (by omega) (Nat.le_refl _)
      have hlen2 : (ringsB a.2.2 a.2.1 5).length ≤ 381 := hlen
      refine x_icmp_geN 45 dX11_rings_33 rfl (by omega) (by omega) (fun c33 => ?_) (fun c33 => ?_)
      · refine x_bi _ bi_m5 dX11_rings_45 ?_
        refine x_iretI dX11_rings_47 rfl ?_
        exact ⟨by rw [lAns, if_neg (nI_m1 hk), nI_toInt hk, Int.toNat_natCast, List.getElem?_eq_none (by omega)], hc'⟩
      · have he : (ringsB a.2.2 a.2.1 5)[k]? = some ((ringsB a.2.2 a.2.1 5)[k]) := by simp [c33]
        refine x_aload_n dX11_rings_36 rfl ?_
        refine x_getR dX11_rings_37 fl_X11_36 rfl ?_
        refine x_iload_n dX11_rings_40 rfl ?_
        refine x_ialdN dX11_rings_41 rfl rfl (by omega) ((hl.2.2 k _ he).1) ?_
        refine x_goto 47 dX11_rings_42 rfl ?_
        refine x_iretI dX11_rings_47 rfl ?_
        exact ⟨by rw [lAns_at he hk], hc'⟩
    · omega
  · omega
set_option maxRecDepth 100000 in
set_option maxHeartbeats 4000000 in
theorem k_factor_bad (S : amS) (a : Ar) (hs : List Ar) (tx : List Nat) (u0 u1 u2 ck co : Int32) (hc : mCore S a hs tx u0 u1 u2 ck co) (x y : Int32) (hxy : ¬ (¬ x < 0 ∧ InR y a.2.1)) : X shM mX11_factor 0 [.ref 0, .int x, .int y] [] S (fun r S' => r = some (.int (i32 (-2))) ∧ mCore S' a hs tx (u0 + nI 1) u1 u2 ck co) := by
  have hA := hc.1.1
  have hm := hc.1.2
  obtain ⟨a1, a2, a3, a4, a5, a6, a7⟩ := id hA
  have h512 := pow9 a3
  have hr9 : ∀ t, t < 2 ^ a.2.1 → rkV a.2.2 t ≤ 9 := fun t ht => Nat.le_trans (rkV_le (by omega)) (pc9_le t (by omega))
  refine x_iload_n dX11_factor_0 rfl ?_
  refine x_if_lt 12 dX11_factor_1 rfl (fun c1 => ?_) (fun c1 => ?_)
  · refine x_aload_n dX11_factor_12 rfl ?_
    refine x_bi _ bi_m2 dX11_factor_13 ?_
    refine x_v1 (N := mX11_refuses) dX11_factor_15 ml_X11_89 nv_X11_refuses rfl rfl (k_bad S a hs tx u0 u1 u2 ck co hc) ?_
    rintro _ S' ⟨rfl, hc'⟩
    refine x_iretI dX11_factor_18 rfl ?_
    exact ⟨rfl, hc'⟩
  · refine x_aload_n dX11_factor_4 rfl ?_
    refine x_iload_n dX11_factor_5 rfl ?_
    refine x_v1d (N := mX11_isPlane) dX11_factor_6 ml_X11_151 nv_X11_isPlane rfl rfl (k_isPlane S a.2.1 a3 hm.2.1 _) ?_
    refine x_if_neB 19 dX11_factor_9 rfl (fun c9 => ?_) (fun c9 => ?_)
    · exact absurd ⟨c1, (in_N _ (by omega)).mp c9⟩ hxy
    · refine x_aload_n dX11_factor_12 rfl ?_
      refine x_bi _ bi_m2 dX11_factor_13 ?_
      refine x_v1 (N := mX11_refuses) dX11_factor_15 ml_X11_89 nv_X11_refuses rfl rfl (k_bad S a hs tx u0 u1 u2 ck co hc) ?_
      rintro _ S' ⟨rfl, hc'⟩
      refine x_iretI dX11_factor_18 rfl ?_
      exact ⟨rfl, hc'⟩
set_option maxRecDepth 100000 in
set_option maxHeartbeats 4000000 in
theorem k_factor_no (S : amS) (a : Ar) (hs : List Ar) (tx : List Nat) (u0 u1 u2 ck co : Int32) (hc : mCore S a hs tx u0 u1 u2 ck co) (k i : Nat) (hk : k < 2 ^ 31) (hi : i < a.2.1) (hkl : (ringsB a.2.2 a.2.1 5).length ≤ k) : X shM mX11_factor 0 [.ref 0, .int (nI k), .int (nI i)] [] S (fun r S' => r = some (.int (i32 (-3))) ∧ mCore S' a hs tx u0 (u1 + nI 1) u2 ck co) := by
  have hA := hc.1.1
  have hm := hc.1.2
  obtain ⟨a1, a2, a3, a4, a5, a6, a7⟩ := id hA
  have h512 := pow9 a3
  have hr9 : ∀ t, t < 2 ^ a.2.1 → rkV a.2.2 t ≤ 9 := fun t ht => Nat.le_trans (rkV_le (by omega)) (pc9_le t (by omega))
  refine x_iload_n dX11_factor_0 rfl ?_
  refine x_topI ?_
  refine x_if_ltI 12 dX11_factor_1 rfl (by omega) (fun c1 => ?_) (fun c1 => ?_)
  · omega
  · refine x_aload_n dX11_factor_4 rfl ?_
    refine x_iload_n dX11_factor_5 rfl ?_
    refine x_v1d (N := mX11_isPlane) dX11_factor_6 ml_X11_151 nv_X11_isPlane rfl rfl (k_isPlane S a.2.1 a3 hm.2.1 _) ?_
    refine x_if_neB 19 dX11_factor_9 rfl (fun c9 => ?_) (fun c9 => ?_)
    · refine x_aload_n dX11_factor_19 rfl ?_
      refine x_v0 (N := mX11_lay) dX11_factor_20 ml_X11_187 nv_X11_lay rfl rfl (k_layq S a hs tx u0 u1 u2 ck co hc) ?_
      rintro _ S' ⟨rfl, hc', hl, hf⟩
      refine x_iload_n dX11_factor_23 rfl ?_
      refine x_aload_n dX11_factor_24 rfl ?_
      refine x_getIV dX11_factor_25 fl_X11_120 rfl (hl.2.1) ?_
      have hlen := ringsB_le a.2.2 a3 4 (2 ^ a.2.1) (by omega) (Nat.le_refl _)
      have hlen2 : (ringsB a.2.2 a.2.1 5).length ≤ 381 := hlen
      refine x_icmp_ltN 38 dX11_factor_28 rfl (by omega) (by omega) (fun c28 => ?_) (fun c28 => ?_)
      · omega
      · refine x_aload_n dX11_factor_31 rfl ?_
        refine x_bi _ bi_m3 dX11_factor_32 ?_
        refine x_v1 (N := mX11_refuses) dX11_factor_34 ml_X11_89 nv_X11_refuses rfl rfl (k_no S' a hs tx u0 u1 u2 ck co hc') ?_
        rintro _ S'' ⟨rfl, hc''⟩
        refine x_iretI dX11_factor_37 rfl ?_
        exact ⟨rfl, hc''⟩
    · exact absurd (((in_N (nI i) (n := a.2.1) (by omega)).mpr (InR_in hi)).symm.trans c9) (by decide)
theorem rings_mem {v : Nat → Row} {N : Nat} : ∀ (n k c : Nat), (ringsB v N n)[k]? = some c → c < 2 ^ N ∧ rgB (rkV v) c N = true ∧ 1 ≤ pc9 c ∧ pc9 c ≤ n := by
  intro n
  induction n with
  | zero => intro k c h; simp [ringsB] at h
  | succ n ih =>
    intro k c h
    have hm := List.mem_of_getElem? h
    rw [ringsB, List.mem_append] at hm
    rcases hm with hm | hm
    · obtain ⟨k', hk'⟩ := List.getElem?_of_mem hm
      obtain ⟨h1, h2, h3, h4⟩ := ih k' c hk'
      exact ⟨h1, h2, h3, by omega⟩
    · rw [rnB, List.mem_filter, List.mem_range] at hm
      simp only [Bool.and_eq_true, beq_iff_eq] at hm
      exact ⟨hm.1, hm.2.2, by omega, by omega⟩
theorem l2i_i {z : Int} (h1 : -9223372036854775808 ≤ z) (h2 : z < 9223372036854775808) : (i64 z).toInt32 = i32 z := by
  apply Int32.toInt_inj.mp
  rw [Int64.toInt_toInt32, i64_toInt h1 h2]
  simp [i32, Int32.toInt_ofInt]
set_option maxRecDepth 100000 in
set_option maxHeartbeats 4000000 in
theorem k_factor_ok (S : amS) (a : Ar) (hs : List Ar) (tx : List Nat) (u0 u1 u2 ck co : Int32) (hc : mCore S a hs tx u0 u1 u2 ck co) (k i c : Nat) (hk : k < 2 ^ 31) (hi : i < a.2.1) (hkc : (ringsB a.2.2 a.2.1 5)[k]? = some c) : X shM mX11_factor 0 [.ref 0, .int (nI k), .int (nI i)] [] S (fun r S' => r = some (.int (i32 (facB a.2.2 c i) + nI 10000)) ∧ mCore S' a hs tx u0 u1 u2 ck co) := by
  have hA := hc.1.1
  have hm := hc.1.2
  obtain ⟨a1, a2, a3, a4, a5, a6, a7⟩ := id hA
  have h512 := pow9 a3
  have hr9 : ∀ t, t < 2 ^ a.2.1 → rkV a.2.2 t ≤ 9 := fun t ht => Nat.le_trans (rkV_le (by omega)) (pc9_le t (by omega))
  have hlen := ringsB_le a.2.2 a3 4 (2 ^ a.2.1) (by omega) (Nat.le_refl _)
  have hlen2 : (ringsB a.2.2 a.2.1 5).length ≤ 381 := hlen
  have hkl : k < (ringsB a.2.2 a.2.1 5).length := (List.getElem?_eq_some_iff.mp hkc).1
  obtain ⟨r1, r2, r3, r4⟩ := rings_mem 5 k c hkc
  have hC := (ring_circ a3 r1).mp r2
  have e9 : pcb c 9 = pc9 c := pcb_pc9 9 (by omega) c (by omega)
  have h35 : 3 ≤ pcb c 9 ∧ pcb c 9 ≤ 5 := by
    refine ⟨?_, by omega⟩
    by_cases q : pc9 c ≤ 2
    · have z1 := a7 c r1 q
      have z2 := ((rgB_iff a.2.1).mp r2).1
      omega
    · omega
  refine x_iload_n dX11_factor_0 rfl ?_
  refine x_topI ?_
  refine x_if_ltI 12 dX11_factor_1 rfl (by omega) (fun c1 => ?_) (fun c1 => ?_)
  · omega
  · refine x_aload_n dX11_factor_4 rfl ?_
    refine x_iload_n dX11_factor_5 rfl ?_
    refine x_v1d (N := mX11_isPlane) dX11_factor_6 ml_X11_151 nv_X11_isPlane rfl rfl (k_isPlane S a.2.1 a3 hm.2.1 _) ?_
    refine x_if_neB 19 dX11_factor_9 rfl (fun c9 => ?_) (fun c9 => ?_)
    · refine x_aload_n dX11_factor_19 rfl ?_
      refine x_v0 (N := mX11_lay) dX11_factor_20 ml_X11_187 nv_X11_lay rfl rfl (k_layq S a hs tx u0 u1 u2 ck co hc) ?_
      rintro _ S' ⟨rfl, hc', hl, hf⟩
      refine x_iload_n dX11_factor_23 rfl ?_
      refine x_aload_n dX11_factor_24 rfl ?_
      refine x_getIV dX11_factor_25 fl_X11_120 rfl (hl.2.1) ?_
      refine x_icmp_ltN 38 dX11_factor_28 rfl (by omega) (by omega) (fun c28 => ?_) (fun c28 => ?_)
      · refine x_aload_n dX11_factor_38 rfl ?_
        refine x_aload_n dX11_factor_39 rfl ?_
        refine x_getR dX11_factor_40 fl_X11_36 rfl ?_
        refine x_iload_n dX11_factor_43 rfl ?_
        refine x_ialdN dX11_factor_44 rfl rfl (by omega) ((hl.2.2 k c hkc).1) ?_
        refine x_v1 (N := mX11_findFactors) dX11_factor_45 ml_X11_142 nv_X11_findFactors rfl rfl (k_findFactors S' c a.2.2 (by omega) hC h35 (fun i j hi1 _ hj => hc'.1.2.2.2 i j (by by_cases q : i < a.2.1; exact q; rw [tb_hi r1 (by omega)] at hi1; cases hi1) hj) (fun i j _ => a4 i j)) ?_
        rintro _ _ ⟨rfl, f, g, m, h, f', rfl, j1⟩
        refine x_aload_n dX11_factor_48 rfl ?_
        refine x_getR dX11_factor_49 fl_X11_42 rfl ?_
        refine x_iload_n dX11_factor_52 rfl ?_
        refine x_laldN dX11_factor_53 rfl rfl (by omega) (j1 i (by omega)) ?_
        refine x_l2i dX11_factor_54 ?_
        rw [l2i_i (by have := (facB_ok hC (fun i j _ => a4 i j)).2 i; omega) (by have := (facB_ok hC (fun i j _ => a4 i j)).2 i; omega)]
        refine x_si _ si_10000 dX11_factor_55 ?_
        refine x_iadd dX11_factor_58 ?_
        refine x_iretI dX11_factor_59 rfl ?_
        refine ⟨rfl, hc'.keep (fun i hi => ?_) (fun k hk => ?_)⟩
        · rcases hi with rfl | rfl | rfl | rfl | rfl | rfl | rfl <;> rfl
        · rcases hk with rfl | rfl | rfl | rfl | rfl | rfl <;> rfl
      · omega
    · exact absurd (((in_N (nI i) (n := a.2.1) (by omega)).mpr (InR_in hi)).symm.trans c9) (by decide)
