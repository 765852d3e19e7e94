/-! THE REFERENCE: chain -/
theorem lkB_lt (r : Nat → Nat) (N top : Nat) : ∀ q, lkB r N top q < 2 ^ N := by
  intro q
  cases q with
  | zero => exact Nat.two_pow_pos N
  | succ q =>
    rw [lkB]
    cases e : (List.range (2 ^ N)).find? (chP r N top q (lkB r N top q)) with
    | none => exact Nat.two_pow_pos N
    | some n => exact List.mem_range.mp (List.mem_of_find?_eq_some e)
set_option maxRecDepth 100000 in
set_option maxHeartbeats 4000000 in
theorem k_chain_bad (S : amS) (a : Ar) (hs : List Ar) (tx : List Nat) (u0 u1 u2 ck co : Int32) (hc : mCore S a hs tx u0 u1 u2 ck co) (x y : Int32) (hxy : ¬ (¬ x < 0 ∧ InR y 2)) : X shM mX11_chain 0 [.ref 0, .int x, .int y, .null] [] S (fun r S' => r = some (.int (i32 (-2))) ∧ mCore S' a hs tx (u0 + nI 1) u1 u2 ck co) := by
  refine x_iload_n dX11_chain_0 rfl ?_
  refine x_if_lt 13 dX11_chain_1 rfl (fun c1 => ?_) (fun c1 => ?_)
  · refine x_aload_n dX11_chain_13 rfl ?_
    refine x_bi _ bi_m2 dX11_chain_14 ?_
    refine x_v1 (N := mX11_refuses) dX11_chain_16 ml_X11_89 nv_X11_refuses rfl rfl (k_bad S a hs tx u0 u1 u2 ck co hc) ?_
    rintro _ S' ⟨rfl, hc'⟩
    refine x_iretI dX11_chain_19 rfl ?_
    exact ⟨rfl, hc'⟩
  · refine x_iload_n dX11_chain_4 rfl ?_
    refine x_ic _ ic_0 dX11_chain_5 ?_
    refine x_ic _ ic_1 dX11_chain_6 ?_
    refine x_s3d (N := mX11_in) dX11_chain_7 ml_X11_113 ns_X11_in rfl (k_in S _ _ _) ?_
    refine x_if_neB 20 dX11_chain_10 rfl (fun c10 => ?_) (fun c10 => ?_)
    · rw [in_R _ (by omega)] at c10
      exact absurd ⟨c1, c10⟩ hxy
    · refine x_aload_n dX11_chain_13 rfl ?_
      refine x_bi _ bi_m2 dX11_chain_14 ?_
      refine x_v1 (N := mX11_refuses) dX11_chain_16 ml_X11_89 nv_X11_refuses rfl rfl (k_bad S a hs tx u0 u1 u2 ck co hc) ?_
      rintro _ S' ⟨rfl, hc'⟩
      refine x_iretI dX11_chain_19 rfl ?_
      exact ⟨rfl, hc'⟩
set_option maxRecDepth 100000 in
set_option maxHeartbeats 4000000 in
theorem k_chain_no (S : amS) (a : Ar) (hs : List Ar) (tx : List Nat) (u0 u1 u2 ck co : Int32) (hc : mCore S a hs tx u0 u1 u2 ck co) (i k : Nat) (hi : i < 2 ^ 31) (hk : k < 2) (hgo : goX (rkV a.2.2) a.2.1 (rkV a.2.2 (2 ^ a.2.1 - 1)) (rkV a.2.2 (2 ^ a.2.1 - 1)) 0 = false) : X shM mX11_chain 0 [.ref 0, .int (nI i), .int (nI k), .null] [] S (fun r S' => r = some (.int (i32 (-3))) ∧ mCore S' a hs tx u0 (u1 + nI 1) u2 ck co) := by
  have hA := hc.1.1
  have hm := hc.1.2
  obtain ⟨a1, a2, a3, a4, a5, a6, a7⟩ := id hA
  have h512 := pow9 a3
  have hr9 : ∀ t, t < 2 ^ a.2.1 → rkV a.2.2 t ≤ 9 := fun t ht => Nat.le_trans (rkV_le (by omega)) (pc9_le t (by omega))
  have hpos := Nat.two_pow_pos a.2.1
  have h4 := rkV_4 a.2.2 (2 ^ a.2.1 - 1)
  refine x_iload_n dX11_chain_0 rfl ?_
  refine x_topI ?_
  refine x_if_ltI 13 dX11_chain_1 rfl (by omega) (fun c1 => ?_) (fun c1 => ?_)
  · omega
  · refine x_iload_n dX11_chain_4 rfl ?_
    refine x_ic _ ic_0 dX11_chain_5 ?_
    refine x_ic _ ic_1 dX11_chain_6 ?_
    refine x_s3d (N := mX11_in) dX11_chain_7 ml_X11_113 ns_X11_in rfl (k_in S _ _ _) ?_
    refine x_if_neB 20 dX11_chain_10 rfl (fun c10 => ?_) (fun c10 => ?_)
    · refine x_aload_n dX11_chain_20 rfl ?_
      refine x_v0 (N := mX11_isChain) dX11_chain_21 ml_X11_218 nv_X11_isChain rfl rfl (k_isChain S a hs tx u0 u1 u2 ck co hc) ?_
      rintro _ S' ⟨rfl, hc', hl, hk'⟩
      refine x_if_neB 34 dX11_chain_24 rfl (fun c24 => ?_) (fun c24 => ?_)
      · rw [hgo] at c24; cases c24
      · refine x_aload_n dX11_chain_27 rfl ?_
        refine x_bi _ bi_m3 dX11_chain_28 ?_
        refine x_v1 (N := mX11_refuses) dX11_chain_30 ml_X11_89 nv_X11_refuses rfl rfl (k_no S' a hs tx u0 u1 u2 ck co hc') ?_
        rintro _ S'' ⟨rfl, hc''⟩
        refine x_iretI dX11_chain_33 rfl ?_
        exact ⟨rfl, hc''⟩
    · rw [Bool.eq_false_iff, ne_eq, in_R _ (by omega)] at c10
      exact absurd (InR_in hk) c10
set_option maxRecDepth 100000 in
set_option maxHeartbeats 4000000 in
theorem k_chain_0 (S : amS) (a : Ar) (hs : List Ar) (tx : List Nat) (u0 u1 u2 ck co : Int32) (hc : mCore S a hs tx u0 u1 u2 ck co) (k : Nat) (hk : k < 2) (hgo : goX (rkV a.2.2) a.2.1 (rkV a.2.2 (2 ^ a.2.1 - 1)) (rkV a.2.2 (2 ^ a.2.1 - 1)) 0 = true) : X shM mX11_chain 0 [.ref 0, .int (nI 0), .int (nI k), .null] [] S (fun r S' => r = some (.int (nI (rkV a.2.2 (2 ^ a.2.1 - 1)))) ∧ mCore S' a hs tx u0 u1 u2 ck co) := by
  have hA := hc.1.1
  have hm := hc.1.2
  obtain ⟨a1, a2, a3, a4, a5, a6, a7⟩ := id hA
  have h512 := pow9 a3
  have hr9 : ∀ t, t < 2 ^ a.2.1 → rkV a.2.2 t ≤ 9 := fun t ht => Nat.le_trans (rkV_le (by omega)) (pc9_le t (by omega))
  have hpos := Nat.two_pow_pos a.2.1
  have h4 := rkV_4 a.2.2 (2 ^ a.2.1 - 1)
  refine x_iload_n dX11_chain_0 rfl ?_
  refine x_topI ?_
  refine x_if_ltI 13 dX11_chain_1 rfl (by omega) (fun c1 => ?_) (fun c1 => ?_)
  · omega
  · refine x_iload_n dX11_chain_4 rfl ?_
    refine x_ic _ ic_0 dX11_chain_5 ?_
    refine x_ic _ ic_1 dX11_chain_6 ?_
    refine x_s3d (N := mX11_in) dX11_chain_7 ml_X11_113 ns_X11_in rfl (k_in S _ _ _) ?_
    refine x_if_neB 20 dX11_chain_10 rfl (fun c10 => ?_) (fun c10 => ?_)
    · refine x_aload_n dX11_chain_20 rfl ?_
      refine x_v0 (N := mX11_isChain) dX11_chain_21 ml_X11_218 nv_X11_isChain rfl rfl (k_isChain S a hs tx u0 u1 u2 ck co hc) ?_
      rintro _ S' ⟨rfl, hc', hl, hk'⟩
      refine x_if_neB 34 dX11_chain_24 rfl (fun c24 => ?_) (fun c24 => ?_)
      · refine x_aload_n dX11_chain_34 rfl ?_
        refine x_getR dX11_chain_35 fl_X11_29 rfl ?_
        refine x_aload_n dX11_chain_38 rfl ?_
        refine x_v0d (N := mX11_all) dX11_chain_39 ml_X11_109 nv_X11_all rfl rfl (k_all S' a.2.1 a3 hc'.1.2.2.1) ?_
        refine x_ialdN dX11_chain_42 rfl rfl (by omega) (hl.1 _ (by omega)) ?_
        refine x_istore_n dX11_chain_43 rfl ?_
        refine x_iload_n dX11_chain_44 rfl ?_
        refine x_if_eqN 53 dX11_chain_45 rfl (by omega) (fun c45 => ?_) (fun c45 => ?_)
        · refine x_iload_n dX11_chain_53 rfl ?_
          refine x_if_neN 61 dX11_chain_54 rfl (by omega) (fun c54 => ?_) (fun c54 => ?_)
          · exact absurd rfl c54
          · refine x_iload_n dX11_chain_57 rfl ?_
            refine x_goto 63 dX11_chain_58 rfl ?_
            refine x_iretI dX11_chain_63 rfl ?_
            exact ⟨rfl, hc'⟩
        · exact absurd rfl c45
      · rw [hgo] at c24; cases c24
    · rw [Bool.eq_false_iff, ne_eq, in_R _ (by omega)] at c10
      exact absurd (InR_in hk) c10
set_option maxRecDepth 100000 in
set_option maxHeartbeats 4000000 in
theorem k_chain_gt (S : amS) (a : Ar) (hs : List Ar) (tx : List Nat) (u0 u1 u2 ck co : Int32) (hc : mCore S a hs tx u0 u1 u2 ck co) (i k : Nat) (hi : i < 2 ^ 31) (hk : k < 2) (hgo : goX (rkV a.2.2) a.2.1 (rkV a.2.2 (2 ^ a.2.1 - 1)) (rkV a.2.2 (2 ^ a.2.1 - 1)) 0 = true) (hgt : (rkV a.2.2 (2 ^ a.2.1 - 1)) < i) : X shM mX11_chain 0 [.ref 0, .int (nI i), .int (nI k), .null] [] S (fun r S' => r = some (.int (i32 (-5))) ∧ mCore S' a hs tx u0 u1 u2 ck co) := by
  have hA := hc.1.1
  have hm := hc.1.2
  obtain ⟨a1, a2, a3, a4, a5, a6, a7⟩ := id hA
  have h512 := pow9 a3
  have hr9 : ∀ t, t < 2 ^ a.2.1 → rkV a.2.2 t ≤ 9 := fun t ht => Nat.le_trans (rkV_le (by omega)) (pc9_le t (by omega))
  have hpos := Nat.two_pow_pos a.2.1
  have h4 := rkV_4 a.2.2 (2 ^ a.2.1 - 1)
  refine x_iload_n dX11_chain_0 rfl ?_
  refine x_topI ?_
  refine x_if_ltI 13 dX11_chain_1 rfl (by omega) (fun c1 => ?_) (fun c1 => ?_)
  · omega
  · refine x_iload_n dX11_chain_4 rfl ?_
    refine x_ic _ ic_0 dX11_chain_5 ?_
    refine x_ic _ ic_1 dX11_chain_6 ?_
    refine x_s3d (N := mX11_in) dX11_chain_7 ml_X11_113 ns_X11_in rfl (k_in S _ _ _) ?_
    refine x_if_neB 20 dX11_chain_10 rfl (fun c10 => ?_) (fun c10 => ?_)
    · refine x_aload_n dX11_chain_20 rfl ?_
      refine x_v0 (N := mX11_isChain) dX11_chain_21 ml_X11_218 nv_X11_isChain rfl rfl (k_isChain S a hs tx u0 u1 u2 ck co hc) ?_
      rintro _ S' ⟨rfl, hc', hl, hk'⟩
      refine x_if_neB 34 dX11_chain_24 rfl (fun c24 => ?_) (fun c24 => ?_)
      · refine x_aload_n dX11_chain_34 rfl ?_
        refine x_getR dX11_chain_35 fl_X11_29 rfl ?_
        refine x_aload_n dX11_chain_38 rfl ?_
        refine x_v0d (N := mX11_all) dX11_chain_39 ml_X11_109 nv_X11_all rfl rfl (k_all S' a.2.1 a3 hc'.1.2.2.1) ?_
        refine x_ialdN dX11_chain_42 rfl rfl (by omega) (hl.1 _ (by omega)) ?_
        refine x_istore_n dX11_chain_43 rfl ?_
        refine x_iload_n dX11_chain_44 rfl ?_
        refine x_if_eqN 53 dX11_chain_45 rfl (by omega) (fun c45 => ?_) (fun c45 => ?_)
        · omega
        · refine x_iload_n dX11_chain_48 rfl ?_
          refine x_iload_n dX11_chain_49 rfl ?_
          refine x_icmp_leN 64 dX11_chain_50 rfl (by omega) (by omega) (fun c50 => ?_) (fun c50 => ?_)
          · omega
          · refine x_iload_n dX11_chain_53 rfl ?_
            refine x_if_neN 61 dX11_chain_54 rfl (by omega) (fun c54 => ?_) (fun c54 => ?_)
            · refine x_bi _ bi_m5 dX11_chain_61 ?_
              refine x_iretI dX11_chain_63 rfl ?_
              exact ⟨rfl, hc'⟩
            · omega
      · rw [hgo] at c24; cases c24
    · rw [Bool.eq_false_iff, ne_eq, in_R _ (by omega)] at c10
      exact absurd (InR_in hk) c10
set_option maxRecDepth 100000 in
set_option maxHeartbeats 4000000 in
theorem k_chain_i0 (S : amS) (a : Ar) (hs : List Ar) (tx : List Nat) (u0 u1 u2 ck co : Int32) (hc : mCore S a hs tx u0 u1 u2 ck co) (i : Nat) (hgo : goX (rkV a.2.2) a.2.1 (rkV a.2.2 (2 ^ a.2.1 - 1)) (rkV a.2.2 (2 ^ a.2.1 - 1)) 0 = true) (h1 : 1 ≤ i) (hle : i ≤ (rkV a.2.2 (2 ^ a.2.1 - 1))) : X shM mX11_chain 0 [.ref 0, .int (nI i), .int (nI 0), .null] [] S (fun r S' => r = some (.int (nI (lkB (rkV a.2.2) a.2.1 (rkV a.2.2 (2 ^ a.2.1 - 1)) i))) ∧ mCore S' a hs tx u0 u1 u2 ck co) := by
  have hA := hc.1.1
  have hm := hc.1.2
  obtain ⟨a1, a2, a3, a4, a5, a6, a7⟩ := id hA
  have h512 := pow9 a3
  have hr9 : ∀ t, t < 2 ^ a.2.1 → rkV a.2.2 t ≤ 9 := fun t ht => Nat.le_trans (rkV_le (by omega)) (pc9_le t (by omega))
  have hpos := Nat.two_pow_pos a.2.1
  have h4 := rkV_4 a.2.2 (2 ^ a.2.1 - 1)
  have hl1 := lkB_lt (rkV a.2.2) a.2.1 (rkV a.2.2 (2 ^ a.2.1 - 1)) i
  have hl2 := lkB_lt (rkV a.2.2) a.2.1 (rkV a.2.2 (2 ^ a.2.1 - 1)) (i - 1)
  refine x_iload_n dX11_chain_0 rfl ?_
  refine x_topI ?_
  refine x_if_ltI 13 dX11_chain_1 rfl (by omega) (fun c1 => ?_) (fun c1 => ?_)
  · omega
  · refine x_iload_n dX11_chain_4 rfl ?_
    refine x_ic _ ic_0 dX11_chain_5 ?_
    refine x_ic _ ic_1 dX11_chain_6 ?_
    refine x_s3d (N := mX11_in) dX11_chain_7 ml_X11_113 ns_X11_in rfl (k_in S _ _ _) ?_
    refine x_if_neB 20 dX11_chain_10 rfl (fun c10 => ?_) (fun c10 => ?_)
    · refine x_aload_n dX11_chain_20 rfl ?_
      refine x_v0 (N := mX11_isChain) dX11_chain_21 ml_X11_218 nv_X11_isChain rfl rfl (k_isChain S a hs tx u0 u1 u2 ck co hc) ?_
      rintro _ S' ⟨rfl, hc', hl, hk'⟩
      refine x_if_neB 34 dX11_chain_24 rfl (fun c24 => ?_) (fun c24 => ?_)
      · refine x_aload_n dX11_chain_34 rfl ?_
        refine x_getR dX11_chain_35 fl_X11_29 rfl ?_
        refine x_aload_n dX11_chain_38 rfl ?_
        refine x_v0d (N := mX11_all) dX11_chain_39 ml_X11_109 nv_X11_all rfl rfl (k_all S' a.2.1 a3 hc'.1.2.2.1) ?_
        refine x_ialdN dX11_chain_42 rfl rfl (by omega) (hl.1 _ (by omega)) ?_
        refine x_istore_n dX11_chain_43 rfl ?_
        refine x_iload_n dX11_chain_44 rfl ?_
        refine x_if_eqN 53 dX11_chain_45 rfl (by omega) (fun c45 => ?_) (fun c45 => ?_)
        · omega
        · refine x_iload_n dX11_chain_48 rfl ?_
          refine x_iload_n dX11_chain_49 rfl ?_
          refine x_icmp_leN 64 dX11_chain_50 rfl (by omega) (by omega) (fun c50 => ?_) (fun c50 => ?_)
          · refine x_iload_n dX11_chain_64 rfl ?_
            refine x_if_neN 77 dX11_chain_65 rfl (by omega) (fun c65 => ?_) (fun c65 => ?_)
            · exact absurd rfl c65
            · refine x_aload_n dX11_chain_68 rfl ?_
              refine x_getR dX11_chain_69 fl_X11_70 rfl ?_
              refine x_iload_n dX11_chain_72 rfl ?_
              refine x_ialdN dX11_chain_73 rfl rfl (by omega) (hk' hgo i hle) ?_
              refine x_goto 98 dX11_chain_74 rfl ?_
              refine x_iretI dX11_chain_98 rfl ?_
              exact ⟨rfl, hc'⟩
          · omega
      · rw [hgo] at c24; cases c24
    · exact absurd c10 (by decide)
set_option maxRecDepth 100000 in
set_option maxHeartbeats 4000000 in
theorem k_chain_i1 (S : amS) (a : Ar) (hs : List Ar) (tx : List Nat) (u0 u1 u2 ck co : Int32) (hc : mCore S a hs tx u0 u1 u2 ck co) (i : Nat) (hgo : goX (rkV a.2.2) a.2.1 (rkV a.2.2 (2 ^ a.2.1 - 1)) (rkV a.2.2 (2 ^ a.2.1 - 1)) 0 = true) (h1 : 1 ≤ i) (hle : i ≤ (rkV a.2.2 (2 ^ a.2.1 - 1))) : X shM mX11_chain 0 [.ref 0, .int (nI i), .int (nI 1), .null] [] S (fun r S' => r = some (.int (i32 ((pc9 (lkB (rkV a.2.2) a.2.1 (rkV a.2.2 (2 ^ a.2.1 - 1)) i) : Int) - (pc9 (lkB (rkV a.2.2) a.2.1 (rkV a.2.2 (2 ^ a.2.1 - 1)) (i - 1)) : Int)))) ∧ mCore S' a hs tx u0 u1 u2 ck co) := by
  have hA := hc.1.1
  have hm := hc.1.2
  obtain ⟨a1, a2, a3, a4, a5, a6, a7⟩ := id hA
  have h512 := pow9 a3
  have hr9 : ∀ t, t < 2 ^ a.2.1 → rkV a.2.2 t ≤ 9 := fun t ht => Nat.le_trans (rkV_le (by omega)) (pc9_le t (by omega))
  have hpos := Nat.two_pow_pos a.2.1
  have h4 := rkV_4 a.2.2 (2 ^ a.2.1 - 1)
  have hl1 := lkB_lt (rkV a.2.2) a.2.1 (rkV a.2.2 (2 ^ a.2.1 - 1)) i
  have hl2 := lkB_lt (rkV a.2.2) a.2.1 (rkV a.2.2 (2 ^ a.2.1 - 1)) (i - 1)
  refine x_iload_n dX11_chain_0 rfl ?_
  refine x_topI ?_
  refine x_if_ltI 13 dX11_chain_1 rfl (by omega) (fun c1 => ?_) (fun c1 => ?_)
  · omega
  · refine x_iload_n dX11_chain_4 rfl ?_
    refine x_ic _ ic_0 dX11_chain_5 ?_
    refine x_ic _ ic_1 dX11_chain_6 ?_
    refine x_s3d (N := mX11_in) dX11_chain_7 ml_X11_113 ns_X11_in rfl (k_in S _ _ _) ?_
    refine x_if_neB 20 dX11_chain_10 rfl (fun c10 => ?_) (fun c10 => ?_)
    · refine x_aload_n dX11_chain_20 rfl ?_
      refine x_v0 (N := mX11_isChain) dX11_chain_21 ml_X11_218 nv_X11_isChain rfl rfl (k_isChain S a hs tx u0 u1 u2 ck co hc) ?_
      rintro _ S' ⟨rfl, hc', hl, hk'⟩
      refine x_if_neB 34 dX11_chain_24 rfl (fun c24 => ?_) (fun c24 => ?_)
      · refine x_aload_n dX11_chain_34 rfl ?_
        refine x_getR dX11_chain_35 fl_X11_29 rfl ?_
        refine x_aload_n dX11_chain_38 rfl ?_
        refine x_v0d (N := mX11_all) dX11_chain_39 ml_X11_109 nv_X11_all rfl rfl (k_all S' a.2.1 a3 hc'.1.2.2.1) ?_
        refine x_ialdN dX11_chain_42 rfl rfl (by omega) (hl.1 _ (by omega)) ?_
        refine x_istore_n dX11_chain_43 rfl ?_
        refine x_iload_n dX11_chain_44 rfl ?_
        refine x_if_eqN 53 dX11_chain_45 rfl (by omega) (fun c45 => ?_) (fun c45 => ?_)
        · omega
        · refine x_iload_n dX11_chain_48 rfl ?_
          refine x_iload_n dX11_chain_49 rfl ?_
          refine x_icmp_leN 64 dX11_chain_50 rfl (by omega) (by omega) (fun c50 => ?_) (fun c50 => ?_)
          · refine x_iload_n dX11_chain_64 rfl ?_
            refine x_if_neN 77 dX11_chain_65 rfl (by omega) (fun c65 => ?_) (fun c65 => ?_)
            · refine x_aload_n dX11_chain_77 rfl ?_
              refine x_getR dX11_chain_78 fl_X11_70 rfl ?_
              refine x_iload_n dX11_chain_81 rfl ?_
              refine x_ialdN dX11_chain_82 rfl rfl (by omega) (hk' hgo i hle) ?_
              refine x_s1d (N := mX11_bits) dX11_chain_83 ml_X11_123 ns_X11_bits rfl (k_bits S' _ (by omega)) ?_
              refine x_aload_n dX11_chain_86 rfl ?_
              refine x_getR dX11_chain_87 fl_X11_70 rfl ?_
              refine x_iload_n dX11_chain_90 rfl ?_
              refine x_ic _ ic_1 dX11_chain_91 ?_
              refine x_isubN dX11_chain_92 (by omega) ?_
              refine x_ialdN dX11_chain_93 rfl rfl (by omega) (hk' hgo (i - 1) (by omega)) ?_
              refine x_s1d (N := mX11_bits) dX11_chain_94 ml_X11_123 ns_X11_bits rfl (k_bits S' _ (by omega)) ?_
              refine x_isubZ dX11_chain_97 ?_
              refine x_iretI dX11_chain_98 rfl ?_
              exact ⟨rfl, hc'⟩
            · omega
          · omega
      · rw [hgo] at c24; cases c24
    · exact absurd c10 (by decide)
