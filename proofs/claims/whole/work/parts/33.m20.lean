/-! THE REFERENCE: why, told, type, clear -/
set_option maxRecDepth 100000 in
set_option maxHeartbeats 4000000 in
theorem k_cause_0 (S : amS) (a : Ar) (hs : List Ar) (tx : List Nat) (u0 u1 u2 ck co : Int32) (hc : mCore S a hs tx u0 u1 u2 ck co) : X shM mX11_cause 0 [.ref 0, .int (nI 0)] [] S (fun r S' => r = some (.int ck) ∧ S' = S) := by
  refine x_iload_n dX11_cause_0 rfl ?_
  refine x_if_neN 11 dX11_cause_1 rfl (by omega) (fun c1 => ?_) (fun c1 => ?_)
  · exact absurd rfl c1
  · refine x_aload_n dX11_cause_4 rfl ?_
    refine x_getIV dX11_cause_5 fl_X11_284 rfl (hc.2.2.2.2.1.1) ?_
    refine x_goto 15 dX11_cause_8 rfl ?_
    refine x_iretI dX11_cause_15 rfl ?_
    exact ⟨rfl, rfl⟩
set_option maxRecDepth 100000 in
set_option maxHeartbeats 4000000 in
theorem k_why_0 (S : amS) (a : Ar) (hs : List Ar) (tx : List Nat) (u0 u1 u2 ck co : Int32) (hc : mCore S a hs tx u0 u1 u2 ck co) : X shM mX11_why 0 [.ref 0, .int (nI 0)] [] S (fun r S' => r = some (.int (ck)) ∧ mCore S' a hs tx u0 u1 u2 ck co) := by
  refine x_iload_n dX11_why_0 rfl ?_
  refine x_ic _ ic_0 dX11_why_1 ?_
  refine x_ic _ ic_1 dX11_why_2 ?_
  refine x_s3d (N := mX11_in) dX11_why_3 ml_X11_113 ns_X11_in rfl (k_in S _ _ _) ?_
  refine x_if_eqB 17 dX11_why_6 rfl (fun c6 => ?_) (fun c6 => ?_)
  · exact absurd c6 (by decide)
  · refine x_aload_n dX11_why_9 rfl ?_
    refine x_iload_n dX11_why_10 rfl ?_
    refine x_v1d (N := mX11_cause) dX11_why_11 ml_X11_287 nv_X11_cause rfl rfl (k_cause_0 S a hs tx u0 u1 u2 ck co hc) ?_
    refine x_goto 23 dX11_why_14 rfl ?_
    refine x_iretI dX11_why_23 rfl ?_
    exact ⟨rfl, hc⟩
set_option maxRecDepth 100000 in
set_option maxHeartbeats 4000000 in
theorem k_cause_1 (S : amS) (a : Ar) (hs : List Ar) (tx : List Nat) (u0 u1 u2 ck co : Int32) (hc : mCore S a hs tx u0 u1 u2 ck co) : X shM mX11_cause 0 [.ref 0, .int (nI 1)] [] S (fun r S' => r = some (.int co) ∧ S' = S) := by
  refine x_iload_n dX11_cause_0 rfl ?_
  refine x_if_neN 11 dX11_cause_1 rfl (by omega) (fun c1 => ?_) (fun c1 => ?_)
  · refine x_aload_n dX11_cause_11 rfl ?_
    refine x_getIV dX11_cause_12 fl_X11_25 rfl (hc.2.2.2.2.1.2) ?_
    refine x_iretI dX11_cause_15 rfl ?_
    exact ⟨rfl, rfl⟩
  · omega
set_option maxRecDepth 100000 in
set_option maxHeartbeats 4000000 in
theorem k_why_1 (S : amS) (a : Ar) (hs : List Ar) (tx : List Nat) (u0 u1 u2 ck co : Int32) (hc : mCore S a hs tx u0 u1 u2 ck co) : X shM mX11_why 0 [.ref 0, .int (nI 1)] [] S (fun r S' => r = some (.int (co)) ∧ mCore S' a hs tx u0 u1 u2 ck co) := by
  refine x_iload_n dX11_why_0 rfl ?_
  refine x_ic _ ic_0 dX11_why_1 ?_
  refine x_ic _ ic_1 dX11_why_2 ?_
  refine x_s3d (N := mX11_in) dX11_why_3 ml_X11_113 ns_X11_in rfl (k_in S _ _ _) ?_
  refine x_if_eqB 17 dX11_why_6 rfl (fun c6 => ?_) (fun c6 => ?_)
  · exact absurd c6 (by decide)
  · refine x_aload_n dX11_why_9 rfl ?_
    refine x_iload_n dX11_why_10 rfl ?_
    refine x_v1d (N := mX11_cause) dX11_why_11 ml_X11_287 nv_X11_cause rfl rfl (k_cause_1 S a hs tx u0 u1 u2 ck co hc) ?_
    refine x_goto 23 dX11_why_14 rfl ?_
    refine x_iretI dX11_why_23 rfl ?_
    exact ⟨rfl, hc⟩
set_option maxRecDepth 100000 in
set_option maxHeartbeats 4000000 in
theorem k_why_bad (S : amS) (a : Ar) (hs : List Ar) (tx : List Nat) (u0 u1 u2 ck co : Int32) (hc : mCore S a hs tx u0 u1 u2 ck co) (x : Int32) (hx : ¬ InR x 2) : X shM mX11_why 0 [.ref 0, .int x] [] S (fun r S' => r = some (.int (i32 (-2))) ∧ mCore S' a hs tx (u0 + nI 1) u1 u2 ck co) := by
  refine x_iload_n dX11_why_0 rfl ?_
  refine x_ic _ ic_0 dX11_why_1 ?_
  refine x_ic _ ic_1 dX11_why_2 ?_
  refine x_s3d (N := mX11_in) dX11_why_3 ml_X11_113 ns_X11_in rfl (k_in S _ _ _) ?_
  refine x_if_eqB 17 dX11_why_6 rfl (fun c6 => ?_) (fun c6 => ?_)
  · refine x_aload_n dX11_why_17 rfl ?_
    refine x_bi _ bi_m2 dX11_why_18 ?_
    refine x_v1 (N := mX11_refuses) dX11_why_20 ml_X11_89 nv_X11_refuses rfl rfl (k_bad S a hs tx u0 u1 u2 ck co hc) ?_
    rintro _ S' ⟨rfl, hc'⟩
    refine x_iretI dX11_why_23 rfl ?_
    exact ⟨rfl, hc'⟩
  · rw [in_R _ (by omega)] at c6
    exact absurd c6 hx
set_option maxRecDepth 100000 in
set_option maxHeartbeats 4000000 in
theorem k_toldOf_0 (S : amS) (a : Ar) (hs : List Ar) (tx : List Nat) (u0 u1 u2 ck co : Int32) (hc : mCore S a hs tx u0 u1 u2 ck co) : X shM mX11_toldOf 0 [.ref 0, .int (nI 0)] [] S (fun r S' => r = some (.int (u0)) ∧ mCore S' a hs tx u0 u1 u2 ck co) := by
  have hA := hc.1.1
  have hm := hc.1.2
  obtain ⟨a1, a2, a3, a4, a5, a6, a7⟩ := id hA
  have h512 := pow9 a3
  have hr9 : ∀ t, t < 2 ^ a.2.1 → rkV a.2.2 t ≤ 9 := fun t ht => Nat.le_trans (rkV_le (by omega)) (pc9_le t (by omega))
  have hpos := Nat.two_pow_pos a.2.1
  refine x_iload_n dX11_toldOf_0 rfl ?_
  refine x_tableOut 76 dX11_toldOf_1 (Or.inl (by decide)) rfl ?_
  refine x_aload_n dX11_toldOf_76 rfl ?_
  refine x_getR dX11_toldOf_77 fl_X11_19 rfl ?_
  refine x_iload_n dX11_toldOf_80 rfl ?_
  refine x_ialdN dX11_toldOf_81 rfl rfl (by omega) (hc.2.2.1.1) ?_
  refine x_iretI dX11_toldOf_82 rfl ?_
  exact ⟨rfl, hc⟩
set_option maxRecDepth 100000 in
set_option maxHeartbeats 4000000 in
theorem k_told_0 (S : amS) (a : Ar) (hs : List Ar) (tx : List Nat) (u0 u1 u2 ck co : Int32) (hc : mCore S a hs tx u0 u1 u2 ck co) : X shM mX11_told 0 [.ref 0, .int (nI 0)] [] S (fun r S' => r = some (.int (u0)) ∧ mCore S' a hs tx u0 u1 u2 ck co) := by
  refine x_iload_n dX11_told_0 rfl ?_
  refine x_ic _ ic_0 dX11_told_1 ?_
  refine x_bi _ bi_7 dX11_told_2 ?_
  refine x_s3d (N := mX11_in) dX11_told_4 ml_X11_113 ns_X11_in rfl (k_in S _ _ _) ?_
  refine x_if_eqB 18 dX11_told_7 rfl (fun c7 => ?_) (fun c7 => ?_)
  · exact absurd c7 (by decide)
  · refine x_aload_n dX11_told_10 rfl ?_
    refine x_iload_n dX11_told_11 rfl ?_
    refine x_v1 (N := mX11_toldOf) dX11_told_12 ml_X11_290 nv_X11_toldOf rfl rfl (k_toldOf_0 S a hs tx u0 u1 u2 ck co hc) ?_
    rintro _ S' ⟨rfl, hc'⟩
    refine x_goto 24 dX11_told_15 rfl ?_
    refine x_iretI dX11_told_24 rfl ?_
    exact ⟨rfl, hc'⟩
set_option maxRecDepth 100000 in
set_option maxHeartbeats 4000000 in
theorem k_toldOf_1 (S : amS) (a : Ar) (hs : List Ar) (tx : List Nat) (u0 u1 u2 ck co : Int32) (hc : mCore S a hs tx u0 u1 u2 ck co) : X shM mX11_toldOf 0 [.ref 0, .int (nI 1)] [] S (fun r S' => r = some (.int (u1)) ∧ mCore S' a hs tx u0 u1 u2 ck co) := by
  have hA := hc.1.1
  have hm := hc.1.2
  obtain ⟨a1, a2, a3, a4, a5, a6, a7⟩ := id hA
  have h512 := pow9 a3
  have hr9 : ∀ t, t < 2 ^ a.2.1 → rkV a.2.2 t ≤ 9 := fun t ht => Nat.le_trans (rkV_le (by omega)) (pc9_le t (by omega))
  have hpos := Nat.two_pow_pos a.2.1
  refine x_iload_n dX11_toldOf_0 rfl ?_
  refine x_tableOut 76 dX11_toldOf_1 (Or.inl (by decide)) rfl ?_
  refine x_aload_n dX11_toldOf_76 rfl ?_
  refine x_getR dX11_toldOf_77 fl_X11_19 rfl ?_
  refine x_iload_n dX11_toldOf_80 rfl ?_
  refine x_ialdN dX11_toldOf_81 rfl rfl (by omega) (hc.2.2.1.2.1) ?_
  refine x_iretI dX11_toldOf_82 rfl ?_
  exact ⟨rfl, hc⟩
set_option maxRecDepth 100000 in
set_option maxHeartbeats 4000000 in
theorem k_told_1 (S : amS) (a : Ar) (hs : List Ar) (tx : List Nat) (u0 u1 u2 ck co : Int32) (hc : mCore S a hs tx u0 u1 u2 ck co) : X shM mX11_told 0 [.ref 0, .int (nI 1)] [] S (fun r S' => r = some (.int (u1)) ∧ mCore S' a hs tx u0 u1 u2 ck co) := by
  refine x_iload_n dX11_told_0 rfl ?_
  refine x_ic _ ic_0 dX11_told_1 ?_
  refine x_bi _ bi_7 dX11_told_2 ?_
  refine x_s3d (N := mX11_in) dX11_told_4 ml_X11_113 ns_X11_in rfl (k_in S _ _ _) ?_
  refine x_if_eqB 18 dX11_told_7 rfl (fun c7 => ?_) (fun c7 => ?_)
  · exact absurd c7 (by decide)
  · refine x_aload_n dX11_told_10 rfl ?_
    refine x_iload_n dX11_told_11 rfl ?_
    refine x_v1 (N := mX11_toldOf) dX11_told_12 ml_X11_290 nv_X11_toldOf rfl rfl (k_toldOf_1 S a hs tx u0 u1 u2 ck co hc) ?_
    rintro _ S' ⟨rfl, hc'⟩
    refine x_goto 24 dX11_told_15 rfl ?_
    refine x_iretI dX11_told_24 rfl ?_
    exact ⟨rfl, hc'⟩
set_option maxRecDepth 100000 in
set_option maxHeartbeats 4000000 in
theorem k_toldOf_2 (S : amS) (a : Ar) (hs : List Ar) (tx : List Nat) (u0 u1 u2 ck co : Int32) (hc : mCore S a hs tx u0 u1 u2 ck co) : X shM mX11_toldOf 0 [.ref 0, .int (nI 2)] [] S (fun r S' => r = some (.int (u2)) ∧ mCore S' a hs tx u0 u1 u2 ck co) := by
  have hA := hc.1.1
  have hm := hc.1.2
  obtain ⟨a1, a2, a3, a4, a5, a6, a7⟩ := id hA
  have h512 := pow9 a3
  have hr9 : ∀ t, t < 2 ^ a.2.1 → rkV a.2.2 t ≤ 9 := fun t ht => Nat.le_trans (rkV_le (by omega)) (pc9_le t (by omega))
  have hpos := Nat.two_pow_pos a.2.1
  refine x_iload_n dX11_toldOf_0 rfl ?_
  refine x_tableOut 76 dX11_toldOf_1 (Or.inl (by decide)) rfl ?_
  refine x_aload_n dX11_toldOf_76 rfl ?_
  refine x_getR dX11_toldOf_77 fl_X11_19 rfl ?_
  refine x_iload_n dX11_toldOf_80 rfl ?_
  refine x_ialdN dX11_toldOf_81 rfl rfl (by omega) (hc.2.2.1.2.2) ?_
  refine x_iretI dX11_toldOf_82 rfl ?_
  exact ⟨rfl, hc⟩
set_option maxRecDepth 100000 in
set_option maxHeartbeats 4000000 in
theorem k_told_2 (S : amS) (a : Ar) (hs : List Ar) (tx : List Nat) (u0 u1 u2 ck co : Int32) (hc : mCore S a hs tx u0 u1 u2 ck co) : X shM mX11_told 0 [.ref 0, .int (nI 2)] [] S (fun r S' => r = some (.int (u2)) ∧ mCore S' a hs tx u0 u1 u2 ck co) := by
  refine x_iload_n dX11_told_0 rfl ?_
  refine x_ic _ ic_0 dX11_told_1 ?_
  refine x_bi _ bi_7 dX11_told_2 ?_
  refine x_s3d (N := mX11_in) dX11_told_4 ml_X11_113 ns_X11_in rfl (k_in S _ _ _) ?_
  refine x_if_eqB 18 dX11_told_7 rfl (fun c7 => ?_) (fun c7 => ?_)
  · exact absurd c7 (by decide)
  · refine x_aload_n dX11_told_10 rfl ?_
    refine x_iload_n dX11_told_11 rfl ?_
    refine x_v1 (N := mX11_toldOf) dX11_told_12 ml_X11_290 nv_X11_toldOf rfl rfl (k_toldOf_2 S a hs tx u0 u1 u2 ck co hc) ?_
    rintro _ S' ⟨rfl, hc'⟩
    refine x_goto 24 dX11_told_15 rfl ?_
    refine x_iretI dX11_told_24 rfl ?_
    exact ⟨rfl, hc'⟩
set_option maxRecDepth 100000 in
set_option maxHeartbeats 4000000 in
theorem k_toldOf_3 (S : amS) (a : Ar) (hs : List Ar) (tx : List Nat) (u0 u1 u2 ck co : Int32) (hc : mCore S a hs tx u0 u1 u2 ck co) : X shM mX11_toldOf 0 [.ref 0, .int (nI 3)] [] S (fun r S' => r = some (.int (nI tx.length)) ∧ mCore S' a hs tx u0 u1 u2 ck co) := by
  have hA := hc.1.1
  have hm := hc.1.2
  obtain ⟨a1, a2, a3, a4, a5, a6, a7⟩ := id hA
  have h512 := pow9 a3
  have hr9 : ∀ t, t < 2 ^ a.2.1 → rkV a.2.2 t ≤ 9 := fun t ht => Nat.le_trans (rkV_le (by omega)) (pc9_le t (by omega))
  have hpos := Nat.two_pow_pos a.2.1
  refine x_iload_n dX11_toldOf_0 rfl ?_
  refine x_tableIn 36 dX11_toldOf_1 (by decide) (by decide) (off := 35) (by decide) rfl ?_
  refine x_aload_n dX11_toldOf_36 rfl ?_
  refine x_getIV dX11_toldOf_37 fl_X11_246 rfl (hc.2.2.2.1.1) ?_
  refine x_iretI dX11_toldOf_40 rfl ?_
  exact ⟨rfl, hc⟩
set_option maxRecDepth 100000 in
set_option maxHeartbeats 4000000 in
theorem k_told_3 (S : amS) (a : Ar) (hs : List Ar) (tx : List Nat) (u0 u1 u2 ck co : Int32) (hc : mCore S a hs tx u0 u1 u2 ck co) : X shM mX11_told 0 [.ref 0, .int (nI 3)] [] S (fun r S' => r = some (.int (nI tx.length)) ∧ mCore S' a hs tx u0 u1 u2 ck co) := by
  refine x_iload_n dX11_told_0 rfl ?_
  refine x_ic _ ic_0 dX11_told_1 ?_
  refine x_bi _ bi_7 dX11_told_2 ?_
  refine x_s3d (N := mX11_in) dX11_told_4 ml_X11_113 ns_X11_in rfl (k_in S _ _ _) ?_
  refine x_if_eqB 18 dX11_told_7 rfl (fun c7 => ?_) (fun c7 => ?_)
  · exact absurd c7 (by decide)
  · refine x_aload_n dX11_told_10 rfl ?_
    refine x_iload_n dX11_told_11 rfl ?_
    refine x_v1 (N := mX11_toldOf) dX11_told_12 ml_X11_290 nv_X11_toldOf rfl rfl (k_toldOf_3 S a hs tx u0 u1 u2 ck co hc) ?_
    rintro _ S' ⟨rfl, hc'⟩
    refine x_goto 24 dX11_told_15 rfl ?_
    refine x_iretI dX11_told_24 rfl ?_
    exact ⟨rfl, hc'⟩
set_option maxRecDepth 100000 in
set_option maxHeartbeats 4000000 in
theorem k_toldOf_4 (S : amS) (a : Ar) (hs : List Ar) (tx : List Nat) (u0 u1 u2 ck co : Int32) (hc : mCore S a hs tx u0 u1 u2 ck co) : X shM mX11_toldOf 0 [.ref 0, .int (nI 4)] [] S (fun r S' => r = some (.int (nI a.1)) ∧ mCore S' a hs tx u0 u1 u2 ck co) := by
  have hA := hc.1.1
  have hm := hc.1.2
  obtain ⟨a1, a2, a3, a4, a5, a6, a7⟩ := id hA
  have h512 := pow9 a3
  have hr9 : ∀ t, t < 2 ^ a.2.1 → rkV a.2.2 t ≤ 9 := fun t ht => Nat.le_trans (rkV_le (by omega)) (pc9_le t (by omega))
  have hpos := Nat.two_pow_pos a.2.1
  refine x_iload_n dX11_toldOf_0 rfl ?_
  refine x_tableIn 41 dX11_toldOf_1 (by decide) (by decide) (off := 40) (by decide) rfl ?_
  refine x_aload_n dX11_toldOf_41 rfl ?_
  refine x_getR dX11_toldOf_42 fl_X11_7 rfl ?_
  refine x_bi _ bi_36 dX11_toldOf_45 ?_
  refine x_ialdN dX11_toldOf_47 rfl rfl (by omega) (hm.1) ?_
  refine x_iretI dX11_toldOf_48 rfl ?_
  exact ⟨rfl, hc⟩
set_option maxRecDepth 100000 in
set_option maxHeartbeats 4000000 in
theorem k_told_4 (S : amS) (a : Ar) (hs : List Ar) (tx : List Nat) (u0 u1 u2 ck co : Int32) (hc : mCore S a hs tx u0 u1 u2 ck co) : X shM mX11_told 0 [.ref 0, .int (nI 4)] [] S (fun r S' => r = some (.int (nI a.1)) ∧ mCore S' a hs tx u0 u1 u2 ck co) := by
  refine x_iload_n dX11_told_0 rfl ?_
  refine x_ic _ ic_0 dX11_told_1 ?_
  refine x_bi _ bi_7 dX11_told_2 ?_
  refine x_s3d (N := mX11_in) dX11_told_4 ml_X11_113 ns_X11_in rfl (k_in S _ _ _) ?_
  refine x_if_eqB 18 dX11_told_7 rfl (fun c7 => ?_) (fun c7 => ?_)
  · exact absurd c7 (by decide)
  · refine x_aload_n dX11_told_10 rfl ?_
    refine x_iload_n dX11_told_11 rfl ?_
    refine x_v1 (N := mX11_toldOf) dX11_told_12 ml_X11_290 nv_X11_toldOf rfl rfl (k_toldOf_4 S a hs tx u0 u1 u2 ck co hc) ?_
    rintro _ S' ⟨rfl, hc'⟩
    refine x_goto 24 dX11_told_15 rfl ?_
    refine x_iretI dX11_told_24 rfl ?_
    exact ⟨rfl, hc'⟩
set_option maxRecDepth 100000 in
set_option maxHeartbeats 4000000 in
theorem k_toldOf_5 (S : amS) (a : Ar) (hs : List Ar) (tx : List Nat) (u0 u1 u2 ck co : Int32) (hc : mCore S a hs tx u0 u1 u2 ck co) : X shM mX11_toldOf 0 [.ref 0, .int (nI 5)] [] S (fun r S' => r = some (.int (nI a.2.1)) ∧ mCore S' a hs tx u0 u1 u2 ck co) := by
  have hA := hc.1.1
  have hm := hc.1.2
  obtain ⟨a1, a2, a3, a4, a5, a6, a7⟩ := id hA
  have h512 := pow9 a3
  have hr9 : ∀ t, t < 2 ^ a.2.1 → rkV a.2.2 t ≤ 9 := fun t ht => Nat.le_trans (rkV_le (by omega)) (pc9_le t (by omega))
  have hpos := Nat.two_pow_pos a.2.1
  refine x_iload_n dX11_toldOf_0 rfl ?_
  refine x_tableIn 49 dX11_toldOf_1 (by decide) (by decide) (off := 48) (by decide) rfl ?_
  refine x_aload_n dX11_toldOf_49 rfl ?_
  refine x_getR dX11_toldOf_50 fl_X11_7 rfl ?_
  refine x_bi _ bi_37 dX11_toldOf_53 ?_
  refine x_ialdN dX11_toldOf_55 rfl rfl (by omega) (hm.2.1) ?_
  refine x_iretI dX11_toldOf_56 rfl ?_
  exact ⟨rfl, hc⟩
set_option maxRecDepth 100000 in
set_option maxHeartbeats 4000000 in
theorem k_told_5 (S : amS) (a : Ar) (hs : List Ar) (tx : List Nat) (u0 u1 u2 ck co : Int32) (hc : mCore S a hs tx u0 u1 u2 ck co) : X shM mX11_told 0 [.ref 0, .int (nI 5)] [] S (fun r S' => r = some (.int (nI a.2.1)) ∧ mCore S' a hs tx u0 u1 u2 ck co) := by
  refine x_iload_n dX11_told_0 rfl ?_
  refine x_ic _ ic_0 dX11_told_1 ?_
  refine x_bi _ bi_7 dX11_told_2 ?_
  refine x_s3d (N := mX11_in) dX11_told_4 ml_X11_113 ns_X11_in rfl (k_in S _ _ _) ?_
  refine x_if_eqB 18 dX11_told_7 rfl (fun c7 => ?_) (fun c7 => ?_)
  · exact absurd c7 (by decide)
  · refine x_aload_n dX11_told_10 rfl ?_
    refine x_iload_n dX11_told_11 rfl ?_
    refine x_v1 (N := mX11_toldOf) dX11_told_12 ml_X11_290 nv_X11_toldOf rfl rfl (k_toldOf_5 S a hs tx u0 u1 u2 ck co hc) ?_
    rintro _ S' ⟨rfl, hc'⟩
    refine x_goto 24 dX11_told_15 rfl ?_
    refine x_iretI dX11_told_24 rfl ?_
    exact ⟨rfl, hc'⟩
set_option maxRecDepth 100000 in
set_option maxHeartbeats 4000000 in
theorem k_toldOf_6 (S : amS) (a : Ar) (hs : List Ar) (tx : List Nat) (u0 u1 u2 ck co : Int32) (hc : mCore S a hs tx u0 u1 u2 ck co) : X shM mX11_toldOf 0 [.ref 0, .int (nI 6)] [] S (fun r S' => r = some (.int (nI (rkV a.2.2 (2 ^ a.2.1 - 1)))) ∧ mCore S' a hs tx u0 u1 u2 ck co) := by
  have hA := hc.1.1
  have hm := hc.1.2
  obtain ⟨a1, a2, a3, a4, a5, a6, a7⟩ := id hA
  have h512 := pow9 a3
  have hr9 : ∀ t, t < 2 ^ a.2.1 → rkV a.2.2 t ≤ 9 := fun t ht => Nat.le_trans (rkV_le (by omega)) (pc9_le t (by omega))
  have hpos := Nat.two_pow_pos a.2.1
  refine x_iload_n dX11_toldOf_0 rfl ?_
  refine x_tableIn 57 dX11_toldOf_1 (by decide) (by decide) (off := 56) (by decide) rfl ?_
  refine x_aload_n dX11_toldOf_57 rfl ?_
  refine x_v0 (N := mX11_lay) dX11_toldOf_58 ml_X11_187 nv_X11_lay rfl rfl (k_layq S a hs tx u0 u1 u2 ck co hc) ?_
  rintro _ S' ⟨rfl, hc', hl, hf⟩
  refine x_aload_n dX11_toldOf_61 rfl ?_
  refine x_getR dX11_toldOf_62 fl_X11_29 rfl ?_
  refine x_aload_n dX11_toldOf_65 rfl ?_
  refine x_v0d (N := mX11_all) dX11_toldOf_66 ml_X11_109 nv_X11_all rfl rfl (k_all S' a.2.1 a3 hc'.1.2.2.1) ?_
  refine x_ialdN dX11_toldOf_69 rfl rfl (by omega) (hl.1 _ (by omega)) ?_
  refine x_iretI dX11_toldOf_70 rfl ?_
  exact ⟨rfl, hc'⟩
set_option maxRecDepth 100000 in
set_option maxHeartbeats 4000000 in
theorem k_told_6 (S : amS) (a : Ar) (hs : List Ar) (tx : List Nat) (u0 u1 u2 ck co : Int32) (hc : mCore S a hs tx u0 u1 u2 ck co) : X shM mX11_told 0 [.ref 0, .int (nI 6)] [] S (fun r S' => r = some (.int (nI (rkV a.2.2 (2 ^ a.2.1 - 1)))) ∧ mCore S' a hs tx u0 u1 u2 ck co) := by
  refine x_iload_n dX11_told_0 rfl ?_
  refine x_ic _ ic_0 dX11_told_1 ?_
  refine x_bi _ bi_7 dX11_told_2 ?_
  refine x_s3d (N := mX11_in) dX11_told_4 ml_X11_113 ns_X11_in rfl (k_in S _ _ _) ?_
  refine x_if_eqB 18 dX11_told_7 rfl (fun c7 => ?_) (fun c7 => ?_)
  · exact absurd c7 (by decide)
  · refine x_aload_n dX11_told_10 rfl ?_
    refine x_iload_n dX11_told_11 rfl ?_
    refine x_v1 (N := mX11_toldOf) dX11_told_12 ml_X11_290 nv_X11_toldOf rfl rfl (k_toldOf_6 S a hs tx u0 u1 u2 ck co hc) ?_
    rintro _ S' ⟨rfl, hc'⟩
    refine x_goto 24 dX11_told_15 rfl ?_
    refine x_iretI dX11_told_24 rfl ?_
    exact ⟨rfl, hc'⟩
set_option maxRecDepth 100000 in
set_option maxHeartbeats 4000000 in
theorem k_toldOf_7 (S : amS) (a : Ar) (hs : List Ar) (tx : List Nat) (u0 u1 u2 ck co : Int32) (hc : mCore S a hs tx u0 u1 u2 ck co) : X shM mX11_toldOf 0 [.ref 0, .int (nI 7)] [] S (fun r S' => r = some (.int (nI hs.length)) ∧ mCore S' a hs tx u0 u1 u2 ck co) := by
  have hA := hc.1.1
  have hm := hc.1.2
  obtain ⟨a1, a2, a3, a4, a5, a6, a7⟩ := id hA
  have h512 := pow9 a3
  have hr9 : ∀ t, t < 2 ^ a.2.1 → rkV a.2.2 t ≤ 9 := fun t ht => Nat.le_trans (rkV_le (by omega)) (pc9_le t (by omega))
  have hpos := Nat.two_pow_pos a.2.1
  refine x_iload_n dX11_toldOf_0 rfl ?_
  refine x_tableIn 71 dX11_toldOf_1 (by decide) (by decide) (off := 70) (by decide) rfl ?_
  refine x_aload_n dX11_toldOf_71 rfl ?_
  refine x_getIV dX11_toldOf_72 fl_X11_82 rfl (hc.2.1.1) ?_
  refine x_iretI dX11_toldOf_75 rfl ?_
  exact ⟨rfl, hc⟩
set_option maxRecDepth 100000 in
set_option maxHeartbeats 4000000 in
theorem k_told_7 (S : amS) (a : Ar) (hs : List Ar) (tx : List Nat) (u0 u1 u2 ck co : Int32) (hc : mCore S a hs tx u0 u1 u2 ck co) : X shM mX11_told 0 [.ref 0, .int (nI 7)] [] S (fun r S' => r = some (.int (nI hs.length)) ∧ mCore S' a hs tx u0 u1 u2 ck co) := by
  refine x_iload_n dX11_told_0 rfl ?_
  refine x_ic _ ic_0 dX11_told_1 ?_
  refine x_bi _ bi_7 dX11_told_2 ?_
  refine x_s3d (N := mX11_in) dX11_told_4 ml_X11_113 ns_X11_in rfl (k_in S _ _ _) ?_
  refine x_if_eqB 18 dX11_told_7 rfl (fun c7 => ?_) (fun c7 => ?_)
  · exact absurd c7 (by decide)
  · refine x_aload_n dX11_told_10 rfl ?_
    refine x_iload_n dX11_told_11 rfl ?_
    refine x_v1 (N := mX11_toldOf) dX11_told_12 ml_X11_290 nv_X11_toldOf rfl rfl (k_toldOf_7 S a hs tx u0 u1 u2 ck co hc) ?_
    rintro _ S' ⟨rfl, hc'⟩
    refine x_goto 24 dX11_told_15 rfl ?_
    refine x_iretI dX11_told_24 rfl ?_
    exact ⟨rfl, hc'⟩
set_option maxRecDepth 100000 in
set_option maxHeartbeats 4000000 in
theorem k_told_bad (S : amS) (a : Ar) (hs : List Ar) (tx : List Nat) (u0 u1 u2 ck co : Int32) (hc : mCore S a hs tx u0 u1 u2 ck co) (x : Int32) (hx : ¬ InR x 8) : X shM mX11_told 0 [.ref 0, .int x] [] S (fun r S' => r = some (.int (i32 (-2))) ∧ mCore S' a hs tx (u0 + nI 1) u1 u2 ck co) := by
  refine x_iload_n dX11_told_0 rfl ?_
  refine x_ic _ ic_0 dX11_told_1 ?_
  refine x_bi _ bi_7 dX11_told_2 ?_
  refine x_s3d (N := mX11_in) dX11_told_4 ml_X11_113 ns_X11_in rfl (k_in S _ _ _) ?_
  refine x_if_eqB 18 dX11_told_7 rfl (fun c7 => ?_) (fun c7 => ?_)
  · refine x_aload_n dX11_told_18 rfl ?_
    refine x_bi _ bi_m2 dX11_told_19 ?_
    refine x_v1 (N := mX11_refuses) dX11_told_21 ml_X11_89 nv_X11_refuses rfl rfl (k_bad S a hs tx u0 u1 u2 ck co hc) ?_
    rintro _ S' ⟨rfl, hc'⟩
    refine x_iretI dX11_told_24 rfl ?_
    exact ⟨rfl, hc'⟩
  · rw [in_R _ (by omega)] at c7
    exact absurd c7 hx
set_option maxRecDepth 100000 in
set_option maxHeartbeats 4000000 in
theorem k_type_bad (S : amS) (a : Ar) (hs : List Ar) (tx : List Nat) (u0 u1 u2 ck co : Int32) (hc : mCore S a hs tx u0 u1 u2 ck co) (x : Int32) (hx : ¬ InR x 128) : X shM mX11_type 0 [.ref 0, .int x] [] S (fun r S' => r = some (.int (i32 (-2))) ∧ mCore S' a hs tx (u0 + nI 1) u1 u2 ck co) := by
  refine x_iload_n dX11_type_0 rfl ?_
  refine x_ic _ ic_0 dX11_type_1 ?_
  refine x_bi _ bi_127 dX11_type_2 ?_
  refine x_s3d (N := mX11_in) dX11_type_4 ml_X11_113 ns_X11_in rfl (k_in S _ _ _) ?_
  refine x_if_neB 17 dX11_type_7 rfl (fun c7 => ?_) (fun c7 => ?_)
  · rw [in_R _ (by omega)] at c7
    exact absurd c7 hx
  · refine x_aload_n dX11_type_10 rfl ?_
    refine x_bi _ bi_m2 dX11_type_11 ?_
    refine x_v1 (N := mX11_refuses) dX11_type_13 ml_X11_89 nv_X11_refuses rfl rfl (k_bad S a hs tx u0 u1 u2 ck co hc) ?_
    rintro _ S' ⟨rfl, hc'⟩
    refine x_iretI dX11_type_16 rfl ?_
    exact ⟨rfl, hc'⟩
set_option maxRecDepth 100000 in
set_option maxHeartbeats 4000000 in
theorem k_type_full (S : amS) (a : Ar) (hs : List Ar) (tx : List Nat) (u0 u1 u2 ck co : Int32) (hc : mCore S a hs tx u0 u1 u2 ck co) (b : Nat) (hb : b < 128) (hf : tx.length = 100) : X shM mX11_type 0 [.ref 0, .int (nI b)] [] S (fun r S' => r = some (.int (i32 (-4))) ∧ mCore S' a hs tx u0 u1 (u2 + nI 1) ck co) := by
  have hle := hc.2.2.2.1.2.1
  refine x_iload_n dX11_type_0 rfl ?_
  refine x_ic _ ic_0 dX11_type_1 ?_
  refine x_bi _ bi_127 dX11_type_2 ?_
  refine x_s3d (N := mX11_in) dX11_type_4 ml_X11_113 ns_X11_in rfl (k_in S _ _ _) ?_
  refine x_if_neB 17 dX11_type_7 rfl (fun c7 => ?_) (fun c7 => ?_)
  · refine x_aload_n dX11_type_17 rfl ?_
    refine x_getIV dX11_type_18 fl_X11_246 rfl (hc.2.2.2.1.1) ?_
    refine x_bi _ bi_100 dX11_type_21 ?_
    refine x_icmp_neN 33 dX11_type_23 rfl (by omega) (by omega) (fun c23 => ?_) (fun c23 => ?_)
    · exact absurd hf c23
    · refine x_aload_n dX11_type_26 rfl ?_
      refine x_bi _ bi_m4 dX11_type_27 ?_
      refine x_v1 (N := mX11_refuses) dX11_type_29 ml_X11_89 nv_X11_refuses rfl rfl (k_full S a hs tx u0 u1 u2 ck co hc) ?_
      rintro _ S' ⟨rfl, hc'⟩
      refine x_iretI dX11_type_32 rfl ?_
      exact ⟨rfl, hc'⟩
  · rw [Bool.eq_false_iff, ne_eq, in_R _ (by omega)] at c7
    exact absurd (InR_in hb) c7
set_option maxRecDepth 100000 in
set_option maxHeartbeats 4000000 in
theorem k_type_ok (S : amS) (a : Ar) (hs : List Ar) (tx : List Nat) (u0 u1 u2 ck co : Int32) (hc : mCore S a hs tx u0 u1 u2 ck co) (b : Nat) (hb : b < 128) (hf : tx.length ≠ 100) : X shM mX11_type 0 [.ref 0, .int (nI b)] [] S (fun r S' => r = some (.int (nI (tx.length + 1))) ∧ mCore S' a hs (tx ++ [b]) u0 u1 u2 ck co) := by
  have hle := hc.2.2.2.1.2.1
  refine x_iload_n dX11_type_0 rfl ?_
  refine x_ic _ ic_0 dX11_type_1 ?_
  refine x_bi _ bi_127 dX11_type_2 ?_
  refine x_s3d (N := mX11_in) dX11_type_4 ml_X11_113 ns_X11_in rfl (k_in S _ _ _) ?_
  refine x_if_neB 17 dX11_type_7 rfl (fun c7 => ?_) (fun c7 => ?_)
  · refine x_aload_n dX11_type_17 rfl ?_
    refine x_getIV dX11_type_18 fl_X11_246 rfl (hc.2.2.2.1.1) ?_
    refine x_bi _ bi_100 dX11_type_21 ?_
    refine x_icmp_neN 33 dX11_type_23 rfl (by omega) (by omega) (fun c23 => ?_) (fun c23 => ?_)
    · refine x_aload_n dX11_type_33 rfl ?_
      refine x_getR dX11_type_34 fl_X11_22 rfl ?_
      refine x_aload_n dX11_type_37 rfl ?_
      refine x_getIV dX11_type_38 fl_X11_246 rfl (hc.2.2.2.1.1) ?_
      refine x_iload_n dX11_type_41 rfl ?_
      refine x_iastN dX11_type_42 rfl rfl (by omega) ?_
      refine x_aload_n dX11_type_43 rfl ?_
      refine x_dup dX11_type_44 rfl ?_
      refine x_getIV dX11_type_45 fl_X11_246 rfl (hc.2.2.2.1.1) ?_
      refine x_ic _ ic_1 dX11_type_48 ?_
      refine x_iaddN dX11_type_49 ?_
      refine x_put dX11_type_50 fp_X11_246 rfl rfl rfl ?_
      refine x_aload_n dX11_type_53 rfl ?_
      refine x_getIV dX11_type_54 fl_X11_246 rfl (rfl) ?_
      refine x_iretI dX11_type_57 rfl ?_
      obtain ⟨h1, h2, h3, h4, h5, h6⟩ := hc
      refine ⟨rfl, h1, h2, h3, ⟨by rw [List.length_append]; rfl, by rw [List.length_append]; show tx.length + 1 ≤ 100; omega, fun k c hk => ?_⟩, h5, h6⟩
      by_cases q : k < tx.length
      · rw [List.getElem?_append_left q] at hk
        obtain ⟨z1, z2⟩ := h4.2.2 k c hk
        refine ⟨z1, ?_⟩
        show upd (S.2.1 5) tx.length (nI b) k = _
        rw [upd_n _ _ (by omega)]; exact z2
      · rw [List.getElem?_append_right (by omega)] at hk
        have q2 : k = tx.length := by
          have := (List.getElem?_eq_some_iff.mp hk).1
          simp only [List.length_cons, List.length_nil] at this
          omega
        subst q2
        rw [Nat.sub_self] at hk
        cases hk
        refine ⟨by omega, ?_⟩
        show upd (S.2.1 5) tx.length (nI b) tx.length = _
        rw [upd_s]
    · exact absurd c23 hf
  · rw [Bool.eq_false_iff, ne_eq, in_R _ (by omega)] at c7
    exact absurd (InR_in hb) c7
set_option maxRecDepth 100000 in
set_option maxHeartbeats 4000000 in
theorem k_clear (S : amS) (a : Ar) (hs : List Ar) (tx : List Nat) (u0 u1 u2 ck co : Int32) (hc : mCore S a hs tx u0 u1 u2 ck co) : X shM mX11_clear 0 [.ref 0, .null] [] S (fun r S' => r = some (.int (nI tx.length)) ∧ mCore S' a hs [] u0 u1 u2 ck co) := by
  refine x_aload_n dX11_clear_0 rfl ?_
  refine x_getIV dX11_clear_1 fl_X11_246 rfl (hc.2.2.2.1.1) ?_
  refine x_istore_n dX11_clear_4 rfl ?_
  refine x_aload_n dX11_clear_5 rfl ?_
  refine x_ic _ ic_0 dX11_clear_6 ?_
  refine x_put dX11_clear_7 fp_X11_246 rfl rfl rfl ?_
  refine x_iload_n dX11_clear_10 rfl ?_
  refine x_iretI dX11_clear_11 rfl ?_
  obtain ⟨h1, h2, h3, h4, h5, h6⟩ := hc
  exact ⟨rfl, h1, h2, h3, ⟨rfl, Nat.zero_le _, fun k c hk => by simp at hk⟩, h5, h6⟩
