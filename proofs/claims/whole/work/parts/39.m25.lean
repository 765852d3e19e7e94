/-! THE REFERENCE: space, plane, turns, drops, swaps, makes -/
set_option maxRecDepth 100000 in
set_option maxHeartbeats 4000000 in
theorem k_ends_ok (S : amS) (a b : Ar) (hs : List Ar) (tx : List Nat) (u0 u1 u2 ck co : Int32) (hc : mMid S a b hs tx u0 u1 u2 ck co) (n : Nat) (hn : n < 1000) : X shM mX11_ends 0 [.ref 0, .int (nI n)] [] S (fun r S' => r = some (.int (nI n)) ∧ mCore S' b (pushH hs a) tx u0 u1 u2 ck co ∧ S'.2.1 2 = S.2.1 2) := by
  refine x_iload_n dX11_ends_0 rfl ?_
  refine x_topI ?_
  refine x_if_geI 10 dX11_ends_1 rfl (by omega) (fun c1 => ?_) (fun c1 => ?_)
  · refine x_aload_n dX11_ends_10 rfl ?_
    refine x_v0 (N := mX11_push) dX11_ends_11 ml_X11_158 nv_X11_push rfl rfl (k_pushq S a b hs tx u0 u1 u2 ck co hc) ?_
    rintro _ S' ⟨rfl, hc', h2, -⟩
    refine x_iload_n dX11_ends_14 rfl ?_
    refine x_iretI dX11_ends_15 rfl ?_
    exact ⟨rfl, hc', h2⟩
  · omega
set_option maxRecDepth 100000 in
set_option maxHeartbeats 4000000 in
theorem k_ends_bad (S : amS) (a : Ar) (hs : List Ar) (tx : List Nat) (u0 u1 u2 ck co : Int32) (hc : mMid S a a hs tx u0 u1 u2 ck co) : X shM mX11_ends 0 [.ref 0, .int (i32 (-2))] [] S (fun r S' => r = some (.int (i32 (-2))) ∧ mCore S' a hs tx (u0 + nI 1) u1 u2 ck co) := by
  refine x_iload_n dX11_ends_0 rfl ?_
  refine x_if_geI 10 dX11_ends_1 rfl (by omega) (fun c1 => ?_) (fun c1 => ?_)
  · omega
  · refine x_aload_n dX11_ends_4 rfl ?_
    refine x_iload_n dX11_ends_5 rfl ?_
    refine x_v1 (N := mX11_refuses) dX11_ends_6 ml_X11_89 nv_X11_refuses rfl rfl (k_bad S a hs tx u0 u1 u2 ck co hc.core) ?_
    rintro _ S' ⟨rfl, hc'⟩
    refine x_iretI dX11_ends_9 rfl ?_
    exact ⟨rfl, hc'⟩
set_option maxRecDepth 100000 in
set_option maxHeartbeats 4000000 in
theorem k_ends_no (S : amS) (a : Ar) (hs : List Ar) (tx : List Nat) (u0 u1 u2 ck co : Int32) (hc : mMid S a a hs tx u0 u1 u2 ck co) : X shM mX11_ends 0 [.ref 0, .int (i32 (-3))] [] S (fun r S' => r = some (.int (i32 (-3))) ∧ mCore S' a hs tx u0 (u1 + nI 1) u2 ck co) := by
  refine x_iload_n dX11_ends_0 rfl ?_
  refine x_if_geI 10 dX11_ends_1 rfl (by omega) (fun c1 => ?_) (fun c1 => ?_)
  · omega
  · refine x_aload_n dX11_ends_4 rfl ?_
    refine x_iload_n dX11_ends_5 rfl ?_
    refine x_v1 (N := mX11_refuses) dX11_ends_6 ml_X11_89 nv_X11_refuses rfl rfl (k_no S a hs tx u0 u1 u2 ck co hc.core) ?_
    rintro _ S' ⟨rfl, hc'⟩
    refine x_iretI dX11_ends_9 rfl ?_
    exact ⟨rfl, hc'⟩
set_option maxRecDepth 100000 in
set_option maxHeartbeats 4000000 in
theorem k_ends_full (S : amS) (a : Ar) (hs : List Ar) (tx : List Nat) (u0 u1 u2 ck co : Int32) (hc : mMid S a a hs tx u0 u1 u2 ck co) : X shM mX11_ends 0 [.ref 0, .int (i32 (-4))] [] S (fun r S' => r = some (.int (i32 (-4))) ∧ mCore S' a hs tx u0 u1 (u2 + nI 1) ck co) := by
  refine x_iload_n dX11_ends_0 rfl ?_
  refine x_if_geI 10 dX11_ends_1 rfl (by omega) (fun c1 => ?_) (fun c1 => ?_)
  · omega
  · refine x_aload_n dX11_ends_4 rfl ?_
    refine x_iload_n dX11_ends_5 rfl ?_
    refine x_v1 (N := mX11_refuses) dX11_ends_6 ml_X11_89 nv_X11_refuses rfl rfl (k_full S a hs tx u0 u1 u2 ck co hc.core) ?_
    rintro _ S' ⟨rfl, hc'⟩
    refine x_iretI dX11_ends_9 rfl ?_
    exact ⟨rfl, hc'⟩
set_option maxRecDepth 100000 in
set_option maxHeartbeats 4000000 in
theorem k_space_ok (S : amS) (a : Ar) (hs : List Ar) (tx : List Nat) (u0 u1 u2 ck co : Int32) (hc : mCore S a hs tx u0 u1 u2 ck co) (n : Nat) (h2 : 2 ≤ n) (h4 : n ≤ 4) : X shM mX11_space 0 [.ref 0, .int (nI n)] [] S (fun r S' => r = some (.int (nI a.1)) ∧ mCore S' (aSpace n) (pushH hs a) tx u0 u1 u2 ck co) := by
  have h9 := hc.1.1.2.2.1
  have hd2 := hc.1.1.1
  have hd4 := hc.1.1.2.1
  refine x_aload_n dX11_space_0 rfl ?_
  refine x_v0 (N := mX11_hold) dX11_space_1 ml_X11_161 nv_X11_hold rfl rfl (k_holdq S a hs tx u0 u1 u2 ck co hc) ?_
  rintro _ S1 ⟨rfl, hc1⟩
  refine x_aload_n dX11_space_4 rfl ?_
  refine x_aload_n dX11_space_5 rfl ?_
  refine x_iload_n dX11_space_6 rfl ?_
  refine x_v1 (N := mX11_doSpace) dX11_space_7 ml_X11_164 nv_X11_doSpace rfl rfl (k_doSpace_ok S1 a hc1.1.1 hc1.1.2 n h2 h4) ?_
  rintro _ S2 ⟨rfl, ho, hr⟩
  refine x_v1 (N := mX11_ends) dX11_space_10 ml_X11_167 nv_X11_ends rfl rfl (k_ends_ok S2 a (aSpace n) hs tx u0 u1 u2 ck co (hc1.on ho (arr_space h2 h4) hr) n (by omega)) ?_
  rintro _ S3 ⟨rfl, hc3, h22⟩
  refine x_topI ?_
  refine x_if_geI 21 dX11_space_13 rfl (by omega) (fun c13 => ?_) (fun c13 => ?_)
  · refine x_aload_n dX11_space_21 rfl ?_
    refine x_getR dX11_space_22 fl_X11_13 rfl ?_
    refine x_bi _ bi_36 dX11_space_25 ?_
    refine x_ialdN dX11_space_27 rfl rfl (by omega) ((congrFun h22 36).trans ((congrFun (ho.2 2 (by omega) (by omega)) 36).trans hc1.2.1.2.1)) ?_
    refine x_iretI dX11_space_28 rfl ?_
    exact ⟨rfl, hc3⟩
  · omega
set_option maxRecDepth 100000 in
set_option maxHeartbeats 4000000 in
theorem k_space_bad (S : amS) (a : Ar) (hs : List Ar) (tx : List Nat) (u0 u1 u2 ck co : Int32) (hc : mCore S a hs tx u0 u1 u2 ck co) (x : Int32) (hx : ¬ ∃ n, 2 ≤ n ∧ n ≤ 4 ∧ x = nI n) : X shM mX11_space 0 [.ref 0, .int x] [] S (fun r S' => r = some (.int (i32 (-2))) ∧ mCore S' a hs tx (u0 + nI 1) u1 u2 ck co) := by
  have h9 := hc.1.1.2.2.1
  have hd2 := hc.1.1.1
  have hd4 := hc.1.1.2.1
  refine x_aload_n dX11_space_0 rfl ?_
  refine x_v0 (N := mX11_hold) dX11_space_1 ml_X11_161 nv_X11_hold rfl rfl (k_holdq S a hs tx u0 u1 u2 ck co hc) ?_
  rintro _ S1 ⟨rfl, hc1⟩
  refine x_aload_n dX11_space_4 rfl ?_
  refine x_aload_n dX11_space_5 rfl ?_
  refine x_iload_n dX11_space_6 rfl ?_
  refine x_v1 (N := mX11_doSpace) dX11_space_7 ml_X11_164 nv_X11_doSpace rfl rfl (k_doSpace_bad S1 a hc1.1.1 hc1.1.2 x hx) ?_
  rintro _ S2 ⟨rfl, ho, hr⟩
  refine x_v1 (N := mX11_ends) dX11_space_10 ml_X11_167 nv_X11_ends rfl rfl (k_ends_bad S2 a hs tx u0 u1 u2 ck co (hc1.on ho hc1.1.1 hr)) ?_
  rintro _ S3 ⟨rfl, hc3⟩
  refine x_if_geI 21 dX11_space_13 rfl (by omega) (fun c13 => ?_) (fun c13 => ?_)
  · omega
  · refine x_bi _ bi_m2 dX11_space_16 ?_
    refine x_goto 28 dX11_space_18 rfl ?_
    refine x_iretI dX11_space_28 rfl ?_
    exact ⟨rfl, hc3⟩
set_option maxRecDepth 100000 in
set_option maxHeartbeats 4000000 in
theorem k_plane_bad (S : amS) (a : Ar) (hs : List Ar) (tx : List Nat) (u0 u1 u2 ck co : Int32) (hc : mCore S a hs tx u0 u1 u2 ck co) (x0 x1 x2 x3 : Int32) (hx : ¬ plOK a.1 (q4 x0 x1 x2 x3)) : X shM mX11_plane 0 [.ref 0, .int x0, .int x1, .int x2, .int x3] [] S (fun r S' => r = some (.int (i32 (-2))) ∧ mCore S' a hs tx (u0 + nI 1) u1 u2 ck co) := by
  refine x_aload_n dX11_plane_0 rfl ?_
  refine x_v0 (N := mX11_hold) dX11_plane_1 ml_X11_161 nv_X11_hold rfl rfl (k_holdq S a hs tx u0 u1 u2 ck co hc) ?_
  rintro _ S1 ⟨rfl, hc1⟩
  refine x_aload_n dX11_plane_4 rfl ?_
  refine x_aload_n dX11_plane_5 rfl ?_
  refine x_iload_n dX11_plane_6 rfl ?_
  refine x_iload_n dX11_plane_7 rfl ?_
  refine x_iload_n dX11_plane_8 rfl ?_
  refine x_iload dX11_plane_9 rfl ?_
  refine x_v4 (N := mX11_doPlane) dX11_plane_11 ml_X11_170 nv_X11_doPlane rfl rfl (k_doPlane_bad S1 a hc1.1.1 hc1.1.2 x0 x1 x2 x3 hx) ?_
  rintro _ S2 ⟨rfl, ho, hr⟩
  refine x_v1 (N := mX11_ends) dX11_plane_14 ml_X11_167 nv_X11_ends rfl rfl (k_ends_bad S2 a hs tx u0 u1 u2 ck co (hc1.on ho hc1.1.1 hr)) ?_
  rintro _ S3 ⟨rfl, hc3⟩
  refine x_iretI dX11_plane_17 rfl ?_
  exact ⟨rfl, hc3⟩
set_option maxRecDepth 100000 in
set_option maxHeartbeats 4000000 in
theorem k_plane_no (S : amS) (a : Ar) (hs : List Ar) (tx : List Nat) (u0 u1 u2 ck co : Int32) (hc : mCore S a hs tx u0 u1 u2 ck co) (x0 x1 x2 x3 : Int32) (hx : plOK a.1 (q4 x0 x1 x2 x3)) (hn : ∃ i, i < a.2.1 ∧ same (a.2.2 i) (plR (q4 x0 x1 x2 x3))) : X shM mX11_plane 0 [.ref 0, .int x0, .int x1, .int x2, .int x3] [] S (fun r S' => r = some (.int (i32 (-3))) ∧ mCore S' a hs tx u0 (u1 + nI 1) u2 ck co) := by
  refine x_aload_n dX11_plane_0 rfl ?_
  refine x_v0 (N := mX11_hold) dX11_plane_1 ml_X11_161 nv_X11_hold rfl rfl (k_holdq S a hs tx u0 u1 u2 ck co hc) ?_
  rintro _ S1 ⟨rfl, hc1⟩
  refine x_aload_n dX11_plane_4 rfl ?_
  refine x_aload_n dX11_plane_5 rfl ?_
  refine x_iload_n dX11_plane_6 rfl ?_
  refine x_iload_n dX11_plane_7 rfl ?_
  refine x_iload_n dX11_plane_8 rfl ?_
  refine x_iload dX11_plane_9 rfl ?_
  refine x_v4 (N := mX11_doPlane) dX11_plane_11 ml_X11_170 nv_X11_doPlane rfl rfl (k_doPlane_no S1 a hc1.1.1 hc1.1.2 x0 x1 x2 x3 hx hn) ?_
  rintro _ S2 ⟨rfl, ho, hr⟩
  refine x_v1 (N := mX11_ends) dX11_plane_14 ml_X11_167 nv_X11_ends rfl rfl (k_ends_no S2 a hs tx u0 u1 u2 ck co (hc1.on ho hc1.1.1 hr)) ?_
  rintro _ S3 ⟨rfl, hc3⟩
  refine x_iretI dX11_plane_17 rfl ?_
  exact ⟨rfl, hc3⟩
set_option maxRecDepth 100000 in
set_option maxHeartbeats 4000000 in
theorem k_plane_full (S : amS) (a : Ar) (hs : List Ar) (tx : List Nat) (u0 u1 u2 ck co : Int32) (hc : mCore S a hs tx u0 u1 u2 ck co) (x0 x1 x2 x3 : Int32) (hx : plOK a.1 (q4 x0 x1 x2 x3)) (hn : ∀ i, i < a.2.1 → ¬ same (a.2.2 i) (plR (q4 x0 x1 x2 x3))) (h9 : a.2.1 = 9) : X shM mX11_plane 0 [.ref 0, .int x0, .int x1, .int x2, .int x3] [] S (fun r S' => r = some (.int (i32 (-4))) ∧ mCore S' a hs tx u0 u1 (u2 + nI 1) ck co) := by
  refine x_aload_n dX11_plane_0 rfl ?_
  refine x_v0 (N := mX11_hold) dX11_plane_1 ml_X11_161 nv_X11_hold rfl rfl (k_holdq S a hs tx u0 u1 u2 ck co hc) ?_
  rintro _ S1 ⟨rfl, hc1⟩
  refine x_aload_n dX11_plane_4 rfl ?_
  refine x_aload_n dX11_plane_5 rfl ?_
  refine x_iload_n dX11_plane_6 rfl ?_
  refine x_iload_n dX11_plane_7 rfl ?_
  refine x_iload_n dX11_plane_8 rfl ?_
  refine x_iload dX11_plane_9 rfl ?_
  refine x_v4 (N := mX11_doPlane) dX11_plane_11 ml_X11_170 nv_X11_doPlane rfl rfl (k_doPlane_full S1 a hc1.1.1 hc1.1.2 x0 x1 x2 x3 hx hn h9) ?_
  rintro _ S2 ⟨rfl, ho, hr⟩
  refine x_v1 (N := mX11_ends) dX11_plane_14 ml_X11_167 nv_X11_ends rfl rfl (k_ends_full S2 a hs tx u0 u1 u2 ck co (hc1.on ho hc1.1.1 hr)) ?_
  rintro _ S3 ⟨rfl, hc3⟩
  refine x_iretI dX11_plane_17 rfl ?_
  exact ⟨rfl, hc3⟩
set_option maxRecDepth 100000 in
set_option maxHeartbeats 4000000 in
theorem k_plane_ok (S : amS) (a : Ar) (hs : List Ar) (tx : List Nat) (u0 u1 u2 ck co : Int32) (hc : mCore S a hs tx u0 u1 u2 ck co) (x0 x1 x2 x3 : Int32) (hx : plOK a.1 (q4 x0 x1 x2 x3)) (hn : ∀ i, i < a.2.1 → ¬ same (a.2.2 i) (plR (q4 x0 x1 x2 x3))) (h9 : a.2.1 < 9) : X shM mX11_plane 0 [.ref 0, .int x0, .int x1, .int x2, .int x3] [] S (fun r S' => r = some (.int (nI a.2.1)) ∧ mCore S' (aAdd a (plR (q4 x0 x1 x2 x3))) (pushH hs a) tx u0 u1 u2 ck co) := by
  refine x_aload_n dX11_plane_0 rfl ?_
  refine x_v0 (N := mX11_hold) dX11_plane_1 ml_X11_161 nv_X11_hold rfl rfl (k_holdq S a hs tx u0 u1 u2 ck co hc) ?_
  rintro _ S1 ⟨rfl, hc1⟩
  refine x_aload_n dX11_plane_4 rfl ?_
  refine x_aload_n dX11_plane_5 rfl ?_
  refine x_iload_n dX11_plane_6 rfl ?_
  refine x_iload_n dX11_plane_7 rfl ?_
  refine x_iload_n dX11_plane_8 rfl ?_
  refine x_iload dX11_plane_9 rfl ?_
  refine x_v4 (N := mX11_doPlane) dX11_plane_11 ml_X11_170 nv_X11_doPlane rfl rfl (k_doPlane_ok S1 a hc1.1.1 hc1.1.2 x0 x1 x2 x3 hx hn h9) ?_
  rintro _ S2 ⟨rfl, ho, hr⟩
  refine x_v1 (N := mX11_ends) dX11_plane_14 ml_X11_167 nv_X11_ends rfl rfl (k_ends_ok S2 a (aAdd a (plR (q4 x0 x1 x2 x3))) hs tx u0 u1 u2 ck co (hc1.on ho (arr_plane hc1.1.1 hx h9 hn) hr) a.2.1 (by omega)) ?_
  rintro _ S3 ⟨rfl, hc3, h22⟩
  refine x_iretI dX11_plane_17 rfl ?_
  exact ⟨rfl, hc3⟩
set_option maxRecDepth 100000 in
set_option maxHeartbeats 4000000 in
theorem k_turns_ok (S : amS) (a : Ar) (hs : List Ar) (tx : List Nat) (u0 u1 u2 ck co : Int32) (hc : mCore S a hs tx u0 u1 u2 ck co) (i : Nat) (hi : i < a.2.1) : X shM mX11_turns 0 [.ref 0, .int (nI i)] [] S (fun r S' => r = some (.int (nI (regL (aTurn a i).2.2 (aTurn a i).2.1).length)) ∧ mCore S' (aTurn a i) (pushH hs a) tx u0 u1 u2 ck co) := by
  have h9 := hc.1.1.2.2.1
  have hd2 := hc.1.1.1
  have hd4 := hc.1.1.2.1
  refine x_aload_n dX11_turns_0 rfl ?_
  refine x_v0 (N := mX11_hold) dX11_turns_1 ml_X11_161 nv_X11_hold rfl rfl (k_holdq S a hs tx u0 u1 u2 ck co hc) ?_
  rintro _ S1 ⟨rfl, hc1⟩
  refine x_aload_n dX11_turns_4 rfl ?_
  refine x_aload_n dX11_turns_5 rfl ?_
  refine x_iload_n dX11_turns_6 rfl ?_
  refine x_v1 (N := mX11_doTurns) dX11_turns_7 ml_X11_174 nv_X11_doTurns rfl rfl (k_doTurns_ok S1 a hc1.1.1 hc1.1.2 i hi) ?_
  rintro _ S2 ⟨rfl, ho, hr⟩
  refine x_v1 (N := mX11_ends) dX11_turns_10 ml_X11_167 nv_X11_ends rfl rfl (k_ends_ok S2 a (aTurn a i) hs tx u0 u1 u2 ck co (hc1.on ho (arr_turn hc1.1.1 i) hr) i (by omega)) ?_
  rintro _ S3 ⟨rfl, hc3, h22⟩
  refine x_topI ?_
  refine x_if_geI 21 dX11_turns_13 rfl (by omega) (fun c13 => ?_) (fun c13 => ?_)
  · refine x_aload_n dX11_turns_21 rfl ?_
    refine x_v0 (N := mX11_partMany) dX11_turns_22 ml_X11_177 nv_X11_partMany rfl rfl (k_partMany S3 _ _ _ _ _ _ _ _ hc3) ?_
    rintro _ S4 ⟨rfl, hc4⟩
    refine x_iretI dX11_turns_25 rfl ?_
    exact ⟨rfl, hc4⟩
  · omega
set_option maxRecDepth 100000 in
set_option maxHeartbeats 4000000 in
theorem k_turns_bad (S : amS) (a : Ar) (hs : List Ar) (tx : List Nat) (u0 u1 u2 ck co : Int32) (hc : mCore S a hs tx u0 u1 u2 ck co) (x : Int32) (hx : ¬ InR x a.2.1) : X shM mX11_turns 0 [.ref 0, .int x] [] S (fun r S' => r = some (.int (i32 (-2))) ∧ mCore S' a hs tx (u0 + nI 1) u1 u2 ck co) := by
  have h9 := hc.1.1.2.2.1
  have hd2 := hc.1.1.1
  have hd4 := hc.1.1.2.1
  refine x_aload_n dX11_turns_0 rfl ?_
  refine x_v0 (N := mX11_hold) dX11_turns_1 ml_X11_161 nv_X11_hold rfl rfl (k_holdq S a hs tx u0 u1 u2 ck co hc) ?_
  rintro _ S1 ⟨rfl, hc1⟩
  refine x_aload_n dX11_turns_4 rfl ?_
  refine x_aload_n dX11_turns_5 rfl ?_
  refine x_iload_n dX11_turns_6 rfl ?_
  refine x_v1 (N := mX11_doTurns) dX11_turns_7 ml_X11_174 nv_X11_doTurns rfl rfl (k_doTurns_bad S1 a hc1.1.1 hc1.1.2 x hx) ?_
  rintro _ S2 ⟨rfl, ho, hr⟩
  refine x_v1 (N := mX11_ends) dX11_turns_10 ml_X11_167 nv_X11_ends rfl rfl (k_ends_bad S2 a hs tx u0 u1 u2 ck co (hc1.on ho hc1.1.1 hr)) ?_
  rintro _ S3 ⟨rfl, hc3⟩
  refine x_if_geI 21 dX11_turns_13 rfl (by omega) (fun c13 => ?_) (fun c13 => ?_)
  · omega
  · refine x_bi _ bi_m2 dX11_turns_16 ?_
    refine x_goto 25 dX11_turns_18 rfl ?_
    refine x_iretI dX11_turns_25 rfl ?_
    exact ⟨rfl, hc3⟩
set_option maxRecDepth 100000 in
set_option maxHeartbeats 4000000 in
theorem k_drops_ok (S : amS) (a : Ar) (hs : List Ar) (tx : List Nat) (u0 u1 u2 ck co : Int32) (hc : mCore S a hs tx u0 u1 u2 ck co) (i : Nat) (hi : i < a.2.1) : X shM mX11_drops 0 [.ref 0, .int (nI i)] [] S (fun r S' => r = some (.int (nI (a.2.1 - 1))) ∧ mCore S' (aDrop a i) (pushH hs a) tx u0 u1 u2 ck co) := by
  have h9 := hc.1.1.2.2.1
  have hd2 := hc.1.1.1
  have hd4 := hc.1.1.2.1
  refine x_aload_n dX11_drops_0 rfl ?_
  refine x_v0 (N := mX11_hold) dX11_drops_1 ml_X11_161 nv_X11_hold rfl rfl (k_holdq S a hs tx u0 u1 u2 ck co hc) ?_
  rintro _ S1 ⟨rfl, hc1⟩
  refine x_aload_n dX11_drops_4 rfl ?_
  refine x_aload_n dX11_drops_5 rfl ?_
  refine x_iload_n dX11_drops_6 rfl ?_
  refine x_v1 (N := mX11_doDrops) dX11_drops_7 ml_X11_180 nv_X11_doDrops rfl rfl (k_doDrops_ok S1 a hc1.1.1 hc1.1.2 i hi) ?_
  rintro _ S2 ⟨rfl, ho, hr⟩
  refine x_v1 (N := mX11_ends) dX11_drops_10 ml_X11_167 nv_X11_ends rfl rfl (k_ends_ok S2 a (aDrop a i) hs tx u0 u1 u2 ck co (hc1.on ho (arr_drop hc1.1.1 hi) hr) (a.2.1 - 1) (by omega)) ?_
  rintro _ S3 ⟨rfl, hc3, h22⟩
  refine x_iretI dX11_drops_13 rfl ?_
  exact ⟨rfl, hc3⟩
set_option maxRecDepth 100000 in
set_option maxHeartbeats 4000000 in
theorem k_drops_bad (S : amS) (a : Ar) (hs : List Ar) (tx : List Nat) (u0 u1 u2 ck co : Int32) (hc : mCore S a hs tx u0 u1 u2 ck co) (x : Int32) (hx : ¬ InR x a.2.1) : X shM mX11_drops 0 [.ref 0, .int x] [] S (fun r S' => r = some (.int (i32 (-2))) ∧ mCore S' a hs tx (u0 + nI 1) u1 u2 ck co) := by
  have h9 := hc.1.1.2.2.1
  have hd2 := hc.1.1.1
  have hd4 := hc.1.1.2.1
  refine x_aload_n dX11_drops_0 rfl ?_
  refine x_v0 (N := mX11_hold) dX11_drops_1 ml_X11_161 nv_X11_hold rfl rfl (k_holdq S a hs tx u0 u1 u2 ck co hc) ?_
  rintro _ S1 ⟨rfl, hc1⟩
  refine x_aload_n dX11_drops_4 rfl ?_
  refine x_aload_n dX11_drops_5 rfl ?_
  refine x_iload_n dX11_drops_6 rfl ?_
  refine x_v1 (N := mX11_doDrops) dX11_drops_7 ml_X11_180 nv_X11_doDrops rfl rfl (k_doDrops_bad S1 a hc1.1.1 hc1.1.2 x hx) ?_
  rintro _ S2 ⟨rfl, ho, hr⟩
  refine x_v1 (N := mX11_ends) dX11_drops_10 ml_X11_167 nv_X11_ends rfl rfl (k_ends_bad S2 a hs tx u0 u1 u2 ck co (hc1.on ho hc1.1.1 hr)) ?_
  rintro _ S3 ⟨rfl, hc3⟩
  refine x_iretI dX11_drops_13 rfl ?_
  exact ⟨rfl, hc3⟩
set_option maxRecDepth 100000 in
set_option maxHeartbeats 4000000 in
theorem k_swaps_ok (S : amS) (a : Ar) (hs : List Ar) (tx : List Nat) (u0 u1 u2 ck co : Int32) (hc : mCore S a hs tx u0 u1 u2 ck co) (i l : Nat) (hi : i < a.2.1) (hl : l < a.2.1) (hil : i ≠ l) : X shM mX11_swaps 0 [.ref 0, .int (nI i), .int (nI l)] [] S (fun r S' => r = some (.int (nI (rkV (aSwap a i l).2.2 (2 ^ (aSwap a i l).2.1 - 1)))) ∧ mCore S' (aSwap a i l) (pushH hs a) tx u0 u1 u2 ck co) := by
  have h9 := hc.1.1.2.2.1
  have hd2 := hc.1.1.1
  have hd4 := hc.1.1.2.1
  refine x_aload_n dX11_swaps_0 rfl ?_
  refine x_v0 (N := mX11_hold) dX11_swaps_1 ml_X11_161 nv_X11_hold rfl rfl (k_holdq S a hs tx u0 u1 u2 ck co hc) ?_
  rintro _ S1 ⟨rfl, hc1⟩
  refine x_aload_n dX11_swaps_4 rfl ?_
  refine x_aload_n dX11_swaps_5 rfl ?_
  refine x_iload_n dX11_swaps_6 rfl ?_
  refine x_iload_n dX11_swaps_7 rfl ?_
  refine x_v2 (N := mX11_doSwaps) dX11_swaps_8 ml_X11_183 nv_X11_doSwaps rfl rfl (k_doSwaps_ok S1 a hc1.1.1 hc1.1.2 i l hi hl hil) ?_
  rintro _ S2 ⟨rfl, ho, hr⟩
  refine x_v1 (N := mX11_ends) dX11_swaps_11 ml_X11_167 nv_X11_ends rfl rfl (k_ends_ok S2 a (aSwap a i l) hs tx u0 u1 u2 ck co (hc1.on ho (arr_swap hc1.1.1 hi hl) hr) i (by omega)) ?_
  rintro _ S3 ⟨rfl, hc3, h22⟩
  refine x_topI ?_
  refine x_if_geI 20 dX11_swaps_14 rfl (by omega) (fun c14 => ?_) (fun c14 => ?_)
  · refine x_aload_n dX11_swaps_20 rfl ?_
    refine x_v0 (N := mX11_lay) dX11_swaps_21 ml_X11_187 nv_X11_lay rfl rfl (k_layq S3 _ _ _ _ _ _ _ _ hc3) ?_
    rintro _ S4 ⟨rfl, hc4, hl4, hf4⟩
    have h94 := hc4.1.1.2.2.1
    have hp4 := pow9 h94
    have hq4 := Nat.two_pow_pos (aSwap a i l).2.1
    refine x_aload_n dX11_swaps_24 rfl ?_
    refine x_getR dX11_swaps_25 fl_X11_29 rfl ?_
    refine x_aload_n dX11_swaps_28 rfl ?_
    refine x_v0d (N := mX11_all) dX11_swaps_29 ml_X11_109 nv_X11_all rfl rfl (k_all S4 (aSwap a i l).2.1 h94 hc4.1.2.2.1) ?_
    refine x_ialdN dX11_swaps_32 rfl rfl (by omega) (hl4.1 _ (by omega)) ?_
    refine x_iretI dX11_swaps_33 rfl ?_
    exact ⟨rfl, hc4⟩
  · omega
set_option maxRecDepth 100000 in
set_option maxHeartbeats 4000000 in
theorem k_swaps_bad (S : amS) (a : Ar) (hs : List Ar) (tx : List Nat) (u0 u1 u2 ck co : Int32) (hc : mCore S a hs tx u0 u1 u2 ck co) (x y : Int32) (hx : ¬ (InR x a.2.1 ∧ InR y a.2.1 ∧ x ≠ y)) : X shM mX11_swaps 0 [.ref 0, .int x, .int y] [] S (fun r S' => r = some (.int (i32 (-2))) ∧ mCore S' a hs tx (u0 + nI 1) u1 u2 ck co) := by
  have h9 := hc.1.1.2.2.1
  have hd2 := hc.1.1.1
  have hd4 := hc.1.1.2.1
  refine x_aload_n dX11_swaps_0 rfl ?_
  refine x_v0 (N := mX11_hold) dX11_swaps_1 ml_X11_161 nv_X11_hold rfl rfl (k_holdq S a hs tx u0 u1 u2 ck co hc) ?_
  rintro _ S1 ⟨rfl, hc1⟩
  refine x_aload_n dX11_swaps_4 rfl ?_
  refine x_aload_n dX11_swaps_5 rfl ?_
  refine x_iload_n dX11_swaps_6 rfl ?_
  refine x_iload_n dX11_swaps_7 rfl ?_
  refine x_v2 (N := mX11_doSwaps) dX11_swaps_8 ml_X11_183 nv_X11_doSwaps rfl rfl (k_doSwaps_bad S1 a hc1.1.1 hc1.1.2 x y hx) ?_
  rintro _ S2 ⟨rfl, ho, hr⟩
  refine x_v1 (N := mX11_ends) dX11_swaps_11 ml_X11_167 nv_X11_ends rfl rfl (k_ends_bad S2 a hs tx u0 u1 u2 ck co (hc1.on ho hc1.1.1 hr)) ?_
  rintro _ S3 ⟨rfl, hc3⟩
  refine x_if_geI 20 dX11_swaps_14 rfl (by omega) (fun c14 => ?_) (fun c14 => ?_)
  · omega
  · refine x_bi _ bi_m2 dX11_swaps_17 ?_
    refine x_iretI dX11_swaps_19 rfl ?_
    exact ⟨rfl, hc3⟩
set_option maxRecDepth 100000 in
set_option maxHeartbeats 4000000 in
theorem k_makes_ok (S : amS) (a : Ar) (hs : List Ar) (tx : List Nat) (u0 u1 u2 ck co : Int32) (hc : mCore S a hs tx u0 u1 u2 ck co) (κ : Nat) (hκ : κ < 4) : X shM mX11_makes 0 [.ref 0, .int (nI κ)] [] S (fun r S' => r = some (.int (nI (aMakes a.1 κ).2.1)) ∧ mCore S' (aMakes a.1 κ) (pushH hs a) tx u0 u1 u2 ck co) := by
  have h9 := hc.1.1.2.2.1
  have hd2 := hc.1.1.1
  have hd4 := hc.1.1.2.1
  refine x_aload_n dX11_makes_0 rfl ?_
  refine x_v0 (N := mX11_hold) dX11_makes_1 ml_X11_161 nv_X11_hold rfl rfl (k_holdq S a hs tx u0 u1 u2 ck co hc) ?_
  rintro _ S1 ⟨rfl, hc1⟩
  refine x_aload_n dX11_makes_4 rfl ?_
  refine x_aload_n dX11_makes_5 rfl ?_
  refine x_iload_n dX11_makes_6 rfl ?_
  refine x_v1 (N := mX11_doMakes) dX11_makes_7 ml_X11_190 nv_X11_doMakes rfl rfl (k_doMakes_ok S1 a hc1.1.1 hc1.1.2 κ hκ) ?_
  rintro _ S2 ⟨rfl, ho, hr⟩
  refine x_v1 (N := mX11_ends) dX11_makes_10 ml_X11_167 nv_X11_ends rfl rfl (k_ends_ok S2 a (aMakes a.1 κ) hs tx u0 u1 u2 ck co (hc1.on ho (arr_makes hc1.1.1.1 hc1.1.1.2.1 hκ) hr) (aMakes a.1 κ).2.1 (by have := (Pre.mks (d := a.1) (κ := κ) (by omega)).2.1; omega)) ?_
  rintro _ S3 ⟨rfl, hc3, h22⟩
  refine x_iretI dX11_makes_13 rfl ?_
  exact ⟨rfl, hc3⟩
set_option maxRecDepth 100000 in
set_option maxHeartbeats 4000000 in
theorem k_makes_bad (S : amS) (a : Ar) (hs : List Ar) (tx : List Nat) (u0 u1 u2 ck co : Int32) (hc : mCore S a hs tx u0 u1 u2 ck co) (x : Int32) (hx : ¬ InR x 4) : X shM mX11_makes 0 [.ref 0, .int x] [] S (fun r S' => r = some (.int (i32 (-2))) ∧ mCore S' a hs tx (u0 + nI 1) u1 u2 ck co) := by
  have h9 := hc.1.1.2.2.1
  have hd2 := hc.1.1.1
  have hd4 := hc.1.1.2.1
  refine x_aload_n dX11_makes_0 rfl ?_
  refine x_v0 (N := mX11_hold) dX11_makes_1 ml_X11_161 nv_X11_hold rfl rfl (k_holdq S a hs tx u0 u1 u2 ck co hc) ?_
  rintro _ S1 ⟨rfl, hc1⟩
  refine x_aload_n dX11_makes_4 rfl ?_
  refine x_aload_n dX11_makes_5 rfl ?_
  refine x_iload_n dX11_makes_6 rfl ?_
  refine x_v1 (N := mX11_doMakes) dX11_makes_7 ml_X11_190 nv_X11_doMakes rfl rfl (k_doMakes_bad S1 a hc1.1.1 hc1.1.2 x hx) ?_
  rintro _ S2 ⟨rfl, ho, hr⟩
  refine x_v1 (N := mX11_ends) dX11_makes_10 ml_X11_167 nv_X11_ends rfl rfl (k_ends_bad S2 a hs tx u0 u1 u2 ck co (hc1.on ho hc1.1.1 hr)) ?_
  rintro _ S3 ⟨rfl, hc3⟩
  refine x_iretI dX11_makes_13 rfl ?_
  exact ⟨rfl, hc3⟩
