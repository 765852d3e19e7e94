/-! THE CLASS: refusals, ends of changes, public changes, small calls -/
theorem xCore.mono {S : amS} {B B' : Nat} {a : Ar} {hs : List Ar} {tx : List Nat} {u0 u1 u2 ck co : Int32} (h : xCore S B a hs tx u0 u1 u2 ck co) (hB : B ≤ B') : xCore S B' a hs tx u0 u1 u2 ck co := by
  obtain ⟨h1, h2, V, h3, h4, h5⟩ := h
  exact ⟨h1, h2, V, by omega, h4, h5⟩
theorem xCore.cnt {S S' : amS} {B : Nat} {a : Ar} {hs : List Ar} {tx : List Nat} {u0 u1 u2 ck co w0 w1 w2 dk dc : Int32} (h : xCore S B a hs tx u0 u1 u2 ck co) (f : FO [0] [] S S') (e0 : S'.1 0 9 = w0) (e1 : S'.1 0 10 = w1) (e2 : S'.1 0 11 = w2) (e3 : S'.1 0 12 = dk) (e4 : S'.1 0 13 = dc) : xCore S' B a hs tx w0 w1 w2 dk dc := by
  obtain ⟨h1, ⟨g1, g2, g3, g4⟩, V, h3, h4, h5⟩ := h
  exact ⟨⟨h1.1, h1.2.fo f (by decide) (by decide)⟩, ⟨g1.fo f (by decide) (by decide), ⟨e0, e1, e2⟩, g3.fo f (by decide) (by decide), e3, e4⟩, V, h3, by rw [f.1 1 (by decide)]; exact h4, h5.fo f (by decide) (by decide)⟩
theorem xMid.chg {S : amS} {B : Nat} {a b : Ar} {hs : List Ar} {tx : List Nat} {u0 u1 u2 ck co : Int32} (h : xMid S B a b hs tx u0 u1 u2 ck co) : ∃ V, S.1 1 3 = nI V ∧ ∀ (S' : amS) (c : Nat) (b' : Ar), Arr b'.1 b'.2.1 b'.2.2 → chg S S' V c b' → xMid S' (B + c) a b' hs tx u0 u1 u2 ck co := by
  obtain ⟨⟨p1, p2⟩, ⟨h1, h2⟩, h3, V, h4, h5, h6⟩ := h
  refine ⟨V, h5, fun S' c b' hb ⟨f1, f2, V', f3, f4, f5⟩ => ⟨⟨p1, p2.fo f1 (by decide) (by decide)⟩, ⟨hb, f2⟩, h3.fo f1 (by decide) (by decide) (by decide), V', by omega, f5, h6.new f1 (by decide) f3⟩⟩
theorem kx_bad (S : amS) (B : Nat) (a : Ar) (hs : List Ar) (tx : List Nat) (u0 u1 u2 ck co : Int32) (hc : xCore S B a hs tx u0 u1 u2 ck co) : X shX mX10_refused 0 [.ref 0, .int (i32 (-2))] [] S (fun r S' => r = some (.int (i32 (-2))) ∧ xCore S' B a hs tx (u0 + nI 1) u1 u2 ck co) := by
  refine x_mono ?_ (kx_ref_bad S)
  rintro _ _ ⟨rfl, rfl⟩
  obtain ⟨-, ⟨-, ⟨d0, d1, d2⟩, -, d3, d4⟩, -⟩ := id hc
  refine ⟨rfl, hc.cnt ((FO.rf _ _ S).sF _ (by simp)) ?_ ?_ ?_ ?_ ?_⟩ <;> simp [sF, va_up, upd, d0, d1, d2, d3, d4]
theorem kx_no (S : amS) (B : Nat) (a : Ar) (hs : List Ar) (tx : List Nat) (u0 u1 u2 ck co : Int32) (hc : xCore S B a hs tx u0 u1 u2 ck co) : X shX mX10_refused 0 [.ref 0, .int (i32 (-3))] [] S (fun r S' => r = some (.int (i32 (-3))) ∧ xCore S' B a hs tx u0 (u1 + nI 1) u2 ck co) := by
  refine x_mono ?_ (kx_ref_no S)
  rintro _ _ ⟨rfl, rfl⟩
  obtain ⟨-, ⟨-, ⟨d0, d1, d2⟩, -, d3, d4⟩, -⟩ := id hc
  refine ⟨rfl, hc.cnt ((FO.rf _ _ S).sF _ (by simp)) ?_ ?_ ?_ ?_ ?_⟩ <;> simp [sF, va_up, upd, d0, d1, d2, d3, d4]
theorem kx_full (S : amS) (B : Nat) (a : Ar) (hs : List Ar) (tx : List Nat) (u0 u1 u2 ck co : Int32) (hc : xCore S B a hs tx u0 u1 u2 ck co) : X shX mX10_refused 0 [.ref 0, .int (i32 (-4))] [] S (fun r S' => r = some (.int (i32 (-4))) ∧ xCore S' B a hs tx u0 u1 (u2 + nI 1) ck co) := by
  refine x_mono ?_ (kx_ref_full S)
  rintro _ _ ⟨rfl, rfl⟩
  obtain ⟨-, ⟨-, ⟨d0, d1, d2⟩, -, d3, d4⟩, -⟩ := id hc
  refine ⟨rfl, hc.cnt ((FO.rf _ _ S).sF _ (by simp)) ?_ ?_ ?_ ?_ ?_⟩ <;> simp [sF, va_up, upd, d0, d1, d2, d3, d4]
theorem kx_hold (S : amS) (B : Nat) (a : Ar) (hs : List Ar) (tx : List Nat) (u0 u1 u2 ck co : Int32) (hc : xCore S B a hs tx u0 u1 u2 ck co) : X shX mX1_copyFrom 0 [.ref 3, .ref 1] [] S (fun r S' => r = none ∧ xMid S' B a a hs tx u0 u1 u2 ck co) := by
  obtain ⟨⟨h1, h2⟩, h3, V, h4, h5, h6⟩ := id hc
  refine x_mono ?_ (kx_copy S 3 4 1 2 ⟨rfl, rfl⟩ ⟨rfl, rfl⟩ (by omega) (by omega) a h1.2.2.1 h2)
  rintro _ S' ⟨rfl, f1, f2, f3⟩
  exact ⟨rfl, ⟨h1, f2⟩, ⟨h1, h2.fo f1 (by decide) (by decide)⟩, h3.fo f1 (by decide) (by decide) (by decide), V, h4, by rw [f1.1 1 (by decide)]; exact h5, h6.fo f1 (by decide) (by decide)⟩
theorem kx_keepq (S : amS) (B : Nat) (a b : Ar) (hs : List Ar) (tx : List Nat) (u0 u1 u2 ck co : Int32) (hc : xMid S B a b hs tx u0 u1 u2 ck co) : X shX mX3_keep 0 [.ref 5, .ref 3] [] S (fun r S' => r = none ∧ xCore S' B b (pushH hs a) tx u0 u1 u2 ck co) := by
  obtain ⟨⟨p1, p2⟩, ⟨h1, h2⟩, ⟨g1, g2, g3, g4, g5⟩, V, h4, h5, h6⟩ := id hc
  refine x_mono ?_ (kx_keep S hs g1 a p1 p2)
  rintro _ S' ⟨rfl, f1, f2⟩
  have e0 := f2.1 0 (by decide)
  exact ⟨rfl, ⟨h1, h2.fo f2 (by decide) (by decide)⟩, ⟨f1, by rw [e0]; exact g2, g3.fo f2 (by decide) (by decide), by rw [e0]; exact g4, by rw [e0]; exact g5⟩, V, h4, by rw [f2.1 1 (by decide)]; exact h5, h6.fo f2 (by decide) (by decide)⟩
set_option maxRecDepth 100000 in
set_option maxHeartbeats 4000000 in
theorem kx_settled_ok (S : amS) (B : Nat) (a b : Ar) (hs : List Ar) (tx : List Nat) (u0 u1 u2 ck co : Int32) (hc : xMid S B a b hs tx u0 u1 u2 ck co) (n : Nat) (hn : n < 2 ^ 31) : X shX mX10_settled 0 [.ref 0, .int (nI n)] [] S (fun r S' => r = some (.int (nI n)) ∧ xCore S' B b (pushH hs a) tx u0 u1 u2 ck co) := by
  refine x_iload_n dX10_settled_0 rfl ?_
  refine x_topI ?_
  refine x_if_geI 10 dX10_settled_1 rfl (by omega) (fun c1 => ?_) (fun c1 => ?_)
  · refine x_aload_n dX10_settled_10 rfl ?_
    refine x_getR dX10_settled_11 fl_X10_31 rfl ?_
    refine x_aload_n dX10_settled_14 rfl ?_
    refine x_getR dX10_settled_15 fl_X10_25 rfl ?_
    refine x_v1 (N := mX3_keep) dX10_settled_18 ml_X10_229 nv_X3_keep rfl rfl (kx_keepq S B a b hs tx u0 u1 u2 ck co hc) ?_
    rintro _ S' ⟨rfl, h'⟩
    refine x_iload_n dX10_settled_21 rfl ?_
    refine x_iretI dX10_settled_22 rfl ?_
    exact ⟨rfl, h'⟩
  · exact absurd c1 (by omega)
set_option maxRecDepth 100000 in
set_option maxHeartbeats 4000000 in
theorem kx_settled_bad (S : amS) (B : Nat) (a : Ar) (hs : List Ar) (tx : List Nat) (u0 u1 u2 ck co : Int32) (hc : xCore S B a hs tx u0 u1 u2 ck co) : X shX mX10_settled 0 [.ref 0, .int (i32 (-2))] [] S (fun r S' => r = some (.int (i32 (-2))) ∧ xCore S' B a hs tx (u0 + nI 1) u1 u2 ck co) := by
  refine x_iload_n dX10_settled_0 rfl ?_
  refine x_if_geI 10 dX10_settled_1 rfl (by omega) (fun c1 => ?_) (fun c1 => ?_)
  · exact absurd c1 (by decide)
  · refine x_aload_n dX10_settled_4 rfl ?_
    refine x_iload_n dX10_settled_5 rfl ?_
    refine x_v1 (N := mX10_refused) dX10_settled_6 ml_X10_120 nv_X10_refused rfl rfl (kx_bad S B a hs tx u0 u1 u2 ck co hc) ?_
    rintro _ S' ⟨rfl, h'⟩
    refine x_iretI dX10_settled_9 rfl ?_
    exact ⟨rfl, h'⟩
set_option maxRecDepth 100000 in
set_option maxHeartbeats 4000000 in
theorem kx_settled_no (S : amS) (B : Nat) (a : Ar) (hs : List Ar) (tx : List Nat) (u0 u1 u2 ck co : Int32) (hc : xCore S B a hs tx u0 u1 u2 ck co) : X shX mX10_settled 0 [.ref 0, .int (i32 (-3))] [] S (fun r S' => r = some (.int (i32 (-3))) ∧ xCore S' B a hs tx u0 (u1 + nI 1) u2 ck co) := by
  refine x_iload_n dX10_settled_0 rfl ?_
  refine x_if_geI 10 dX10_settled_1 rfl (by omega) (fun c1 => ?_) (fun c1 => ?_)
  · exact absurd c1 (by decide)
  · refine x_aload_n dX10_settled_4 rfl ?_
    refine x_iload_n dX10_settled_5 rfl ?_
    refine x_v1 (N := mX10_refused) dX10_settled_6 ml_X10_120 nv_X10_refused rfl rfl (kx_no S B a hs tx u0 u1 u2 ck co hc) ?_
    rintro _ S' ⟨rfl, h'⟩
    refine x_iretI dX10_settled_9 rfl ?_
    exact ⟨rfl, h'⟩
set_option maxRecDepth 100000 in
set_option maxHeartbeats 4000000 in
theorem kx_settled_full (S : amS) (B : Nat) (a : Ar) (hs : List Ar) (tx : List Nat) (u0 u1 u2 ck co : Int32) (hc : xCore S B a hs tx u0 u1 u2 ck co) : X shX mX10_settled 0 [.ref 0, .int (i32 (-4))] [] S (fun r S' => r = some (.int (i32 (-4))) ∧ xCore S' B a hs tx u0 u1 (u2 + nI 1) ck co) := by
  refine x_iload_n dX10_settled_0 rfl ?_
  refine x_if_geI 10 dX10_settled_1 rfl (by omega) (fun c1 => ?_) (fun c1 => ?_)
  · exact absurd c1 (by decide)
  · refine x_aload_n dX10_settled_4 rfl ?_
    refine x_iload_n dX10_settled_5 rfl ?_
    refine x_v1 (N := mX10_refused) dX10_settled_6 ml_X10_120 nv_X10_refused rfl rfl (kx_full S B a hs tx u0 u1 u2 ck co hc) ?_
    rintro _ S' ⟨rfl, h'⟩
    refine x_iretI dX10_settled_9 rfl ?_
    exact ⟨rfl, h'⟩
set_option maxRecDepth 100000 in
set_option maxHeartbeats 4000000 in
theorem kx_space_ok (S : amS) (B : Nat) (a : Ar) (hs : List Ar) (tx : List Nat) (u0 u1 u2 ck co : Int32) (hc : xCore S B a hs tx u0 u1 u2 ck co) (n : Nat) (h2 : 2 ≤ n) (h4 : n ≤ 4) : X shX mX10_space 0 [.ref 0, .int (nI n)] [] S (fun r S' => r = some (.int (nI a.1)) ∧ xCore S' (B + 3000) (aSpace n) (pushH hs a) tx u0 u1 u2 ck co) := by
  refine x_aload_n dX10_space_0 rfl ?_
  refine x_getR dX10_space_1 fl_X10_25 rfl ?_
  refine x_aload_n dX10_space_4 rfl ?_
  refine x_getR dX10_space_5 fl_X10_17 rfl ?_
  refine x_v1 (N := mX1_copyFrom) dX10_space_8 ml_X10_76 nv_X1_copyFrom rfl rfl (kx_hold S B a hs tx u0 u1 u2 ck co hc) ?_
  rintro _ S1 ⟨rfl, hm1⟩
  obtain ⟨V, hV, hch⟩ := hm1.chg
  obtain ⟨-, ⟨hA, ho⟩, -⟩ := id hm1
  obtain ⟨a1, a2, a3, a4, a5, a6, a7⟩ := id hA
  refine x_aload_n dX10_space_11 rfl ?_
  refine x_aload_n dX10_space_12 rfl ?_
  refine x_getR dX10_space_13 fl_X10_17 rfl ?_
  refine x_iload_n dX10_space_16 rfl ?_
  refine x_v1 (N := mX1_restart) dX10_space_17 ml_X10_79 nv_X1_restart rfl rfl (kx_restart_ok S1 a hA ho V hV n h2 h4) ?_
  rintro _ S2 ⟨rfl, hc2⟩
  refine x_v1 (N := mX10_settled) dX10_space_20 ml_X10_83 nv_X10_settled rfl rfl (kx_settled_ok S2 (B + 1) a (aSpace n) hs tx u0 u1 u2 ck co (hch S2 1 (aSpace n) (arr_space h2 h4) hc2) (a.1) (by omega)) ?_
  rintro _ S3 ⟨rfl, h3⟩
  refine x_iretI dX10_space_23 rfl ?_
  exact ⟨rfl, h3.mono (by omega)⟩
set_option maxRecDepth 100000 in
set_option maxHeartbeats 4000000 in
theorem kx_space_bad (S : amS) (B : Nat) (a : Ar) (hs : List Ar) (tx : List Nat) (u0 u1 u2 ck co : Int32) (hc : xCore S B a hs tx u0 u1 u2 ck co) (x : Int32) (hx : ¬ ∃ n, 2 ≤ n ∧ n ≤ 4 ∧ x = nI n) : X shX mX10_space 0 [.ref 0, .int x] [] S (fun r S' => r = some (.int (i32 (-2))) ∧ xCore S' B a hs tx (u0 + nI 1) u1 u2 ck co) := by
  refine x_aload_n dX10_space_0 rfl ?_
  refine x_getR dX10_space_1 fl_X10_25 rfl ?_
  refine x_aload_n dX10_space_4 rfl ?_
  refine x_getR dX10_space_5 fl_X10_17 rfl ?_
  refine x_v1 (N := mX1_copyFrom) dX10_space_8 ml_X10_76 nv_X1_copyFrom rfl rfl (kx_hold S B a hs tx u0 u1 u2 ck co hc) ?_
  rintro _ S1 ⟨rfl, hm1⟩
  obtain ⟨V, hV, hch⟩ := hm1.chg
  obtain ⟨-, ⟨hA, ho⟩, -⟩ := id hm1
  obtain ⟨a1, a2, a3, a4, a5, a6, a7⟩ := id hA
  refine x_aload_n dX10_space_11 rfl ?_
  refine x_aload_n dX10_space_12 rfl ?_
  refine x_getR dX10_space_13 fl_X10_17 rfl ?_
  refine x_iload_n dX10_space_16 rfl ?_
  refine x_v1d (N := mX1_restart) dX10_space_17 ml_X10_79 nv_X1_restart rfl rfl (kx_restart_bad S1 x hx) ?_
  refine x_v1 (N := mX10_settled) dX10_space_20 ml_X10_83 nv_X10_settled rfl rfl (kx_settled_bad S1 B a hs tx u0 u1 u2 ck co hm1.2) ?_
  rintro _ S3 ⟨rfl, h3⟩
  refine x_iretI dX10_space_23 rfl ?_
  exact ⟨rfl, h3⟩
set_option maxRecDepth 100000 in
set_option maxHeartbeats 4000000 in
theorem kx_plane_bad (S : amS) (B : Nat) (a : Ar) (hs : List Ar) (tx : List Nat) (u0 u1 u2 ck co : Int32) (hc : xCore S B a hs tx u0 u1 u2 ck co) (x0 x1 x2 x3 : Int32) (hx : ¬ plOK a.1 (q4 x0 x1 x2 x3)) : X shX mX10_plane 0 [.ref 0, .int x0, .int x1, .int x2, .int x3] [] S (fun r S' => r = some (.int (i32 (-2))) ∧ xCore S' B a hs tx (u0 + nI 1) u1 u2 ck co) := by
  refine x_aload_n dX10_plane_0 rfl ?_
  refine x_getR dX10_plane_1 fl_X10_25 rfl ?_
  refine x_aload_n dX10_plane_4 rfl ?_
  refine x_getR dX10_plane_5 fl_X10_17 rfl ?_
  refine x_v1 (N := mX1_copyFrom) dX10_plane_8 ml_X10_76 nv_X1_copyFrom rfl rfl (kx_hold S B a hs tx u0 u1 u2 ck co hc) ?_
  rintro _ S1 ⟨rfl, hm1⟩
  obtain ⟨V, hV, hch⟩ := hm1.chg
  obtain ⟨-, ⟨hA, ho⟩, -⟩ := id hm1
  obtain ⟨a1, a2, a3, a4, a5, a6, a7⟩ := id hA
  refine x_aload_n dX10_plane_11 rfl ?_
  refine x_aload_n dX10_plane_12 rfl ?_
  refine x_getR dX10_plane_13 fl_X10_17 rfl ?_
  refine x_iload_n dX10_plane_16 rfl ?_
  refine x_iload_n dX10_plane_17 rfl ?_
  refine x_iload_n dX10_plane_18 rfl ?_
  refine x_iload dX10_plane_19 rfl ?_
  refine x_v4d (N := mX1_add) dX10_plane_21 ml_X10_86 nv_X1_add rfl rfl (kx_add_bad S1 a hA ho x0 x1 x2 x3 hx) ?_
  refine x_v1 (N := mX10_settled) dX10_plane_24 ml_X10_83 nv_X10_settled rfl rfl (kx_settled_bad S1 B a hs tx u0 u1 u2 ck co hm1.2) ?_
  rintro _ S3 ⟨rfl, h3⟩
  refine x_iretI dX10_plane_27 rfl ?_
  exact ⟨rfl, h3⟩
set_option maxRecDepth 100000 in
set_option maxHeartbeats 4000000 in
theorem kx_plane_no (S : amS) (B : Nat) (a : Ar) (hs : List Ar) (tx : List Nat) (u0 u1 u2 ck co : Int32) (hc : xCore S B a hs tx u0 u1 u2 ck co) (x0 x1 x2 x3 : Int32) (hx : plOK a.1 (q4 x0 x1 x2 x3)) (hn : ∃ i, i < a.2.1 ∧ same (a.2.2 i) (plR (q4 x0 x1 x2 x3))) : X shX mX10_plane 0 [.ref 0, .int x0, .int x1, .int x2, .int x3] [] S (fun r S' => r = some (.int (i32 (-3))) ∧ xCore S' B a hs tx u0 (u1 + nI 1) u2 ck co) := by
  refine x_aload_n dX10_plane_0 rfl ?_
  refine x_getR dX10_plane_1 fl_X10_25 rfl ?_
  refine x_aload_n dX10_plane_4 rfl ?_
  refine x_getR dX10_plane_5 fl_X10_17 rfl ?_
  refine x_v1 (N := mX1_copyFrom) dX10_plane_8 ml_X10_76 nv_X1_copyFrom rfl rfl (kx_hold S B a hs tx u0 u1 u2 ck co hc) ?_
  rintro _ S1 ⟨rfl, hm1⟩
  obtain ⟨V, hV, hch⟩ := hm1.chg
  obtain ⟨-, ⟨hA, ho⟩, -⟩ := id hm1
  obtain ⟨a1, a2, a3, a4, a5, a6, a7⟩ := id hA
  refine x_aload_n dX10_plane_11 rfl ?_
  refine x_aload_n dX10_plane_12 rfl ?_
  refine x_getR dX10_plane_13 fl_X10_17 rfl ?_
  refine x_iload_n dX10_plane_16 rfl ?_
  refine x_iload_n dX10_plane_17 rfl ?_
  refine x_iload_n dX10_plane_18 rfl ?_
  refine x_iload dX10_plane_19 rfl ?_
  refine x_v4d (N := mX1_add) dX10_plane_21 ml_X10_86 nv_X1_add rfl rfl (kx_add_no S1 a hA ho V hV x0 x1 x2 x3 hx hn) ?_
  refine x_v1 (N := mX10_settled) dX10_plane_24 ml_X10_83 nv_X10_settled rfl rfl (kx_settled_no S1 B a hs tx u0 u1 u2 ck co hm1.2) ?_
  rintro _ S3 ⟨rfl, h3⟩
  refine x_iretI dX10_plane_27 rfl ?_
  exact ⟨rfl, h3⟩
set_option maxRecDepth 100000 in
set_option maxHeartbeats 4000000 in
theorem kx_plane_full (S : amS) (B : Nat) (a : Ar) (hs : List Ar) (tx : List Nat) (u0 u1 u2 ck co : Int32) (hc : xCore S B a hs tx u0 u1 u2 ck co) (x0 x1 x2 x3 : Int32) (hx : plOK a.1 (q4 x0 x1 x2 x3)) (hn : ∀ i, i < a.2.1 → ¬ same (a.2.2 i) (plR (q4 x0 x1 x2 x3))) (h9 : a.2.1 = 9) : X shX mX10_plane 0 [.ref 0, .int x0, .int x1, .int x2, .int x3] [] S (fun r S' => r = some (.int (i32 (-4))) ∧ xCore S' B a hs tx u0 u1 (u2 + nI 1) ck co) := by
  refine x_aload_n dX10_plane_0 rfl ?_
  refine x_getR dX10_plane_1 fl_X10_25 rfl ?_
  refine x_aload_n dX10_plane_4 rfl ?_
  refine x_getR dX10_plane_5 fl_X10_17 rfl ?_
  refine x_v1 (N := mX1_copyFrom) dX10_plane_8 ml_X10_76 nv_X1_copyFrom rfl rfl (kx_hold S B a hs tx u0 u1 u2 ck co hc) ?_
  rintro _ S1 ⟨rfl, hm1⟩
  obtain ⟨V, hV, hch⟩ := hm1.chg
  obtain ⟨-, ⟨hA, ho⟩, -⟩ := id hm1
  obtain ⟨a1, a2, a3, a4, a5, a6, a7⟩ := id hA
  refine x_aload_n dX10_plane_11 rfl ?_
  refine x_aload_n dX10_plane_12 rfl ?_
  refine x_getR dX10_plane_13 fl_X10_17 rfl ?_
  refine x_iload_n dX10_plane_16 rfl ?_
  refine x_iload_n dX10_plane_17 rfl ?_
  refine x_iload_n dX10_plane_18 rfl ?_
  refine x_iload dX10_plane_19 rfl ?_
  refine x_v4d (N := mX1_add) dX10_plane_21 ml_X10_86 nv_X1_add rfl rfl (kx_add_full S1 a hA ho V hV x0 x1 x2 x3 hx hn h9) ?_
  refine x_v1 (N := mX10_settled) dX10_plane_24 ml_X10_83 nv_X10_settled rfl rfl (kx_settled_full S1 B a hs tx u0 u1 u2 ck co hm1.2) ?_
  rintro _ S3 ⟨rfl, h3⟩
  refine x_iretI dX10_plane_27 rfl ?_
  exact ⟨rfl, h3⟩
set_option maxRecDepth 100000 in
set_option maxHeartbeats 4000000 in
theorem kx_plane_ok (S : amS) (B : Nat) (a : Ar) (hs : List Ar) (tx : List Nat) (u0 u1 u2 ck co : Int32) (hc : xCore S B a hs tx u0 u1 u2 ck co) (x0 x1 x2 x3 : Int32) (hx : plOK a.1 (q4 x0 x1 x2 x3)) (hn : ∀ i, i < a.2.1 → ¬ same (a.2.2 i) (plR (q4 x0 x1 x2 x3))) (h9 : a.2.1 < 9) : X shX mX10_plane 0 [.ref 0, .int x0, .int x1, .int x2, .int x3] [] S (fun r S' => r = some (.int (nI a.2.1)) ∧ xCore S' (B + 3000) (aAdd a (plR (q4 x0 x1 x2 x3))) (pushH hs a) tx u0 u1 u2 ck co) := by
  refine x_aload_n dX10_plane_0 rfl ?_
  refine x_getR dX10_plane_1 fl_X10_25 rfl ?_
  refine x_aload_n dX10_plane_4 rfl ?_
  refine x_getR dX10_plane_5 fl_X10_17 rfl ?_
  refine x_v1 (N := mX1_copyFrom) dX10_plane_8 ml_X10_76 nv_X1_copyFrom rfl rfl (kx_hold S B a hs tx u0 u1 u2 ck co hc) ?_
  rintro _ S1 ⟨rfl, hm1⟩
  obtain ⟨V, hV, hch⟩ := hm1.chg
  obtain ⟨-, ⟨hA, ho⟩, -⟩ := id hm1
  obtain ⟨a1, a2, a3, a4, a5, a6, a7⟩ := id hA
  refine x_aload_n dX10_plane_11 rfl ?_
  refine x_aload_n dX10_plane_12 rfl ?_
  refine x_getR dX10_plane_13 fl_X10_17 rfl ?_
  refine x_iload_n dX10_plane_16 rfl ?_
  refine x_iload_n dX10_plane_17 rfl ?_
  refine x_iload_n dX10_plane_18 rfl ?_
  refine x_iload dX10_plane_19 rfl ?_
  refine x_v4 (N := mX1_add) dX10_plane_21 ml_X10_86 nv_X1_add rfl rfl (kx_add_ok S1 a hA ho V hV x0 x1 x2 x3 hx hn h9) ?_
  rintro _ S2 ⟨rfl, hc2⟩
  refine x_v1 (N := mX10_settled) dX10_plane_24 ml_X10_83 nv_X10_settled rfl rfl (kx_settled_ok S2 (B + 1) a (aAdd a (plR (q4 x0 x1 x2 x3))) hs tx u0 u1 u2 ck co (hch S2 1 (aAdd a (plR (q4 x0 x1 x2 x3))) (arr_plane hA hx h9 hn) hc2) (a.2.1) (by omega)) ?_
  rintro _ S3 ⟨rfl, h3⟩
  refine x_iretI dX10_plane_27 rfl ?_
  exact ⟨rfl, h3.mono (by omega)⟩
set_option maxRecDepth 100000 in
set_option maxHeartbeats 4000000 in
theorem kx_drops_ok (S : amS) (B : Nat) (a : Ar) (hs : List Ar) (tx : List Nat) (u0 u1 u2 ck co : Int32) (hc : xCore S B a hs tx u0 u1 u2 ck co) (i : Nat) (hi : i < a.2.1) : X shX mX10_drops 0 [.ref 0, .int (nI i)] [] S (fun r S' => r = some (.int (nI (a.2.1 - 1))) ∧ xCore S' (B + 3000) (aDrop a i) (pushH hs a) tx u0 u1 u2 ck co) := by
  refine x_aload_n dX10_drops_0 rfl ?_
  refine x_getR dX10_drops_1 fl_X10_25 rfl ?_
  refine x_aload_n dX10_drops_4 rfl ?_
  refine x_getR dX10_drops_5 fl_X10_17 rfl ?_
  refine x_v1 (N := mX1_copyFrom) dX10_drops_8 ml_X10_76 nv_X1_copyFrom rfl rfl (kx_hold S B a hs tx u0 u1 u2 ck co hc) ?_
  rintro _ S1 ⟨rfl, hm1⟩
  obtain ⟨V, hV, hch⟩ := hm1.chg
  obtain ⟨-, ⟨hA, ho⟩, -⟩ := id hm1
  obtain ⟨a1, a2, a3, a4, a5, a6, a7⟩ := id hA
  refine x_aload_n dX10_drops_11 rfl ?_
  refine x_aload_n dX10_drops_12 rfl ?_
  refine x_getR dX10_drops_13 fl_X10_17 rfl ?_
  refine x_iload_n dX10_drops_16 rfl ?_
  refine x_v1 (N := mX1_remove) dX10_drops_17 ml_X10_97 nv_X1_remove rfl rfl (kx_remove_ok S1 a hA ho V hV i hi) ?_
  rintro _ S2 ⟨rfl, hc2⟩
  refine x_v1 (N := mX10_settled) dX10_drops_20 ml_X10_83 nv_X10_settled rfl rfl (kx_settled_ok S2 (B + 1) a (aDrop a i) hs tx u0 u1 u2 ck co (hch S2 1 (aDrop a i) (arr_drop hA hi) hc2) (a.2.1 - 1) (by omega)) ?_
  rintro _ S3 ⟨rfl, h3⟩
  refine x_iretI dX10_drops_23 rfl ?_
  exact ⟨rfl, h3.mono (by omega)⟩
set_option maxRecDepth 100000 in
set_option maxHeartbeats 4000000 in
theorem kx_drops_bad (S : amS) (B : Nat) (a : Ar) (hs : List Ar) (tx : List Nat) (u0 u1 u2 ck co : Int32) (hc : xCore S B a hs tx u0 u1 u2 ck co) (x : Int32) (hx : ¬ InR x a.2.1) : X shX mX10_drops 0 [.ref 0, .int x] [] S (fun r S' => r = some (.int (i32 (-2))) ∧ xCore S' B a hs tx (u0 + nI 1) u1 u2 ck co) := by
  refine x_aload_n dX10_drops_0 rfl ?_
  refine x_getR dX10_drops_1 fl_X10_25 rfl ?_
  refine x_aload_n dX10_drops_4 rfl ?_
  refine x_getR dX10_drops_5 fl_X10_17 rfl ?_
  refine x_v1 (N := mX1_copyFrom) dX10_drops_8 ml_X10_76 nv_X1_copyFrom rfl rfl (kx_hold S B a hs tx u0 u1 u2 ck co hc) ?_
  rintro _ S1 ⟨rfl, hm1⟩
  obtain ⟨V, hV, hch⟩ := hm1.chg
  obtain ⟨-, ⟨hA, ho⟩, -⟩ := id hm1
  obtain ⟨a1, a2, a3, a4, a5, a6, a7⟩ := id hA
  refine x_aload_n dX10_drops_11 rfl ?_
  refine x_aload_n dX10_drops_12 rfl ?_
  refine x_getR dX10_drops_13 fl_X10_17 rfl ?_
  refine x_iload_n dX10_drops_16 rfl ?_
  refine x_v1d (N := mX1_remove) dX10_drops_17 ml_X10_97 nv_X1_remove rfl rfl (kx_remove_bad S1 a.2.1 a3 ho.2.1 x hx) ?_
  refine x_v1 (N := mX10_settled) dX10_drops_20 ml_X10_83 nv_X10_settled rfl rfl (kx_settled_bad S1 B a hs tx u0 u1 u2 ck co hm1.2) ?_
  rintro _ S3 ⟨rfl, h3⟩
  refine x_iretI dX10_drops_23 rfl ?_
  exact ⟨rfl, h3⟩
set_option maxRecDepth 100000 in
set_option maxHeartbeats 4000000 in
theorem kx_makes_ok (S : amS) (B : Nat) (a : Ar) (hs : List Ar) (tx : List Nat) (u0 u1 u2 ck co : Int32) (hc : xCore S B a hs tx u0 u1 u2 ck co) (κ : Nat) (hκ : κ < 4) : X shX mX10_makes 0 [.ref 0, .int (nI κ)] [] S (fun r S' => r = some (.int (nI (aMakes a.1 κ).2.1)) ∧ xCore S' (B + 3000) (aMakes a.1 κ) (pushH hs a) tx u0 u1 u2 ck co) := by
  refine x_aload_n dX10_makes_0 rfl ?_
  refine x_getR dX10_makes_1 fl_X10_25 rfl ?_
  refine x_aload_n dX10_makes_4 rfl ?_
  refine x_getR dX10_makes_5 fl_X10_17 rfl ?_
  refine x_v1 (N := mX1_copyFrom) dX10_makes_8 ml_X10_76 nv_X1_copyFrom rfl rfl (kx_hold S B a hs tx u0 u1 u2 ck co hc) ?_
  rintro _ S1 ⟨rfl, hm1⟩
  obtain ⟨V, hV, hch⟩ := hm1.chg
  obtain ⟨-, ⟨hA, ho⟩, -⟩ := id hm1
  obtain ⟨a1, a2, a3, a4, a5, a6, a7⟩ := id hA
  refine x_aload_n dX10_makes_11 rfl ?_
  refine x_aload_n dX10_makes_12 rfl ?_
  refine x_getR dX10_makes_13 fl_X10_17 rfl ?_
  refine x_iload_n dX10_makes_16 rfl ?_
  refine x_v1 (N := mX1_fill) dX10_makes_17 ml_X10_110 nv_X1_fill rfl rfl (kx_fill_ok S1 a hA ho V hV κ hκ) ?_
  rintro _ S2 ⟨rfl, hc2⟩
  have h9m : (aMakes a.1 κ).2.1 ≤ 9 := (arr_makes a1 a2 hκ).2.2.1
  refine x_v1 (N := mX10_settled) dX10_makes_20 ml_X10_83 nv_X10_settled rfl rfl (kx_settled_ok S2 (B + 61) a (aMakes a.1 κ) hs tx u0 u1 u2 ck co (hch S2 61 (aMakes a.1 κ) (arr_makes a1 a2 hκ) hc2) ((aMakes a.1 κ).2.1) (by omega)) ?_
  rintro _ S3 ⟨rfl, h3⟩
  refine x_iretI dX10_makes_23 rfl ?_
  exact ⟨rfl, h3.mono (by omega)⟩
set_option maxRecDepth 100000 in
set_option maxHeartbeats 4000000 in
theorem kx_makes_bad (S : amS) (B : Nat) (a : Ar) (hs : List Ar) (tx : List Nat) (u0 u1 u2 ck co : Int32) (hc : xCore S B a hs tx u0 u1 u2 ck co) (x : Int32) (hx : ¬ InR x 4) : X shX mX10_makes 0 [.ref 0, .int x] [] S (fun r S' => r = some (.int (i32 (-2))) ∧ xCore S' B a hs tx (u0 + nI 1) u1 u2 ck co) := by
  refine x_aload_n dX10_makes_0 rfl ?_
  refine x_getR dX10_makes_1 fl_X10_25 rfl ?_
  refine x_aload_n dX10_makes_4 rfl ?_
  refine x_getR dX10_makes_5 fl_X10_17 rfl ?_
  refine x_v1 (N := mX1_copyFrom) dX10_makes_8 ml_X10_76 nv_X1_copyFrom rfl rfl (kx_hold S B a hs tx u0 u1 u2 ck co hc) ?_
  rintro _ S1 ⟨rfl, hm1⟩
  obtain ⟨V, hV, hch⟩ := hm1.chg
  obtain ⟨-, ⟨hA, ho⟩, -⟩ := id hm1
  obtain ⟨a1, a2, a3, a4, a5, a6, a7⟩ := id hA
  refine x_aload_n dX10_makes_11 rfl ?_
  refine x_aload_n dX10_makes_12 rfl ?_
  refine x_getR dX10_makes_13 fl_X10_17 rfl ?_
  refine x_iload_n dX10_makes_16 rfl ?_
  refine x_v1d (N := mX1_fill) dX10_makes_17 ml_X10_110 nv_X1_fill rfl rfl (kx_fill_bad S1 x hx) ?_
  refine x_v1 (N := mX10_settled) dX10_makes_20 ml_X10_83 nv_X10_settled rfl rfl (kx_settled_bad S1 B a hs tx u0 u1 u2 ck co hm1.2) ?_
  rintro _ S3 ⟨rfl, h3⟩
  refine x_iretI dX10_makes_23 rfl ?_
  exact ⟨rfl, h3⟩
set_option maxRecDepth 100000 in
set_option maxHeartbeats 4000000 in
theorem kx_turns_bad (S : amS) (B : Nat) (a : Ar) (hs : List Ar) (tx : List Nat) (u0 u1 u2 ck co : Int32) (hc : xCore S B a hs tx u0 u1 u2 ck co) (x : Int32) (hx : ¬ InR x a.2.1) : X shX mX10_turns 0 [.ref 0, .int x, .null] [] S (fun r S' => r = some (.int (i32 (-2))) ∧ xCore S' B a hs tx (u0 + nI 1) u1 u2 ck co) := by
  refine x_aload_n dX10_turns_0 rfl ?_
  refine x_getR dX10_turns_1 fl_X10_25 rfl ?_
  refine x_aload_n dX10_turns_4 rfl ?_
  refine x_getR dX10_turns_5 fl_X10_17 rfl ?_
  refine x_v1 (N := mX1_copyFrom) dX10_turns_8 ml_X10_76 nv_X1_copyFrom rfl rfl (kx_hold S B a hs tx u0 u1 u2 ck co hc) ?_
  rintro _ S1 ⟨rfl, hm1⟩
  obtain ⟨V, hV, hch⟩ := hm1.chg
  obtain ⟨-, ⟨hA, ho⟩, -⟩ := id hm1
  obtain ⟨a1, a2, a3, a4, a5, a6, a7⟩ := id hA
  refine x_aload_n dX10_turns_11 rfl ?_
  refine x_aload_n dX10_turns_12 rfl ?_
  refine x_getR dX10_turns_13 fl_X10_17 rfl ?_
  refine x_iload_n dX10_turns_16 rfl ?_
  refine x_v1d (N := mX1_negate) dX10_turns_17 ml_X10_90 nv_X1_negate rfl rfl (kx_negate_bad S1 a.2.1 a3 ho.2.1 x hx) ?_
  refine x_v1 (N := mX10_settled) dX10_turns_20 ml_X10_83 nv_X10_settled rfl rfl (kx_settled_bad S1 B a hs tx u0 u1 u2 ck co hm1.2) ?_
  rintro _ S3 ⟨rfl, h3⟩
  refine x_istore_n dX10_turns_23 rfl ?_
  refine x_iload_n dX10_turns_24 rfl ?_
  refine x_if_geI 32 dX10_turns_25 rfl (by omega) (fun c25 => ?_) (fun c25 => ?_)
  · exact absurd c25 (by omega)
  · refine x_iload_n dX10_turns_28 rfl ?_
    refine x_goto 39 dX10_turns_29 rfl ?_
    refine x_iretI dX10_turns_39 rfl ?_
    exact ⟨rfl, h3⟩
set_option maxRecDepth 100000 in
set_option maxHeartbeats 4000000 in
theorem kx_swaps_bad (S : amS) (B : Nat) (a : Ar) (hs : List Ar) (tx : List Nat) (u0 u1 u2 ck co : Int32) (hc : xCore S B a hs tx u0 u1 u2 ck co) (x y : Int32) (hx : ¬ (InR x a.2.1 ∧ InR y a.2.1 ∧ x ≠ y)) : X shX mX10_swaps 0 [.ref 0, .int x, .int y, .null] [] S (fun r S' => r = some (.int (i32 (-2))) ∧ xCore S' B a hs tx (u0 + nI 1) u1 u2 ck co) := by
  refine x_aload_n dX10_swaps_0 rfl ?_
  refine x_getR dX10_swaps_1 fl_X10_25 rfl ?_
  refine x_aload_n dX10_swaps_4 rfl ?_
  refine x_getR dX10_swaps_5 fl_X10_17 rfl ?_
  refine x_v1 (N := mX1_copyFrom) dX10_swaps_8 ml_X10_76 nv_X1_copyFrom rfl rfl (kx_hold S B a hs tx u0 u1 u2 ck co hc) ?_
  rintro _ S1 ⟨rfl, hm1⟩
  obtain ⟨V, hV, hch⟩ := hm1.chg
  obtain ⟨-, ⟨hA, ho⟩, -⟩ := id hm1
  obtain ⟨a1, a2, a3, a4, a5, a6, a7⟩ := id hA
  refine x_aload_n dX10_swaps_11 rfl ?_
  refine x_aload_n dX10_swaps_12 rfl ?_
  refine x_getR dX10_swaps_13 fl_X10_17 rfl ?_
  refine x_iload_n dX10_swaps_16 rfl ?_
  refine x_iload_n dX10_swaps_17 rfl ?_
  refine x_v2d (N := mX1_exchange) dX10_swaps_18 ml_X10_100 nv_X1_exchange rfl rfl (kx_exchange_bad S1 a.2.1 a3 ho.2.1 x y hx) ?_
  refine x_v1 (N := mX10_settled) dX10_swaps_21 ml_X10_83 nv_X10_settled rfl rfl (kx_settled_bad S1 B a hs tx u0 u1 u2 ck co hm1.2) ?_
  rintro _ S3 ⟨rfl, h3⟩
  refine x_istore_n dX10_swaps_24 rfl ?_
  refine x_iload_n dX10_swaps_25 rfl ?_
  refine x_if_geI 33 dX10_swaps_26 rfl (by omega) (fun c26 => ?_) (fun c26 => ?_)
  · exact absurd c26 (by omega)
  · refine x_iload_n dX10_swaps_29 rfl ?_
    refine x_goto 47 dX10_swaps_30 rfl ?_
    refine x_iretI dX10_swaps_47 rfl ?_
    exact ⟨rfl, h3⟩
set_option maxRecDepth 100000 in
set_option maxHeartbeats 4000000 in
theorem kx_turns_1 (S : amS) (B : Nat) (a : Ar) (hs : List Ar) (tx : List Nat) (u0 u1 u2 ck co : Int32) (hc : xCore S B a hs tx u0 u1 u2 ck co) (i : Nat) (hi : i < a.2.1) (Q : Option Value → amS → Prop) (hq : ∀ S3, xCore S3 (B + 1) (aTurn a i) (pushH hs a) tx u0 u1 u2 ck co → X shX mX10_turns 32 [.ref 0, .int (nI i), .int (nI 0)] [] S3 Q) : X shX mX10_turns 0 [.ref 0, .int (nI i), .null] [] S Q := by
  refine x_aload_n dX10_turns_0 rfl ?_
  refine x_getR dX10_turns_1 fl_X10_25 rfl ?_
  refine x_aload_n dX10_turns_4 rfl ?_
  refine x_getR dX10_turns_5 fl_X10_17 rfl ?_
  refine x_v1 (N := mX1_copyFrom) dX10_turns_8 ml_X10_76 nv_X1_copyFrom rfl rfl (kx_hold S B a hs tx u0 u1 u2 ck co hc) ?_
  rintro _ S1 ⟨rfl, hm1⟩
  obtain ⟨V, hV, hch⟩ := hm1.chg
  obtain ⟨-, ⟨hA, ho⟩, -⟩ := id hm1
  obtain ⟨a1, a2, a3, a4, a5, a6, a7⟩ := id hA
  refine x_aload_n dX10_turns_11 rfl ?_
  refine x_aload_n dX10_turns_12 rfl ?_
  refine x_getR dX10_turns_13 fl_X10_17 rfl ?_
  refine x_iload_n dX10_turns_16 rfl ?_
  refine x_v1 (N := mX1_negate) dX10_turns_17 ml_X10_90 nv_X1_negate rfl rfl (kx_negate_ok S1 a hA ho V hV i hi) ?_
  rintro _ S2 ⟨rfl, hc2⟩
  refine x_v1 (N := mX10_settled) dX10_turns_20 ml_X10_83 nv_X10_settled rfl rfl (kx_settled_ok S2 (B + 1) a (aTurn a i) hs tx u0 u1 u2 ck co (hch S2 1 (aTurn a i) (arr_turn hA i) hc2) 0 (by omega)) ?_
  rintro _ S3 ⟨rfl, h3⟩
  refine x_istore_n dX10_turns_23 rfl ?_
  refine x_iload_n dX10_turns_24 rfl ?_
  refine x_topI ?_
  refine x_if_geI 32 dX10_turns_25 rfl (by omega) (fun c25 => ?_) (fun c25 => ?_)
  · exact hq S3 h3
  · exact absurd c25 (by omega)
set_option maxRecDepth 100000 in
set_option maxHeartbeats 4000000 in
theorem kx_swaps_1 (S : amS) (B : Nat) (a : Ar) (hs : List Ar) (tx : List Nat) (u0 u1 u2 ck co : Int32) (hc : xCore S B a hs tx u0 u1 u2 ck co) (i l : Nat) (hi : i < a.2.1) (hl : l < a.2.1) (hil : i ≠ l) (Q : Option Value → amS → Prop) (hq : ∀ S3, xCore S3 (B + 1) (aSwap a i l) (pushH hs a) tx u0 u1 u2 ck co → X shX mX10_swaps 33 [.ref 0, .int (nI i), .int (nI l), .int (nI 0)] [] S3 Q) : X shX mX10_swaps 0 [.ref 0, .int (nI i), .int (nI l), .null] [] S Q := by
  refine x_aload_n dX10_swaps_0 rfl ?_
  refine x_getR dX10_swaps_1 fl_X10_25 rfl ?_
  refine x_aload_n dX10_swaps_4 rfl ?_
  refine x_getR dX10_swaps_5 fl_X10_17 rfl ?_
  refine x_v1 (N := mX1_copyFrom) dX10_swaps_8 ml_X10_76 nv_X1_copyFrom rfl rfl (kx_hold S B a hs tx u0 u1 u2 ck co hc) ?_
  rintro _ S1 ⟨rfl, hm1⟩
  obtain ⟨V, hV, hch⟩ := hm1.chg
  obtain ⟨-, ⟨hA, ho⟩, -⟩ := id hm1
  obtain ⟨a1, a2, a3, a4, a5, a6, a7⟩ := id hA
  refine x_aload_n dX10_swaps_11 rfl ?_
  refine x_aload_n dX10_swaps_12 rfl ?_
  refine x_getR dX10_swaps_13 fl_X10_17 rfl ?_
  refine x_iload_n dX10_swaps_16 rfl ?_
  refine x_iload_n dX10_swaps_17 rfl ?_
  refine x_v2 (N := mX1_exchange) dX10_swaps_18 ml_X10_100 nv_X1_exchange rfl rfl (kx_exchange_ok S1 a hA ho V hV i l hi hl hil) ?_
  rintro _ S2 ⟨rfl, hc2⟩
  refine x_v1 (N := mX10_settled) dX10_swaps_21 ml_X10_83 nv_X10_settled rfl rfl (kx_settled_ok S2 (B + 1) a (aSwap a i l) hs tx u0 u1 u2 ck co (hch S2 1 (aSwap a i l) (arr_swap hA hi hl) hc2) 0 (by omega)) ?_
  rintro _ S3 ⟨rfl, h3⟩
  refine x_istore_n dX10_swaps_24 rfl ?_
  refine x_iload_n dX10_swaps_25 rfl ?_
  refine x_topI ?_
  refine x_if_geI 33 dX10_swaps_26 rfl (by omega) (fun c26 => ?_) (fun c26 => ?_)
  · exact hq S3 h3
  · exact absurd c26 (by omega)
set_option maxRecDepth 100000 in
set_option maxHeartbeats 4000000 in
theorem kx_of_ok (S : amS) (B : Nat) (a : Ar) (hs : List Ar) (tx : List Nat) (u0 u1 u2 ck co : Int32) (hc : xCore S B a hs tx u0 u1 u2 ck co) (i j : Nat) (hi : i < a.2.1) (hj : j < a.1) : X shX mX10_of 0 [.ref 0, .int (nI i), .int (nI j)] [] S (fun r S' => r = some (.int (i32 (a.2.2 i j + (10 : Nat)))) ∧ xCore S' B a hs tx u0 u1 u2 ck co) := by
  obtain ⟨⟨hA, ho⟩, hrest, hV⟩ := id hc
  obtain ⟨a1, a2, a3, a4, a5, a6, a7⟩ := id hA
  obtain ⟨m1, m2, m3⟩ := id ho
  refine x_aload_n dX10_of_0 rfl ?_
  refine x_getR dX10_of_1 fl_X10_17 rfl ?_
  refine x_iload_n dX10_of_4 rfl ?_
  refine x_v1d (N := mX1_has) dX10_of_5 ml_X10_113 nv_X1_has rfl rfl (kx_has S a.2.1 a3 m2 _) ?_
  refine x_if_eqB 26 dX10_of_8 rfl (fun c8 => ?_) (fun c8 => ?_)
  · rw [(in_L _ (by omega)).mpr (InR_in hi)] at c8; cases c8
  · refine x_iload_n dX10_of_11 rfl ?_
    refine x_topI ?_
    refine x_if_ltI 26 dX10_of_12 rfl (by omega) (fun c12 => ?_) (fun c12 => ?_)
    · exact absurd c12 (by omega)
    · refine x_iload_n dX10_of_15 rfl ?_
      refine x_aload_n dX10_of_16 rfl ?_
      refine x_getR dX10_of_17 fl_X10_17 rfl ?_
      refine x_getIV dX10_of_20 fl_X10_117 rfl (m1) ?_
      refine x_icmp_ltN 33 dX10_of_23 rfl (by omega) (by omega) (fun c23 => ?_) (fun c23 => ?_)
      · refine x_aload_n dX10_of_33 rfl ?_
        refine x_getR dX10_of_34 fl_X10_17 rfl ?_
        refine x_iload_n dX10_of_37 rfl ?_
        refine x_iload_n dX10_of_38 rfl ?_
        refine x_v2d (N := mX1_at) dX10_of_39 ml_X10_123 nv_X1_at rfl rfl (kx_at S i j (by omega) (by omega) _ (m3 i j hi (by omega))) ?_
        refine x_bi _ bi_10 dX10_of_42 ?_
        refine x_iaddIN dX10_of_44 ?_
        refine x_iretI dX10_of_45 rfl ?_
        exact ⟨rfl, hc⟩
      · exact absurd c23 (by omega)
set_option maxRecDepth 100000 in
set_option maxHeartbeats 4000000 in
theorem kx_of_bad (S : amS) (B : Nat) (a : Ar) (hs : List Ar) (tx : List Nat) (u0 u1 u2 ck co : Int32) (hc : xCore S B a hs tx u0 u1 u2 ck co) (x y : Int32) (hxy : ¬ (InR x a.2.1 ∧ InR y a.1)) : X shX mX10_of 0 [.ref 0, .int x, .int y] [] S (fun r S' => r = some (.int (i32 (-2))) ∧ xCore S' B a hs tx (u0 + nI 1) u1 u2 ck co) := by
  obtain ⟨⟨hA, ho⟩, hrest, hV⟩ := id hc
  obtain ⟨a1, a2, a3, a4, a5, a6, a7⟩ := id hA
  obtain ⟨m1, m2, m3⟩ := id ho
  refine x_aload_n dX10_of_0 rfl ?_
  refine x_getR dX10_of_1 fl_X10_17 rfl ?_
  refine x_iload_n dX10_of_4 rfl ?_
  refine x_v1d (N := mX1_has) dX10_of_5 ml_X10_113 nv_X1_has rfl rfl (kx_has S a.2.1 a3 m2 _) ?_
  refine x_if_eqB 26 dX10_of_8 rfl (fun c8 => ?_) (fun c8 => ?_)
  · refine x_aload_n dX10_of_26 rfl ?_
    refine x_bi _ bi_m2 dX10_of_27 ?_
    refine x_v1 (N := mX10_refused) dX10_of_29 ml_X10_120 nv_X10_refused rfl rfl (kx_bad S B a hs tx u0 u1 u2 ck co hc) ?_
    rintro _ S' ⟨rfl, h'⟩
    refine x_iretI dX10_of_32 rfl ?_
    exact ⟨rfl, h'⟩
  · refine x_iload_n dX10_of_11 rfl ?_
    refine x_if_lt 26 dX10_of_12 rfl (fun c12 => ?_) (fun c12 => ?_)
    · refine x_aload_n dX10_of_26 rfl ?_
      refine x_bi _ bi_m2 dX10_of_27 ?_
      refine x_v1 (N := mX10_refused) dX10_of_29 ml_X10_120 nv_X10_refused rfl rfl (kx_bad S B a hs tx u0 u1 u2 ck co hc) ?_
      rintro _ S' ⟨rfl, h'⟩
      refine x_iretI dX10_of_32 rfl ?_
      exact ⟨rfl, h'⟩
    · refine x_iload_n dX10_of_15 rfl ?_
      refine x_aload_n dX10_of_16 rfl ?_
      refine x_getR dX10_of_17 fl_X10_17 rfl ?_
      refine x_getIV dX10_of_20 fl_X10_117 rfl (m1) ?_
      refine x_icmp_lt 33 dX10_of_23 rfl (fun c23 => ?_) (fun c23 => ?_)
      · exact absurd ⟨(in_L _ (by omega)).mp c8, (in_L _ (by omega)).mp (decide_eq_true ⟨Int32.not_lt.mp c12, c23⟩)⟩ hxy
      · refine x_aload_n dX10_of_26 rfl ?_
        refine x_bi _ bi_m2 dX10_of_27 ?_
        refine x_v1 (N := mX10_refused) dX10_of_29 ml_X10_120 nv_X10_refused rfl rfl (kx_bad S B a hs tx u0 u1 u2 ck co hc) ?_
        rintro _ S' ⟨rfl, h'⟩
        refine x_iretI dX10_of_32 rfl ?_
        exact ⟨rfl, h'⟩
set_option maxRecDepth 100000 in
set_option maxHeartbeats 4000000 in
theorem kx_why_0 (S : amS) (B : Nat) (a : Ar) (hs : List Ar) (tx : List Nat) (u0 u1 u2 ck co : Int32) (hc : xCore S B a hs tx u0 u1 u2 ck co) : X shX mX10_why 0 [.ref 0, .int (nI 0)] [] S (fun r S' => r = some (.int (ck)) ∧ xCore S' B a hs tx u0 u1 u2 ck co) := by
  obtain ⟨⟨hA, ho⟩, hrest, hV⟩ := id hc
  obtain ⟨a1, a2, a3, a4, a5, a6, a7⟩ := id hA
  obtain ⟨m1, m2, m3⟩ := id ho
  refine x_iload_n dX10_why_0 rfl ?_
  refine x_topI ?_
  refine x_if_ltI 9 dX10_why_1 rfl (by omega) (fun c1 => ?_) (fun c1 => ?_)
  · exact absurd c1 (by omega)
  · refine x_iload_n dX10_why_4 rfl ?_
    refine x_ic _ ic_1 dX10_why_5 ?_
    refine x_icmp_leN 16 dX10_why_6 rfl (by omega) (by omega) (fun c6 => ?_) (fun c6 => ?_)
    · refine x_iload_n dX10_why_16 rfl ?_
      refine x_if_neN 27 dX10_why_17 rfl (by omega) (fun c17 => ?_) (fun c17 => ?_)
      · exact absurd rfl c17
      · refine x_aload_n dX10_why_20 rfl ?_
        refine x_getIV dX10_why_21 fl_X10_226 rfl (hrest.2.2.2.1) ?_
        refine x_goto 31 dX10_why_24 rfl ?_
        refine x_iretI dX10_why_31 rfl ?_
        exact ⟨rfl, hc⟩
    · exact absurd c6 (by omega)
set_option maxRecDepth 100000 in
set_option maxHeartbeats 4000000 in
theorem kx_why_1 (S : amS) (B : Nat) (a : Ar) (hs : List Ar) (tx : List Nat) (u0 u1 u2 ck co : Int32) (hc : xCore S B a hs tx u0 u1 u2 ck co) : X shX mX10_why 0 [.ref 0, .int (nI 1)] [] S (fun r S' => r = some (.int (co)) ∧ xCore S' B a hs tx u0 u1 u2 ck co) := by
  obtain ⟨⟨hA, ho⟩, hrest, hV⟩ := id hc
  obtain ⟨a1, a2, a3, a4, a5, a6, a7⟩ := id hA
  obtain ⟨m1, m2, m3⟩ := id ho
  refine x_iload_n dX10_why_0 rfl ?_
  refine x_topI ?_
  refine x_if_ltI 9 dX10_why_1 rfl (by omega) (fun c1 => ?_) (fun c1 => ?_)
  · exact absurd c1 (by omega)
  · refine x_iload_n dX10_why_4 rfl ?_
    refine x_ic _ ic_1 dX10_why_5 ?_
    refine x_icmp_leN 16 dX10_why_6 rfl (by omega) (by omega) (fun c6 => ?_) (fun c6 => ?_)
    · refine x_iload_n dX10_why_16 rfl ?_
      refine x_if_neN 27 dX10_why_17 rfl (by omega) (fun c17 => ?_) (fun c17 => ?_)
      · refine x_aload_n dX10_why_27 rfl ?_
        refine x_getIV dX10_why_28 fl_X10_72 rfl (hrest.2.2.2.2) ?_
        refine x_iretI dX10_why_31 rfl ?_
        exact ⟨rfl, hc⟩
      · exact absurd c17 (by omega)
    · exact absurd c6 (by omega)
set_option maxRecDepth 100000 in
set_option maxHeartbeats 4000000 in
theorem kx_why_bad (S : amS) (B : Nat) (a : Ar) (hs : List Ar) (tx : List Nat) (u0 u1 u2 ck co : Int32) (hc : xCore S B a hs tx u0 u1 u2 ck co) (x : Int32) (hx : ¬ InR x 2) : X shX mX10_why 0 [.ref 0, .int x] [] S (fun r S' => r = some (.int (i32 (-2))) ∧ xCore S' B a hs tx (u0 + nI 1) u1 u2 ck co) := by
  obtain ⟨⟨hA, ho⟩, hrest, hV⟩ := id hc
  obtain ⟨a1, a2, a3, a4, a5, a6, a7⟩ := id hA
  obtain ⟨m1, m2, m3⟩ := id ho
  refine x_iload_n dX10_why_0 rfl ?_
  refine x_if_lt 9 dX10_why_1 rfl (fun c1 => ?_) (fun c1 => ?_)
  · refine x_aload_n dX10_why_9 rfl ?_
    refine x_bi _ bi_m2 dX10_why_10 ?_
    refine x_v1 (N := mX10_refused) dX10_why_12 ml_X10_120 nv_X10_refused rfl rfl (kx_bad S B a hs tx u0 u1 u2 ck co hc) ?_
    rintro _ S' ⟨rfl, h'⟩
    refine x_iretI dX10_why_15 rfl ?_
    exact ⟨rfl, h'⟩
  · refine x_iload_n dX10_why_4 rfl ?_
    refine x_ic _ ic_1 dX10_why_5 ?_
    refine x_icmp_le 16 dX10_why_6 rfl (fun c6 => ?_) (fun c6 => ?_)
    · exact absurd ((in_R x (n := 1) (by omega)).mp (decide_eq_true ⟨Int32.not_lt.mp c1, c6⟩)) hx
    · refine x_aload_n dX10_why_9 rfl ?_
      refine x_bi _ bi_m2 dX10_why_10 ?_
      refine x_v1 (N := mX10_refused) dX10_why_12 ml_X10_120 nv_X10_refused rfl rfl (kx_bad S B a hs tx u0 u1 u2 ck co hc) ?_
      rintro _ S' ⟨rfl, h'⟩
      refine x_iretI dX10_why_15 rfl ?_
      exact ⟨rfl, h'⟩
set_option maxRecDepth 100000 in
set_option maxHeartbeats 4000000 in
theorem kx_clear (S : amS) (B : Nat) (a : Ar) (hs : List Ar) (tx : List Nat) (u0 u1 u2 ck co : Int32) (hc : xCore S B a hs tx u0 u1 u2 ck co) : X shX mX10_clear 0 [.ref 0, .null] [] S (fun r S' => r = some (.int (nI tx.length)) ∧ xCore S' B a hs [] u0 u1 u2 ck co) := by
  obtain ⟨⟨hA, ho⟩, hrest, hV⟩ := id hc
  obtain ⟨a1, a2, a3, a4, a5, a6, a7⟩ := id hA
  obtain ⟨m1, m2, m3⟩ := id ho
  refine x_aload_n dX10_clear_0 rfl ?_
  refine x_getR dX10_clear_1 fl_X10_68 rfl ?_
  refine x_getIV dX10_clear_4 fl_X10_214 rfl (hrest.2.2.1.1) ?_
  refine x_istore_n dX10_clear_7 rfl ?_
  refine x_aload_n dX10_clear_8 rfl ?_
  refine x_getR dX10_clear_9 fl_X10_68 rfl ?_
  refine x_ic _ ic_0 dX10_clear_12 ?_
  refine x_put dX10_clear_13 fp_X10_214 rfl rfl rfl ?_
  refine x_iload_n dX10_clear_16 rfl ?_
  refine x_iretI dX10_clear_17 rfl ?_
  obtain ⟨g1, g2, g3, g4, g5⟩ := hrest
  obtain ⟨V, w1, w2, w3⟩ := hV
  have f : FO [47] [] S (sF S 47 (upd (S.1 47) 3 (nI 0))) := (FO.rf _ _ S).sF _ (by simp)
  have e0 := f.1 0 (by decide)
  refine ⟨rfl, ⟨hA, ho.fo f (by decide) (by decide)⟩, ⟨g1.fo f (by decide) (by decide), by rw [e0]; exact g2, ⟨?_, by simp, fun k b hk => by simp at hk⟩, by rw [e0]; exact g4, by rw [e0]; exact g5⟩, V, w1, by rw [f.1 1 (by decide)]; exact w2, w3.fo f (by decide) (by decide)⟩
  rw [sF_at, upd_s]
  rfl
set_option maxRecDepth 100000 in
set_option maxHeartbeats 4000000 in
theorem kx_append_full (S : amS) (tx : List Nat) (ht : txtX S tx) (hf : tx.length = 100) (b : Nat) (hb : b < 128) : X shX mX9_append 0 [.ref 47, .int (nI b)] [] S (fun r S' => r = some (.int (nI 0)) ∧ S' = S) := by
  refine x_aload_n dX9_append_0 rfl ?_
  refine x_getIV dX9_append_1 fl_X9_22 rfl (ht.1) ?_
  refine x_bi _ bi_100 dX9_append_4 ?_
  refine x_icmp_ltN 11 dX9_append_6 rfl (by omega) (by omega) (fun c6 => ?_) (fun c6 => ?_)
  · exact absurd c6 (by omega)
  · refine x_ic _ ic_0 dX9_append_9 ?_
    refine x_zret0 dX9_append_10 rfl ?_
    exact ⟨rfl, rfl⟩
theorem i2b_nI : ∀ b, b < 128 → (nI b).toInt8.toInt32 = nI b := by decide +kernel
theorem nar_nI : ∀ b, b < 128 → vp_nar .byte (nI b) = nI b := by decide +kernel
set_option maxRecDepth 100000 in
set_option maxHeartbeats 4000000 in
theorem kx_append_ok (S : amS) (tx : List Nat) (ht : txtX S tx) (hf : tx.length ≠ 100) (b : Nat) (hb : b < 128) : X shX mX9_append 0 [.ref 47, .int (nI b)] [] S (fun r S' => r = some (.int (nI 1)) ∧ txtX S' (tx ++ [b]) ∧ FO [47] [48] S S') := by
  have t2 : tx.length ≤ 100 := ht.2.1
  refine x_aload_n dX9_append_0 rfl ?_
  refine x_getIV dX9_append_1 fl_X9_22 rfl (ht.1) ?_
  refine x_bi _ bi_100 dX9_append_4 ?_
  refine x_icmp_ltN 11 dX9_append_6 rfl (by omega) (by omega) (fun c6 => ?_) (fun c6 => ?_)
  · refine x_aload_n dX9_append_11 rfl ?_
    refine x_getR dX9_append_12 fl_X9_9 rfl ?_
    refine x_aload_n dX9_append_15 rfl ?_
    refine x_getIV dX9_append_16 fl_X9_22 rfl (ht.1) ?_
    refine x_iload_n dX9_append_19 rfl ?_
    refine x_i2b dX9_append_20 ?_
    refine x_top (i2b_nI b hb) ?_
    refine x_bastN dX9_append_21 rfl rfl (by omega) (nar_nI b hb) ?_
    refine x_aload_n dX9_append_22 rfl ?_
    refine x_dup dX9_append_23 rfl ?_
    refine x_getIV dX9_append_24 fl_X9_22 rfl (ht.1) ?_
    refine x_ic _ ic_1 dX9_append_27 ?_
    refine x_iaddN dX9_append_28 ?_
    refine x_put dX9_append_29 fp_X9_22 rfl rfl rfl ?_
    refine x_ic _ ic_1 dX9_append_32 ?_
    refine x_zret1 dX9_append_33 rfl ?_
    obtain ⟨t1, -, t3⟩ := ht
    refine ⟨rfl, ⟨?_, ?_, fun k c hk => ?_⟩, ((FO.rf _ _ S).sA _ (by simp)).sF _ (by simp)⟩
    · rw [sF_at, upd_s, List.length_append]; rfl
    · rw [List.length_append]; simp; omega
    · show c ≤ 127 ∧ (sA S 48 _).2.1 48 k = _
      rw [sA_at]
      by_cases q : k = tx.length
      · subst q
        rw [upd_s]
        rw [List.getElem?_append_right (Nat.le_refl _)] at hk
        simp at hk
        rw [← hk]
        exact ⟨by omega, rfl⟩
      · rw [upd_n _ _ q]
        refine t3 k c ?_
        by_cases z : k < tx.length
        · rw [List.getElem?_append_left z] at hk; exact hk
        · rw [List.getElem?_eq_none (by rw [List.length_append]; simp; omega)] at hk; cases hk
  · exact absurd c6 (by omega)
set_option maxRecDepth 100000 in
set_option maxHeartbeats 4000000 in
theorem kx_type_bad (S : amS) (B : Nat) (a : Ar) (hs : List Ar) (tx : List Nat) (u0 u1 u2 ck co : Int32) (hc : xCore S B a hs tx u0 u1 u2 ck co) (x : Int32) (hx : ¬ InR x 128) : X shX mX10_type 0 [.ref 0, .int x] [] S (fun r S' => r = some (.int (i32 (-2))) ∧ xCore S' B a hs tx (u0 + nI 1) u1 u2 ck co) := by
  obtain ⟨⟨hA, ho⟩, hrest, hV⟩ := id hc
  obtain ⟨a1, a2, a3, a4, a5, a6, a7⟩ := id hA
  obtain ⟨m1, m2, m3⟩ := id ho
  refine x_iload_n dX10_type_0 rfl ?_
  refine x_if_lt 10 dX10_type_1 rfl (fun c1 => ?_) (fun c1 => ?_)
  · refine x_aload_n dX10_type_10 rfl ?_
    refine x_bi _ bi_m2 dX10_type_11 ?_
    refine x_v1 (N := mX10_refused) dX10_type_13 ml_X10_120 nv_X10_refused rfl rfl (kx_bad S B a hs tx u0 u1 u2 ck co hc) ?_
    rintro _ S' ⟨rfl, h'⟩
    refine x_iretI dX10_type_16 rfl ?_
    exact ⟨rfl, h'⟩
  · refine x_iload_n dX10_type_4 rfl ?_
    refine x_bi _ bi_127 dX10_type_5 ?_
    refine x_icmp_le 17 dX10_type_7 rfl (fun c7 => ?_) (fun c7 => ?_)
    · exact absurd ((in_R x (n := 127) (by omega)).mp (decide_eq_true ⟨Int32.not_lt.mp c1, c7⟩)) hx
    · refine x_aload_n dX10_type_10 rfl ?_
      refine x_bi _ bi_m2 dX10_type_11 ?_
      refine x_v1 (N := mX10_refused) dX10_type_13 ml_X10_120 nv_X10_refused rfl rfl (kx_bad S B a hs tx u0 u1 u2 ck co hc) ?_
      rintro _ S' ⟨rfl, h'⟩
      refine x_iretI dX10_type_16 rfl ?_
      exact ⟨rfl, h'⟩
set_option maxRecDepth 100000 in
set_option maxHeartbeats 4000000 in
theorem kx_type_full (S : amS) (B : Nat) (a : Ar) (hs : List Ar) (tx : List Nat) (u0 u1 u2 ck co : Int32) (hc : xCore S B a hs tx u0 u1 u2 ck co) (b : Nat) (hb : b < 128) (hf : tx.length = 100) : X shX mX10_type 0 [.ref 0, .int (nI b)] [] S (fun r S' => r = some (.int (i32 (-4))) ∧ xCore S' B a hs tx u0 u1 (u2 + nI 1) ck co) := by
  obtain ⟨⟨hA, ho⟩, hrest, hV⟩ := id hc
  obtain ⟨a1, a2, a3, a4, a5, a6, a7⟩ := id hA
  obtain ⟨m1, m2, m3⟩ := id ho
  refine x_iload_n dX10_type_0 rfl ?_
  refine x_topI ?_
  refine x_if_ltI 10 dX10_type_1 rfl (by omega) (fun c1 => ?_) (fun c1 => ?_)
  · exact absurd c1 (by omega)
  · refine x_iload_n dX10_type_4 rfl ?_
    refine x_bi _ bi_127 dX10_type_5 ?_
    refine x_icmp_leN 17 dX10_type_7 rfl (by omega) (by omega) (fun c7 => ?_) (fun c7 => ?_)
    · refine x_aload_n dX10_type_17 rfl ?_
      refine x_getR dX10_type_18 fl_X10_68 rfl ?_
      refine x_iload_n dX10_type_21 rfl ?_
      refine x_v1d (N := mX9_append) dX10_type_22 ml_X10_211 nv_X9_append rfl rfl (kx_append_full S tx hrest.2.2.1 hf b hb) ?_
      refine x_if_eqN 38 dX10_type_25 rfl (by omega) (fun c25 => ?_) (fun c25 => ?_)
      · refine x_aload_n dX10_type_38 rfl ?_
        refine x_bi _ bi_m4 dX10_type_39 ?_
        refine x_v1 (N := mX10_refused) dX10_type_41 ml_X10_120 nv_X10_refused rfl rfl (kx_full S B a hs tx u0 u1 u2 ck co hc) ?_
        rintro _ S' ⟨rfl, h'⟩
        refine x_iretI dX10_type_44 rfl ?_
        exact ⟨rfl, h'⟩
      · exact absurd rfl c25
    · exact absurd c7 (by omega)
set_option maxRecDepth 100000 in
set_option maxHeartbeats 4000000 in
theorem kx_type_ok (S : amS) (B : Nat) (a : Ar) (hs : List Ar) (tx : List Nat) (u0 u1 u2 ck co : Int32) (hc : xCore S B a hs tx u0 u1 u2 ck co) (b : Nat) (hb : b < 128) (hf : tx.length ≠ 100) : X shX mX10_type 0 [.ref 0, .int (nI b)] [] S (fun r S' => r = some (.int (nI (tx.length + 1))) ∧ xCore S' B a hs (tx ++ [b]) u0 u1 u2 ck co) := by
  obtain ⟨⟨hA, ho⟩, hrest, hV⟩ := id hc
  obtain ⟨a1, a2, a3, a4, a5, a6, a7⟩ := id hA
  obtain ⟨m1, m2, m3⟩ := id ho
  refine x_iload_n dX10_type_0 rfl ?_
  refine x_topI ?_
  refine x_if_ltI 10 dX10_type_1 rfl (by omega) (fun c1 => ?_) (fun c1 => ?_)
  · exact absurd c1 (by omega)
  · refine x_iload_n dX10_type_4 rfl ?_
    refine x_bi _ bi_127 dX10_type_5 ?_
    refine x_icmp_leN 17 dX10_type_7 rfl (by omega) (by omega) (fun c7 => ?_) (fun c7 => ?_)
    · refine x_aload_n dX10_type_17 rfl ?_
      refine x_getR dX10_type_18 fl_X10_68 rfl ?_
      refine x_iload_n dX10_type_21 rfl ?_
      refine x_v1 (N := mX9_append) dX10_type_22 ml_X10_211 nv_X9_append rfl rfl (kx_append_ok S tx hrest.2.2.1 hf b hb) ?_
      rintro _ S' ⟨rfl, ht, f⟩
      refine x_if_eqN 38 dX10_type_25 rfl (by omega) (fun c25 => ?_) (fun c25 => ?_)
      · exact absurd c25 (by omega)
      · refine x_aload_n dX10_type_28 rfl ?_
        refine x_getR dX10_type_29 fl_X10_68 rfl ?_
        refine x_getIV dX10_type_32 fl_X10_214 rfl ((show _ = nI (tx.length + 1) by rw [ht.1, List.length_append]; rfl)) ?_
        refine x_goto 44 dX10_type_35 rfl ?_
        refine x_iretI dX10_type_44 rfl ?_
        obtain ⟨g1, g2, g3, g4, g5⟩ := hrest
        obtain ⟨V, w1, w2, w3⟩ := hV
        have e0 := f.1 0 (by decide)
        exact ⟨rfl, ⟨hA, ho.fo f (by decide) (by decide)⟩, ⟨g1.fo f (by decide) (by decide), by rw [e0]; exact g2, ht, by rw [e0]; exact g4, by rw [e0]; exact g5⟩, V, w1, by rw [f.1 1 (by decide)]; exact w2, w3.fo f (by decide) (by decide)⟩
    · exact absurd c7 (by omega)
set_option maxRecDepth 100000 in
set_option maxHeartbeats 4000000 in
theorem kx_back_no (S : amS) (B : Nat) (a : Ar) (hs : List Ar) (tx : List Nat) (u0 u1 u2 ck co : Int32) (hc : xCore S B a hs tx u0 u1 u2 ck co) (h0 : hs = []) : X shX mX10_back 0 [.ref 0] [] S (fun r S' => r = some (.int (i32 (-3))) ∧ xCore S' B a hs tx u0 (u1 + nI 1) u2 ck co) := by
  obtain ⟨⟨hA, ho⟩, hrest, hV⟩ := id hc
  obtain ⟨a1, a2, a3, a4, a5, a6, a7⟩ := id hA
  obtain ⟨m1, m2, m3⟩ := id ho
  refine x_aload_n dX10_back_0 rfl ?_
  refine x_getR dX10_back_1 fl_X10_31 rfl ?_
  refine x_aload_n dX10_back_4 rfl ?_
  refine x_getR dX10_back_5 fl_X10_17 rfl ?_
  refine x_v1d (N := mX3_restore) dX10_back_8 ml_X10_232 nv_X3_restore rfl rfl (kx_restore_no S (by have := hrest.1; rw [h0] at this; exact this)) ?_
  refine x_if_eqN 24 dX10_back_11 rfl (by omega) (fun c11 => ?_) (fun c11 => ?_)
  · refine x_aload_n dX10_back_24 rfl ?_
    refine x_bi _ bi_m3 dX10_back_25 ?_
    refine x_v1 (N := mX10_refused) dX10_back_27 ml_X10_120 nv_X10_refused rfl rfl (kx_no S B a hs tx u0 u1 u2 ck co hc) ?_
    rintro _ S' ⟨rfl, h'⟩
    refine x_iretI dX10_back_30 rfl ?_
    exact ⟨rfl, h'⟩
  · exact absurd rfl c11
set_option maxRecDepth 100000 in
set_option maxHeartbeats 4000000 in
theorem kx_back_ok (S : amS) (B : Nat) (a : Ar) (hs : List Ar) (tx : List Nat) (u0 u1 u2 ck co : Int32) (hc : xCore S B a hs tx u0 u1 u2 ck co) (hs' : List Ar) (b : Ar) (h0 : hs = hs' ++ [b]) : X shX mX10_back 0 [.ref 0] [] S (fun r S' => r = some (.int (nI hs'.length)) ∧ xCore S' (B + 3000) b hs' tx u0 u1 u2 ck co) := by
  obtain ⟨⟨hA, ho⟩, hrest, hV⟩ := id hc
  obtain ⟨a1, a2, a3, a4, a5, a6, a7⟩ := id hA
  obtain ⟨m1, m2, m3⟩ := id ho
  refine x_aload_n dX10_back_0 rfl ?_
  refine x_getR dX10_back_1 fl_X10_31 rfl ?_
  refine x_aload_n dX10_back_4 rfl ?_
  refine x_getR dX10_back_5 fl_X10_17 rfl ?_
  refine x_v1 (N := mX3_restore) dX10_back_8 ml_X10_232 nv_X3_restore rfl rfl (kx_restore S hs' b (by have := hrest.1; rw [h0] at this; exact this)) ?_
  rintro _ S' ⟨rfl, k1, k2, k3, k4, k5⟩
  obtain ⟨nx, n1, n2, n3, n4, n5⟩ := id k1
  refine x_if_eqN 24 dX10_back_11 rfl (by omega) (fun c11 => ?_) (fun c11 => ?_)
  · exact absurd c11 (by omega)
  · refine x_aload_n dX10_back_14 rfl ?_
    refine x_getR dX10_back_15 fl_X10_31 rfl ?_
    refine x_getIV dX10_back_18 fl_X10_236 rfl (n3) ?_
    refine x_goto 30 dX10_back_21 rfl ?_
    refine x_iretI dX10_back_30 rfl ?_
    obtain ⟨g1, g2, g3, g4, g5⟩ := hrest
    obtain ⟨V, w1, w2, w3⟩ := hV
    have e0 := k5.1 0 (by decide)
    refine ⟨rfl, ⟨k2, k3⟩, ⟨k1, by rw [e0]; exact g2, g3.fo k5 (by decide) (by decide), by rw [e0]; exact g4, by rw [e0]; exact g5⟩, V + 1, by omega, ?_, w3.new k5 (by decide) (by omega)⟩
    rw [k4, w2, nI_add]
set_option maxRecDepth 100000 in
set_option maxHeartbeats 4000000 in
theorem kx_told_0 (S : amS) (B : Nat) (a : Ar) (hs : List Ar) (tx : List Nat) (u0 u1 u2 ck co : Int32) (hc : xCore S B a hs tx u0 u1 u2 ck co) : X shX mX10_told 0 [.ref 0, .int (nI 0)] [] S (fun r S' => r = some (.int (u0)) ∧ xCore S' B a hs tx u0 u1 u2 ck co) := by
  obtain ⟨⟨hA, ho⟩, hrest, hV⟩ := id hc
  obtain ⟨a1, a2, a3, a4, a5, a6, a7⟩ := id hA
  obtain ⟨m1, m2, m3⟩ := id ho
  refine x_iload_n dX10_told_0 rfl ?_
  refine x_tableIn 48 dX10_told_1 (by decide) (by decide) (off := 47) (by decide) rfl ?_
  refine x_aload_n dX10_told_48 rfl ?_
  refine x_getIV dX10_told_49 fl_X10_237 rfl (hrest.2.1.1) ?_
  refine x_iretI dX10_told_52 rfl ?_
  exact ⟨rfl, hc⟩
set_option maxRecDepth 100000 in
set_option maxHeartbeats 4000000 in
theorem kx_told_1 (S : amS) (B : Nat) (a : Ar) (hs : List Ar) (tx : List Nat) (u0 u1 u2 ck co : Int32) (hc : xCore S B a hs tx u0 u1 u2 ck co) : X shX mX10_told 0 [.ref 0, .int (nI 1)] [] S (fun r S' => r = some (.int (u1)) ∧ xCore S' B a hs tx u0 u1 u2 ck co) := by
  obtain ⟨⟨hA, ho⟩, hrest, hV⟩ := id hc
  obtain ⟨a1, a2, a3, a4, a5, a6, a7⟩ := id hA
  obtain ⟨m1, m2, m3⟩ := id ho
  refine x_iload_n dX10_told_0 rfl ?_
  refine x_tableIn 53 dX10_told_1 (by decide) (by decide) (off := 52) (by decide) rfl ?_
  refine x_aload_n dX10_told_53 rfl ?_
  refine x_getIV dX10_told_54 fl_X10_240 rfl (hrest.2.1.2.1) ?_
  refine x_iretI dX10_told_57 rfl ?_
  exact ⟨rfl, hc⟩
set_option maxRecDepth 100000 in
set_option maxHeartbeats 4000000 in
theorem kx_told_2 (S : amS) (B : Nat) (a : Ar) (hs : List Ar) (tx : List Nat) (u0 u1 u2 ck co : Int32) (hc : xCore S B a hs tx u0 u1 u2 ck co) : X shX mX10_told 0 [.ref 0, .int (nI 2)] [] S (fun r S' => r = some (.int (u2)) ∧ xCore S' B a hs tx u0 u1 u2 ck co) := by
  obtain ⟨⟨hA, ho⟩, hrest, hV⟩ := id hc
  obtain ⟨a1, a2, a3, a4, a5, a6, a7⟩ := id hA
  obtain ⟨m1, m2, m3⟩ := id ho
  refine x_iload_n dX10_told_0 rfl ?_
  refine x_tableIn 58 dX10_told_1 (by decide) (by decide) (off := 57) (by decide) rfl ?_
  refine x_aload_n dX10_told_58 rfl ?_
  refine x_getIV dX10_told_59 fl_X10_243 rfl (hrest.2.1.2.2) ?_
  refine x_iretI dX10_told_62 rfl ?_
  exact ⟨rfl, hc⟩
set_option maxRecDepth 100000 in
set_option maxHeartbeats 4000000 in
theorem kx_told_3 (S : amS) (B : Nat) (a : Ar) (hs : List Ar) (tx : List Nat) (u0 u1 u2 ck co : Int32) (hc : xCore S B a hs tx u0 u1 u2 ck co) : X shX mX10_told 0 [.ref 0, .int (nI 3)] [] S (fun r S' => r = some (.int (nI tx.length)) ∧ xCore S' B a hs tx u0 u1 u2 ck co) := by
  obtain ⟨⟨hA, ho⟩, hrest, hV⟩ := id hc
  obtain ⟨a1, a2, a3, a4, a5, a6, a7⟩ := id hA
  obtain ⟨m1, m2, m3⟩ := id ho
  refine x_iload_n dX10_told_0 rfl ?_
  refine x_tableIn 63 dX10_told_1 (by decide) (by decide) (off := 62) (by decide) rfl ?_
  refine x_aload_n dX10_told_63 rfl ?_
  refine x_getR dX10_told_64 fl_X10_68 rfl ?_
  refine x_getIV dX10_told_67 fl_X10_214 rfl (hrest.2.2.1.1) ?_
  refine x_iretI dX10_told_70 rfl ?_
  exact ⟨rfl, hc⟩
set_option maxRecDepth 100000 in
set_option maxHeartbeats 4000000 in
theorem kx_told_4 (S : amS) (B : Nat) (a : Ar) (hs : List Ar) (tx : List Nat) (u0 u1 u2 ck co : Int32) (hc : xCore S B a hs tx u0 u1 u2 ck co) : X shX mX10_told 0 [.ref 0, .int (nI 4)] [] S (fun r S' => r = some (.int (nI a.1)) ∧ xCore S' B a hs tx u0 u1 u2 ck co) := by
  obtain ⟨⟨hA, ho⟩, hrest, hV⟩ := id hc
  obtain ⟨a1, a2, a3, a4, a5, a6, a7⟩ := id hA
  obtain ⟨m1, m2, m3⟩ := id ho
  refine x_iload_n dX10_told_0 rfl ?_
  refine x_tableIn 71 dX10_told_1 (by decide) (by decide) (off := 70) (by decide) rfl ?_
  refine x_aload_n dX10_told_71 rfl ?_
  refine x_getR dX10_told_72 fl_X10_17 rfl ?_
  refine x_getIV dX10_told_75 fl_X10_117 rfl (m1) ?_
  refine x_iretI dX10_told_78 rfl ?_
  exact ⟨rfl, hc⟩
set_option maxRecDepth 100000 in
set_option maxHeartbeats 4000000 in
theorem kx_told_5 (S : amS) (B : Nat) (a : Ar) (hs : List Ar) (tx : List Nat) (u0 u1 u2 ck co : Int32) (hc : xCore S B a hs tx u0 u1 u2 ck co) : X shX mX10_told 0 [.ref 0, .int (nI 5)] [] S (fun r S' => r = some (.int (nI a.2.1)) ∧ xCore S' B a hs tx u0 u1 u2 ck co) := by
  obtain ⟨⟨hA, ho⟩, hrest, hV⟩ := id hc
  obtain ⟨a1, a2, a3, a4, a5, a6, a7⟩ := id hA
  obtain ⟨m1, m2, m3⟩ := id ho
  refine x_iload_n dX10_told_0 rfl ?_
  refine x_tableIn 79 dX10_told_1 (by decide) (by decide) (off := 78) (by decide) rfl ?_
  refine x_aload_n dX10_told_79 rfl ?_
  refine x_getR dX10_told_80 fl_X10_17 rfl ?_
  refine x_getIV dX10_told_83 fl_X10_246 rfl (m2) ?_
  refine x_iretI dX10_told_86 rfl ?_
  exact ⟨rfl, hc⟩
set_option maxRecDepth 100000 in
set_option maxHeartbeats 4000000 in
theorem kx_told_7 (S : amS) (B : Nat) (a : Ar) (hs : List Ar) (tx : List Nat) (u0 u1 u2 ck co : Int32) (hc : xCore S B a hs tx u0 u1 u2 ck co) : X shX mX10_told 0 [.ref 0, .int (nI 7)] [] S (fun r S' => r = some (.int (nI hs.length)) ∧ xCore S' B a hs tx u0 u1 u2 ck co) := by
  obtain ⟨⟨hA, ho⟩, hrest, hV⟩ := id hc
  obtain ⟨a1, a2, a3, a4, a5, a6, a7⟩ := id hA
  obtain ⟨m1, m2, m3⟩ := id ho
  refine x_iload_n dX10_told_0 rfl ?_
  refine x_tableIn 102 dX10_told_1 (by decide) (by decide) (off := 101) (by decide) rfl ?_
  refine x_aload_n dX10_told_102 rfl ?_
  refine x_getR dX10_told_103 fl_X10_31 rfl ?_
  refine x_getIV dX10_told_106 fl_X10_236 rfl (hrest.1.choose_spec.2.2.1) ?_
  refine x_iretI dX10_told_109 rfl ?_
  exact ⟨rfl, hc⟩
set_option maxRecDepth 100000 in
set_option maxHeartbeats 4000000 in
theorem kx_told_bad (S : amS) (B : Nat) (a : Ar) (hs : List Ar) (tx : List Nat) (u0 u1 u2 ck co : Int32) (hc : xCore S B a hs tx u0 u1 u2 ck co) (x : Int32) (hx : ¬ InR x 8) : X shX mX10_told 0 [.ref 0, .int x] [] S (fun r S' => r = some (.int (i32 (-2))) ∧ xCore S' B a hs tx (u0 + nI 1) u1 u2 ck co) := by
  obtain ⟨⟨hA, ho⟩, hrest, hV⟩ := id hc
  obtain ⟨a1, a2, a3, a4, a5, a6, a7⟩ := id hA
  obtain ⟨m1, m2, m3⟩ := id ho
  refine x_iload_n dX10_told_0 rfl ?_
  refine x_tableOut 110 dX10_told_1 ?_ rfl ?_
  · by_cases q : x.toInt < 0
    · exact Or.inl q
    · refine Or.inr (Classical.not_not.mp (fun z => hx ⟨x.toInt.toNat, by omega, ?_⟩))
      rw [nI_i32, Int.toNat_of_nonneg (by omega)]
      exact i32_of x
  refine x_aload_n dX10_told_110 rfl ?_
  refine x_bi _ bi_m2 dX10_told_111 ?_
  refine x_v1 (N := mX10_refused) dX10_told_113 ml_X10_120 nv_X10_refused rfl rfl (kx_bad S B a hs tx u0 u1 u2 ck co hc) ?_
  rintro _ S' ⟨rfl, h'⟩
  refine x_iretI dX10_told_116 rfl ?_
  exact ⟨rfl, h'⟩
