/-! THE CLASS: the commands are executed -/
theorem xCore.fs {S S' : amS} {B : Nat} {a : Ar} {hs : List Ar} {tx : List Nat} {u0 u1 u2 ck co : Int32} (h : xCore S B a hs tx u0 u1 u2 ck co) (g : FS S S') : xCore S' B a hs tx u0 u1 u2 ck co := by
  obtain ⟨h1, ⟨g1, g2, g3, g4, g5⟩, V, h3, h4, h5⟩ := h
  have f := g.1
  have e0 := f.1 0 (by decide)
  exact ⟨⟨h1.1, h1.2.fo f (by decide) (by decide)⟩, ⟨g1.fo f (by decide) (by decide), by rw [e0]; exact g2, g.txt g3, by rw [e0]; exact g4, by rw [e0]; exact g5⟩, V, h3, by rw [f.1 1 (by decide)]; exact h4, h5.fo f (by decide) (by decide)⟩
theorem kx_holdF (S : amS) (B : Nat) (a : Ar) (hs : List Ar) (tx : List Nat) (u0 u1 u2 ck co : Int32) (hc : xCore S B a hs tx u0 u1 u2 ck co) : X shX mX1_copyFrom 0 [.ref 3, .ref 1] [] S (fun r S' => r = none ∧ xMid S' B a a hs tx u0 u1 u2 ck co ∧ FO [3] [4] S S') := by
  obtain ⟨⟨h1, h2⟩, h3, V, h4, h5, h6⟩ := id hc
  refine x_mono ?_ (kx_copy S 3 4 1 2 ⟨rfl, rfl⟩ ⟨rfl, rfl⟩ (by omega) (by omega) a h1.2.2.1 h2)
  rintro _ S' ⟨rfl, f1, f2, f3⟩
  exact ⟨rfl, ⟨⟨h1, f2⟩, ⟨h1, h2.fo f1 (by decide) (by decide)⟩, h3.fo f1 (by decide) (by decide) (by decide), V, h4, by rw [f1.1 1 (by decide)]; exact h5, h6.fo f1 (by decide) (by decide)⟩, f1⟩
theorem kx_keepF (S : amS) (B : Nat) (a b : Ar) (hs : List Ar) (tx : List Nat) (u0 u1 u2 ck co : Int32) (hc : xMid S B a b hs tx u0 u1 u2 ck co) : X shX mX3_keep 0 [.ref 5, .ref 3] [] S (fun r S' => r = none ∧ xCore S' B b (pushH hs a) tx u0 u1 u2 ck co ∧ S'.1 47 = S.1 47) := by
  obtain ⟨⟨p1, p2⟩, ⟨h1, h2⟩, ⟨g1, g2, g3, g4, g5⟩, V, h4, h5, h6⟩ := id hc
  refine x_mono ?_ (kx_keep S hs g1 a p1 p2)
  rintro _ S' ⟨rfl, f1, f2⟩
  have e0 := f2.1 0 (by decide)
  exact ⟨rfl, ⟨⟨h1, h2.fo f2 (by decide) (by decide)⟩, ⟨f1, by rw [e0]; exact g2, g3.fo f2 (by decide) (by decide), by rw [e0]; exact g4, by rw [e0]; exact g5⟩, V, h4, by rw [f2.1 1 (by decide)]; exact h5, h6.fo f2 (by decide) (by decide)⟩, f2.1 47 (by decide)⟩
theorem nn_i {x : Int} (h : 0 ≤ x) : i32 x = nI x.toNat := by rw [nI_i32, Int.toNat_of_nonneg h]
def EQ (B : Nat) (a b : Ar) (hs : List Ar) (tx : List Nat) (u0 u1 u2 ck co : Int32) (o : Od) (S : amS) (r : Option Value) (S' : amS) : Prop := (∃ n b', exO b o = .inr b' ∧ n < 1000 ∧ r = some (.int (nI n)) ∧ xMid S' (B + 61) a b' hs tx u0 u1 u2 ck co ∧ FO [1] [2] S S') ∨ (∃ e, exO b o = .inl e ∧ (2 ≤ e ∧ e ≤ 4) ∧ r = some (.int (i32 (-(e : Int)))) ∧ S' = S)
theorem xMid.mono {S : amS} {B B' : Nat} {a b : Ar} {hs : List Ar} {tx : List Nat} {u0 u1 u2 ck co : Int32} (h : xMid S B a b hs tx u0 u1 u2 ck co) (hB : B ≤ B') : xMid S B' a b hs tx u0 u1 u2 ck co := ⟨h.1, h.2.mono hB⟩
set_option maxRecDepth 100000 in
set_option maxHeartbeats 4000000 in
theorem kx_ex_d (S : amS) (B : Nat) (a b : Ar) (hs : List Ar) (tx : List Nat) (u0 u1 u2 ck co : Int32) (hc : xMid S B a b hs tx u0 u1 u2 ck co) (k : Nat) (hk : k < 34) (o : Od) (hO : OdX S k o) (hok : OdOK o) (hL : o.1 = 100) : X shX mX10_executed 0 [.ref 0, .int (nI k), .null, .null] [] S (EQ B a b hs tx u0 u1 u2 ck co o S) := by
  obtain ⟨V, hV, hch⟩ := hc.chg
  obtain ⟨-, ⟨hA, ho⟩, -⟩ := id hc
  obtain ⟨a1, a2, a3, a4, a5, a6, a7⟩ := id hA
  obtain ⟨o1, o2, o3, o4⟩ := id hok
  have n0 := o2 0
  have n1 := o2 1
  have hd := o4 hL
  refine x_aload_n dX10_executed_0 rfl ?_
  refine x_getR dX10_executed_1 fl_X10_68 rfl ?_
  refine x_iload_n dX10_executed_4 rfl ?_
  refine x_ic _ ic_0 dX10_executed_5 ?_
  refine x_v2d (N := mX9_number) dX10_executed_6 ml_X10_275 nv_X9_number rfl rfl (kx_number S k 0 hk (by omega) _ (hO.2 0 (by omega))) ?_
  refine x_top (nn_i (o3 (by omega) 0)) ?_
  refine x_istore_n dX10_executed_9 rfl ?_
  refine x_aload_n dX10_executed_10 rfl ?_
  refine x_getR dX10_executed_11 fl_X10_68 rfl ?_
  refine x_iload_n dX10_executed_14 rfl ?_
  refine x_ic _ ic_1 dX10_executed_15 ?_
  refine x_v2d (N := mX9_number) dX10_executed_16 ml_X10_275 nv_X9_number rfl rfl (kx_number S k 1 hk (by omega) _ (hO.2 1 (by omega))) ?_
  refine x_top (nn_i (o3 (by omega) 1)) ?_
  refine x_istore_n dX10_executed_19 rfl ?_
  refine x_aload_n dX10_executed_20 rfl ?_
  refine x_getR dX10_executed_21 fl_X10_68 rfl ?_
  refine x_iload_n dX10_executed_24 rfl ?_
  refine x_v1d (N := mX9_verb) dX10_executed_25 ml_X10_278 nv_X9_verb rfl rfl (kx_verb S k hk (nI 100) (by rw [hO.1, hL])) ?_
  refine x_lookup 80 dX10_executed_28 (by decide) (by decide : Op.lookupswitch.offset _ _ _ = 52) rfl ?_
  refine x_aload_n dX10_executed_80 rfl ?_
  refine x_getR dX10_executed_81 fl_X10_17 rfl ?_
  refine x_iload_n dX10_executed_84 rfl ?_
  refine x_v1 (N := mX1_restart) dX10_executed_85 ml_X10_79 nv_X1_restart rfl rfl (kx_restart_ok S b hA ho V hV (o.2 0).toNat (by omega) (by omega)) ?_
  rintro _ S2 ⟨rfl, hc2⟩
  refine x_iretI dX10_executed_88 rfl ?_
  exact Or.inl ⟨b.1, (aSpace (o.2 0).toNat), by unfold exO; rw [if_pos hL], by omega, rfl, (hch S2 1 (aSpace (o.2 0).toNat) (arr_space (n := (o.2 0).toNat) (by omega) (by omega)) hc2).mono (by omega), hc2.1⟩
set_option maxRecDepth 100000 in
set_option maxHeartbeats 4000000 in
theorem kx_ex_t (S : amS) (B : Nat) (a b : Ar) (hs : List Ar) (tx : List Nat) (u0 u1 u2 ck co : Int32) (hc : xMid S B a b hs tx u0 u1 u2 ck co) (k : Nat) (hk : k < 34) (o : Od) (hO : OdX S k o) (hok : OdOK o) (hL : o.1 = 116) : X shX mX10_executed 0 [.ref 0, .int (nI k), .null, .null] [] S (EQ B a b hs tx u0 u1 u2 ck co o S) := by
  obtain ⟨V, hV, hch⟩ := hc.chg
  obtain ⟨-, ⟨hA, ho⟩, -⟩ := id hc
  obtain ⟨a1, a2, a3, a4, a5, a6, a7⟩ := id hA
  obtain ⟨o1, o2, o3, o4⟩ := id hok
  have n0 := o2 0
  have n1 := o2 1
  by_cases hi : (o.2 0).toNat < b.2.1
  · refine x_aload_n dX10_executed_0 rfl ?_
    refine x_getR dX10_executed_1 fl_X10_68 rfl ?_
    refine x_iload_n dX10_executed_4 rfl ?_
    refine x_ic _ ic_0 dX10_executed_5 ?_
    refine x_v2d (N := mX9_number) dX10_executed_6 ml_X10_275 nv_X9_number rfl rfl (kx_number S k 0 hk (by omega) _ (hO.2 0 (by omega))) ?_
    refine x_top (nn_i (o3 (by omega) 0)) ?_
    refine x_istore_n dX10_executed_9 rfl ?_
    refine x_aload_n dX10_executed_10 rfl ?_
    refine x_getR dX10_executed_11 fl_X10_68 rfl ?_
    refine x_iload_n dX10_executed_14 rfl ?_
    refine x_ic _ ic_1 dX10_executed_15 ?_
    refine x_v2d (N := mX9_number) dX10_executed_16 ml_X10_275 nv_X9_number rfl rfl (kx_number S k 1 hk (by omega) _ (hO.2 1 (by omega))) ?_
    refine x_top (nn_i (o3 (by omega) 1)) ?_
    refine x_istore_n dX10_executed_19 rfl ?_
    refine x_aload_n dX10_executed_20 rfl ?_
    refine x_getR dX10_executed_21 fl_X10_68 rfl ?_
    refine x_iload_n dX10_executed_24 rfl ?_
    refine x_v1d (N := mX9_verb) dX10_executed_25 ml_X10_278 nv_X9_verb rfl rfl (kx_verb S k hk (nI 116) (by rw [hO.1, hL])) ?_
    refine x_lookup 117 dX10_executed_28 (by decide) (by decide : Op.lookupswitch.offset _ _ _ = 89) rfl ?_
    refine x_aload_n dX10_executed_117 rfl ?_
    refine x_getR dX10_executed_118 fl_X10_17 rfl ?_
    refine x_iload_n dX10_executed_121 rfl ?_
    refine x_v1 (N := mX1_negate) dX10_executed_122 ml_X10_90 nv_X1_negate rfl rfl (kx_negate_ok S b hA ho V hV (o.2 0).toNat hi) ?_
    rintro _ S2 ⟨rfl, hc2⟩
    refine x_iretI dX10_executed_125 rfl ?_
    exact Or.inl ⟨0, (aTurn b (o.2 0).toNat), by unfold exO; rw [if_neg (show ¬ o.1 = 100 by omega), if_neg (show ¬ o.1 = 112 by omega), if_pos hL, if_pos hi], by omega, rfl, (hch S2 1 (aTurn b (o.2 0).toNat) (arr_turn hA (o.2 0).toNat) hc2).mono (by omega), hc2.1⟩
  · refine x_aload_n dX10_executed_0 rfl ?_
    refine x_getR dX10_executed_1 fl_X10_68 rfl ?_
    refine x_iload_n dX10_executed_4 rfl ?_
    refine x_ic _ ic_0 dX10_executed_5 ?_
    refine x_v2d (N := mX9_number) dX10_executed_6 ml_X10_275 nv_X9_number rfl rfl (kx_number S k 0 hk (by omega) _ (hO.2 0 (by omega))) ?_
    refine x_top (nn_i (o3 (by omega) 0)) ?_
    refine x_istore_n dX10_executed_9 rfl ?_
    refine x_aload_n dX10_executed_10 rfl ?_
    refine x_getR dX10_executed_11 fl_X10_68 rfl ?_
    refine x_iload_n dX10_executed_14 rfl ?_
    refine x_ic _ ic_1 dX10_executed_15 ?_
    refine x_v2d (N := mX9_number) dX10_executed_16 ml_X10_275 nv_X9_number rfl rfl (kx_number S k 1 hk (by omega) _ (hO.2 1 (by omega))) ?_
    refine x_top (nn_i (o3 (by omega) 1)) ?_
    refine x_istore_n dX10_executed_19 rfl ?_
    refine x_aload_n dX10_executed_20 rfl ?_
    refine x_getR dX10_executed_21 fl_X10_68 rfl ?_
    refine x_iload_n dX10_executed_24 rfl ?_
    refine x_v1d (N := mX9_verb) dX10_executed_25 ml_X10_278 nv_X9_verb rfl rfl (kx_verb S k hk (nI 116) (by rw [hO.1, hL])) ?_
    refine x_lookup 117 dX10_executed_28 (by decide) (by decide : Op.lookupswitch.offset _ _ _ = 89) rfl ?_
    refine x_aload_n dX10_executed_117 rfl ?_
    refine x_getR dX10_executed_118 fl_X10_17 rfl ?_
    refine x_iload_n dX10_executed_121 rfl ?_
    refine x_v1d (N := mX1_negate) dX10_executed_122 ml_X10_90 nv_X1_negate rfl rfl (kx_negate_bad S b.2.1 a3 ho.2.1 (nI (o.2 0).toNat) (fun z => hi (InR_nI (by omega) (by omega) z))) ?_
    refine x_iretI dX10_executed_125 rfl ?_
    exact Or.inr ⟨2, by unfold exO; rw [if_neg (show ¬ o.1 = 100 by omega), if_neg (show ¬ o.1 = 112 by omega), if_pos hL, if_neg hi], by omega, rfl, rfl⟩
set_option maxRecDepth 100000 in
set_option maxHeartbeats 4000000 in
theorem kx_ex_x (S : amS) (B : Nat) (a b : Ar) (hs : List Ar) (tx : List Nat) (u0 u1 u2 ck co : Int32) (hc : xMid S B a b hs tx u0 u1 u2 ck co) (k : Nat) (hk : k < 34) (o : Od) (hO : OdX S k o) (hok : OdOK o) (hL : o.1 = 120) : X shX mX10_executed 0 [.ref 0, .int (nI k), .null, .null] [] S (EQ B a b hs tx u0 u1 u2 ck co o S) := by
  obtain ⟨V, hV, hch⟩ := hc.chg
  obtain ⟨-, ⟨hA, ho⟩, -⟩ := id hc
  obtain ⟨a1, a2, a3, a4, a5, a6, a7⟩ := id hA
  obtain ⟨o1, o2, o3, o4⟩ := id hok
  have n0 := o2 0
  have n1 := o2 1
  by_cases hi : (o.2 0).toNat < b.2.1
  · refine x_aload_n dX10_executed_0 rfl ?_
    refine x_getR dX10_executed_1 fl_X10_68 rfl ?_
    refine x_iload_n dX10_executed_4 rfl ?_
    refine x_ic _ ic_0 dX10_executed_5 ?_
    refine x_v2d (N := mX9_number) dX10_executed_6 ml_X10_275 nv_X9_number rfl rfl (kx_number S k 0 hk (by omega) _ (hO.2 0 (by omega))) ?_
    refine x_top (nn_i (o3 (by omega) 0)) ?_
    refine x_istore_n dX10_executed_9 rfl ?_
    refine x_aload_n dX10_executed_10 rfl ?_
    refine x_getR dX10_executed_11 fl_X10_68 rfl ?_
    refine x_iload_n dX10_executed_14 rfl ?_
    refine x_ic _ ic_1 dX10_executed_15 ?_
    refine x_v2d (N := mX9_number) dX10_executed_16 ml_X10_275 nv_X9_number rfl rfl (kx_number S k 1 hk (by omega) _ (hO.2 1 (by omega))) ?_
    refine x_top (nn_i (o3 (by omega) 1)) ?_
    refine x_istore_n dX10_executed_19 rfl ?_
    refine x_aload_n dX10_executed_20 rfl ?_
    refine x_getR dX10_executed_21 fl_X10_68 rfl ?_
    refine x_iload_n dX10_executed_24 rfl ?_
    refine x_v1d (N := mX9_verb) dX10_executed_25 ml_X10_278 nv_X9_verb rfl rfl (kx_verb S k hk (nI 120) (by rw [hO.1, hL])) ?_
    refine x_lookup 126 dX10_executed_28 (by decide) (by decide : Op.lookupswitch.offset _ _ _ = 98) rfl ?_
    refine x_aload_n dX10_executed_126 rfl ?_
    refine x_getR dX10_executed_127 fl_X10_17 rfl ?_
    refine x_iload_n dX10_executed_130 rfl ?_
    refine x_v1 (N := mX1_remove) dX10_executed_131 ml_X10_97 nv_X1_remove rfl rfl (kx_remove_ok S b hA ho V hV (o.2 0).toNat hi) ?_
    rintro _ S2 ⟨rfl, hc2⟩
    refine x_iretI dX10_executed_134 rfl ?_
    exact Or.inl ⟨b.2.1 - 1, (aDrop b (o.2 0).toNat), by unfold exO; rw [if_neg (show ¬ o.1 = 100 by omega), if_neg (show ¬ o.1 = 112 by omega), if_neg (show ¬ o.1 = 116 by omega), if_pos hL, if_pos hi], by omega, rfl, (hch S2 1 (aDrop b (o.2 0).toNat) (arr_drop hA hi) hc2).mono (by omega), hc2.1⟩
  · refine x_aload_n dX10_executed_0 rfl ?_
    refine x_getR dX10_executed_1 fl_X10_68 rfl ?_
    refine x_iload_n dX10_executed_4 rfl ?_
    refine x_ic _ ic_0 dX10_executed_5 ?_
    refine x_v2d (N := mX9_number) dX10_executed_6 ml_X10_275 nv_X9_number rfl rfl (kx_number S k 0 hk (by omega) _ (hO.2 0 (by omega))) ?_
    refine x_top (nn_i (o3 (by omega) 0)) ?_
    refine x_istore_n dX10_executed_9 rfl ?_
    refine x_aload_n dX10_executed_10 rfl ?_
    refine x_getR dX10_executed_11 fl_X10_68 rfl ?_
    refine x_iload_n dX10_executed_14 rfl ?_
    refine x_ic _ ic_1 dX10_executed_15 ?_
    refine x_v2d (N := mX9_number) dX10_executed_16 ml_X10_275 nv_X9_number rfl rfl (kx_number S k 1 hk (by omega) _ (hO.2 1 (by omega))) ?_
    refine x_top (nn_i (o3 (by omega) 1)) ?_
    refine x_istore_n dX10_executed_19 rfl ?_
    refine x_aload_n dX10_executed_20 rfl ?_
    refine x_getR dX10_executed_21 fl_X10_68 rfl ?_
    refine x_iload_n dX10_executed_24 rfl ?_
    refine x_v1d (N := mX9_verb) dX10_executed_25 ml_X10_278 nv_X9_verb rfl rfl (kx_verb S k hk (nI 120) (by rw [hO.1, hL])) ?_
    refine x_lookup 126 dX10_executed_28 (by decide) (by decide : Op.lookupswitch.offset _ _ _ = 98) rfl ?_
    refine x_aload_n dX10_executed_126 rfl ?_
    refine x_getR dX10_executed_127 fl_X10_17 rfl ?_
    refine x_iload_n dX10_executed_130 rfl ?_
    refine x_v1d (N := mX1_remove) dX10_executed_131 ml_X10_97 nv_X1_remove rfl rfl (kx_remove_bad S b.2.1 a3 ho.2.1 (nI (o.2 0).toNat) (fun z => hi (InR_nI (by omega) (by omega) z))) ?_
    refine x_iretI dX10_executed_134 rfl ?_
    exact Or.inr ⟨2, by unfold exO; rw [if_neg (show ¬ o.1 = 100 by omega), if_neg (show ¬ o.1 = 112 by omega), if_neg (show ¬ o.1 = 116 by omega), if_pos hL, if_neg hi], by omega, rfl, rfl⟩
set_option maxRecDepth 100000 in
set_option maxHeartbeats 4000000 in
theorem kx_ex_s (S : amS) (B : Nat) (a b : Ar) (hs : List Ar) (tx : List Nat) (u0 u1 u2 ck co : Int32) (hc : xMid S B a b hs tx u0 u1 u2 ck co) (k : Nat) (hk : k < 34) (o : Od) (hO : OdX S k o) (hok : OdOK o) (hL : o.1 = 115) : X shX mX10_executed 0 [.ref 0, .int (nI k), .null, .null] [] S (EQ B a b hs tx u0 u1 u2 ck co o S) := by
  obtain ⟨V, hV, hch⟩ := hc.chg
  obtain ⟨-, ⟨hA, ho⟩, -⟩ := id hc
  obtain ⟨a1, a2, a3, a4, a5, a6, a7⟩ := id hA
  obtain ⟨o1, o2, o3, o4⟩ := id hok
  have n0 := o2 0
  have n1 := o2 1
  by_cases hi : (o.2 0).toNat < b.2.1 ∧ (o.2 1).toNat < b.2.1 ∧ (o.2 0).toNat ≠ (o.2 1).toNat
  · refine x_aload_n dX10_executed_0 rfl ?_
    refine x_getR dX10_executed_1 fl_X10_68 rfl ?_
    refine x_iload_n dX10_executed_4 rfl ?_
    refine x_ic _ ic_0 dX10_executed_5 ?_
    refine x_v2d (N := mX9_number) dX10_executed_6 ml_X10_275 nv_X9_number rfl rfl (kx_number S k 0 hk (by omega) _ (hO.2 0 (by omega))) ?_
    refine x_top (nn_i (o3 (by omega) 0)) ?_
    refine x_istore_n dX10_executed_9 rfl ?_
    refine x_aload_n dX10_executed_10 rfl ?_
    refine x_getR dX10_executed_11 fl_X10_68 rfl ?_
    refine x_iload_n dX10_executed_14 rfl ?_
    refine x_ic _ ic_1 dX10_executed_15 ?_
    refine x_v2d (N := mX9_number) dX10_executed_16 ml_X10_275 nv_X9_number rfl rfl (kx_number S k 1 hk (by omega) _ (hO.2 1 (by omega))) ?_
    refine x_top (nn_i (o3 (by omega) 1)) ?_
    refine x_istore_n dX10_executed_19 rfl ?_
    refine x_aload_n dX10_executed_20 rfl ?_
    refine x_getR dX10_executed_21 fl_X10_68 rfl ?_
    refine x_iload_n dX10_executed_24 rfl ?_
    refine x_v1d (N := mX9_verb) dX10_executed_25 ml_X10_278 nv_X9_verb rfl rfl (kx_verb S k hk (nI 115) (by rw [hO.1, hL])) ?_
    refine x_lookup 135 dX10_executed_28 (by decide) (by decide : Op.lookupswitch.offset _ _ _ = 107) rfl ?_
    refine x_aload_n dX10_executed_135 rfl ?_
    refine x_getR dX10_executed_136 fl_X10_17 rfl ?_
    refine x_iload_n dX10_executed_139 rfl ?_
    refine x_iload_n dX10_executed_140 rfl ?_
    refine x_v2 (N := mX1_exchange) dX10_executed_141 ml_X10_100 nv_X1_exchange rfl rfl (kx_exchange_ok S b hA ho V hV (o.2 0).toNat (o.2 1).toNat hi.1 hi.2.1 hi.2.2) ?_
    rintro _ S2 ⟨rfl, hc2⟩
    refine x_iretI dX10_executed_144 rfl ?_
    exact Or.inl ⟨0, (aSwap b (o.2 0).toNat (o.2 1).toNat), by unfold exO; rw [if_neg (show ¬ o.1 = 100 by omega), if_neg (show ¬ o.1 = 112 by omega), if_neg (show ¬ o.1 = 116 by omega), if_neg (show ¬ o.1 = 120 by omega), if_pos hL, if_pos hi], by omega, rfl, (hch S2 1 (aSwap b (o.2 0).toNat (o.2 1).toNat) (arr_swap hA hi.1 hi.2.1) hc2).mono (by omega), hc2.1⟩
  · refine x_aload_n dX10_executed_0 rfl ?_
    refine x_getR dX10_executed_1 fl_X10_68 rfl ?_
    refine x_iload_n dX10_executed_4 rfl ?_
    refine x_ic _ ic_0 dX10_executed_5 ?_
    refine x_v2d (N := mX9_number) dX10_executed_6 ml_X10_275 nv_X9_number rfl rfl (kx_number S k 0 hk (by omega) _ (hO.2 0 (by omega))) ?_
    refine x_top (nn_i (o3 (by omega) 0)) ?_
    refine x_istore_n dX10_executed_9 rfl ?_
    refine x_aload_n dX10_executed_10 rfl ?_
    refine x_getR dX10_executed_11 fl_X10_68 rfl ?_
    refine x_iload_n dX10_executed_14 rfl ?_
    refine x_ic _ ic_1 dX10_executed_15 ?_
    refine x_v2d (N := mX9_number) dX10_executed_16 ml_X10_275 nv_X9_number rfl rfl (kx_number S k 1 hk (by omega) _ (hO.2 1 (by omega))) ?_
    refine x_top (nn_i (o3 (by omega) 1)) ?_
    refine x_istore_n dX10_executed_19 rfl ?_
    refine x_aload_n dX10_executed_20 rfl ?_
    refine x_getR dX10_executed_21 fl_X10_68 rfl ?_
    refine x_iload_n dX10_executed_24 rfl ?_
    refine x_v1d (N := mX9_verb) dX10_executed_25 ml_X10_278 nv_X9_verb rfl rfl (kx_verb S k hk (nI 115) (by rw [hO.1, hL])) ?_
    refine x_lookup 135 dX10_executed_28 (by decide) (by decide : Op.lookupswitch.offset _ _ _ = 107) rfl ?_
    refine x_aload_n dX10_executed_135 rfl ?_
    refine x_getR dX10_executed_136 fl_X10_17 rfl ?_
    refine x_iload_n dX10_executed_139 rfl ?_
    refine x_iload_n dX10_executed_140 rfl ?_
    refine x_v2d (N := mX1_exchange) dX10_executed_141 ml_X10_100 nv_X1_exchange rfl rfl (kx_exchange_bad S b.2.1 a3 ho.2.1 (nI (o.2 0).toNat) (nI (o.2 1).toNat) (fun z => hi ⟨InR_nI (by omega) (by omega) z.1, InR_nI (by omega) (by omega) z.2.1, fun e => z.2.2 (by rw [e])⟩)) ?_
    refine x_iretI dX10_executed_144 rfl ?_
    exact Or.inr ⟨2, by unfold exO; rw [if_neg (show ¬ o.1 = 100 by omega), if_neg (show ¬ o.1 = 112 by omega), if_neg (show ¬ o.1 = 116 by omega), if_neg (show ¬ o.1 = 120 by omega), if_pos hL, if_neg hi], by omega, rfl, rfl⟩
set_option maxRecDepth 100000 in
set_option maxHeartbeats 4000000 in
theorem kx_ex_m (S : amS) (B : Nat) (a b : Ar) (hs : List Ar) (tx : List Nat) (u0 u1 u2 ck co : Int32) (hc : xMid S B a b hs tx u0 u1 u2 ck co) (k : Nat) (hk : k < 34) (o : Od) (hO : OdX S k o) (hok : OdOK o) (hL : o.1 = 109) : X shX mX10_executed 0 [.ref 0, .int (nI k), .null, .null] [] S (EQ B a b hs tx u0 u1 u2 ck co o S) := by
  obtain ⟨V, hV, hch⟩ := hc.chg
  obtain ⟨-, ⟨hA, ho⟩, -⟩ := id hc
  obtain ⟨a1, a2, a3, a4, a5, a6, a7⟩ := id hA
  obtain ⟨o1, o2, o3, o4⟩ := id hok
  have n0 := o2 0
  have n1 := o2 1
  by_cases hi : (o.2 0).toNat < 4
  · refine x_aload_n dX10_executed_0 rfl ?_
    refine x_getR dX10_executed_1 fl_X10_68 rfl ?_
    refine x_iload_n dX10_executed_4 rfl ?_
    refine x_ic _ ic_0 dX10_executed_5 ?_
    refine x_v2d (N := mX9_number) dX10_executed_6 ml_X10_275 nv_X9_number rfl rfl (kx_number S k 0 hk (by omega) _ (hO.2 0 (by omega))) ?_
    refine x_top (nn_i (o3 (by omega) 0)) ?_
    refine x_istore_n dX10_executed_9 rfl ?_
    refine x_aload_n dX10_executed_10 rfl ?_
    refine x_getR dX10_executed_11 fl_X10_68 rfl ?_
    refine x_iload_n dX10_executed_14 rfl ?_
    refine x_ic _ ic_1 dX10_executed_15 ?_
    refine x_v2d (N := mX9_number) dX10_executed_16 ml_X10_275 nv_X9_number rfl rfl (kx_number S k 1 hk (by omega) _ (hO.2 1 (by omega))) ?_
    refine x_top (nn_i (o3 (by omega) 1)) ?_
    refine x_istore_n dX10_executed_19 rfl ?_
    refine x_aload_n dX10_executed_20 rfl ?_
    refine x_getR dX10_executed_21 fl_X10_68 rfl ?_
    refine x_iload_n dX10_executed_24 rfl ?_
    refine x_v1d (N := mX9_verb) dX10_executed_25 ml_X10_278 nv_X9_verb rfl rfl (kx_verb S k hk (nI 109) (by rw [hO.1, hL])) ?_
    refine x_lookup 145 dX10_executed_28 (by decide) (by decide : Op.lookupswitch.offset _ _ _ = 117) rfl ?_
    refine x_aload_n dX10_executed_145 rfl ?_
    refine x_getR dX10_executed_146 fl_X10_17 rfl ?_
    refine x_iload_n dX10_executed_149 rfl ?_
    refine x_v1 (N := mX1_fill) dX10_executed_150 ml_X10_110 nv_X1_fill rfl rfl (kx_fill_ok S b hA ho V hV (o.2 0).toNat hi) ?_
    rintro _ S2 ⟨rfl, hc2⟩
    have h9m := (arr_makes a1 a2 hi).2.2.1
    refine x_iretI dX10_executed_153 rfl ?_
    exact Or.inl ⟨(aMakes b.1 (o.2 0).toNat).2.1, (aMakes b.1 (o.2 0).toNat), by unfold exO; rw [if_neg (show ¬ o.1 = 100 by omega), if_neg (show ¬ o.1 = 112 by omega), if_neg (show ¬ o.1 = 116 by omega), if_neg (show ¬ o.1 = 120 by omega), if_neg (show ¬ o.1 = 115 by omega), if_pos hi], by omega, rfl, (hch S2 61 (aMakes b.1 (o.2 0).toNat) (arr_makes a1 a2 hi) hc2).mono (by omega), hc2.1⟩
  · refine x_aload_n dX10_executed_0 rfl ?_
    refine x_getR dX10_executed_1 fl_X10_68 rfl ?_
    refine x_iload_n dX10_executed_4 rfl ?_
    refine x_ic _ ic_0 dX10_executed_5 ?_
    refine x_v2d (N := mX9_number) dX10_executed_6 ml_X10_275 nv_X9_number rfl rfl (kx_number S k 0 hk (by omega) _ (hO.2 0 (by omega))) ?_
    refine x_top (nn_i (o3 (by omega) 0)) ?_
    refine x_istore_n dX10_executed_9 rfl ?_
    refine x_aload_n dX10_executed_10 rfl ?_
    refine x_getR dX10_executed_11 fl_X10_68 rfl ?_
    refine x_iload_n dX10_executed_14 rfl ?_
    refine x_ic _ ic_1 dX10_executed_15 ?_
    refine x_v2d (N := mX9_number) dX10_executed_16 ml_X10_275 nv_X9_number rfl rfl (kx_number S k 1 hk (by omega) _ (hO.2 1 (by omega))) ?_
    refine x_top (nn_i (o3 (by omega) 1)) ?_
    refine x_istore_n dX10_executed_19 rfl ?_
    refine x_aload_n dX10_executed_20 rfl ?_
    refine x_getR dX10_executed_21 fl_X10_68 rfl ?_
    refine x_iload_n dX10_executed_24 rfl ?_
    refine x_v1d (N := mX9_verb) dX10_executed_25 ml_X10_278 nv_X9_verb rfl rfl (kx_verb S k hk (nI 109) (by rw [hO.1, hL])) ?_
    refine x_lookup 145 dX10_executed_28 (by decide) (by decide : Op.lookupswitch.offset _ _ _ = 117) rfl ?_
    refine x_aload_n dX10_executed_145 rfl ?_
    refine x_getR dX10_executed_146 fl_X10_17 rfl ?_
    refine x_iload_n dX10_executed_149 rfl ?_
    refine x_v1d (N := mX1_fill) dX10_executed_150 ml_X10_110 nv_X1_fill rfl rfl (kx_fill_bad S (nI (o.2 0).toNat) (fun z => hi (InR_nI (by omega) (by omega) z))) ?_
    refine x_iretI dX10_executed_153 rfl ?_
    exact Or.inr ⟨2, by unfold exO; rw [if_neg (show ¬ o.1 = 100 by omega), if_neg (show ¬ o.1 = 112 by omega), if_neg (show ¬ o.1 = 116 by omega), if_neg (show ¬ o.1 = 120 by omega), if_neg (show ¬ o.1 = 115 by omega), if_neg hi], by omega, rfl, rfl⟩
set_option maxRecDepth 100000 in
set_option maxHeartbeats 4000000 in
theorem kx_ex_p (S : amS) (B : Nat) (a b : Ar) (hs : List Ar) (tx : List Nat) (u0 u1 u2 ck co : Int32) (hc : xMid S B a b hs tx u0 u1 u2 ck co) (k : Nat) (hk : k < 34) (o : Od) (hO : OdX S k o) (hok : OdOK o) (hL : o.1 = 112) : X shX mX10_executed 0 [.ref 0, .int (nI k), .null, .null] [] S (EQ B a b hs tx u0 u1 u2 ck co o S) := by
  obtain ⟨V, hV, hch⟩ := hc.chg
  obtain ⟨-, ⟨hA, ho⟩, -⟩ := id hc
  obtain ⟨a1, a2, a3, a4, a5, a6, a7⟩ := id hA
  obtain ⟨o1, o2, o3, o4⟩ := id hok
  have n0 := o2 0
  have n1 := o2 1
  have hnd : ¬ o.1 = 100 := by omega
  by_cases hx : plOK b.1 (q4 (i32 (o.2 0)) (i32 (o.2 1)) (i32 (o.2 2)) (i32 (o.2 3)))
  · by_cases hn : ∃ i, i < b.2.1 ∧ same (b.2.2 i) (plR (q4 (i32 (o.2 0)) (i32 (o.2 1)) (i32 (o.2 2)) (i32 (o.2 3))))
    · refine x_aload_n dX10_executed_0 rfl ?_
      refine x_getR dX10_executed_1 fl_X10_68 rfl ?_
      refine x_iload_n dX10_executed_4 rfl ?_
      refine x_ic _ ic_0 dX10_executed_5 ?_
      refine x_v2d (N := mX9_number) dX10_executed_6 ml_X10_275 nv_X9_number rfl rfl (kx_number S k 0 hk (by omega) _ (hO.2 0 (by omega))) ?_
      refine x_istore_n dX10_executed_9 rfl ?_
      refine x_aload_n dX10_executed_10 rfl ?_
      refine x_getR dX10_executed_11 fl_X10_68 rfl ?_
      refine x_iload_n dX10_executed_14 rfl ?_
      refine x_ic _ ic_1 dX10_executed_15 ?_
      refine x_v2d (N := mX9_number) dX10_executed_16 ml_X10_275 nv_X9_number rfl rfl (kx_number S k 1 hk (by omega) _ (hO.2 1 (by omega))) ?_
      refine x_istore_n dX10_executed_19 rfl ?_
      refine x_aload_n dX10_executed_20 rfl ?_
      refine x_getR dX10_executed_21 fl_X10_68 rfl ?_
      refine x_iload_n dX10_executed_24 rfl ?_
      refine x_v1d (N := mX9_verb) dX10_executed_25 ml_X10_278 nv_X9_verb rfl rfl (kx_verb S k hk (nI 112) (by rw [hO.1, hL])) ?_
      refine x_lookup 89 dX10_executed_28 (by decide) (by decide : Op.lookupswitch.offset _ _ _ = 61) rfl ?_
      refine x_aload_n dX10_executed_89 rfl ?_
      refine x_getR dX10_executed_90 fl_X10_17 rfl ?_
      refine x_iload_n dX10_executed_93 rfl ?_
      refine x_iload_n dX10_executed_94 rfl ?_
      refine x_aload_n dX10_executed_95 rfl ?_
      refine x_getR dX10_executed_96 fl_X10_68 rfl ?_
      refine x_iload_n dX10_executed_99 rfl ?_
      refine x_ic _ ic_2 dX10_executed_100 ?_
      refine x_v2d (N := mX9_number) dX10_executed_101 ml_X10_275 nv_X9_number rfl rfl (kx_number S k 2 hk (by omega) _ (hO.2 2 (by omega))) ?_
      refine x_aload_n dX10_executed_104 rfl ?_
      refine x_getR dX10_executed_105 fl_X10_68 rfl ?_
      refine x_iload_n dX10_executed_108 rfl ?_
      refine x_ic _ ic_3 dX10_executed_109 ?_
      refine x_v2d (N := mX9_number) dX10_executed_110 ml_X10_275 nv_X9_number rfl rfl (kx_number S k 3 hk (by omega) _ (hO.2 3 (by omega))) ?_
      refine x_v4d (N := mX1_add) dX10_executed_113 ml_X10_86 nv_X1_add rfl rfl (kx_add_no S b hA ho V hV (i32 (o.2 0)) (i32 (o.2 1)) (i32 (o.2 2)) (i32 (o.2 3)) hx hn) ?_
      refine x_iretI dX10_executed_116 rfl ?_
      exact Or.inr ⟨3, by unfold exO; rw [if_neg hnd, if_pos hL, if_pos hx, if_pos hn], by omega, rfl, rfl⟩
    · have hn2 : ∀ i, i < b.2.1 → ¬ same (b.2.2 i) (plR (q4 (i32 (o.2 0)) (i32 (o.2 1)) (i32 (o.2 2)) (i32 (o.2 3)))) := fun i hi z => hn ⟨i, hi, z⟩
      by_cases h9 : b.2.1 = 9
      · refine x_aload_n dX10_executed_0 rfl ?_
        refine x_getR dX10_executed_1 fl_X10_68 rfl ?_
        refine x_iload_n dX10_executed_4 rfl ?_
        refine x_ic _ ic_0 dX10_executed_5 ?_
        refine x_v2d (N := mX9_number) dX10_executed_6 ml_X10_275 nv_X9_number rfl rfl (kx_number S k 0 hk (by omega) _ (hO.2 0 (by omega))) ?_
        refine x_istore_n dX10_executed_9 rfl ?_
        refine x_aload_n dX10_executed_10 rfl ?_
        refine x_getR dX10_executed_11 fl_X10_68 rfl ?_
        refine x_iload_n dX10_executed_14 rfl ?_
        refine x_ic _ ic_1 dX10_executed_15 ?_
        refine x_v2d (N := mX9_number) dX10_executed_16 ml_X10_275 nv_X9_number rfl rfl (kx_number S k 1 hk (by omega) _ (hO.2 1 (by omega))) ?_
        refine x_istore_n dX10_executed_19 rfl ?_
        refine x_aload_n dX10_executed_20 rfl ?_
        refine x_getR dX10_executed_21 fl_X10_68 rfl ?_
        refine x_iload_n dX10_executed_24 rfl ?_
        refine x_v1d (N := mX9_verb) dX10_executed_25 ml_X10_278 nv_X9_verb rfl rfl (kx_verb S k hk (nI 112) (by rw [hO.1, hL])) ?_
        refine x_lookup 89 dX10_executed_28 (by decide) (by decide : Op.lookupswitch.offset _ _ _ = 61) rfl ?_
        refine x_aload_n dX10_executed_89 rfl ?_
        refine x_getR dX10_executed_90 fl_X10_17 rfl ?_
        refine x_iload_n dX10_executed_93 rfl ?_
        refine x_iload_n dX10_executed_94 rfl ?_
        refine x_aload_n dX10_executed_95 rfl ?_
        refine x_getR dX10_executed_96 fl_X10_68 rfl ?_
        refine x_iload_n dX10_executed_99 rfl ?_
        refine x_ic _ ic_2 dX10_executed_100 ?_
        refine x_v2d (N := mX9_number) dX10_executed_101 ml_X10_275 nv_X9_number rfl rfl (kx_number S k 2 hk (by omega) _ (hO.2 2 (by omega))) ?_
        refine x_aload_n dX10_executed_104 rfl ?_
        refine x_getR dX10_executed_105 fl_X10_68 rfl ?_
        refine x_iload_n dX10_executed_108 rfl ?_
        refine x_ic _ ic_3 dX10_executed_109 ?_
        refine x_v2d (N := mX9_number) dX10_executed_110 ml_X10_275 nv_X9_number rfl rfl (kx_number S k 3 hk (by omega) _ (hO.2 3 (by omega))) ?_
        refine x_v4d (N := mX1_add) dX10_executed_113 ml_X10_86 nv_X1_add rfl rfl (kx_add_full S b hA ho V hV (i32 (o.2 0)) (i32 (o.2 1)) (i32 (o.2 2)) (i32 (o.2 3)) hx hn2 h9) ?_
        refine x_iretI dX10_executed_116 rfl ?_
        exact Or.inr ⟨4, by unfold exO; rw [if_neg hnd, if_pos hL, if_pos hx, if_neg hn, if_pos h9], by omega, rfl, rfl⟩
      · refine x_aload_n dX10_executed_0 rfl ?_
        refine x_getR dX10_executed_1 fl_X10_68 rfl ?_
        refine x_iload_n dX10_executed_4 rfl ?_
        refine x_ic _ ic_0 dX10_executed_5 ?_
        refine x_v2d (N := mX9_number) dX10_executed_6 ml_X10_275 nv_X9_number rfl rfl (kx_number S k 0 hk (by omega) _ (hO.2 0 (by omega))) ?_
        refine x_istore_n dX10_executed_9 rfl ?_
        refine x_aload_n dX10_executed_10 rfl ?_
        refine x_getR dX10_executed_11 fl_X10_68 rfl ?_
        refine x_iload_n dX10_executed_14 rfl ?_
        refine x_ic _ ic_1 dX10_executed_15 ?_
        refine x_v2d (N := mX9_number) dX10_executed_16 ml_X10_275 nv_X9_number rfl rfl (kx_number S k 1 hk (by omega) _ (hO.2 1 (by omega))) ?_
        refine x_istore_n dX10_executed_19 rfl ?_
        refine x_aload_n dX10_executed_20 rfl ?_
        refine x_getR dX10_executed_21 fl_X10_68 rfl ?_
        refine x_iload_n dX10_executed_24 rfl ?_
        refine x_v1d (N := mX9_verb) dX10_executed_25 ml_X10_278 nv_X9_verb rfl rfl (kx_verb S k hk (nI 112) (by rw [hO.1, hL])) ?_
        refine x_lookup 89 dX10_executed_28 (by decide) (by decide : Op.lookupswitch.offset _ _ _ = 61) rfl ?_
        refine x_aload_n dX10_executed_89 rfl ?_
        refine x_getR dX10_executed_90 fl_X10_17 rfl ?_
        refine x_iload_n dX10_executed_93 rfl ?_
        refine x_iload_n dX10_executed_94 rfl ?_
        refine x_aload_n dX10_executed_95 rfl ?_
        refine x_getR dX10_executed_96 fl_X10_68 rfl ?_
        refine x_iload_n dX10_executed_99 rfl ?_
        refine x_ic _ ic_2 dX10_executed_100 ?_
        refine x_v2d (N := mX9_number) dX10_executed_101 ml_X10_275 nv_X9_number rfl rfl (kx_number S k 2 hk (by omega) _ (hO.2 2 (by omega))) ?_
        refine x_aload_n dX10_executed_104 rfl ?_
        refine x_getR dX10_executed_105 fl_X10_68 rfl ?_
        refine x_iload_n dX10_executed_108 rfl ?_
        refine x_ic _ ic_3 dX10_executed_109 ?_
        refine x_v2d (N := mX9_number) dX10_executed_110 ml_X10_275 nv_X9_number rfl rfl (kx_number S k 3 hk (by omega) _ (hO.2 3 (by omega))) ?_
        refine x_v4 (N := mX1_add) dX10_executed_113 ml_X10_86 nv_X1_add rfl rfl (kx_add_ok S b hA ho V hV (i32 (o.2 0)) (i32 (o.2 1)) (i32 (o.2 2)) (i32 (o.2 3)) hx hn2 (by omega)) ?_
        rintro _ S2 ⟨rfl, hc2⟩
        refine x_iretI dX10_executed_116 rfl ?_
        exact Or.inl ⟨b.2.1, (aAdd b (plR (q4 (i32 (o.2 0)) (i32 (o.2 1)) (i32 (o.2 2)) (i32 (o.2 3))))), by unfold exO; rw [if_neg hnd, if_pos hL, if_pos hx, if_neg hn, if_neg h9], by omega, rfl, (hch S2 1 (aAdd b (plR (q4 (i32 (o.2 0)) (i32 (o.2 1)) (i32 (o.2 2)) (i32 (o.2 3))))) (arr_plane hA hx (by omega) hn2) hc2).mono (by omega), hc2.1⟩
  · refine x_aload_n dX10_executed_0 rfl ?_
    refine x_getR dX10_executed_1 fl_X10_68 rfl ?_
    refine x_iload_n dX10_executed_4 rfl ?_
    refine x_ic _ ic_0 dX10_executed_5 ?_
    refine x_v2d (N := mX9_number) dX10_executed_6 ml_X10_275 nv_X9_number rfl rfl (kx_number S k 0 hk (by omega) _ (hO.2 0 (by omega))) ?_
    refine x_istore_n dX10_executed_9 rfl ?_
    refine x_aload_n dX10_executed_10 rfl ?_
    refine x_getR dX10_executed_11 fl_X10_68 rfl ?_
    refine x_iload_n dX10_executed_14 rfl ?_
    refine x_ic _ ic_1 dX10_executed_15 ?_
    refine x_v2d (N := mX9_number) dX10_executed_16 ml_X10_275 nv_X9_number rfl rfl (kx_number S k 1 hk (by omega) _ (hO.2 1 (by omega))) ?_
    refine x_istore_n dX10_executed_19 rfl ?_
    refine x_aload_n dX10_executed_20 rfl ?_
    refine x_getR dX10_executed_21 fl_X10_68 rfl ?_
    refine x_iload_n dX10_executed_24 rfl ?_
    refine x_v1d (N := mX9_verb) dX10_executed_25 ml_X10_278 nv_X9_verb rfl rfl (kx_verb S k hk (nI 112) (by rw [hO.1, hL])) ?_
    refine x_lookup 89 dX10_executed_28 (by decide) (by decide : Op.lookupswitch.offset _ _ _ = 61) rfl ?_
    refine x_aload_n dX10_executed_89 rfl ?_
    refine x_getR dX10_executed_90 fl_X10_17 rfl ?_
    refine x_iload_n dX10_executed_93 rfl ?_
    refine x_iload_n dX10_executed_94 rfl ?_
    refine x_aload_n dX10_executed_95 rfl ?_
    refine x_getR dX10_executed_96 fl_X10_68 rfl ?_
    refine x_iload_n dX10_executed_99 rfl ?_
    refine x_ic _ ic_2 dX10_executed_100 ?_
    refine x_v2d (N := mX9_number) dX10_executed_101 ml_X10_275 nv_X9_number rfl rfl (kx_number S k 2 hk (by omega) _ (hO.2 2 (by omega))) ?_
    refine x_aload_n dX10_executed_104 rfl ?_
    refine x_getR dX10_executed_105 fl_X10_68 rfl ?_
    refine x_iload_n dX10_executed_108 rfl ?_
    refine x_ic _ ic_3 dX10_executed_109 ?_
    refine x_v2d (N := mX9_number) dX10_executed_110 ml_X10_275 nv_X9_number rfl rfl (kx_number S k 3 hk (by omega) _ (hO.2 3 (by omega))) ?_
    refine x_v4d (N := mX1_add) dX10_executed_113 ml_X10_86 nv_X1_add rfl rfl (kx_add_bad S b hA ho (i32 (o.2 0)) (i32 (o.2 1)) (i32 (o.2 2)) (i32 (o.2 3)) hx) ?_
    refine x_iretI dX10_executed_116 rfl ?_
    exact Or.inr ⟨2, by unfold exO; rw [if_neg hnd, if_pos hL, if_neg hx], by omega, rfl, rfl⟩
theorem kx_executed (S : amS) (B : Nat) (a b : Ar) (hs : List Ar) (tx : List Nat) (u0 u1 u2 ck co : Int32) (hc : xMid S B a b hs tx u0 u1 u2 ck co) (k : Nat) (hk : k < 34) (o : Od) (hO : OdX S k o) (hok : OdOK o) : X shX mX10_executed 0 [.ref 0, .int (nI k), .null, .null] [] S (EQ B a b hs tx u0 u1 u2 ck co o S) := by
  rcases hok.1 with h | h | h | h | h | h
  · exact kx_ex_p S B a b hs tx u0 u1 u2 ck co hc k hk o hO hok h
  · exact kx_ex_s S B a b hs tx u0 u1 u2 ck co hc k hk o hO hok h
  · exact kx_ex_d S B a b hs tx u0 u1 u2 ck co hc k hk o hO hok h
  · exact kx_ex_t S B a b hs tx u0 u1 u2 ck co hc k hk o hO hok h
  · exact kx_ex_x S B a b hs tx u0 u1 u2 ck co hc k hk o hO hok h
  · exact kx_ex_m S B a b hs tx u0 u1 u2 ck co hc k hk o hO hok h
set_option maxRecDepth 100000 in
set_option maxHeartbeats 4000000 in
theorem kx_rd_2 (B : Nat) (a : Ar) (hs : List Ar) (tx : List Nat) (u0 u1 u2 ck co : Int32) (f0 : Int32) (l : List Od) (hl : l.length ≤ 34) (Q : Option Value → amS → Prop) (R : (Nat × Nat) ⊕ Ar) (hbad : ∀ e k S, R = .inl (e, k) → xCore S (B + 3000) a hs tx u0 u1 u2 (nI e) (nI k) → Q (some (.int (i32 (-1000 - (k : Int))))) S) (hok : ∀ b S, R = .inr b → xCore S (B + 3000) b (pushH hs a) tx u0 u1 u2 ck co → Q (some (.int (nI l.length))) S) : ∀ (l2 : List Od) (k : Nat) (b : Ar) (S : amS) (z3 : Value), k + l2.length = l.length → (∀ j o, l2[j]? = some o → OdX S (k + j) o ∧ OdOK o) → xMid S (B + 61 * k) a b hs tx u0 u1 u2 ck co → S.1 47 4 = nI l.length → exL b l2 k = R → X shX mX10_reads 38 [.ref 0, .int f0, .int (nI k), z3] [] S Q := by
  intro l2
  induction l2 with
  | nil =>
    intro k b S z3 h1 h2 h3 h4 h5
    have hk : k = l.length := by simpa using h1
    refine x_iload_n dX10_reads_38 rfl ?_
    refine x_aload_n dX10_reads_39 rfl ?_
    refine x_getR dX10_reads_40 fl_X10_68 rfl ?_
    refine x_getIV dX10_reads_43 fl_X10_220 rfl (h4) ?_
    refine x_icmp_geN 93 dX10_reads_46 rfl (by omega) (by omega) (fun c46 => ?_) (fun c46 => ?_)
    · refine x_aload_n dX10_reads_93 rfl ?_
      refine x_getR dX10_reads_94 fl_X10_31 rfl ?_
      refine x_aload_n dX10_reads_97 rfl ?_
      refine x_getR dX10_reads_98 fl_X10_25 rfl ?_
      refine x_v1 (N := mX3_keep) dX10_reads_101 ml_X10_229 nv_X3_keep rfl rfl (kx_keepF S _ a b hs tx u0 u1 u2 ck co h3) ?_
      rintro _ S' ⟨rfl, hc', e47⟩
      refine x_aload_n dX10_reads_104 rfl ?_
      refine x_getR dX10_reads_105 fl_X10_68 rfl ?_
      refine x_getIV dX10_reads_108 fl_X10_220 rfl ((show _ = nI l.length by rw [e47]; exact h4)) ?_
      refine x_iretI dX10_reads_111 rfl ?_
      exact hok b S' h5.symm (hc'.mono (by omega))
    · exact absurd c46 (by omega)
  | cons o l2 ih =>
    intro k b S z3 h1 h2 h3 h4 h5
    have hk : k < l.length := by simp only [List.length_cons] at h1; omega
    obtain ⟨hO, hOK⟩ := h2 0 o rfl
    refine x_iload_n dX10_reads_38 rfl ?_
    refine x_aload_n dX10_reads_39 rfl ?_
    refine x_getR dX10_reads_40 fl_X10_68 rfl ?_
    refine x_getIV dX10_reads_43 fl_X10_220 rfl (h4) ?_
    refine x_icmp_geN 93 dX10_reads_46 rfl (by omega) (by omega) (fun c46 => ?_) (fun c46 => ?_)
    · exact absurd c46 (by omega)
    · refine x_aload_n dX10_reads_49 rfl ?_
      refine x_iload_n dX10_reads_50 rfl ?_
      refine x_v1 (N := mX10_executed) dX10_reads_51 ml_X10_223 nv_X10_executed rfl rfl (kx_executed S _ a b hs tx u0 u1 u2 ck co h3 k (by omega) o hO hOK) ?_
      rintro _ S' (⟨n, b', e1, i1, rfl, i4, i5⟩ | ⟨e, e1, i1, rfl, i6⟩)
      · refine x_istore_n dX10_reads_54 rfl ?_
        refine x_iload_n dX10_reads_55 rfl ?_
        refine x_topI ?_
        refine x_if_geI 87 dX10_reads_56 rfl (by omega) (fun c56 => ?_) (fun c56 => ?_)
        · refine x_iincN dX10_reads_87 rfl rfl ?_
          refine x_goto 38 dX10_reads_90 rfl ?_
          refine ih (k + 1) b' S' _ (by simp only [List.length_cons] at h1; omega) (fun j o' e => ?_) (i4.mono (by omega)) (by rw [i5.1 47 (by decide)]; exact h4) (by rw [← h5, exL, e1])
          have := h2 (j + 1) o' (by simpa using e)
          rw [show k + 1 + j = k + (j + 1) by omega]
          refine ⟨⟨?_, fun t ht => ?_⟩, this.2⟩
          · rw [i5.2.1 49 (by decide)]; exact this.1.1
          · rw [i5.2.1 50 (by decide)]; exact this.1.2 t ht
        · exact absurd c56 (by omega)
      · rw [i6]
        refine x_istore_n dX10_reads_54 rfl ?_
        refine x_iload_n dX10_reads_55 rfl ?_
        refine x_if_geI 87 dX10_reads_56 rfl (by omega) (fun c56 => ?_) (fun c56 => ?_)
        · exact absurd c56 (by omega)
        · refine x_aload_n dX10_reads_59 rfl ?_
          refine x_getR dX10_reads_60 fl_X10_17 rfl ?_
          refine x_aload_n dX10_reads_63 rfl ?_
          refine x_getR dX10_reads_64 fl_X10_25 rfl ?_
          obtain ⟨⟨p1, p2⟩, ⟨q1, q2⟩, ⟨g1, g2, g3, g4, g5⟩, V, w4, w5, w6⟩ := id h3
          refine x_v1 (N := mX1_copyFrom) dX10_reads_67 ml_X10_76 nv_X1_copyFrom rfl rfl (kx_copy S 1 2 3 4 ⟨rfl, rfl⟩ ⟨rfl, rfl⟩ (by omega) (by omega) a p1.2.2.1 p2) ?_
          rintro _ S1 ⟨rfl, f1, f2, f3⟩
          refine x_aload_n dX10_reads_70 rfl ?_
          refine x_iload_n dX10_reads_71 rfl ?_
          refine x_inegI dX10_reads_72 ?_
          refine x_put dX10_reads_73 fp_X10_226 rfl rfl rfl ?_
          refine x_aload_n dX10_reads_76 rfl ?_
          refine x_iload_n dX10_reads_77 rfl ?_
          refine x_put dX10_reads_78 fp_X10_72 rfl rfl rfl ?_
          refine x_si _ si_m1000 dX10_reads_81 ?_
          refine x_iload_n dX10_reads_84 rfl ?_
          refine x_isubIN dX10_reads_85 ?_
          refine x_iretI dX10_reads_86 rfl ?_
          refine hbad e k _ (by rw [← h5, exL, e1]) ?_
          have e0 := f1.1 0 (by decide)
          have hcc : xCore S1 (B + 3000) a hs tx u0 u1 u2 ck co := ⟨⟨p1, f2⟩, ⟨g1.fo f1 (by decide) (by decide), by rw [e0]; exact g2, g3.fo f1 (by decide) (by decide), by rw [e0]; exact g4, by rw [e0]; exact g5⟩, V + 1, by omega, by rw [f3, w5, nI_add], w6.new f1 (by decide) (by omega)⟩
          obtain ⟨-, ⟨-, ⟨d0, d1, d2⟩, -, d3, d4⟩, -⟩ := id hcc
          refine hcc.cnt (((FO.rf _ _ S1).sF _ (by simp)).sF _ (by simp)) ?_ ?_ ?_ ?_ ?_
          · simp [sF, va_up, upd, d0]
          · simp [sF, va_up, upd, d1]
          · simp [sF, va_up, upd, d2]
          · rw [sF_at, upd_n _ _ (by decide), sF_at, upd_s, nI_i32, Int.neg_neg]
          · simp [sF, va_up, upd]
set_option maxRecDepth 100000 in
set_option maxHeartbeats 4000000 in
theorem kx_reads (S : amS) (B : Nat) (a : Ar) (hs : List Ar) (tx : List Nat) (u0 u1 u2 ck co : Int32) (hc : xCore S B a hs tx u0 u1 u2 ck co) (Q : Option Value → amS → Prop) (hp : ∀ e S', parse tx a.1 = .inl e → xCore S' B a hs tx u0 u1 u2 ck co → Q (some (.int (i32 (-10 - (e : Int))))) S') (hx : ∀ l e k S', parse tx a.1 = .inr l → exL a l 0 = .inl (e, k) → xCore S' (B + 3000) a hs tx u0 u1 u2 (nI e) (nI k) → Q (some (.int (i32 (-1000 - (k : Int))))) S') (hok : ∀ l b S', parse tx a.1 = .inr l → exL a l 0 = .inr b → xCore S' (B + 3000) b (pushH hs a) tx u0 u1 u2 ck co → Q (some (.int (nI l.length))) S') : X shX mX10_reads 0 [.ref 0, .null, .null, .null] [] S Q := by
  obtain ⟨⟨hA, ho⟩, hrest, hV⟩ := id hc
  obtain ⟨a1, a2, a3, a4, a5, a6, a7⟩ := id hA
  obtain ⟨m1, m2, m3⟩ := id ho
  refine x_aload_n dX10_reads_0 rfl ?_
  refine x_getR dX10_reads_1 fl_X10_68 rfl ?_
  refine x_aload_n dX10_reads_4 rfl ?_
  refine x_getR dX10_reads_5 fl_X10_17 rfl ?_
  refine x_getIV dX10_reads_8 fl_X10_117 rfl (m1) ?_
  refine x_v1 (N := mX9_parse) dX10_reads_11 ml_X10_217 nv_X9_parse rfl rfl (kx_parse S tx hrest.2.2.1 a.1 ⟨a1, a2⟩) ?_
  have h100 : tx.length ≤ 100 := hrest.2.2.1.2.1
  rintro _ S' (⟨e, k1, k2, rfl, k4⟩ | ⟨l, k1, k2, rfl, k4⟩)
  · refine x_istore_n dX10_reads_14 rfl ?_
    refine x_iload_n dX10_reads_15 rfl ?_
    refine x_ic _ ic_m1 dX10_reads_16 ?_
    refine x_topI2 ?_
    refine x_icmp_eqI 25 dX10_reads_17 rfl (by omega) (by omega) (fun c17 => ?_) (fun c17 => ?_)
    · exact absurd c17 (by omega)
    · refine x_bi _ bi_m10 dX10_reads_20 ?_
      refine x_iload_n dX10_reads_22 rfl ?_
      refine x_isubIN dX10_reads_23 ?_
      refine x_iretI dX10_reads_24 rfl ?_
      exact hp e S' k1 (hc.fs k4)
  · refine x_istore_n dX10_reads_14 rfl ?_
    refine x_iload_n dX10_reads_15 rfl ?_
    refine x_ic _ ic_m1 dX10_reads_16 ?_
    refine x_icmp_eqI 25 dX10_reads_17 rfl (by omega) (by omega) (fun c17 => ?_) (fun c17 => ?_)
    · refine x_aload_n dX10_reads_25 rfl ?_
      refine x_getR dX10_reads_26 fl_X10_25 rfl ?_
      refine x_aload_n dX10_reads_29 rfl ?_
      refine x_getR dX10_reads_30 fl_X10_17 rfl ?_
      refine x_v1 (N := mX1_copyFrom) dX10_reads_33 ml_X10_76 nv_X1_copyFrom rfl rfl (kx_holdF S' B a hs tx u0 u1 u2 ck co (hc.fs k4.1)) ?_
      rintro _ S2 ⟨rfl, hm2, f2⟩
      refine x_ic _ ic_0 dX10_reads_36 ?_
      refine x_istore_n dX10_reads_37 rfl ?_
      exact kx_rd_2 B a hs tx u0 u1 u2 ck co _ l k2 Q (exL a l 0) (fun e k S3 h1 h2 => hx l e k S3 k1 h1 h2) (fun b S3 h1 h2 => hok l b S3 k1 h1 h2) l 0 a S2 _ (by omega) (fun j o hj => by
      obtain ⟨y1, y2⟩ := k4.2.2 j o hj
      rw [Nat.zero_add]
      exact ⟨⟨by rw [f2.2.1 49 (by decide)]; exact y1.1, fun t ht => by rw [f2.2.1 50 (by decide)]; exact y1.2 t ht⟩, y2⟩) hm2 (by rw [f2.1 47 (by decide)]; exact k4.2.1) rfl
    · exact absurd rfl c17
