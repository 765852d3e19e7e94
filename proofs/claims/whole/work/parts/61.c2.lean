/-! THE CLASS: the arrangement's changes -/
def chg (S S' : amS) (V c : Nat) (b : Ar) : Prop := FO [1] [2] S S' ∧ aObj S' 1 2 b ∧ ∃ V', V < V' ∧ V' ≤ V + c ∧ S'.1 1 3 = nI V'
theorem gf_a {S : amS} {o r : Nat} (h : am_shp shX o = some (.inr (1, [.ref r, .int 0, .int 0, .int 0]))) : am_gf shX S o 1 0 = some (.ref r) ∧ am_gf shX S o 1 1 = some (.int (S.1 o 1)) ∧ am_gf shX S o 1 2 = some (.int (S.1 o 2)) ∧ am_gf shX S o 1 3 = some (.int (S.1 o 3)) := by
  simp [am_gf, h, am_rd, am_ld]
theorem nI_nn {n : Nat} (h : n < 2 ^ 31) : ¬ nI n < 0 := Int32.not_lt.mpr (nI_le (Nat.zero_le n) h)
def isA (o r : Nat) : Prop := am_shp shX o = some (.inr (1, [.ref r, .int 0, .int 0, .int 0])) ∧ am_shp shX r = some (.inl (36, .int, []))
set_option maxRecDepth 100000 in
set_option maxHeartbeats 4000000 in
theorem kx_copy (S : amS) (o r q t : Nat) (h1 : isA o r) (h2 : isA q t) (hne : q ≠ o) (hrt : t ≠ r) (a : Ar) (h9 : a.2.1 ≤ 9) (ha : aObj S q t a) : X shX mX1_copyFrom 0 [.ref o, .ref q] [] S (fun z S' => z = none ∧ FO [o] [r] S S' ∧ aObj S' o r a ∧ S'.1 o 3 = S.1 o 3 + nI 1) := by
  refine x_aload_n dX1_copyFrom_0 rfl ?_
  refine x_getR dX1_copyFrom_1 fl_X1_9 (gf_a h2.1).1 ?_
  refine x_ic _ ic_0 dX1_copyFrom_4 ?_
  refine x_aload_n dX1_copyFrom_5 rfl ?_
  refine x_getR dX1_copyFrom_6 fl_X1_9 (gf_a h1.1).1 ?_
  refine x_ic _ ic_0 dX1_copyFrom_9 ?_
  refine x_aload_n dX1_copyFrom_10 rfl ?_
  refine x_getR dX1_copyFrom_11 fl_X1_9 (gf_a h1.1).1 ?_
  refine x_alen dX1_copyFrom_14 h1.2 ?_
  refine x_copy dX1_copyFrom_15 ml_X1_26 ac_native ac_static ac_init h2.2 h1.2 (by decide) (by decide) (by decide) (by decide) (by decide) (by decide) (by decide +kernel) ?_
  refine x_aload_n dX1_copyFrom_18 rfl ?_
  refine x_aload_n dX1_copyFrom_19 rfl ?_
  refine x_getI dX1_copyFrom_20 fl_X1_15 (gf_a h2.1).2.1 ?_
  refine x_put dX1_copyFrom_23 fp_X1_15 (gf_a h1.1).2.1 rfl rfl ?_
  refine x_aload_n dX1_copyFrom_26 rfl ?_
  refine x_aload_n dX1_copyFrom_27 rfl ?_
  refine x_getI dX1_copyFrom_28 fl_X1_19 (gf_a h2.1).2.2.1 ?_
  refine x_put dX1_copyFrom_31 fp_X1_19 (gf_a h1.1).2.2.1 rfl rfl ?_
  refine x_aload_n dX1_copyFrom_34 rfl ?_
  refine x_dup dX1_copyFrom_35 rfl ?_
  refine x_getI dX1_copyFrom_36 fl_X1_32 (gf_a h1.1).2.2.2 ?_
  refine x_ic _ ic_1 dX1_copyFrom_39 ?_
  refine x_iadd dX1_copyFrom_40 ?_
  refine x_put dX1_copyFrom_41 fp_X1_32 (gf_a h1.1).2.2.2 rfl rfl ?_
  refine x_ret dX1_copyFrom_44 rfl ?_
  obtain ⟨e1, e2, e3⟩ := ha
  refine ⟨rfl, ((((FO.rf _ _ S).sA _ (by simp)).sF _ (by simp)).sF _ (by simp)).sF _ (by simp), ⟨?_, ?_, fun i j hi hj => ?_⟩, ?_⟩
  · simp [sF, sA, va_up, upd, hne]
    exact e1
  · simp [sF, sA, va_up, upd, hne]
    exact e2
  · rw [← e3 i j hi hj]
    simp only [sF, sA, va_up, if_true, va_cpy]
    rw [show (nI 0).toNatClampNeg = 0 by decide, show (Int32.ofNat 36).toNatClampNeg = 36 by decide, if_pos (by omega)]
    simp
  · simp [sF, sA, va_up, upd]
set_option maxRecDepth 100000 in
set_option maxHeartbeats 4000000 in
theorem kx_restart_ok (S : amS) (a : Ar) (hA : Arr a.1 a.2.1 a.2.2) (hm : aObj S 1 2 a) (V : Nat) (hV : S.1 1 3 = nI V) (n : Nat) (h2 : 2 ≤ n) (h4 : n ≤ 4) : X shX mX1_restart 0 [.ref 1, .int (nI n), .null] [] S (fun r S' => r = some (.int (nI a.1)) ∧ chg S S' V 1 (aSpace n)) := by
  obtain ⟨a1, a2, a3, a4, a5, a6, a7⟩ := id hA
  obtain ⟨m1, m2, m3⟩ := id hm
  refine x_iload_n dX1_restart_0 rfl ?_
  refine x_ic _ ic_2 dX1_restart_1 ?_
  refine x_icmp_ltN 10 dX1_restart_2 rfl (by omega) (by omega) (fun c2 => ?_) (fun c2 => ?_)
  · exact absurd c2 (by omega)
  · refine x_iload_n dX1_restart_5 rfl ?_
    refine x_ic _ ic_4 dX1_restart_6 ?_
    refine x_icmp_leN 13 dX1_restart_7 rfl (by omega) (by omega) (fun c7 => ?_) (fun c7 => ?_)
    · refine x_aload_n dX1_restart_13 rfl ?_
      refine x_getIV dX1_restart_14 fl_X1_15 rfl (m1) ?_
      refine x_istore_n dX1_restart_17 rfl ?_
      refine x_aload_n dX1_restart_18 rfl ?_
      refine x_iload_n dX1_restart_19 rfl ?_
      refine x_put dX1_restart_20 fp_X1_15 rfl rfl rfl ?_
      refine x_aload_n dX1_restart_23 rfl ?_
      refine x_ic _ ic_0 dX1_restart_24 ?_
      refine x_put dX1_restart_25 fp_X1_19 rfl rfl rfl ?_
      refine x_aload_n dX1_restart_28 rfl ?_
      refine x_dup dX1_restart_29 rfl ?_
      refine x_getIV dX1_restart_30 fl_X1_32 rfl ((show _ = nI V by simp [sF, sA, va_up, upd]; exact hV)) ?_
      refine x_ic _ ic_1 dX1_restart_33 ?_
      refine x_iaddN dX1_restart_34 ?_
      refine x_put dX1_restart_35 fp_X1_32 rfl rfl rfl ?_
      refine x_iload_n dX1_restart_38 rfl ?_
      refine x_iretI dX1_restart_39 rfl ?_
      refine ⟨rfl, (((FO.rf _ _ S).sF _ (by simp)).sF _ (by simp)).sF _ (by simp), ⟨?_, ?_, fun i j hi => absurd hi (Nat.not_lt_zero i)⟩, V + 1, by omega, by omega, ?_⟩
      · simp [sF, sA, va_up, upd]; rfl
      · simp [sF, sA, va_up, upd]; rfl
      · simp [sF, sA, va_up, upd]
    · exact absurd c7 (by omega)
set_option maxRecDepth 100000 in
set_option maxHeartbeats 4000000 in
theorem kx_restart_bad (S : amS) (x : Int32) (hx : ¬ ∃ n, 2 ≤ n ∧ n ≤ 4 ∧ x = nI n) : X shX mX1_restart 0 [.ref 1, .int x, .null] [] S (fun r S' => r = some (.int (i32 (-2))) ∧ S' = S) := by
  refine x_iload_n dX1_restart_0 rfl ?_
  refine x_ic _ ic_2 dX1_restart_1 ?_
  refine x_icmp_lt 10 dX1_restart_2 rfl (fun c2 => ?_) (fun c2 => ?_)
  · refine x_bi _ bi_m2 dX1_restart_10 ?_
    refine x_iretI dX1_restart_12 rfl ?_
    exact ⟨rfl, rfl⟩
  · refine x_iload_n dX1_restart_5 rfl ?_
    refine x_ic _ ic_4 dX1_restart_6 ?_
    refine x_icmp_le 13 dX1_restart_7 rfl (fun c7 => ?_) (fun c7 => ?_)
    · obtain ⟨j, h3, h4⟩ := nI_of2 (M := nI 4) (n := 4) (nI_toInt (by omega)) (Int32.not_lt.mpr (Int32.le_trans (nI_le (Nat.zero_le 2) (by omega)) (Int32.not_lt.mp c2))) c7
      subst h4
      have h5 := Int32.not_lt.mp c2
      rw [nI_i32, nI_i32, i32_le (by omega) (by omega)] at h5
      exact absurd ⟨j, by omega, h3, rfl⟩ hx
    · refine x_bi _ bi_m2 dX1_restart_10 ?_
      refine x_iretI dX1_restart_12 rfl ?_
      exact ⟨rfl, rfl⟩
set_option maxRecDepth 100000 in
set_option maxHeartbeats 4000000 in
theorem kx_neg_l (S : amS) (a : Ar) (h9 : a.2.1 ≤ 9) (i : Nat) (hi : i < a.2.1) (V : Nat) (hV : S.1 1 3 = nI V) (Q : Option Value → amS → Prop) (hq : ∀ S', FO [1] [2] S S' → S'.1 1 1 = S.1 1 1 → S'.1 1 2 = S.1 1 2 → S'.1 1 3 = nI (V + 1) → (∀ m j, m < a.2.1 → j < 4 → S'.2.1 2 (4 * m + j) = i32 ((aTurn a i).2.2 m j)) → Q (some (.int (nI 0))) S') : ∀ (k t : Nat) (f : Nat → Int32), t + k = 4 → (∀ m j, m < a.2.1 → j < 4 → f (4 * m + j) = i32 (if m = i ∧ j < t then - a.2.2 m j else a.2.2 m j)) → X shX mX1_negate 13 [.ref 1, .int (nI i), .int (nI t)] [] (sA S 2 f) Q := by
  intro k
  induction k with
  | zero =>
    intro t f h1 h4
    obtain rfl : t = 4 := by omega
    refine x_iload_n dX1_negate_13 rfl ?_
    refine x_ic _ ic_4 dX1_negate_14 ?_
    refine x_icmp_geN 41 dX1_negate_15 rfl (by omega) (by omega) (fun c15 => ?_) (fun c15 => ?_)
    · refine x_aload_n dX1_negate_41 rfl ?_
      refine x_dup dX1_negate_42 rfl ?_
      refine x_getIV dX1_negate_43 fl_X1_32 rfl (hV) ?_
      refine x_ic _ ic_1 dX1_negate_46 ?_
      refine x_iaddN dX1_negate_47 ?_
      refine x_put dX1_negate_48 fp_X1_32 rfl rfl rfl ?_
      refine x_ic _ ic_0 dX1_negate_51 ?_
      refine x_iretI dX1_negate_52 rfl ?_
      refine hq _ (((FO.rf _ _ S).sA _ (by simp)).sF _ (by simp)) ?_ ?_ ?_ (fun m j hm hj => ?_)
      · simp [sF, sA, va_up, upd]
      · simp [sF, sA, va_up, upd]
      · simp [sF, sA, va_up, upd]
      · show (sA S 2 f).2.1 2 _ = _
        rw [sA_at, h4 m j hm hj]
        show _ = i32 (if m = i then - a.2.2 m j else a.2.2 m j)
        simp [hj]
    · exact absurd c15 (by omega)
  | succ k ih =>
    intro t f h1 h4
    have e0 := h4 i t hi (by omega)
    rw [if_neg (by omega)] at e0
    refine x_iload_n dX1_negate_13 rfl ?_
    refine x_ic _ ic_4 dX1_negate_14 ?_
    refine x_icmp_geN 41 dX1_negate_15 rfl (by omega) (by omega) (fun c15 => ?_) (fun c15 => ?_)
    · exact absurd c15 (by omega)
    · refine x_aload_n dX1_negate_18 rfl ?_
      refine x_getR dX1_negate_19 fl_X1_9 rfl ?_
      refine x_iload_n dX1_negate_22 rfl ?_
      refine x_ic _ ic_4 dX1_negate_23 ?_
      refine x_imulN dX1_negate_24 ?_
      refine x_iload_n dX1_negate_25 rfl ?_
      refine x_iaddN dX1_negate_26 ?_
      refine x_aload_n dX1_negate_27 rfl ?_
      refine x_iload_n dX1_negate_28 rfl ?_
      refine x_iload_n dX1_negate_29 rfl ?_
      refine x_v2d (N := mX1_at) dX1_negate_30 ml_X1_47 nv_X1_at rfl rfl (kx_at (sA S 2 f) i t (by omega) (by omega) (i32 (a.2.2 i t)) (by rw [sA_at]; exact e0)) ?_
      refine x_inegI dX1_negate_33 ?_
      refine x_iastN dX1_negate_34 rfl rfl (by omega) ?_
      refine x_iincN dX1_negate_35 rfl rfl ?_
      refine x_goto 13 dX1_negate_38 rfl ?_
      rw [sA_sA, sA_at]
      refine ih (t + 1) _ (by omega) (fun m j hm hj => ?_)
      by_cases q : 4 * m + j = i * 4 + t
      · obtain ⟨rfl, rfl⟩ : m = i ∧ j = t := by omega
        rw [q, upd_s, if_pos ⟨rfl, by omega⟩]
      · rw [upd_n _ _ q, h4 m j hm hj]
        by_cases z : m = i ∧ j < t
        · rw [if_pos z, if_pos ⟨z.1, by omega⟩]
        · rw [if_neg z, if_neg (by omega)]
set_option maxRecDepth 100000 in
set_option maxHeartbeats 4000000 in
theorem kx_negate_ok (S : amS) (a : Ar) (hA : Arr a.1 a.2.1 a.2.2) (hm : aObj S 1 2 a) (V : Nat) (hV : S.1 1 3 = nI V) (i : Nat) (hi : i < a.2.1) : X shX mX1_negate 0 [.ref 1, .int (nI i), .null] [] S (fun r S' => r = some (.int (nI 0)) ∧ chg S S' V 1 (aTurn a i)) := by
  obtain ⟨a1, a2, a3, a4, a5, a6, a7⟩ := id hA
  obtain ⟨m1, m2, m3⟩ := id hm
  refine x_aload_n dX1_negate_0 rfl ?_
  refine x_iload_n dX1_negate_1 rfl ?_
  refine x_v1d (N := mX1_has) dX1_negate_2 ml_X1_51 nv_X1_has rfl rfl (kx_has S a.2.1 a3 m2 _) ?_
  refine x_if_neB 11 dX1_negate_5 rfl (fun c5 => ?_) (fun c5 => ?_)
  · refine x_ic _ ic_0 dX1_negate_11 ?_
    refine x_istore_n dX1_negate_12 rfl ?_
    refine x_st (sA_self S 2) ?_
    exact kx_neg_l S a a3 i hi V hV _ (fun S' f1 f2 f3 f4 f5 => ⟨rfl, f1, ⟨f2.trans m1, f3.trans m2, f5⟩, V + 1, by omega, by omega, f4⟩) 4 0 _ (by omega) (fun m j h1 h2 => by rw [if_neg (by omega)]; exact m3 m j h1 h2)
  · rw [(in_L _ (by omega)).mpr (InR_in hi)] at c5; cases c5
set_option maxRecDepth 100000 in
set_option maxHeartbeats 4000000 in
theorem kx_negate_bad (S : amS) (N : Nat) (a3 : N ≤ 9) (m2 : S.1 1 2 = nI N) (x : Int32) (hx : ¬ InR x N) : X shX mX1_negate 0 [.ref 1, .int x, .null] [] S (fun r S' => r = some (.int (i32 (-2))) ∧ S' = S) := by
  refine x_aload_n dX1_negate_0 rfl ?_
  refine x_iload_n dX1_negate_1 rfl ?_
  refine x_v1d (N := mX1_has) dX1_negate_2 ml_X1_51 nv_X1_has rfl rfl (kx_has S N a3 m2 _) ?_
  refine x_if_neB 11 dX1_negate_5 rfl (fun c5 => ?_) (fun c5 => ?_)
  · exact absurd ((in_L _ (by omega)).mp c5) hx
  · refine x_bi _ bi_m2 dX1_negate_8 ?_
    refine x_iretI dX1_negate_10 rfl ?_
    exact ⟨rfl, rfl⟩
set_option maxRecDepth 100000 in
set_option maxHeartbeats 4000000 in
theorem kx_remove_ok (S : amS) (a : Ar) (hA : Arr a.1 a.2.1 a.2.2) (hm : aObj S 1 2 a) (V : Nat) (hV : S.1 1 3 = nI V) (i : Nat) (hi : i < a.2.1) : X shX mX1_remove 0 [.ref 1, .int (nI i), .null, .null] [] S (fun r S' => r = some (.int (nI (a.2.1 - 1))) ∧ chg S S' V 1 (aDrop a i)) := by
  obtain ⟨a1, a2, a3, a4, a5, a6, a7⟩ := id hA
  obtain ⟨m1, m2, m3⟩ := id hm
  refine x_aload_n dX1_remove_0 rfl ?_
  refine x_iload_n dX1_remove_1 rfl ?_
  refine x_v1d (N := mX1_has) dX1_remove_2 ml_X1_51 nv_X1_has rfl rfl (kx_has S a.2.1 a3 m2 _) ?_
  refine x_if_neB 11 dX1_remove_5 rfl (fun c5 => ?_) (fun c5 => ?_)
  · refine x_iload_n dX1_remove_11 rfl ?_
    refine x_ic _ ic_4 dX1_remove_12 ?_
    refine x_imulN dX1_remove_13 ?_
    refine x_istore_n dX1_remove_14 rfl ?_
    refine x_iload_n dX1_remove_15 rfl ?_
    refine x_ic _ ic_4 dX1_remove_16 ?_
    refine x_iaddN dX1_remove_17 ?_
    refine x_istore_n dX1_remove_18 rfl ?_
    refine x_aload_n dX1_remove_19 rfl ?_
    refine x_getR dX1_remove_20 fl_X1_9 rfl ?_
    refine x_iload_n dX1_remove_23 rfl ?_
    refine x_aload_n dX1_remove_24 rfl ?_
    refine x_getR dX1_remove_25 fl_X1_9 rfl ?_
    refine x_iload_n dX1_remove_28 rfl ?_
    refine x_aload_n dX1_remove_29 rfl ?_
    refine x_getIV dX1_remove_30 fl_X1_19 rfl (m2) ?_
    refine x_ic _ ic_4 dX1_remove_33 ?_
    refine x_imulN dX1_remove_34 ?_
    refine x_iload_n dX1_remove_35 rfl ?_
    refine x_isubN dX1_remove_36 (by omega) ?_
    have z1 : (nI (i * 4 + 4)).toNatClampNeg = i * 4 + 4 := nI_clamp (by omega)
    have z2 : (nI (i * 4)).toNatClampNeg = i * 4 := nI_clamp (by omega)
    have z3 : (nI (a.2.1 * 4 - (i * 4 + 4))).toNatClampNeg = a.2.1 * 4 - (i * 4 + 4) := nI_clamp (by omega)
    refine x_copy dX1_remove_37 ml_X1_26 ac_native ac_static ac_init rfl rfl (nI_nn (by omega)) (nI_nn (by omega)) (nI_nn (by omega)) (by rw [z1, z3]; omega) (by rw [z2, z3]; omega) (by decide) (by decide +kernel) ?_
    rw [z1, z2, z3]
    refine x_aload_n dX1_remove_40 rfl ?_
    refine x_dup dX1_remove_41 rfl ?_
    refine x_getIV dX1_remove_42 fl_X1_19 rfl (m2) ?_
    refine x_ic _ ic_1 dX1_remove_45 ?_
    refine x_isubN dX1_remove_46 (by omega) ?_
    refine x_put dX1_remove_47 fp_X1_19 rfl rfl rfl ?_
    refine x_aload_n dX1_remove_50 rfl ?_
    refine x_dup dX1_remove_51 rfl ?_
    refine x_getIV dX1_remove_52 fl_X1_32 rfl ((show _ = nI V by simp [sF, sA, va_up, upd]; exact hV)) ?_
    refine x_ic _ ic_1 dX1_remove_55 ?_
    refine x_iaddN dX1_remove_56 ?_
    refine x_put dX1_remove_57 fp_X1_32 rfl rfl rfl ?_
    refine x_aload_n dX1_remove_60 rfl ?_
    refine x_getIV dX1_remove_61 fl_X1_19 rfl ((show _ = nI (a.2.1 - 1) by simp [sF, sA, va_up, upd])) ?_
    refine x_iretI dX1_remove_64 rfl ?_
    refine ⟨rfl, (((FO.rf _ _ S).sA _ (by simp)).sF _ (by simp)).sF _ (by simp), ⟨?_, ?_, fun m j hm2 hj => ?_⟩, V + 1, by omega, by omega, ?_⟩
    · simp [sF, sA, va_up, upd]; exact m1
    · simp [sF, sA, va_up, upd]; rfl
    · have hm3 : m < a.2.1 - 1 := hm2
      show va_cpy (S.2.1 2) (S.2.1 2) (i * 4 + 4) (i * 4) (a.2.1 * 4 - (i * 4 + 4)) (4 * m + j) = i32 (if m < i then a.2.2 m j else a.2.2 (m + 1) j)
      unfold va_cpy
      by_cases q : m < i
      · rw [if_neg (by omega), if_pos q]; exact m3 m j (by omega) hj
      · rw [if_pos (by omega), if_neg q, show i * 4 + 4 + (4 * m + j - i * 4) = 4 * (m + 1) + j by omega]; exact m3 (m + 1) j (by omega) hj
    · simp [sF, sA, va_up, upd]
  · rw [(in_L _ (by omega)).mpr (InR_in hi)] at c5; cases c5
set_option maxRecDepth 100000 in
set_option maxHeartbeats 4000000 in
theorem kx_remove_bad (S : amS) (N : Nat) (a3 : N ≤ 9) (m2 : S.1 1 2 = nI N) (x : Int32) (hx : ¬ InR x N) : X shX mX1_remove 0 [.ref 1, .int x, .null, .null] [] S (fun r S' => r = some (.int (i32 (-2))) ∧ S' = S) := by
  refine x_aload_n dX1_remove_0 rfl ?_
  refine x_iload_n dX1_remove_1 rfl ?_
  refine x_v1d (N := mX1_has) dX1_remove_2 ml_X1_51 nv_X1_has rfl rfl (kx_has S N a3 m2 _) ?_
  refine x_if_neB 11 dX1_remove_5 rfl (fun c5 => ?_) (fun c5 => ?_)
  · exact absurd ((in_L _ (by omega)).mp c5) hx
  · refine x_bi _ bi_m2 dX1_remove_8 ?_
    refine x_iretI dX1_remove_10 rfl ?_
    exact ⟨rfl, rfl⟩
set_option maxRecDepth 100000 in
set_option maxHeartbeats 4000000 in
theorem kx_exc_l (S : amS) (a : Ar) (h9 : a.2.1 ≤ 9) (i l : Nat) (hi : i < a.2.1) (hl : l < a.2.1) (hil : i ≠ l) (V : Nat) (hV : S.1 1 3 = nI V) (Q : Option Value → amS → Prop) (hq : ∀ S', FO [1] [2] S S' → S'.1 1 1 = S.1 1 1 → S'.1 1 2 = S.1 1 2 → S'.1 1 3 = nI (V + 1) → (∀ m j, m < a.2.1 → j < 4 → S'.2.1 2 (4 * m + j) = i32 ((aSwap a i l).2.2 m j)) → Q (some (.int (nI 0))) S') : ∀ (k t : Nat) (f : Nat → Int32) (z : Value), t + k = 4 → (∀ m j, m < a.2.1 → j < 4 → f (4 * m + j) = i32 (if j < t then (if m = i then a.2.2 l j else if m = l then a.2.2 i j else a.2.2 m j) else a.2.2 m j)) → X shX mX1_exchange 26 [.ref 1, .int (nI i), .int (nI l), .int (nI t), z] [] (sA S 2 f) Q := by
  intro k
  induction k with
  | zero =>
    intro t f z h1 h4
    obtain rfl : t = 4 := by omega
    refine x_iload_n dX1_exchange_26 rfl ?_
    refine x_ic _ ic_4 dX1_exchange_27 ?_
    refine x_icmp_geN 73 dX1_exchange_28 rfl (by omega) (by omega) (fun c28 => ?_) (fun c28 => ?_)
    · refine x_aload_n dX1_exchange_73 rfl ?_
      refine x_dup dX1_exchange_74 rfl ?_
      refine x_getIV dX1_exchange_75 fl_X1_32 rfl (hV) ?_
      refine x_ic _ ic_1 dX1_exchange_78 ?_
      refine x_iaddN dX1_exchange_79 ?_
      refine x_put dX1_exchange_80 fp_X1_32 rfl rfl rfl ?_
      refine x_ic _ ic_0 dX1_exchange_83 ?_
      refine x_iretI dX1_exchange_84 rfl ?_
      refine hq _ (((FO.rf _ _ S).sA _ (by simp)).sF _ (by simp)) ?_ ?_ ?_ (fun m j hm hj => ?_)
      · simp [sF, sA, va_up, upd]
      · simp [sF, sA, va_up, upd]
      · simp [sF, sA, va_up, upd]
      · show (sA S 2 f).2.1 2 _ = _
        rw [sA_at, h4 m j hm hj, if_pos hj]
        show _ = i32 ((if m = i then a.2.2 l else if m = l then a.2.2 i else a.2.2 m) j)
        congr 1
        split
        · rfl
        · split <;> rfl
    · exact absurd c28 (by omega)
  | succ k ih =>
    intro t f z h1 h4
    have e0 := h4 i t hi (by omega)
    rw [if_neg (by omega)] at e0
    have e1 := h4 l t hl (by omega)
    rw [if_neg (by omega)] at e1
    refine x_iload_n dX1_exchange_26 rfl ?_
    refine x_ic _ ic_4 dX1_exchange_27 ?_
    refine x_icmp_geN 73 dX1_exchange_28 rfl (by omega) (by omega) (fun c28 => ?_) (fun c28 => ?_)
    · exact absurd c28 (by omega)
    · refine x_aload_n dX1_exchange_31 rfl ?_
      refine x_iload_n dX1_exchange_32 rfl ?_
      refine x_iload_n dX1_exchange_33 rfl ?_
      refine x_v2d (N := mX1_at) dX1_exchange_34 ml_X1_47 nv_X1_at rfl rfl (kx_at (sA S 2 f) i t (by omega) (by omega) (i32 (a.2.2 i t)) (by rw [sA_at]; exact e0)) ?_
      refine x_istore dX1_exchange_37 rfl ?_
      refine x_aload_n dX1_exchange_39 rfl ?_
      refine x_getR dX1_exchange_40 fl_X1_9 rfl ?_
      refine x_iload_n dX1_exchange_43 rfl ?_
      refine x_ic _ ic_4 dX1_exchange_44 ?_
      refine x_imulN dX1_exchange_45 ?_
      refine x_iload_n dX1_exchange_46 rfl ?_
      refine x_iaddN dX1_exchange_47 ?_
      refine x_aload_n dX1_exchange_48 rfl ?_
      refine x_iload_n dX1_exchange_49 rfl ?_
      refine x_iload_n dX1_exchange_50 rfl ?_
      refine x_v2d (N := mX1_at) dX1_exchange_51 ml_X1_47 nv_X1_at rfl rfl (kx_at (sA S 2 f) l t (by omega) (by omega) (i32 (a.2.2 l t)) (by rw [sA_at]; exact e1)) ?_
      refine x_iastN dX1_exchange_54 rfl rfl (by omega) ?_
      refine x_aload_n dX1_exchange_55 rfl ?_
      refine x_getR dX1_exchange_56 fl_X1_9 rfl ?_
      refine x_iload_n dX1_exchange_59 rfl ?_
      refine x_ic _ ic_4 dX1_exchange_60 ?_
      refine x_imulN dX1_exchange_61 ?_
      refine x_iload_n dX1_exchange_62 rfl ?_
      refine x_iaddN dX1_exchange_63 ?_
      refine x_iload dX1_exchange_64 rfl ?_
      refine x_iastN dX1_exchange_66 rfl rfl (by omega) ?_
      refine x_iincN dX1_exchange_67 rfl rfl ?_
      refine x_goto 26 dX1_exchange_70 rfl ?_
      rw [sA_sA, sA_sA, sA_at, sA_at]
      refine ih (t + 1) _ _ (by omega) (fun m j hm hj => ?_)
      by_cases q : 4 * m + j = l * 4 + t
      · obtain ⟨rfl, rfl⟩ : m = l ∧ j = t := by omega
        rw [q, upd_s, if_pos (by omega), if_neg (by omega), if_pos rfl]
      · rw [upd_n _ _ q]
        by_cases q2 : 4 * m + j = i * 4 + t
        · obtain ⟨rfl, rfl⟩ : m = i ∧ j = t := by omega
          rw [q2, upd_s, if_pos (by omega), if_pos rfl]
        · rw [upd_n _ _ q2, h4 m j hm hj]
          congr 1
          grind
set_option maxRecDepth 100000 in
set_option maxHeartbeats 4000000 in
theorem kx_exchange_ok (S : amS) (a : Ar) (hA : Arr a.1 a.2.1 a.2.2) (hm : aObj S 1 2 a) (V : Nat) (hV : S.1 1 3 = nI V) (i l : Nat) (hi : i < a.2.1) (hl : l < a.2.1) (hil : i ≠ l) : X shX mX1_exchange 0 [.ref 1, .int (nI i), .int (nI l), .null, .null] [] S (fun r S' => r = some (.int (nI 0)) ∧ chg S S' V 1 (aSwap a i l)) := by
  obtain ⟨a1, a2, a3, a4, a5, a6, a7⟩ := id hA
  obtain ⟨m1, m2, m3⟩ := id hm
  refine x_aload_n dX1_exchange_0 rfl ?_
  refine x_iload_n dX1_exchange_1 rfl ?_
  refine x_v1d (N := mX1_has) dX1_exchange_2 ml_X1_51 nv_X1_has rfl rfl (kx_has S a.2.1 a3 m2 _) ?_
  refine x_if_eqB 21 dX1_exchange_5 rfl (fun c5 => ?_) (fun c5 => ?_)
  · rw [(in_L _ (by omega)).mpr (InR_in hi)] at c5; cases c5
  · refine x_aload_n dX1_exchange_8 rfl ?_
    refine x_iload_n dX1_exchange_9 rfl ?_
    refine x_v1d (N := mX1_has) dX1_exchange_10 ml_X1_51 nv_X1_has rfl rfl (kx_has S a.2.1 a3 m2 _) ?_
    refine x_if_eqB 21 dX1_exchange_13 rfl (fun c13 => ?_) (fun c13 => ?_)
    · rw [(in_L _ (by omega)).mpr (InR_in hl)] at c13; cases c13
    · refine x_iload_n dX1_exchange_16 rfl ?_
      refine x_iload_n dX1_exchange_17 rfl ?_
      refine x_icmp_neN 24 dX1_exchange_18 rfl (by omega) (by omega) (fun c18 => ?_) (fun c18 => ?_)
      · refine x_ic _ ic_0 dX1_exchange_24 ?_
        refine x_istore_n dX1_exchange_25 rfl ?_
        refine x_st (sA_self S 2) ?_
        exact kx_exc_l S a a3 i l hi hl hil V hV _ (fun S' f1 f2 f3 f4 f5 => ⟨rfl, f1, ⟨f2.trans m1, f3.trans m2, f5⟩, V + 1, by omega, by omega, f4⟩) 4 0 _ _ (by omega) (fun m j h1 h2 => by rw [if_neg (by omega)]; exact m3 m j h1 h2)
      · exact absurd c18 hil
set_option maxRecDepth 100000 in
set_option maxHeartbeats 4000000 in
theorem kx_exchange_bad (S : amS) (N : Nat) (a3 : N ≤ 9) (m2 : S.1 1 2 = nI N) (x y : Int32) (hx : ¬ (InR x N ∧ InR y N ∧ x ≠ y)) : X shX mX1_exchange 0 [.ref 1, .int x, .int y, .null, .null] [] S (fun r S' => r = some (.int (i32 (-2))) ∧ S' = S) := by
  refine x_aload_n dX1_exchange_0 rfl ?_
  refine x_iload_n dX1_exchange_1 rfl ?_
  refine x_v1d (N := mX1_has) dX1_exchange_2 ml_X1_51 nv_X1_has rfl rfl (kx_has S N a3 m2 _) ?_
  refine x_if_eqB 21 dX1_exchange_5 rfl (fun c5 => ?_) (fun c5 => ?_)
  · refine x_bi _ bi_m2 dX1_exchange_21 ?_
    refine x_iretI dX1_exchange_23 rfl ?_
    exact ⟨rfl, rfl⟩
  · refine x_aload_n dX1_exchange_8 rfl ?_
    refine x_iload_n dX1_exchange_9 rfl ?_
    refine x_v1d (N := mX1_has) dX1_exchange_10 ml_X1_51 nv_X1_has rfl rfl (kx_has S N a3 m2 _) ?_
    refine x_if_eqB 21 dX1_exchange_13 rfl (fun c13 => ?_) (fun c13 => ?_)
    · refine x_bi _ bi_m2 dX1_exchange_21 ?_
      refine x_iretI dX1_exchange_23 rfl ?_
      exact ⟨rfl, rfl⟩
    · refine x_iload_n dX1_exchange_16 rfl ?_
      refine x_iload_n dX1_exchange_17 rfl ?_
      refine x_icmp_ne 24 dX1_exchange_18 rfl (fun c18 => ?_) (fun c18 => ?_)
      · exact absurd ⟨(in_L _ (by omega)).mp c5, (in_L _ (by omega)).mp c13, c18⟩ hx
      · refine x_bi _ bi_m2 dX1_exchange_21 ?_
        refine x_iretI dX1_exchange_23 rfl ?_
        exact ⟨rfl, rfl⟩
