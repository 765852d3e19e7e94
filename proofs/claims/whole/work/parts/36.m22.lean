/-! THE REFERENCE: doSpace, doTurns, doDrops, doSwaps -/
set_option maxRecDepth 100000 in
set_option maxHeartbeats 4000000 in
theorem k_doSpace_ok (S : amS) (a : Ar) (hA : Arr a.1 a.2.1 a.2.2) (hm : nRow (S.2.1 1) a) (n : Nat) (h2 : 2 ≤ n) (h4 : n ≤ 4) : X shM mX11_doSpace 0 [.ref 0, .int (nI n)] [] S (fun r S' => r = some (.int (nI n)) ∧ On S S' ∧ nRow (S'.2.1 1) (aSpace n)) := by
  refine x_iload_n dX11_doSpace_0 rfl ?_
  refine x_ic _ ic_2 dX11_doSpace_1 ?_
  refine x_ic _ ic_4 dX11_doSpace_2 ?_
  refine x_s3d (N := mX11_in) dX11_doSpace_3 ml_X11_113 ns_X11_in rfl (k_in S _ _ _) ?_
  refine x_if_neB 12 dX11_doSpace_6 rfl (fun c6 => ?_) (fun c6 => ?_)
  · refine x_aload_n dX11_doSpace_12 rfl ?_
    refine x_getR dX11_doSpace_13 fl_X11_7 rfl ?_
    refine x_bi _ bi_36 dX11_doSpace_16 ?_
    refine x_iload_n dX11_doSpace_18 rfl ?_
    refine x_iastN dX11_doSpace_19 rfl rfl (by omega) ?_
    refine x_aload_n dX11_doSpace_20 rfl ?_
    refine x_getR dX11_doSpace_21 fl_X11_7 rfl ?_
    refine x_bi _ bi_37 dX11_doSpace_24 ?_
    refine x_ic _ ic_0 dX11_doSpace_26 ?_
    refine x_iastN dX11_doSpace_27 rfl rfl (by omega) ?_
    refine x_iload_n dX11_doSpace_28 rfl ?_
    refine x_iretI dX11_doSpace_29 rfl ?_
    refine ⟨rfl, ((On.rf S).sA _ (Or.inl rfl)).sA _ (Or.inl rfl), ?_, ?_, fun i j hi => ?_⟩
    · rfl
    · rfl
    · exact absurd hi (Nat.not_lt_zero i)
  · rw [decide_eq_true (show nI 2 ≤ nI n ∧ nI n ≤ nI 4 from ⟨nI_le h2 (by omega), nI_le h4 (by omega)⟩)] at c6; cases c6
set_option maxRecDepth 100000 in
set_option maxHeartbeats 4000000 in
theorem k_doSpace_bad (S : amS) (a : Ar) (hA : Arr a.1 a.2.1 a.2.2) (hm : nRow (S.2.1 1) a) (x : Int32) (hx : ¬ ∃ n, 2 ≤ n ∧ n ≤ 4 ∧ x = nI n) : X shM mX11_doSpace 0 [.ref 0, .int x] [] S (fun r S' => r = some (.int (i32 (-2))) ∧ On S S' ∧ nRow (S'.2.1 1) a) := by
  refine x_iload_n dX11_doSpace_0 rfl ?_
  refine x_ic _ ic_2 dX11_doSpace_1 ?_
  refine x_ic _ ic_4 dX11_doSpace_2 ?_
  refine x_s3d (N := mX11_in) dX11_doSpace_3 ml_X11_113 ns_X11_in rfl (k_in S _ _ _) ?_
  refine x_if_neB 12 dX11_doSpace_6 rfl (fun c6 => ?_) (fun c6 => ?_)
  · rw [decide_eq_true_eq] at c6
    obtain ⟨j, h3, h4⟩ := nI_of2 (M := nI 4) (n := 4) (nI_toInt (by omega)) (Int32.not_lt.mpr (Int32.le_trans (nI_le (Nat.zero_le 2) (by omega)) c6.1)) c6.2
    subst h4
    have h5 := c6.1
    rw [nI_i32, nI_i32, i32_le (by omega) (by omega)] at h5
    exact absurd ⟨j, by omega, h3, rfl⟩ hx
  · refine x_bi _ bi_m2 dX11_doSpace_9 ?_
    refine x_iretI dX11_doSpace_11 rfl ?_
    exact ⟨rfl, On.rf S, hm⟩
set_option maxRecDepth 100000 in
set_option maxHeartbeats 4000000 in
theorem k_turn_l (S : amS) (a : Ar) (h9 : a.2.1 ≤ 9) (i : Nat) (hi : i < a.2.1) (Q : Option Value → amS → Prop) (hq : ∀ f, nRow f (aTurn a i) → Q (some (.int (nI i))) (sA S 1 f)) : ∀ (k t : Nat) (f : Nat → Int32), t + k = 4 → f 36 = nI a.1 → f 37 = nI a.2.1 → (∀ m j, m < a.2.1 → j < 4 → f (4 * m + j) = i32 (if m = i ∧ j < t then - a.2.2 m j else a.2.2 m j)) → X shM mX11_doTurns 13 [.ref 0, .int (nI i), .int (nI t)] [] (sA S 1 f) Q := by
  intro k
  induction k with
  | zero =>
    intro t f h1 h2 h3 h4
    obtain rfl : t = 4 := by omega
    refine x_iload_n dX11_doTurns_13 rfl ?_
    refine x_ic _ ic_4 dX11_doTurns_14 ?_
    refine x_icmp_geN 45 dX11_doTurns_15 rfl (by omega) (by omega) (fun c15 => ?_) (fun c15 => ?_)
    · refine x_iload_n dX11_doTurns_45 rfl ?_
      refine x_iretI dX11_doTurns_46 rfl ?_
      refine hq f ⟨h2, h3, fun m j hm hj => ?_⟩
      rw [h4 m j hm hj]
      show _ = i32 (if m = i then - a.2.2 m j else a.2.2 m j)
      simp [hj]
    · exact absurd c15 (by omega)
  | succ k ih =>
    intro t f h1 h2 h3 h4
    have e0 := h4 i t hi (by omega)
    rw [if_neg (by omega)] at e0
    refine x_iload_n dX11_doTurns_13 rfl ?_
    refine x_ic _ ic_4 dX11_doTurns_14 ?_
    refine x_icmp_geN 45 dX11_doTurns_15 rfl (by omega) (by omega) (fun c15 => ?_) (fun c15 => ?_)
    · exact absurd c15 (by omega)
    · refine x_aload_n dX11_doTurns_18 rfl ?_
      refine x_getR dX11_doTurns_19 fl_X11_7 rfl ?_
      refine x_ic _ ic_4 dX11_doTurns_22 ?_
      refine x_iload_n dX11_doTurns_23 rfl ?_
      refine x_imulN dX11_doTurns_24 ?_
      refine x_iload_n dX11_doTurns_25 rfl ?_
      refine x_iaddN dX11_doTurns_26 ?_
      refine x_aload_n dX11_doTurns_27 rfl ?_
      refine x_getR dX11_doTurns_28 fl_X11_7 rfl ?_
      refine x_ic _ ic_4 dX11_doTurns_31 ?_
      refine x_iload_n dX11_doTurns_32 rfl ?_
      refine x_imulN dX11_doTurns_33 ?_
      refine x_iload_n dX11_doTurns_34 rfl ?_
      refine x_iaddN dX11_doTurns_35 ?_
      refine x_ialdN dX11_doTurns_36 rfl rfl (by omega) (e0) ?_
      refine x_inegI dX11_doTurns_37 ?_
      refine x_iastN dX11_doTurns_38 rfl rfl (by omega) ?_
      refine x_iincN dX11_doTurns_39 rfl rfl ?_
      refine x_goto 13 dX11_doTurns_42 rfl ?_
      rw [sA_sA, sA_at]
      refine ih (t + 1) _ (by omega) ?_ ?_ (fun m j hm hj => ?_)
      · rw [upd_n _ _ (by omega)]; exact h2
      · rw [upd_n _ _ (by omega)]; exact h3
      · by_cases q : 4 * m + j = 4 * i + t
        · obtain ⟨rfl, rfl⟩ : m = i ∧ j = t := by omega
          rw [upd_s, if_pos ⟨rfl, by omega⟩]
        · rw [upd_n _ _ q, h4 m j hm hj]
          by_cases z : m = i ∧ j < t
          · rw [if_pos z, if_pos ⟨z.1, by omega⟩]
          · rw [if_neg z, if_neg (by omega)]
set_option maxRecDepth 100000 in
set_option maxHeartbeats 4000000 in
theorem k_doTurns_ok (S : amS) (a : Ar) (hA : Arr a.1 a.2.1 a.2.2) (hm : nRow (S.2.1 1) a) (i : Nat) (hi : i < a.2.1) : X shM mX11_doTurns 0 [.ref 0, .int (nI i), .null] [] S (fun r S' => r = some (.int (nI i)) ∧ On S S' ∧ nRow (S'.2.1 1) (aTurn a i)) := by
  obtain ⟨a1, a2, a3, a4, a5, a6, a7⟩ := id hA
  refine x_aload_n dX11_doTurns_0 rfl ?_
  refine x_iload_n dX11_doTurns_1 rfl ?_
  refine x_v1d (N := mX11_isPlane) dX11_doTurns_2 ml_X11_151 nv_X11_isPlane rfl rfl (k_isPlane S a.2.1 a3 hm.2.1 _) ?_
  refine x_if_neB 11 dX11_doTurns_5 rfl (fun c5 => ?_) (fun c5 => ?_)
  · refine x_ic _ ic_0 dX11_doTurns_11 ?_
    refine x_istore_n dX11_doTurns_12 rfl ?_
    refine x_st (sA_self S 1) ?_
    exact k_turn_l S a a3 i hi _ (fun f hf => ⟨rfl, (On.rf S).sA f (Or.inl rfl), hf⟩) 4 0 _ (by omega) hm.1 hm.2.1 (fun m j h1 h2 => by rw [if_neg (by omega)]; exact hm.2.2 m j h1 h2)
  · rw [(in_N _ (by omega)).mpr (InR_in hi)] at c5; cases c5
set_option maxRecDepth 100000 in
set_option maxHeartbeats 4000000 in
theorem k_doTurns_bad (S : amS) (a : Ar) (hA : Arr a.1 a.2.1 a.2.2) (hm : nRow (S.2.1 1) a) (x : Int32) (hx : ¬ InR x a.2.1) : X shM mX11_doTurns 0 [.ref 0, .int x, .null] [] S (fun r S' => r = some (.int (i32 (-2))) ∧ On S S' ∧ nRow (S'.2.1 1) a) := by
  obtain ⟨a1, a2, a3, a4, a5, a6, a7⟩ := id hA
  refine x_aload_n dX11_doTurns_0 rfl ?_
  refine x_iload_n dX11_doTurns_1 rfl ?_
  refine x_v1d (N := mX11_isPlane) dX11_doTurns_2 ml_X11_151 nv_X11_isPlane rfl rfl (k_isPlane S a.2.1 a3 hm.2.1 _) ?_
  refine x_if_neB 11 dX11_doTurns_5 rfl (fun c5 => ?_) (fun c5 => ?_)
  · exact absurd ((in_N _ (by omega)).mp c5) hx
  · refine x_bi _ bi_m2 dX11_doTurns_8 ?_
    refine x_iretI dX11_doTurns_10 rfl ?_
    exact ⟨rfl, On.rf S, hm⟩
set_option maxRecDepth 100000 in
set_option maxHeartbeats 4000000 in
theorem k_drop_l (S : amS) (a : Ar) (h9 : a.2.1 ≤ 9) (i : Nat) (hi : i < a.2.1) (hm : nRow (S.2.1 1) a) (Q : Option Value → amS → Prop) (hq : ∀ f, nRow f (aDrop a i) → Q (some (.int (nI (a.2.1 - 1)))) (sA S 1 f)) : ∀ (k t : Nat) (f : Nat → Int32), t + k = 32 → 4 * i ≤ t → (∀ u, f u = if 4 * i ≤ u ∧ u < t then S.2.1 1 (u + 4) else S.2.1 1 u) → X shM mX11_doDrops 15 [.ref 0, .int (nI i), .int (nI t)] [] (sA S 1 f) Q := by
  intro k
  induction k with
  | zero =>
    intro t f h1 hge h2
    obtain rfl : t = 32 := by omega
    have e7 : f 37 = nI a.2.1 := by rw [h2, if_neg (by omega)]; exact hm.2.1
    refine x_iload_n dX11_doDrops_15 rfl ?_
    refine x_bi _ bi_32 dX11_doDrops_16 ?_
    refine x_icmp_geN 41 dX11_doDrops_18 rfl (by omega) (by omega) (fun c18 => ?_) (fun c18 => ?_)
    · refine x_aload_n dX11_doDrops_41 rfl ?_
      refine x_getR dX11_doDrops_42 fl_X11_7 rfl ?_
      refine x_bi _ bi_37 dX11_doDrops_45 ?_
      refine x_dup2 dX11_doDrops_47 rfl rfl ?_
      refine x_ialdN dX11_doDrops_48 rfl rfl (by omega) (e7) ?_
      refine x_ic _ ic_1 dX11_doDrops_49 ?_
      refine x_isubN dX11_doDrops_50 (by omega) ?_
      refine x_iastN dX11_doDrops_51 rfl rfl (by omega) ?_
      refine x_aload_n dX11_doDrops_52 rfl ?_
      refine x_getR dX11_doDrops_53 fl_X11_7 rfl ?_
      refine x_bi _ bi_37 dX11_doDrops_56 ?_
      refine x_ialdN dX11_doDrops_58 rfl rfl (by omega) (show _ = nI (a.2.1 - 1) from rfl) ?_
      refine x_iretI dX11_doDrops_59 rfl ?_
      rw [sA_sA, sA_at]
      refine hq _ ⟨?_, ?_, fun m j hm2 hj => ?_⟩
      · rw [upd_n _ _ (by omega), h2, if_neg (by omega)]; exact hm.1
      · rw [upd_s]; rfl
      · have hm3 : m < a.2.1 - 1 := hm2
        rw [upd_n _ _ (by omega), h2]
        show _ = i32 (if m < i then a.2.2 m j else a.2.2 (m + 1) j)
        by_cases q : m < i
        · rw [if_neg (by omega), if_pos q]; exact hm.2.2 m j (by omega) hj
        · rw [if_pos (by omega), if_neg q, show 4 * m + j + 4 = 4 * (m + 1) + j by omega]; exact hm.2.2 (m + 1) j (by omega) hj
    · exact absurd c18 (by omega)
  | succ k ih =>
    intro t f h1 hge h2
    refine x_iload_n dX11_doDrops_15 rfl ?_
    refine x_bi _ bi_32 dX11_doDrops_16 ?_
    refine x_icmp_geN 41 dX11_doDrops_18 rfl (by omega) (by omega) (fun c18 => ?_) (fun c18 => ?_)
    · exact absurd c18 (by omega)
    · refine x_aload_n dX11_doDrops_21 rfl ?_
      refine x_getR dX11_doDrops_22 fl_X11_7 rfl ?_
      refine x_iload_n dX11_doDrops_25 rfl ?_
      refine x_aload_n dX11_doDrops_26 rfl ?_
      refine x_getR dX11_doDrops_27 fl_X11_7 rfl ?_
      refine x_iload_n dX11_doDrops_30 rfl ?_
      refine x_ic _ ic_4 dX11_doDrops_31 ?_
      refine x_iaddN dX11_doDrops_32 ?_
      refine x_ialdN dX11_doDrops_33 rfl rfl (by omega) (rfl) ?_
      refine x_iastN dX11_doDrops_34 rfl rfl (by omega) ?_
      refine x_iincN dX11_doDrops_35 rfl rfl ?_
      refine x_goto 15 dX11_doDrops_38 rfl ?_
      rw [sA_sA, sA_at]
      refine ih (t + 1) _ (by omega) (by omega) (fun u => ?_)
      by_cases q : u = t
      · subst q
        rw [upd_s]
        show f (u + 4) = _
        rw [h2, if_neg (by omega)]
        by_cases z : 4 * i ≤ u
        · rw [if_pos ⟨z, by omega⟩]
        · exact absurd hge (by omega)
      · rw [upd_n _ _ q, h2]
        by_cases z : 4 * i ≤ u ∧ u < t
        · rw [if_pos z, if_pos ⟨z.1, by omega⟩]
        · rw [if_neg z, if_neg (by omega)]
set_option maxRecDepth 100000 in
set_option maxHeartbeats 4000000 in
theorem k_doDrops_ok (S : amS) (a : Ar) (hA : Arr a.1 a.2.1 a.2.2) (hm : nRow (S.2.1 1) a) (i : Nat) (hi : i < a.2.1) : X shM mX11_doDrops 0 [.ref 0, .int (nI i), .null] [] S (fun r S' => r = some (.int (nI (a.2.1 - 1))) ∧ On S S' ∧ nRow (S'.2.1 1) (aDrop a i)) := by
  obtain ⟨a1, a2, a3, a4, a5, a6, a7⟩ := id hA
  refine x_aload_n dX11_doDrops_0 rfl ?_
  refine x_iload_n dX11_doDrops_1 rfl ?_
  refine x_v1d (N := mX11_isPlane) dX11_doDrops_2 ml_X11_151 nv_X11_isPlane rfl rfl (k_isPlane S a.2.1 a3 hm.2.1 _) ?_
  refine x_if_neB 11 dX11_doDrops_5 rfl (fun c5 => ?_) (fun c5 => ?_)
  · refine x_ic _ ic_4 dX11_doDrops_11 ?_
    refine x_iload_n dX11_doDrops_12 rfl ?_
    refine x_imulN dX11_doDrops_13 ?_
    refine x_istore_n dX11_doDrops_14 rfl ?_
    refine x_st (sA_self S 1) ?_
    exact k_drop_l S a a3 i hi hm _ (fun f hf => ⟨rfl, (On.rf S).sA f (Or.inl rfl), hf⟩) (32 - 4 * i) (4 * i) _ (by omega) (Nat.le_refl _) (fun u => by rw [if_neg (by omega)])
  · rw [(in_N _ (by omega)).mpr (InR_in hi)] at c5; cases c5
set_option maxRecDepth 100000 in
set_option maxHeartbeats 4000000 in
theorem k_doDrops_bad (S : amS) (a : Ar) (hA : Arr a.1 a.2.1 a.2.2) (hm : nRow (S.2.1 1) a) (x : Int32) (hx : ¬ InR x a.2.1) : X shM mX11_doDrops 0 [.ref 0, .int x, .null] [] S (fun r S' => r = some (.int (i32 (-2))) ∧ On S S' ∧ nRow (S'.2.1 1) a) := by
  obtain ⟨a1, a2, a3, a4, a5, a6, a7⟩ := id hA
  refine x_aload_n dX11_doDrops_0 rfl ?_
  refine x_iload_n dX11_doDrops_1 rfl ?_
  refine x_v1d (N := mX11_isPlane) dX11_doDrops_2 ml_X11_151 nv_X11_isPlane rfl rfl (k_isPlane S a.2.1 a3 hm.2.1 _) ?_
  refine x_if_neB 11 dX11_doDrops_5 rfl (fun c5 => ?_) (fun c5 => ?_)
  · exact absurd ((in_N _ (by omega)).mp c5) hx
  · refine x_bi _ bi_m2 dX11_doDrops_8 ?_
    refine x_iretI dX11_doDrops_10 rfl ?_
    exact ⟨rfl, On.rf S, hm⟩
set_option maxRecDepth 100000 in
set_option maxHeartbeats 4000000 in
theorem k_swp_l (S : amS) (a : Ar) (h9 : a.2.1 ≤ 9) (i l : Nat) (hi : i < a.2.1) (hl : l < a.2.1) (hil : i ≠ l) (Q : Option Value → amS → Prop) (hq : ∀ f, nRow f (aSwap a i l) → Q (some (.int (nI i))) (sA S 1 f)) : ∀ (k t : Nat) (f : Nat → Int32) (z : Value), t + k = 4 → f 36 = nI a.1 → f 37 = nI a.2.1 → (∀ m j, m < a.2.1 → j < 4 → f (4 * m + j) = i32 (if j < t then (if m = i then a.2.2 l j else if m = l then a.2.2 i j else a.2.2 m j) else a.2.2 m j)) → X shM mX11_doSwaps 26 [.ref 0, .int (nI i), .int (nI l), .int (nI t), z] [] (sA S 1 f) Q := by
  intro k
  induction k with
  | zero =>
    intro t f z h1 h2 h3 h4
    obtain rfl : t = 4 := by omega
    refine x_iload_n dX11_doSwaps_26 rfl ?_
    refine x_ic _ ic_4 dX11_doSwaps_27 ?_
    refine x_icmp_geN 81 dX11_doSwaps_28 rfl (by omega) (by omega) (fun c28 => ?_) (fun c28 => ?_)
    · refine x_iload_n dX11_doSwaps_81 rfl ?_
      refine x_iretI dX11_doSwaps_82 rfl ?_
      refine hq f ⟨h2, h3, fun m j hm hj => ?_⟩
      rw [h4 m j hm hj, if_pos hj]
      show _ = i32 ((if m = i then a.2.2 l else if m = l then a.2.2 i else a.2.2 m) j)
      congr 1
      split
      · rfl
      · split <;> rfl
    · exact absurd c28 (by omega)
  | succ k ih =>
    intro t f z h1 h2 h3 h4
    have e0 := h4 i t hi (by omega)
    rw [if_neg (by omega)] at e0
    have e1 := h4 l t hl (by omega)
    rw [if_neg (by omega)] at e1
    refine x_iload_n dX11_doSwaps_26 rfl ?_
    refine x_ic _ ic_4 dX11_doSwaps_27 ?_
    refine x_icmp_geN 81 dX11_doSwaps_28 rfl (by omega) (by omega) (fun c28 => ?_) (fun c28 => ?_)
    · exact absurd c28 (by omega)
    · refine x_aload_n dX11_doSwaps_31 rfl ?_
      refine x_getR dX11_doSwaps_32 fl_X11_7 rfl ?_
      refine x_ic _ ic_4 dX11_doSwaps_35 ?_
      refine x_iload_n dX11_doSwaps_36 rfl ?_
      refine x_imulN dX11_doSwaps_37 ?_
      refine x_iload_n dX11_doSwaps_38 rfl ?_
      refine x_iaddN dX11_doSwaps_39 ?_
      refine x_ialdN dX11_doSwaps_40 rfl rfl (by omega) (e0) ?_
      refine x_istore dX11_doSwaps_41 rfl ?_
      refine x_aload_n dX11_doSwaps_43 rfl ?_
      refine x_getR dX11_doSwaps_44 fl_X11_7 rfl ?_
      refine x_ic _ ic_4 dX11_doSwaps_47 ?_
      refine x_iload_n dX11_doSwaps_48 rfl ?_
      refine x_imulN dX11_doSwaps_49 ?_
      refine x_iload_n dX11_doSwaps_50 rfl ?_
      refine x_iaddN dX11_doSwaps_51 ?_
      refine x_aload_n dX11_doSwaps_52 rfl ?_
      refine x_getR dX11_doSwaps_53 fl_X11_7 rfl ?_
      refine x_ic _ ic_4 dX11_doSwaps_56 ?_
      refine x_iload_n dX11_doSwaps_57 rfl ?_
      refine x_imulN dX11_doSwaps_58 ?_
      refine x_iload_n dX11_doSwaps_59 rfl ?_
      refine x_iaddN dX11_doSwaps_60 ?_
      refine x_ialdN dX11_doSwaps_61 rfl rfl (by omega) (e1) ?_
      refine x_iastN dX11_doSwaps_62 rfl rfl (by omega) ?_
      refine x_aload_n dX11_doSwaps_63 rfl ?_
      refine x_getR dX11_doSwaps_64 fl_X11_7 rfl ?_
      refine x_ic _ ic_4 dX11_doSwaps_67 ?_
      refine x_iload_n dX11_doSwaps_68 rfl ?_
      refine x_imulN dX11_doSwaps_69 ?_
      refine x_iload_n dX11_doSwaps_70 rfl ?_
      refine x_iaddN dX11_doSwaps_71 ?_
      refine x_iload dX11_doSwaps_72 rfl ?_
      refine x_iastN dX11_doSwaps_74 rfl rfl (by omega) ?_
      refine x_iincN dX11_doSwaps_75 rfl rfl ?_
      refine x_goto 26 dX11_doSwaps_78 rfl ?_
      rw [sA_sA, sA_sA, sA_at, sA_at]
      refine ih (t + 1) _ _ (by omega) ?_ ?_ (fun m j hm hj => ?_)
      · rw [upd_n _ _ (by omega), upd_n _ _ (by omega)]; exact h2
      · rw [upd_n _ _ (by omega), upd_n _ _ (by omega)]; exact h3
      · by_cases q : 4 * m + j = 4 * l + t
        · obtain ⟨rfl, rfl⟩ : m = l ∧ j = t := by omega
          rw [upd_s, if_pos (by omega), if_neg (by omega), if_pos rfl]
        · rw [upd_n _ _ q]
          by_cases q2 : 4 * m + j = 4 * i + t
          · obtain ⟨rfl, rfl⟩ : m = i ∧ j = t := by omega
            rw [upd_s, if_pos (by omega), if_pos rfl]
          · rw [upd_n _ _ q2, h4 m j hm hj]
            congr 1
            grind
set_option maxRecDepth 100000 in
set_option maxHeartbeats 4000000 in
theorem k_doSwaps_ok (S : amS) (a : Ar) (hA : Arr a.1 a.2.1 a.2.2) (hm : nRow (S.2.1 1) a) (i l : Nat) (hi : i < a.2.1) (hl : l < a.2.1) (hil : i ≠ l) : X shM mX11_doSwaps 0 [.ref 0, .int (nI i), .int (nI l), .null, .null] [] S (fun r S' => r = some (.int (nI i)) ∧ On S S' ∧ nRow (S'.2.1 1) (aSwap a i l)) := by
  obtain ⟨a1, a2, a3, a4, a5, a6, a7⟩ := id hA
  refine x_aload_n dX11_doSwaps_0 rfl ?_
  refine x_iload_n dX11_doSwaps_1 rfl ?_
  refine x_v1d (N := mX11_isPlane) dX11_doSwaps_2 ml_X11_151 nv_X11_isPlane rfl rfl (k_isPlane S a.2.1 a3 hm.2.1 _) ?_
  refine x_if_eqB 21 dX11_doSwaps_5 rfl (fun c5 => ?_) (fun c5 => ?_)
  · rw [(in_N _ (by omega)).mpr (InR_in hi)] at c5; cases c5
  · refine x_aload_n dX11_doSwaps_8 rfl ?_
    refine x_iload_n dX11_doSwaps_9 rfl ?_
    refine x_v1d (N := mX11_isPlane) dX11_doSwaps_10 ml_X11_151 nv_X11_isPlane rfl rfl (k_isPlane S a.2.1 a3 hm.2.1 _) ?_
    refine x_if_eqB 21 dX11_doSwaps_13 rfl (fun c13 => ?_) (fun c13 => ?_)
    · rw [(in_N _ (by omega)).mpr (InR_in hl)] at c13; cases c13
    · refine x_iload_n dX11_doSwaps_16 rfl ?_
      refine x_iload_n dX11_doSwaps_17 rfl ?_
      refine x_icmp_neN 24 dX11_doSwaps_18 rfl (by omega) (by omega) (fun c18 => ?_) (fun c18 => ?_)
      · refine x_ic _ ic_0 dX11_doSwaps_24 ?_
        refine x_istore_n dX11_doSwaps_25 rfl ?_
        refine x_st (sA_self S 1) ?_
        exact k_swp_l S a a3 i l hi hl hil _ (fun f hf => ⟨rfl, (On.rf S).sA f (Or.inl rfl), hf⟩) 4 0 _ _ (by omega) hm.1 hm.2.1 (fun m j h1 h2 => by rw [if_neg (by omega)]; exact hm.2.2 m j h1 h2)
      · exact absurd c18 hil
set_option maxRecDepth 100000 in
set_option maxHeartbeats 4000000 in
theorem k_doSwaps_bad (S : amS) (a : Ar) (hA : Arr a.1 a.2.1 a.2.2) (hm : nRow (S.2.1 1) a) (x y : Int32) (hx : ¬ (InR x a.2.1 ∧ InR y a.2.1 ∧ x ≠ y)) : X shM mX11_doSwaps 0 [.ref 0, .int x, .int y, .null, .null] [] S (fun r S' => r = some (.int (i32 (-2))) ∧ On S S' ∧ nRow (S'.2.1 1) a) := by
  obtain ⟨a1, a2, a3, a4, a5, a6, a7⟩ := id hA
  refine x_aload_n dX11_doSwaps_0 rfl ?_
  refine x_iload_n dX11_doSwaps_1 rfl ?_
  refine x_v1d (N := mX11_isPlane) dX11_doSwaps_2 ml_X11_151 nv_X11_isPlane rfl rfl (k_isPlane S a.2.1 a3 hm.2.1 _) ?_
  refine x_if_eqB 21 dX11_doSwaps_5 rfl (fun c5 => ?_) (fun c5 => ?_)
  · refine x_bi _ bi_m2 dX11_doSwaps_21 ?_
    refine x_iretI dX11_doSwaps_23 rfl ?_
    exact ⟨rfl, On.rf S, hm⟩
  · refine x_aload_n dX11_doSwaps_8 rfl ?_
    refine x_iload_n dX11_doSwaps_9 rfl ?_
    refine x_v1d (N := mX11_isPlane) dX11_doSwaps_10 ml_X11_151 nv_X11_isPlane rfl rfl (k_isPlane S a.2.1 a3 hm.2.1 _) ?_
    refine x_if_eqB 21 dX11_doSwaps_13 rfl (fun c13 => ?_) (fun c13 => ?_)
    · refine x_bi _ bi_m2 dX11_doSwaps_21 ?_
      refine x_iretI dX11_doSwaps_23 rfl ?_
      exact ⟨rfl, On.rf S, hm⟩
    · refine x_iload_n dX11_doSwaps_16 rfl ?_
      refine x_iload_n dX11_doSwaps_17 rfl ?_
      refine x_icmp_ne 24 dX11_doSwaps_18 rfl (fun c18 => ?_) (fun c18 => ?_)
      · exact absurd ⟨(in_N _ (by omega)).mp c5, (in_N _ (by omega)).mp c13, c18⟩ hx
      · refine x_bi _ bi_m2 dX11_doSwaps_21 ?_
        refine x_iretI dX11_doSwaps_23 rfl ?_
        exact ⟨rfl, On.rf S, hm⟩
