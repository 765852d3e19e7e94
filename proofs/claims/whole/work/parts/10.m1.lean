/-! THE REFERENCE, first part: small methods -/
/-- an arrangement: dimensions d, planes n, coefficients v -/
def okArr (d n : Nat) (v : Nat → Nat → Int) : Prop := 2 ≤ d ∧ d ≤ 4 ∧ n ≤ 9 ∧ (∀ i j, i < n → -3 ≤ v i j ∧ v i j ≤ 3) ∧ ∀ i j, i < n → d ≤ j → v i j = 0
/-- the reference's row 'now' holds it -/
def mArr (S : amS) (d n : Nat) (v : Nat → Nat → Int) : Prop := S.2.1 1 36 = nI d ∧ S.2.1 1 37 = nI n ∧ ∀ i j, i < n → j < 4 → S.2.1 1 (4 * i + j) = i32 (v i j)
set_option maxRecDepth 100000 in
set_option maxHeartbeats 4000000 in
theorem k_in (S : amS) (v a b : Int32) : X shM mX11_in 0 [.int v, .int a, .int b] [] S (fun r S' => r = some (.int (zB (decide (a ≤ v ∧ v ≤ b)))) ∧ S' = S) := by
  refine x_iload_n dX11_in_0 rfl ?_
  refine x_iload_n dX11_in_1 rfl ?_
  refine x_icmp_lt 14 dX11_in_2 rfl (fun c2 => ?_) (fun c2 => ?_)
  · refine x_ic _ ic_0 dX11_in_14 ?_
    first | refine x_zret0 dX11_in_15 rfl ?_
    exact ⟨by rw [zB_f]; exact decide_eq_false (fun z => Int32.not_lt.mpr z.1 c2), rfl⟩
  · refine x_iload_n dX11_in_5 rfl ?_
    refine x_iload_n dX11_in_6 rfl ?_
    refine x_icmp_gt 14 dX11_in_7 rfl (fun c7 => ?_) (fun c7 => ?_)
    · refine x_ic _ ic_0 dX11_in_14 ?_
      first | refine x_zret0 dX11_in_15 rfl ?_
      exact ⟨by rw [zB_f]; exact decide_eq_false (fun z => Int32.not_lt.mpr z.2 c7), rfl⟩
    · refine x_ic _ ic_1 dX11_in_10 ?_
      refine x_goto 15 dX11_in_11 rfl ?_
      refine x_zret1 dX11_in_15 rfl ?_
      exact ⟨by rw [zB_t]; exact decide_eq_true ⟨Int32.not_lt.mp c2, Int32.not_lt.mp c7⟩, rfl⟩
set_option maxRecDepth 100000 in
set_option maxHeartbeats 4000000 in
theorem k_has (S : amS) (s k : Nat) (hs : s < 512) (hk : k < 9) : X shM mX11_has 0 [.int (nI s), .int (nI k)] [] S (fun r S' => r = some (.int (zB (s.testBit k))) ∧ S' = S) := by
  refine x_iload_n dX11_has_0 rfl ?_
  refine x_iload_n dX11_has_1 rfl ?_
  refine x_ishrN dX11_has_2 (by omega) (by omega) ?_
  refine x_ic _ ic_1 dX11_has_3 ?_
  refine x_iandN dX11_has_4 ?_
  refine x_ic _ ic_1 dX11_has_5 ?_
  have hle : s / 2 ^ k &&& 1 ≤ 1 := Nat.and_le_right
  refine x_icmp_neN 13 dX11_has_6 rfl (by omega) (by omega) (fun c6 => ?_) (fun c6 => ?_)
  · refine x_ic _ ic_0 dX11_has_13 ?_
    refine x_zret0 dX11_has_14 rfl ?_
    exact ⟨by rw [zB_f]; exact Bool.eq_false_iff.mpr (fun z => c6 ((tb_iff s k).mpr z)), rfl⟩
  · refine x_ic _ ic_1 dX11_has_9 ?_
    refine x_goto 14 dX11_has_10 rfl ?_
    refine x_zret1 dX11_has_14 rfl ?_
    exact ⟨by rw [zB_t ((tb_iff s k).mp c6)], rfl⟩
set_option maxRecDepth 100000 in
set_option maxHeartbeats 4000000 in
theorem k_bits_l (S : amS) (t : Nat) (ht : t < 512) : ∀ (f s m : Nat), s ≤ f → s < 512 → m + pc9 s = pc9 t → X shM mX11_bits 4 [.int (nI t), .int (nI m), .int (nI s)] [] S (fun r S' => r = some (.int (nI (pc9 t))) ∧ S' = S) := by
  intro f
  induction f with
  | zero =>
    intro s m h1 h2 h3
    obtain rfl : s = 0 := by omega
    refine x_iload_n dX11_bits_4 rfl ?_
    refine x_if_eqN 20 dX11_bits_5 rfl (by omega) (fun c5 => ?_) (fun c5 => ?_)
    · refine x_iload_n dX11_bits_20 rfl ?_
      refine x_iretI dX11_bits_21 rfl ?_
      exact ⟨by rw [← h3]; rfl, rfl⟩
    · exact absurd rfl c5
  | succ f ih =>
    intro s m h1 h2 h3
    have hm : m ≤ 9 := by have := pc9_le t ht; omega
    refine x_iload_n dX11_bits_4 rfl ?_
    refine x_if_eqN 20 dX11_bits_5 rfl (by omega) (fun c5 => ?_) (fun c5 => ?_)
    · refine x_iload_n dX11_bits_20 rfl ?_
      refine x_iretI dX11_bits_21 rfl ?_
      subst c5
      exact ⟨by rw [← h3]; rfl, rfl⟩
    · refine x_iincN dX11_bits_8 rfl rfl ?_
      refine x_iload_n dX11_bits_11 rfl ?_
      refine x_iload_n dX11_bits_12 rfl ?_
      refine x_ic _ ic_1 dX11_bits_13 ?_
      refine x_isubN dX11_bits_14 (by omega) ?_
      refine x_iandN dX11_bits_15 ?_
      refine x_istore_n dX11_bits_16 rfl ?_
      refine x_goto 4 dX11_bits_17 rfl ?_
      obtain ⟨q1, q2⟩ := pc9_low s h2 c5
      exact ih (s &&& (s - 1)) (m + 1) (by omega) (by omega) (by omega)
set_option maxRecDepth 100000 in
set_option maxHeartbeats 4000000 in
theorem k_bits (S : amS) (t : Nat) (ht : t < 512) : X shM mX11_bits 0 [.int (nI t), .null, .null] [] S (fun r S' => r = some (.int (nI (pc9 t))) ∧ S' = S) := by
  refine x_ic _ ic_0 dX11_bits_0 ?_
  refine x_istore_n dX11_bits_1 rfl ?_
  refine x_iload_n dX11_bits_2 rfl ?_
  refine x_istore_n dX11_bits_3 rfl ?_
  exact k_bits_l S t ht t t 0 (Nat.le_refl t) ht (Nat.zero_add _)
set_option maxRecDepth 100000 in
set_option maxHeartbeats 4000000 in
theorem k_all (S : amS) (n : Nat) (hn : n ≤ 9) (h1 : S.2.1 1 37 = nI n) : X shM mX11_all 0 [.ref 0] [] S (fun r S' => r = some (.int (nI (2 ^ n - 1))) ∧ S' = S) := by
  refine x_ic _ ic_1 dX11_all_0 ?_
  refine x_aload_n dX11_all_1 rfl ?_
  refine x_getR dX11_all_2 fl_X11_7 rfl ?_
  refine x_bi _ bi_37 dX11_all_5 ?_
  refine x_ialdN dX11_all_7 rfl rfl (by omega) (h1) ?_
  refine x_ishl1 dX11_all_8 (by omega) ?_
  have hp := Nat.two_pow_pos n
  refine x_ic _ ic_1 dX11_all_9 ?_
  refine x_isubN dX11_all_10 (by omega) ?_
  refine x_iretI dX11_all_11 rfl ?_
  exact ⟨rfl, rfl⟩
set_option maxRecDepth 100000 in
set_option maxHeartbeats 4000000 in
theorem k_refuses (S : amS) (y : Int32) (k : Nat) (hk : k < 3) (hy : i32 (-2) - y = nI k) : X shM mX11_refuses 0 [.ref 0, .int y] [] S (fun r S' => r = some (.int y) ∧ S' = sA S 4 (upd (S.2.1 4) k (S.2.1 4 k + nI 1))) := by
  refine x_aload_n dX11_refuses_0 rfl ?_
  refine x_getR dX11_refuses_1 fl_X11_19 rfl ?_
  refine x_bi _ bi_m2 dX11_refuses_4 ?_
  refine x_iload_n dX11_refuses_6 rfl ?_
  refine x_isub dX11_refuses_7 ?_
  refine x_top hy ?_
  refine x_dup2 dX11_refuses_8 rfl rfl ?_
  refine x_ialdN dX11_refuses_9 rfl rfl (by omega) (rfl) ?_
  refine x_ic _ ic_1 dX11_refuses_10 ?_
  refine x_iadd dX11_refuses_11 ?_
  refine x_iastN dX11_refuses_12 rfl rfl (by omega) ?_
  refine x_iload_n dX11_refuses_13 rfl ?_
  refine x_iretI dX11_refuses_14 rfl ?_
  exact ⟨rfl, rfl⟩
theorem in_all (x : Int32) {N : Nat} (hN : N < 2 ^ 31) : (decide (nI 0 ≤ x ∧ x ≤ nI N)) = true ↔ ∃ k, k ≤ N ∧ x = nI k := by
  rw [decide_eq_true_eq]
  constructor
  · intro ⟨h1, h2⟩
    obtain ⟨j, h3, h4⟩ := nI_of2 (M := nI N) (n := N) (nI_toInt hN) (Int32.not_lt.mpr h1) h2
    exact ⟨j, h3, h4⟩
  · rintro ⟨k, h1, rfl⟩
    exact ⟨nI_le (Nat.zero_le _) (by omega), nI_le h1 hN⟩
set_option maxRecDepth 100000 in
set_option maxHeartbeats 4000000 in
theorem k_isSet (S : amS) (n : Nat) (hn : n ≤ 9) (h1 : S.2.1 1 37 = nI n) (x : Int32) : X shM mX11_isSet 0 [.ref 0, .int x] [] S (fun r S' => r = some (.int (zB (decide (nI 0 ≤ x ∧ x ≤ nI (2 ^ n - 1))))) ∧ S' = S) := by
  refine x_iload_n dX11_isSet_0 rfl ?_
  refine x_ic _ ic_0 dX11_isSet_1 ?_
  refine x_aload_n dX11_isSet_2 rfl ?_
  refine x_v0d (N := mX11_all) dX11_isSet_3 ml_X11_109 nv_X11_all rfl rfl (k_all S n hn h1) ?_
  refine x_s3d (N := mX11_in) dX11_isSet_6 ml_X11_113 ns_X11_in rfl (k_in S _ _ _) ?_
  refine x_zretB dX11_isSet_9 rfl ?_
  exact ⟨rfl, rfl⟩
