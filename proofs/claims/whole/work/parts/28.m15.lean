/-! THE REFERENCE: its state, and the small calls -/
abbrev Ar : Type := Nat × Nat × (Nat → Row)
def mPast (S : amS) (k : Nat) (b : Ar) : Prop := S.2.1 3 (38 * k + 36) = nI b.1 ∧ S.2.1 3 (38 * k + 37) = nI b.2.1 ∧ ∀ i j, i < b.2.1 → j < 4 → S.2.1 3 (38 * k + (4 * i + j)) = i32 (b.2.2 i j)
/-- the reference holds: an arrangement, those before, a text, counts, the last cause; its tables are of this arrangement, or not laid -/
def mCore (S : amS) (a : Ar) (hs : List Ar) (tx : List Nat) (u0 u1 u2 ck co : Int32) : Prop :=
  (Arr a.1 a.2.1 a.2.2 ∧ mNow S a.1 a.2.1 a.2.2) ∧ (S.1 0 3 = nI hs.length ∧ hs.length ≤ 6 ∧ ∀ (k : Nat) (b : Ar), hs[k]? = some b → Arr b.1 b.2.1 b.2.2 ∧ mPast S k b) ∧ (S.2.1 4 0 = u0 ∧ S.2.1 4 1 = u1 ∧ S.2.1 4 2 = u2) ∧
  (S.1 0 6 = nI tx.length ∧ tx.length ≤ 100 ∧ ∀ (k b : Nat), tx[k]? = some b → b ≤ 127 ∧ S.2.1 5 k = nI b) ∧ (S.1 0 7 = ck ∧ S.1 0 8 = co) ∧ (S.1 0 9 = nI 0 ∨ (S.1 0 9 = nI 1 ∧ laidM S a.2.1 a.2.2))
theorem mCore.keep {S S' : amS} {a : Ar} {hs : List Ar} {tx : List Nat} {u0 u1 u2 ck co : Int32} (h : mCore S a hs tx u0 u1 u2 ck co) (hA : ∀ i, i = 1 ∨ i = 3 ∨ i = 4 ∨ i = 5 ∨ i = 6 ∨ i = 8 ∨ i = 9 → S'.2.1 i = S.2.1 i) (hF : ∀ k, k = 3 ∨ k = 6 ∨ k = 7 ∨ k = 8 ∨ k = 9 ∨ k = 12 → S'.1 0 k = S.1 0 k) : mCore S' a hs tx u0 u1 u2 ck co := by
  unfold mCore mNow mPast laidM at h ⊢
  rw [hA 1 (by simp), hA 3 (by simp), hA 4 (by simp), hA 5 (by simp), hA 6 (by simp), hA 8 (by simp), hA 9 (by simp), hF 3 (by simp), hF 6 (by simp), hF 7 (by simp), hF 8 (by simp), hF 9 (by simp), hF 12 (by simp)]
  exact h
theorem mCore.fr {S S' : amS} {a : Ar} {hs : List Ar} {tx : List Nat} {u0 u1 u2 ck co : Int32} (h : mCore S a hs tx u0 u1 u2 ck co) (hf : Fr S S') (hl : S'.1 0 9 = nI 1 ∧ laidM S' a.2.1 a.2.2) : mCore S' a hs tx u0 u1 u2 ck co := by
  obtain ⟨h1, h2, h3, h4, h5, -⟩ := h
  refine ⟨?_, ?_, ?_, ?_, ?_, Or.inr hl⟩
  · exact ⟨h1.1, mNow_fr hf h1.2⟩
  · unfold mPast at h2 ⊢
    rw [hf.1 3 (by omega) (by omega) (by omega), hf.2.1 3 (by omega) (by omega) (by omega) (by omega)]
    exact h2
  · rw [hf.2.1 4 (by omega) (by omega) (by omega) (by omega)]; exact h3
  · rw [hf.1 6 (by omega) (by omega) (by omega), hf.2.1 5 (by omega) (by omega) (by omega) (by omega)]; exact h4
  · rw [hf.1 7 (by omega) (by omega) (by omega), hf.1 8 (by omega) (by omega) (by omega)]; exact h5
def InR (x : Int32) (n : Nat) : Prop := ∃ k, k < n ∧ x = nI k
theorem in_N (x : Int32) {n : Nat} (hn : n < 2 ^ 31) : decide (nI 0 ≤ x ∧ x ≤ i32 ((n : Int) - 1)) = true ↔ InR x n := by
  rw [decide_eq_true_eq]
  constructor
  · intro ⟨h1, h2⟩
    obtain ⟨j, h3, h4⟩ := nI_of (Int32.not_lt.mpr h1)
    subst h4
    refine ⟨j, ?_, rfl⟩
    rw [nI_i32, i32_le (by omega) (by omega)] at h2
    omega
  · rintro ⟨k, h1, rfl⟩
    refine ⟨nI_le (Nat.zero_le _) (by omega), ?_⟩
    rw [nI_i32, i32_le (by omega) (by omega)]
    omega
theorem in_R (x : Int32) {n : Nat} (hn : n < 2 ^ 31) : decide (nI 0 ≤ x ∧ x ≤ nI n) = true ↔ InR x (n + 1) := by
  rw [in_all x hn]
  constructor
  · rintro ⟨k, h1, h2⟩; exact ⟨k, by omega, h2⟩
  · rintro ⟨k, h1, h2⟩; exact ⟨k, by omega, h2⟩
theorem InR_in {n k : Nat} (h : k < n) : InR (nI k) n := ⟨k, h, rfl⟩
theorem InR_nI {n k : Nat} (hk : k < 2 ^ 31) (hn : n < 2 ^ 31) (h : InR (nI k) n) : k < n := by
  obtain ⟨j, h1, h2⟩ := h
  rw [nI_eq hk (by omega)] at h2
  omega
theorem k_bad (S : amS) (a : Ar) (hs : List Ar) (tx : List Nat) (u0 u1 u2 ck co : Int32) (hc : mCore S a hs tx u0 u1 u2 ck co) : X shM mX11_refuses 0 [.ref 0, .int (i32 (-2))] [] S (fun r S' => r = some (.int (i32 (-2))) ∧ mCore S' a hs tx (u0 + nI 1) u1 u2 ck co) := by
  refine x_mono ?_ (k_refuses S (i32 (-2)) 0 (by omega) (by decide))
  rintro _ _ ⟨rfl, rfl⟩
  obtain ⟨h1, h2, ⟨d0, d1, d2⟩, h4, h5, h6⟩ := hc
  refine ⟨rfl, h1, h2, ⟨?_, ?_, ?_⟩, h4, h5, h6⟩
  · show upd (S.2.1 4) 0 (S.2.1 4 0 + nI 1) 0 = _
    simp [upd, d0, d1, d2]
  · show upd (S.2.1 4) 0 (S.2.1 4 0 + nI 1) 1 = _
    simp [upd, d0, d1, d2]
  · show upd (S.2.1 4) 0 (S.2.1 4 0 + nI 1) 2 = _
    simp [upd, d0, d1, d2]
theorem k_no (S : amS) (a : Ar) (hs : List Ar) (tx : List Nat) (u0 u1 u2 ck co : Int32) (hc : mCore S a hs tx u0 u1 u2 ck co) : X shM mX11_refuses 0 [.ref 0, .int (i32 (-3))] [] S (fun r S' => r = some (.int (i32 (-3))) ∧ mCore S' a hs tx u0 (u1 + nI 1) u2 ck co) := by
  refine x_mono ?_ (k_refuses S (i32 (-3)) 1 (by omega) (by decide))
  rintro _ _ ⟨rfl, rfl⟩
  obtain ⟨h1, h2, ⟨d0, d1, d2⟩, h4, h5, h6⟩ := hc
  refine ⟨rfl, h1, h2, ⟨?_, ?_, ?_⟩, h4, h5, h6⟩
  · show upd (S.2.1 4) 1 (S.2.1 4 1 + nI 1) 0 = _
    simp [upd, d0, d1, d2]
  · show upd (S.2.1 4) 1 (S.2.1 4 1 + nI 1) 1 = _
    simp [upd, d0, d1, d2]
  · show upd (S.2.1 4) 1 (S.2.1 4 1 + nI 1) 2 = _
    simp [upd, d0, d1, d2]
theorem k_full (S : amS) (a : Ar) (hs : List Ar) (tx : List Nat) (u0 u1 u2 ck co : Int32) (hc : mCore S a hs tx u0 u1 u2 ck co) : X shM mX11_refuses 0 [.ref 0, .int (i32 (-4))] [] S (fun r S' => r = some (.int (i32 (-4))) ∧ mCore S' a hs tx u0 u1 (u2 + nI 1) ck co) := by
  refine x_mono ?_ (k_refuses S (i32 (-4)) 2 (by omega) (by decide))
  rintro _ _ ⟨rfl, rfl⟩
  obtain ⟨h1, h2, ⟨d0, d1, d2⟩, h4, h5, h6⟩ := hc
  refine ⟨rfl, h1, h2, ⟨?_, ?_, ?_⟩, h4, h5, h6⟩
  · show upd (S.2.1 4) 2 (S.2.1 4 2 + nI 1) 0 = _
    simp [upd, d0, d1, d2]
  · show upd (S.2.1 4) 2 (S.2.1 4 2 + nI 1) 1 = _
    simp [upd, d0, d1, d2]
  · show upd (S.2.1 4) 2 (S.2.1 4 2 + nI 1) 2 = _
    simp [upd, d0, d1, d2]
theorem k_layq (S : amS) (a : Ar) (hs : List Ar) (tx : List Nat) (u0 u1 u2 ck co : Int32) (hc : mCore S a hs tx u0 u1 u2 ck co) : X shM mX11_lay 0 [.ref 0, .null, .null] [] S (fun r S' => r = none ∧ mCore S' a hs tx u0 u1 u2 ck co ∧ laidM S' a.2.1 a.2.2 ∧ Fr S S') := by
  refine x_mono ?_ (k_lay S a.1 a.2.1 a.2.2 hc.1.1 hc.1.2 hc.2.2.2.2.2)
  rintro _ S' ⟨rfl, h1, h2, h3⟩
  exact ⟨rfl, hc.fr h1 ⟨h2, h3⟩, h3, h1⟩
set_option maxRecDepth 100000 in
set_option maxHeartbeats 4000000 in
theorem k_isPlane (S : amS) (N : Nat) (hN : N ≤ 9) (hM : S.2.1 1 37 = nI N) (x : Int32) : X shM mX11_isPlane 0 [.ref 0, .int x] [] S (fun q S' => q = some (.int (zB (decide (nI 0 ≤ x ∧ x ≤ i32 ((N : Int) - 1))))) ∧ S' = S) := by
  refine x_iload_n dX11_isPlane_0 rfl ?_
  refine x_ic _ ic_0 dX11_isPlane_1 ?_
  refine x_aload_n dX11_isPlane_2 rfl ?_
  refine x_getR dX11_isPlane_3 fl_X11_7 rfl ?_
  refine x_bi _ bi_37 dX11_isPlane_6 ?_
  refine x_ialdN dX11_isPlane_8 rfl rfl (by omega) (hM) ?_
  refine x_ic _ ic_1 dX11_isPlane_9 ?_
  refine x_isubZ dX11_isPlane_10 ?_
  refine x_s3d (N := mX11_in) dX11_isPlane_11 ml_X11_113 ns_X11_in rfl (k_in S _ _ _) ?_
  refine x_zretB dX11_isPlane_14 rfl ?_
  exact ⟨rfl, rfl⟩
set_option maxRecDepth 100000 in
set_option maxHeartbeats 4000000 in
theorem k_of_ok (S : amS) (a : Ar) (hs : List Ar) (tx : List Nat) (u0 u1 u2 ck co : Int32) (hc : mCore S a hs tx u0 u1 u2 ck co) (i j : Nat) (hi : i < a.2.1) (hj : j < a.1) : X shM mX11_of 0 [.ref 0, .int (nI i), .int (nI j)] [] S (fun r S' => r = some (.int (i32 (a.2.2 i j + (10 : Nat)))) ∧ mCore S' a hs tx u0 u1 u2 ck co) := by
  have hA := hc.1.1
  have hm := hc.1.2
  obtain ⟨a1, a2, a3, a4, a5, a6, a7⟩ := id hA
  refine x_aload_n dX11_of_0 rfl ?_
  refine x_iload_n dX11_of_1 rfl ?_
  refine x_v1d (N := mX11_isPlane) dX11_of_2 ml_X11_151 nv_X11_isPlane rfl rfl (k_isPlane S a.2.1 a3 hm.2.1 _) ?_
  refine x_if_eqB 41 dX11_of_5 rfl (fun c5 => ?_) (fun c5 => ?_)
  · rw [(in_N _ (by omega)).mpr (InR_in hi)] at c5; cases c5
  · refine x_iload_n dX11_of_8 rfl ?_
    refine x_ic _ ic_0 dX11_of_9 ?_
    refine x_aload_n dX11_of_10 rfl ?_
    refine x_getR dX11_of_11 fl_X11_7 rfl ?_
    refine x_bi _ bi_36 dX11_of_14 ?_
    refine x_ialdN dX11_of_16 rfl rfl (by omega) (hm.1) ?_
    refine x_ic _ ic_1 dX11_of_17 ?_
    refine x_isubZ dX11_of_18 ?_
    refine x_s3d (N := mX11_in) dX11_of_19 ml_X11_113 ns_X11_in rfl (k_in S _ _ _) ?_
    refine x_if_eqB 41 dX11_of_22 rfl (fun c22 => ?_) (fun c22 => ?_)
    · exact absurd (((in_N (nI j) (n := a.1) (by omega)).mpr (InR_in hj)).symm.trans c22) (by decide)
    · refine x_aload_n dX11_of_25 rfl ?_
      refine x_getR dX11_of_26 fl_X11_7 rfl ?_
      refine x_ic _ ic_4 dX11_of_29 ?_
      refine x_iload_n dX11_of_30 rfl ?_
      refine x_imulN dX11_of_31 ?_
      refine x_iload_n dX11_of_32 rfl ?_
      refine x_iaddN dX11_of_33 ?_
      refine x_ialdN dX11_of_34 rfl rfl (by omega) (hm.2.2 i j hi (by omega)) ?_
      refine x_bi _ bi_10 dX11_of_35 ?_
      refine x_iaddIN dX11_of_37 ?_
      refine x_goto 47 dX11_of_38 rfl ?_
      refine x_iretI dX11_of_47 rfl ?_
      exact ⟨rfl, hc⟩
set_option maxRecDepth 100000 in
set_option maxHeartbeats 4000000 in
theorem k_of_bad (S : amS) (a : Ar) (hs : List Ar) (tx : List Nat) (u0 u1 u2 ck co : Int32) (hc : mCore S a hs tx u0 u1 u2 ck co) (x y : Int32) (hxy : ¬ (InR x a.2.1 ∧ InR y a.1)) : X shM mX11_of 0 [.ref 0, .int x, .int y] [] S (fun r S' => r = some (.int (i32 (-2))) ∧ mCore S' a hs tx (u0 + nI 1) u1 u2 ck co) := by
  have hA := hc.1.1
  have hm := hc.1.2
  obtain ⟨a1, a2, a3, a4, a5, a6, a7⟩ := id hA
  refine x_aload_n dX11_of_0 rfl ?_
  refine x_iload_n dX11_of_1 rfl ?_
  refine x_v1d (N := mX11_isPlane) dX11_of_2 ml_X11_151 nv_X11_isPlane rfl rfl (k_isPlane S a.2.1 a3 hm.2.1 _) ?_
  refine x_if_eqB 41 dX11_of_5 rfl (fun c5 => ?_) (fun c5 => ?_)
  · refine x_aload_n dX11_of_41 rfl ?_
    refine x_bi _ bi_m2 dX11_of_42 ?_
    refine x_v1 (N := mX11_refuses) dX11_of_44 ml_X11_89 nv_X11_refuses rfl rfl (k_bad S a hs tx u0 u1 u2 ck co hc) ?_
    rintro _ S' ⟨rfl, hc'⟩
    refine x_iretI dX11_of_47 rfl ?_
    exact ⟨rfl, hc'⟩
  · refine x_iload_n dX11_of_8 rfl ?_
    refine x_ic _ ic_0 dX11_of_9 ?_
    refine x_aload_n dX11_of_10 rfl ?_
    refine x_getR dX11_of_11 fl_X11_7 rfl ?_
    refine x_bi _ bi_36 dX11_of_14 ?_
    refine x_ialdN dX11_of_16 rfl rfl (by omega) (hm.1) ?_
    refine x_ic _ ic_1 dX11_of_17 ?_
    refine x_isubZ dX11_of_18 ?_
    refine x_s3d (N := mX11_in) dX11_of_19 ml_X11_113 ns_X11_in rfl (k_in S _ _ _) ?_
    refine x_if_eqB 41 dX11_of_22 rfl (fun c22 => ?_) (fun c22 => ?_)
    · refine x_aload_n dX11_of_41 rfl ?_
      refine x_bi _ bi_m2 dX11_of_42 ?_
      refine x_v1 (N := mX11_refuses) dX11_of_44 ml_X11_89 nv_X11_refuses rfl rfl (k_bad S a hs tx u0 u1 u2 ck co hc) ?_
      rintro _ S' ⟨rfl, hc'⟩
      refine x_iretI dX11_of_47 rfl ?_
      exact ⟨rfl, hc'⟩
    · exact absurd ⟨(in_N _ (by omega)).mp c5, (in_N _ (by omega)).mp c22⟩ hxy
set_option maxRecDepth 100000 in
set_option maxHeartbeats 4000000 in
theorem k_rank_bad (S : amS) (a : Ar) (hs : List Ar) (tx : List Nat) (u0 u1 u2 ck co : Int32) (hc : mCore S a hs tx u0 u1 u2 ck co) (x : Int32) (hx : ¬ InR x (2 ^ a.2.1)) : X shM mX11_rank 0 [.ref 0, .int x] [] S (fun r S' => r = some (.int (i32 (-2))) ∧ mCore S' a hs tx (u0 + nI 1) u1 u2 ck co) := by
  have hA := hc.1.1
  have hm := hc.1.2
  obtain ⟨a1, a2, a3, a4, a5, a6, a7⟩ := id hA
  have h512 := pow9 a3
  refine x_aload_n dX11_rank_0 rfl ?_
  refine x_iload_n dX11_rank_1 rfl ?_
  refine x_v1d (N := mX11_isSet) dX11_rank_2 ml_X11_193 nv_X11_isSet rfl rfl (k_isSet S a.2.1 a3 hm.2.1 _) ?_
  refine x_if_neB 15 dX11_rank_5 rfl (fun c5 => ?_) (fun c5 => ?_)
  · have hp := Nat.two_pow_pos a.2.1
    rw [in_R _ (by omega), show 2 ^ a.2.1 - 1 + 1 = 2 ^ a.2.1 by omega] at c5
    exact absurd c5 hx
  · refine x_aload_n dX11_rank_8 rfl ?_
    refine x_bi _ bi_m2 dX11_rank_9 ?_
    refine x_v1 (N := mX11_refuses) dX11_rank_11 ml_X11_89 nv_X11_refuses rfl rfl (k_bad S a hs tx u0 u1 u2 ck co hc) ?_
    rintro _ S' ⟨rfl, hc'⟩
    refine x_iretI dX11_rank_14 rfl ?_
    exact ⟨rfl, hc'⟩
set_option maxRecDepth 100000 in
set_option maxHeartbeats 4000000 in
theorem k_closed_bad (S : amS) (a : Ar) (hs : List Ar) (tx : List Nat) (u0 u1 u2 ck co : Int32) (hc : mCore S a hs tx u0 u1 u2 ck co) (x : Int32) (hx : ¬ InR x (2 ^ a.2.1)) : X shM mX11_closed 0 [.ref 0, .int x] [] S (fun r S' => r = some (.int (i32 (-2))) ∧ mCore S' a hs tx (u0 + nI 1) u1 u2 ck co) := by
  have hA := hc.1.1
  have hm := hc.1.2
  obtain ⟨a1, a2, a3, a4, a5, a6, a7⟩ := id hA
  have h512 := pow9 a3
  refine x_aload_n dX11_closed_0 rfl ?_
  refine x_iload_n dX11_closed_1 rfl ?_
  refine x_v1d (N := mX11_isSet) dX11_closed_2 ml_X11_193 nv_X11_isSet rfl rfl (k_isSet S a.2.1 a3 hm.2.1 _) ?_
  refine x_if_neB 15 dX11_closed_5 rfl (fun c5 => ?_) (fun c5 => ?_)
  · have hp := Nat.two_pow_pos a.2.1
    rw [in_R _ (by omega), show 2 ^ a.2.1 - 1 + 1 = 2 ^ a.2.1 by omega] at c5
    exact absurd c5 hx
  · refine x_aload_n dX11_closed_8 rfl ?_
    refine x_bi _ bi_m2 dX11_closed_9 ?_
    refine x_v1 (N := mX11_refuses) dX11_closed_11 ml_X11_89 nv_X11_refuses rfl rfl (k_bad S a hs tx u0 u1 u2 ck co hc) ?_
    rintro _ S' ⟨rfl, hc'⟩
    refine x_iretI dX11_closed_14 rfl ?_
    exact ⟨rfl, hc'⟩
set_option maxRecDepth 100000 in
set_option maxHeartbeats 4000000 in
theorem k_rank_ok (S : amS) (a : Ar) (hs : List Ar) (tx : List Nat) (u0 u1 u2 ck co : Int32) (hc : mCore S a hs tx u0 u1 u2 ck co) (s : Nat) (hs0 : s < 2 ^ a.2.1) : X shM mX11_rank 0 [.ref 0, .int (nI s)] [] S (fun r S' => r = some (.int (nI (rkV a.2.2 s))) ∧ mCore S' a hs tx u0 u1 u2 ck co) := by
  have hA := hc.1.1
  have hm := hc.1.2
  obtain ⟨a1, a2, a3, a4, a5, a6, a7⟩ := id hA
  have h512 := pow9 a3
  have hr9 : ∀ t, t < 2 ^ a.2.1 → rkV a.2.2 t ≤ 9 := fun t ht => Nat.le_trans (rkV_le (by omega)) (pc9_le t (by omega))
  refine x_aload_n dX11_rank_0 rfl ?_
  refine x_iload_n dX11_rank_1 rfl ?_
  refine x_v1d (N := mX11_isSet) dX11_rank_2 ml_X11_193 nv_X11_isSet rfl rfl (k_isSet S a.2.1 a3 hm.2.1 _) ?_
  refine x_if_neB 15 dX11_rank_5 rfl (fun c5 => ?_) (fun c5 => ?_)
  · refine x_aload_n dX11_rank_15 rfl ?_
    refine x_v0 (N := mX11_lay) dX11_rank_16 ml_X11_187 nv_X11_lay rfl rfl (k_layq S a hs tx u0 u1 u2 ck co hc) ?_
    rintro _ S' ⟨rfl, hc', hl, hf⟩
    refine x_aload_n dX11_rank_19 rfl ?_
    refine x_getR dX11_rank_20 fl_X11_29 rfl ?_
    refine x_iload_n dX11_rank_23 rfl ?_
    refine x_ialdN dX11_rank_24 rfl rfl (by omega) (hl.1 s hs0) ?_
    refine x_iretI dX11_rank_25 rfl ?_
    exact ⟨rfl, hc'⟩
  · have hp := Nat.two_pow_pos a.2.1
    rw [Bool.eq_false_iff, ne_eq, in_R _ (by omega), show 2 ^ a.2.1 - 1 + 1 = 2 ^ a.2.1 by omega] at c5
    exact absurd (InR_in hs0) c5
set_option maxRecDepth 100000 in
set_option maxHeartbeats 4000000 in
theorem k_closed_ok (S : amS) (a : Ar) (hs : List Ar) (tx : List Nat) (u0 u1 u2 ck co : Int32) (hc : mCore S a hs tx u0 u1 u2 ck co) (s : Nat) (hs0 : s < 2 ^ a.2.1) : X shM mX11_closed 0 [.ref 0, .int (nI s)] [] S (fun r S' => r = some (.int (nI (clB (rkV a.2.2) s a.2.1))) ∧ mCore S' a hs tx u0 u1 u2 ck co) := by
  have hA := hc.1.1
  have hm := hc.1.2
  obtain ⟨a1, a2, a3, a4, a5, a6, a7⟩ := id hA
  have h512 := pow9 a3
  have hr9 : ∀ t, t < 2 ^ a.2.1 → rkV a.2.2 t ≤ 9 := fun t ht => Nat.le_trans (rkV_le (by omega)) (pc9_le t (by omega))
  refine x_aload_n dX11_closed_0 rfl ?_
  refine x_iload_n dX11_closed_1 rfl ?_
  refine x_v1d (N := mX11_isSet) dX11_closed_2 ml_X11_193 nv_X11_isSet rfl rfl (k_isSet S a.2.1 a3 hm.2.1 _) ?_
  refine x_if_neB 15 dX11_closed_5 rfl (fun c5 => ?_) (fun c5 => ?_)
  · refine x_aload_n dX11_closed_15 rfl ?_
    refine x_v0 (N := mX11_lay) dX11_closed_16 ml_X11_187 nv_X11_lay rfl rfl (k_layq S a hs tx u0 u1 u2 ck co hc) ?_
    rintro _ S' ⟨rfl, hc', hl, hf⟩
    refine x_aload_n dX11_closed_19 rfl ?_
    refine x_iload_n dX11_closed_20 rfl ?_
    refine x_v1d (N := mX11_closedOf) dX11_closed_21 ml_X11_196 nv_X11_closedOf rfl rfl (k_closedOf S' a.2.1 (rkV a.2.2) a3 hc'.1.2.2.1 hl.1 hr9 s hs0) ?_
    refine x_iretI dX11_closed_24 rfl ?_
    exact ⟨rfl, hc'⟩
  · have hp := Nat.two_pow_pos a.2.1
    rw [Bool.eq_false_iff, ne_eq, in_R _ (by omega), show 2 ^ a.2.1 - 1 + 1 = 2 ^ a.2.1 by omega] at c5
    exact absurd (InR_in hs0) c5
