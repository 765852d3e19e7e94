/-! THE CLASS: frames, small methods -/
/-- only these objects and rows may have changed (long rows are free) -/
def FO (os rs : List Nat) (S S' : amS) : Prop := (∀ o, o ∉ os → S'.1 o = S.1 o) ∧ (∀ i, i ∉ rs → S'.2.1 i = S.2.1 i) ∧ S'.2.2.1 = S.2.2.1
theorem FO.rf (os rs : List Nat) (S : amS) : FO os rs S S := ⟨fun _ _ => rfl, fun _ _ => rfl, rfl⟩
theorem FO.tr {os rs : List Nat} {S S' S2 : amS} (h : FO os rs S S') (g : FO os rs S' S2) : FO os rs S S2 := ⟨fun o ho => (g.1 o ho).trans (h.1 o ho), fun i hi => (g.2.1 i hi).trans (h.2.1 i hi), g.2.2.trans h.2.2⟩
theorem FO.mono {os rs os' rs' : List Nat} {S S' : amS} (h : FO os rs S S') (h1 : ∀ o, o ∈ os → o ∈ os') (h2 : ∀ o, o ∈ rs → o ∈ rs') : FO os' rs' S S' := ⟨fun o ho => h.1 o (fun z => ho (h1 o z)), fun i hi => h.2.1 i (fun z => hi (h2 i z)), h.2.2⟩
theorem FO.sA {os rs : List Nat} {S S' : amS} (h : FO os rs S S') {r : Nat} (g : Nat → Int32) (hr : r ∈ rs) : FO os rs S (sA S' r g) := ⟨h.1, fun i hi => (va_up_n _ _ (fun e => hi (by rw [e]; exact hr))).trans (h.2.1 i hi), h.2.2⟩
theorem FO.sF {os rs : List Nat} {S S' : amS} (h : FO os rs S S') {o : Nat} (g : Nat → Int32) (hr : o ∈ os) : FO os rs S (sF S' o g) := ⟨fun i hi => (va_up_n _ _ (fun e => hi (by rw [e]; exact hr))).trans (h.1 i hi), h.2.1, h.2.2⟩
theorem FO.sL {os rs : List Nat} {S S' : amS} (h : FO os rs S S') {r : Nat} (g : Nat → Int64) : FO os rs S (sL S' r g) := h
theorem sF_at (S : amS) (o : Nat) (f : Nat → Int32) : (sF S o f).1 o = f := va_up_s _ _ _
theorem sF_ne (S : amS) {o q : Nat} (f : Nat → Int32) (h : q ≠ o) : (sF S o f).1 q = S.1 q := va_up_n _ _ h
theorem sA_ne (S : amS) {o q : Nat} (f : Nat → Int32) (h : q ≠ o) : (sA S o f).2.1 q = S.2.1 q := va_up_n _ _ h
theorem in_L (x : Int32) {n : Nat} (hn : n < 2 ^ 31) : decide (nI 0 ≤ x ∧ x < nI n) = true ↔ InR x n := by
  rw [decide_eq_true_eq]
  constructor
  · intro ⟨h1, h2⟩
    obtain ⟨j, h3, h4⟩ := nI_of (Int32.not_lt.mpr h1)
    subst h4
    refine ⟨j, ?_, rfl⟩
    rw [nI_i32, nI_i32, i32_lt (by omega) (by omega)] at h2
    omega
  · rintro ⟨k, h1, rfl⟩
    exact ⟨nI_le (Nat.zero_le _) (by omega), nI_lt h1 hn⟩
/-- an arrangement in an object -/
def aObj (S : amS) (o r : Nat) (a : Ar) : Prop := S.1 o 1 = nI a.1 ∧ S.1 o 2 = nI a.2.1 ∧ ∀ i j, i < a.2.1 → j < 4 → S.2.1 r (4 * i + j) = i32 (a.2.2 i j)
theorem aObj.fo {os rs : List Nat} {S S' : amS} {o r : Nat} {a : Ar} (h : aObj S o r a) (f : FO os rs S S') (ho : o ∉ os) (hr : r ∉ rs) : aObj S' o r a := by
  unfold aObj at h ⊢
  rw [f.1 o ho, f.2.1 r hr]
  exact h
/-- a listing -/
def LsX (S : amS) (o r : Nat) (L : List Nat) : Prop := S.1 o 1 = nI L.length ∧ ∀ (k c : Nat), L[k]? = some c → S.2.1 r k = nI c
theorem LsX.fo {os rs : List Nat} {S S' : amS} {o r : Nat} {L : List Nat} (h : LsX S o r L) (f : FO os rs S S') (ho : o ∉ os) (hr : r ∉ rs) : LsX S' o r L := by
  unfold LsX at h ⊢
  rw [f.1 o ho, f.2.1 r hr]
  exact h
def bcF (x : Int32) : Int32 :=
  let x1 := x - ((x.toUInt32 >>> ((nI 1).toUInt32 &&& Int32.toUInt32 31)).toInt32 &&& 1431655765)
  let x2 := (x1 &&& 858993459) + ((x1.toUInt32 >>> ((nI 2).toUInt32 &&& Int32.toUInt32 31)).toInt32 &&& 858993459)
  let x3 := (x2 + (x2.toUInt32 >>> ((nI 4).toUInt32 &&& Int32.toUInt32 31)).toInt32) &&& 252645135
  let x4 := x3 + (x3.toUInt32 >>> ((nI 8).toUInt32 &&& Int32.toUInt32 31)).toInt32
  let x5 := x4 + (x4.toUInt32 >>> ((nI 16).toUInt32 &&& Int32.toUInt32 31)).toInt32
  x5 &&& nI 63
theorem bc9 : ∀ t, t < 512 → bcF (nI t) = nI (pc9 t) := by decide +kernel
set_option maxRecDepth 100000 in
set_option maxHeartbeats 4000000 in
theorem kx_bc (S : amS) (t : Nat) (ht : t < 512) : X shX mJ6_bitCount_0f7a4 0 [.int (nI t)] [] S (fun r S' => r = some (.int (nI (pc9 t))) ∧ S' = S) := by
  refine x_iload_n dJ6_bitCount_0f7a4_0 rfl ?_
  refine x_iload_n dJ6_bitCount_0f7a4_1 rfl ?_
  refine x_ic _ ic_1 dJ6_bitCount_0f7a4_2 ?_
  refine x_iushr dJ6_bitCount_0f7a4_3 ?_
  refine x_ldcw cn_J6_265 dJ6_bitCount_0f7a4_4 ?_
  refine x_iand dJ6_bitCount_0f7a4_7 ?_
  refine x_isub dJ6_bitCount_0f7a4_8 ?_
  refine x_istore_n dJ6_bitCount_0f7a4_9 rfl ?_
  refine x_iload_n dJ6_bitCount_0f7a4_10 rfl ?_
  refine x_ldcw cn_J6_266 dJ6_bitCount_0f7a4_11 ?_
  refine x_iand dJ6_bitCount_0f7a4_14 ?_
  refine x_iload_n dJ6_bitCount_0f7a4_15 rfl ?_
  refine x_ic _ ic_2 dJ6_bitCount_0f7a4_16 ?_
  refine x_iushr dJ6_bitCount_0f7a4_17 ?_
  refine x_ldcw cn_J6_266 dJ6_bitCount_0f7a4_18 ?_
  refine x_iand dJ6_bitCount_0f7a4_21 ?_
  refine x_iadd dJ6_bitCount_0f7a4_22 ?_
  refine x_istore_n dJ6_bitCount_0f7a4_23 rfl ?_
  refine x_iload_n dJ6_bitCount_0f7a4_24 rfl ?_
  refine x_iload_n dJ6_bitCount_0f7a4_25 rfl ?_
  refine x_ic _ ic_4 dJ6_bitCount_0f7a4_26 ?_
  refine x_iushr dJ6_bitCount_0f7a4_27 ?_
  refine x_iadd dJ6_bitCount_0f7a4_28 ?_
  refine x_ldcw cn_J6_267 dJ6_bitCount_0f7a4_29 ?_
  refine x_iand dJ6_bitCount_0f7a4_32 ?_
  refine x_istore_n dJ6_bitCount_0f7a4_33 rfl ?_
  refine x_iload_n dJ6_bitCount_0f7a4_34 rfl ?_
  refine x_iload_n dJ6_bitCount_0f7a4_35 rfl ?_
  refine x_bi _ bi_8 dJ6_bitCount_0f7a4_36 ?_
  refine x_iushr dJ6_bitCount_0f7a4_38 ?_
  refine x_iadd dJ6_bitCount_0f7a4_39 ?_
  refine x_istore_n dJ6_bitCount_0f7a4_40 rfl ?_
  refine x_iload_n dJ6_bitCount_0f7a4_41 rfl ?_
  refine x_iload_n dJ6_bitCount_0f7a4_42 rfl ?_
  refine x_bi _ bi_16 dJ6_bitCount_0f7a4_43 ?_
  refine x_iushr dJ6_bitCount_0f7a4_45 ?_
  refine x_iadd dJ6_bitCount_0f7a4_46 ?_
  refine x_istore_n dJ6_bitCount_0f7a4_47 rfl ?_
  refine x_iload_n dJ6_bitCount_0f7a4_48 rfl ?_
  refine x_bi _ bi_63 dJ6_bitCount_0f7a4_49 ?_
  refine x_iand dJ6_bitCount_0f7a4_51 ?_
  refine x_iretI dJ6_bitCount_0f7a4_52 rfl ?_
  exact ⟨congrArg (fun z => some (Value.int z)) (bc9 t ht), rfl⟩
set_option maxRecDepth 100000 in
set_option maxHeartbeats 4000000 in
theorem kx_all (S : amS) (n : Nat) (hn : n ≤ 9) (h1 : S.1 1 2 = nI n) : X shX mX1_all 0 [.ref 1] [] S (fun r S' => r = some (.int (nI (2 ^ n - 1))) ∧ S' = S) := by
  refine x_ic _ ic_1 dX1_all_0 ?_
  refine x_aload_n dX1_all_1 rfl ?_
  refine x_getIV dX1_all_2 fl_X1_19 rfl (h1) ?_
  refine x_ishl1 dX1_all_5 (by omega) ?_
  refine x_ic _ ic_1 dX1_all_6 ?_
  have hp := Nat.two_pow_pos n
  refine x_isubN dX1_all_7 (by omega) ?_
  refine x_iretI dX1_all_8 rfl ?_
  exact ⟨rfl, rfl⟩
set_option maxRecDepth 100000 in
set_option maxHeartbeats 4000000 in
theorem kx_has (S : amS) (n : Nat) (hn : n ≤ 9) (h1 : S.1 1 2 = nI n) (x : Int32) : X shX mX1_has 0 [.ref 1, .int x] [] S (fun r S' => r = some (.int (zB (decide (nI 0 ≤ x ∧ x < nI n)))) ∧ S' = S) := by
  refine x_iload_n dX1_has_0 rfl ?_
  refine x_if_lt 16 dX1_has_1 rfl (fun c1 => ?_) (fun c1 => ?_)
  · refine x_ic _ ic_0 dX1_has_16 ?_
    refine x_zret0 dX1_has_17 rfl ?_
    exact ⟨by rw [zB_f]; exact decide_eq_false (fun z => Int32.not_lt.mpr z.1 c1), rfl⟩
  · refine x_iload_n dX1_has_4 rfl ?_
    refine x_aload_n dX1_has_5 rfl ?_
    refine x_getIV dX1_has_6 fl_X1_19 rfl (h1) ?_
    refine x_icmp_ge 16 dX1_has_9 rfl (fun c9 => ?_) (fun c9 => ?_)
    · refine x_ic _ ic_0 dX1_has_16 ?_
      refine x_zret0 dX1_has_17 rfl ?_
      exact ⟨by rw [zB_f]; exact decide_eq_false (fun z => Int32.not_le.mpr z.2 c9), rfl⟩
    · refine x_ic _ ic_1 dX1_has_12 ?_
      refine x_goto 17 dX1_has_13 rfl ?_
      refine x_zret1 dX1_has_17 rfl ?_
      exact ⟨by rw [zB_t]; exact decide_eq_true ⟨Int32.not_lt.mp c1, Int32.not_le.mp c9⟩, rfl⟩
set_option maxRecDepth 100000 in
set_option maxHeartbeats 4000000 in
theorem kx_hasAll (S : amS) (n : Nat) (hn : n ≤ 9) (h1 : S.1 1 2 = nI n) (x : Int32) : X shX mX1_hasAll 0 [.ref 1, .int x] [] S (fun r S' => r = some (.int (zB (decide (nI 0 ≤ x ∧ x ≤ nI (2 ^ n - 1))))) ∧ S' = S) := by
  refine x_iload_n dX1_hasAll_0 rfl ?_
  refine x_if_lt 16 dX1_hasAll_1 rfl (fun c1 => ?_) (fun c1 => ?_)
  · refine x_ic _ ic_0 dX1_hasAll_16 ?_
    refine x_zret0 dX1_hasAll_17 rfl ?_
    exact ⟨by rw [zB_f]; exact decide_eq_false (fun z => Int32.not_lt.mpr z.1 c1), rfl⟩
  · refine x_iload_n dX1_hasAll_4 rfl ?_
    refine x_aload_n dX1_hasAll_5 rfl ?_
    refine x_v0d (N := mX1_all) dX1_hasAll_6 ml_X1_22 nv_X1_all rfl rfl (kx_all S n hn h1) ?_
    refine x_icmp_gt 16 dX1_hasAll_9 rfl (fun c9 => ?_) (fun c9 => ?_)
    · refine x_ic _ ic_0 dX1_hasAll_16 ?_
      refine x_zret0 dX1_hasAll_17 rfl ?_
      exact ⟨by rw [zB_f]; exact decide_eq_false (fun z => Int32.not_lt.mpr z.2 c9), rfl⟩
    · refine x_ic _ ic_1 dX1_hasAll_12 ?_
      refine x_goto 17 dX1_hasAll_13 rfl ?_
      refine x_zret1 dX1_hasAll_17 rfl ?_
      exact ⟨by rw [zB_t]; exact decide_eq_true ⟨Int32.not_lt.mp c1, Int32.not_lt.mp c9⟩, rfl⟩
set_option maxRecDepth 100000 in
set_option maxHeartbeats 4000000 in
theorem kx_at (S : amS) (i j : Nat) (hi : i < 9) (hj : j < 4) (y : Int32) (hy : S.2.1 2 (4 * i + j) = y) : X shX mX1_at 0 [.ref 1, .int (nI i), .int (nI j)] [] S (fun r S' => r = some (.int (y)) ∧ S' = S) := by
  refine x_aload_n dX1_at_0 rfl ?_
  refine x_getR dX1_at_1 fl_X1_9 rfl ?_
  refine x_iload_n dX1_at_4 rfl ?_
  refine x_ic _ ic_4 dX1_at_5 ?_
  refine x_imulN dX1_at_6 ?_
  refine x_iload_n dX1_at_7 rfl ?_
  refine x_iaddN dX1_at_8 ?_
  refine x_ialdN dX1_at_9 rfl rfl (by omega) ((show S.2.1 2 (i * 4 + j) = y by rw [Nat.mul_comm i 4]; exact hy)) ?_
  refine x_iretI dX1_at_10 rfl ?_
  exact ⟨rfl, rfl⟩
set_option maxRecDepth 100000 in
set_option maxHeartbeats 4000000 in
theorem kx_isC (S : amS) (x : Int32) : X shX mX1_isCoefficient 0 [.int x] [] S (fun r S' => r = some (.int (zB (decide (i32 (-3) ≤ x ∧ x ≤ nI 3)))) ∧ S' = S) := by
  refine x_iload_n dX1_isCoefficient_0 rfl ?_
  refine x_bi _ bi_m3 dX1_isCoefficient_1 ?_
  refine x_icmp_lt 15 dX1_isCoefficient_3 rfl (fun c3 => ?_) (fun c3 => ?_)
  · refine x_ic _ ic_0 dX1_isCoefficient_15 ?_
    refine x_zret0 dX1_isCoefficient_16 rfl ?_
    exact ⟨by rw [zB_f]; exact decide_eq_false (fun z => Int32.not_lt.mpr z.1 c3), rfl⟩
  · refine x_iload_n dX1_isCoefficient_6 rfl ?_
    refine x_ic _ ic_3 dX1_isCoefficient_7 ?_
    refine x_icmp_gt 15 dX1_isCoefficient_8 rfl (fun c8 => ?_) (fun c8 => ?_)
    · refine x_ic _ ic_0 dX1_isCoefficient_15 ?_
      refine x_zret0 dX1_isCoefficient_16 rfl ?_
      exact ⟨by rw [zB_f]; exact decide_eq_false (fun z => Int32.not_lt.mpr z.2 c8), rfl⟩
    · refine x_ic _ ic_1 dX1_isCoefficient_11 ?_
      refine x_goto 16 dX1_isCoefficient_12 rfl ?_
      refine x_zret1 dX1_isCoefficient_16 rfl ?_
      exact ⟨by rw [zB_t]; exact decide_eq_true ⟨Int32.not_lt.mp c3, Int32.not_lt.mp c8⟩, rfl⟩
set_option maxRecDepth 100000 in
set_option maxHeartbeats 4000000 in
theorem kx_ref_bad (S : amS) : X shX mX10_refused 0 [.ref 0, .int (i32 (-2))] [] S (fun r S' => r = some (.int (i32 (-2))) ∧ S' = sF S 0 (upd (S.1 0) 9 (S.1 0 9 + nI 1))) := by
  refine x_iload_n dX10_refused_0 rfl ?_
  refine x_bi _ bi_m2 dX10_refused_1 ?_
  refine x_icmp_neI 19 dX10_refused_3 rfl (by omega) (by omega) (fun c3 => ?_) (fun c3 => ?_)
  · exact absurd rfl c3
  · refine x_aload_n dX10_refused_6 rfl ?_
    refine x_dup dX10_refused_7 rfl ?_
    refine x_getI dX10_refused_8 fl_X10_237 rfl ?_
    refine x_ic _ ic_1 dX10_refused_11 ?_
    refine x_iadd dX10_refused_12 ?_
    refine x_put dX10_refused_13 fp_X10_237 rfl rfl rfl ?_
    refine x_goto 48 dX10_refused_16 rfl ?_
    refine x_iload_n dX10_refused_48 rfl ?_
    refine x_iretI dX10_refused_49 rfl ?_
    exact ⟨rfl, rfl⟩
set_option maxRecDepth 100000 in
set_option maxHeartbeats 4000000 in
theorem kx_ref_no (S : amS) : X shX mX10_refused 0 [.ref 0, .int (i32 (-3))] [] S (fun r S' => r = some (.int (i32 (-3))) ∧ S' = sF S 0 (upd (S.1 0) 10 (S.1 0 10 + nI 1))) := by
  refine x_iload_n dX10_refused_0 rfl ?_
  refine x_bi _ bi_m2 dX10_refused_1 ?_
  refine x_icmp_neI 19 dX10_refused_3 rfl (by omega) (by omega) (fun c3 => ?_) (fun c3 => ?_)
  · refine x_iload_n dX10_refused_19 rfl ?_
    refine x_bi _ bi_m3 dX10_refused_20 ?_
    refine x_icmp_neI 38 dX10_refused_22 rfl (by omega) (by omega) (fun c22 => ?_) (fun c22 => ?_)
    · exact absurd rfl c22
    · refine x_aload_n dX10_refused_25 rfl ?_
      refine x_dup dX10_refused_26 rfl ?_
      refine x_getI dX10_refused_27 fl_X10_240 rfl ?_
      refine x_ic _ ic_1 dX10_refused_30 ?_
      refine x_iadd dX10_refused_31 ?_
      refine x_put dX10_refused_32 fp_X10_240 rfl rfl rfl ?_
      refine x_goto 48 dX10_refused_35 rfl ?_
      refine x_iload_n dX10_refused_48 rfl ?_
      refine x_iretI dX10_refused_49 rfl ?_
      exact ⟨rfl, rfl⟩
  · exact absurd c3 (by decide)
set_option maxRecDepth 100000 in
set_option maxHeartbeats 4000000 in
theorem kx_ref_full (S : amS) : X shX mX10_refused 0 [.ref 0, .int (i32 (-4))] [] S (fun r S' => r = some (.int (i32 (-4))) ∧ S' = sF S 0 (upd (S.1 0) 11 (S.1 0 11 + nI 1))) := by
  refine x_iload_n dX10_refused_0 rfl ?_
  refine x_bi _ bi_m2 dX10_refused_1 ?_
  refine x_icmp_neI 19 dX10_refused_3 rfl (by omega) (by omega) (fun c3 => ?_) (fun c3 => ?_)
  · refine x_iload_n dX10_refused_19 rfl ?_
    refine x_bi _ bi_m3 dX10_refused_20 ?_
    refine x_icmp_neI 38 dX10_refused_22 rfl (by omega) (by omega) (fun c22 => ?_) (fun c22 => ?_)
    · refine x_aload_n dX10_refused_38 rfl ?_
      refine x_dup dX10_refused_39 rfl ?_
      refine x_getI dX10_refused_40 fl_X10_243 rfl ?_
      refine x_ic _ ic_1 dX10_refused_43 ?_
      refine x_iadd dX10_refused_44 ?_
      refine x_put dX10_refused_45 fp_X10_243 rfl rfl rfl ?_
      refine x_iload_n dX10_refused_48 rfl ?_
      refine x_iretI dX10_refused_49 rfl ?_
      exact ⟨rfl, rfl⟩
    · exact absurd c22 (by decide)
  · exact absurd c3 (by decide)
set_option maxRecDepth 100000 in
set_option maxHeartbeats 4000000 in
theorem kx_fill_28_l (S : amS) (Q : Option Value → amS → Prop) (hq : ∀ g, (∀ k, k < 9 → g k = nI 0) → Q none (sA S 28 g)) : ∀ (e t : Nat) (g : Nat → Int32), t + e = 9 → (∀ k, k < t → g k = nI 0) → X shX mJ7_fill_53178 5 [.ref 28, .int (nI 0), .int (nI t), .int (nI 9)] [] (sA S 28 g) Q := by
  intro e
  induction e with
  | zero =>
    intro t g h1 h2
    obtain rfl : t = 9 := by omega
    refine x_iload_n dJ7_fill_53178_5 rfl ?_
    refine x_iload_n dJ7_fill_53178_6 rfl ?_
    refine x_icmp_geN 20 dJ7_fill_53178_7 rfl (by omega) (by omega) (fun c7 => ?_) (fun c7 => ?_)
    · refine x_ret dJ7_fill_53178_20 rfl ?_
      exact hq g h2
    · exact absurd c7 (by omega)
  | succ e ih =>
    intro t g h1 h2
    refine x_iload_n dJ7_fill_53178_5 rfl ?_
    refine x_iload_n dJ7_fill_53178_6 rfl ?_
    refine x_icmp_geN 20 dJ7_fill_53178_7 rfl (by omega) (by omega) (fun c7 => ?_) (fun c7 => ?_)
    · exact absurd c7 (by omega)
    · refine x_aload_n dJ7_fill_53178_10 rfl ?_
      refine x_iload_n dJ7_fill_53178_11 rfl ?_
      refine x_iload_n dJ7_fill_53178_12 rfl ?_
      refine x_iastN dJ7_fill_53178_13 rfl rfl (by omega) ?_
      refine x_iincN dJ7_fill_53178_14 rfl rfl ?_
      refine x_goto 5 dJ7_fill_53178_17 rfl ?_
      rw [sA_sA, sA_at]
      refine ih (t + 1) _ (by omega) (fun k hk => ?_)
      by_cases q : k = t
      · rw [q, upd_s]
      · rw [upd_n _ _ q]; exact h2 k (by omega)
set_option maxRecDepth 100000 in
set_option maxHeartbeats 4000000 in
theorem kx_fill_28 (S : amS) : X shX mJ7_fill_53178 0 [.ref 28, .int (nI 0), .null, .null] [] S (fun q S' => q = none ∧ ∃ g, S' = sA S 28 g ∧ ∀ k, k < 9 → g k = nI 0) := by
  refine x_ic _ ic_0 dJ7_fill_53178_0 ?_
  refine x_istore_n dJ7_fill_53178_1 rfl ?_
  refine x_aload_n dJ7_fill_53178_2 rfl ?_
  refine x_alen dJ7_fill_53178_3 rfl ?_
  refine x_istore_n dJ7_fill_53178_4 rfl ?_
  refine x_st (sA_self S 28) ?_
  exact kx_fill_28_l S _ (fun g hg => ⟨rfl, g, rfl, hg⟩) 9 0 _ (by omega) (fun k hk => absurd hk (Nat.not_lt_zero k))
set_option maxRecDepth 100000 in
set_option maxHeartbeats 4000000 in
theorem kx_fill_43_l (S : amS) (Q : Option Value → amS → Prop) (hq : ∀ g, (∀ k, k < 512 → g k = nI 0) → Q none (sA S 43 g)) : ∀ (e t : Nat) (g : Nat → Int32), t + e = 512 → (∀ k, k < t → g k = nI 0) → X shX mJ7_fill_53178 5 [.ref 43, .int (nI 0), .int (nI t), .int (nI 512)] [] (sA S 43 g) Q := by
  intro e
  induction e with
  | zero =>
    intro t g h1 h2
    obtain rfl : t = 512 := by omega
    refine x_iload_n dJ7_fill_53178_5 rfl ?_
    refine x_iload_n dJ7_fill_53178_6 rfl ?_
    refine x_icmp_geN 20 dJ7_fill_53178_7 rfl (by omega) (by omega) (fun c7 => ?_) (fun c7 => ?_)
    · refine x_ret dJ7_fill_53178_20 rfl ?_
      exact hq g h2
    · exact absurd c7 (by omega)
  | succ e ih =>
    intro t g h1 h2
    refine x_iload_n dJ7_fill_53178_5 rfl ?_
    refine x_iload_n dJ7_fill_53178_6 rfl ?_
    refine x_icmp_geN 20 dJ7_fill_53178_7 rfl (by omega) (by omega) (fun c7 => ?_) (fun c7 => ?_)
    · exact absurd c7 (by omega)
    · refine x_aload_n dJ7_fill_53178_10 rfl ?_
      refine x_iload_n dJ7_fill_53178_11 rfl ?_
      refine x_iload_n dJ7_fill_53178_12 rfl ?_
      refine x_iastN dJ7_fill_53178_13 rfl rfl (by omega) ?_
      refine x_iincN dJ7_fill_53178_14 rfl rfl ?_
      refine x_goto 5 dJ7_fill_53178_17 rfl ?_
      rw [sA_sA, sA_at]
      refine ih (t + 1) _ (by omega) (fun k hk => ?_)
      by_cases q : k = t
      · rw [q, upd_s]
      · rw [upd_n _ _ q]; exact h2 k (by omega)
set_option maxRecDepth 100000 in
set_option maxHeartbeats 4000000 in
theorem kx_fill_43 (S : amS) : X shX mJ7_fill_53178 0 [.ref 43, .int (nI 0), .null, .null] [] S (fun q S' => q = none ∧ ∃ g, S' = sA S 43 g ∧ ∀ k, k < 512 → g k = nI 0) := by
  refine x_ic _ ic_0 dJ7_fill_53178_0 ?_
  refine x_istore_n dJ7_fill_53178_1 rfl ?_
  refine x_aload_n dJ7_fill_53178_2 rfl ?_
  refine x_alen dJ7_fill_53178_3 rfl ?_
  refine x_istore_n dJ7_fill_53178_4 rfl ?_
  refine x_st (sA_self S 43) ?_
  exact kx_fill_43_l S _ (fun g hg => ⟨rfl, g, rfl, hg⟩) 512 0 _ (by omega) (fun k hk => absurd hk (Nat.not_lt_zero k))
set_option maxRecDepth 100000 in
set_option maxHeartbeats 4000000 in
theorem kx_fill_44_l (S : amS) (Q : Option Value → amS → Prop) (hq : ∀ g, (∀ k, k < 512 → g k = nI 0) → Q none (sA S 44 g)) : ∀ (e t : Nat) (g : Nat → Int32), t + e = 512 → (∀ k, k < t → g k = nI 0) → X shX mJ7_fill_53178 5 [.ref 44, .int (nI 0), .int (nI t), .int (nI 512)] [] (sA S 44 g) Q := by
  intro e
  induction e with
  | zero =>
    intro t g h1 h2
    obtain rfl : t = 512 := by omega
    refine x_iload_n dJ7_fill_53178_5 rfl ?_
    refine x_iload_n dJ7_fill_53178_6 rfl ?_
    refine x_icmp_geN 20 dJ7_fill_53178_7 rfl (by omega) (by omega) (fun c7 => ?_) (fun c7 => ?_)
    · refine x_ret dJ7_fill_53178_20 rfl ?_
      exact hq g h2
    · exact absurd c7 (by omega)
  | succ e ih =>
    intro t g h1 h2
    refine x_iload_n dJ7_fill_53178_5 rfl ?_
    refine x_iload_n dJ7_fill_53178_6 rfl ?_
    refine x_icmp_geN 20 dJ7_fill_53178_7 rfl (by omega) (by omega) (fun c7 => ?_) (fun c7 => ?_)
    · exact absurd c7 (by omega)
    · refine x_aload_n dJ7_fill_53178_10 rfl ?_
      refine x_iload_n dJ7_fill_53178_11 rfl ?_
      refine x_iload_n dJ7_fill_53178_12 rfl ?_
      refine x_iastN dJ7_fill_53178_13 rfl rfl (by omega) ?_
      refine x_iincN dJ7_fill_53178_14 rfl rfl ?_
      refine x_goto 5 dJ7_fill_53178_17 rfl ?_
      rw [sA_sA, sA_at]
      refine ih (t + 1) _ (by omega) (fun k hk => ?_)
      by_cases q : k = t
      · rw [q, upd_s]
      · rw [upd_n _ _ q]; exact h2 k (by omega)
set_option maxRecDepth 100000 in
set_option maxHeartbeats 4000000 in
theorem kx_fill_44 (S : amS) : X shX mJ7_fill_53178 0 [.ref 44, .int (nI 0), .null, .null] [] S (fun q S' => q = none ∧ ∃ g, S' = sA S 44 g ∧ ∀ k, k < 512 → g k = nI 0) := by
  refine x_ic _ ic_0 dJ7_fill_53178_0 ?_
  refine x_istore_n dJ7_fill_53178_1 rfl ?_
  refine x_aload_n dJ7_fill_53178_2 rfl ?_
  refine x_alen dJ7_fill_53178_3 rfl ?_
  refine x_istore_n dJ7_fill_53178_4 rfl ?_
  refine x_st (sA_self S 44) ?_
  exact kx_fill_44_l S _ (fun g hg => ⟨rfl, g, rfl, hg⟩) 512 0 _ (by omega) (fun k hk => absurd hk (Nat.not_lt_zero k))
set_option maxRecDepth 100000 in
set_option maxHeartbeats 4000000 in
theorem kx_app_24 (S : amS) (L : List Nat) (hL : LsX S 24 25 L) (hn : L.length < 126) (c : Nat) : X shX mX4_append 0 [.ref 24, .int (nI c)] [] S (fun q S' => q = none ∧ LsX S' 24 25 (L ++ [c]) ∧ FO [24] [25] S S') := by
  refine x_aload_n dX4_append_0 rfl ?_
  refine x_getIV dX4_append_1 fl_X4_21 rfl (hL.1) ?_
  refine x_aload_n dX4_append_4 rfl ?_
  refine x_getR dX4_append_5 fl_X4_15 rfl ?_
  refine x_alen dX4_append_8 rfl ?_
  refine x_icmp_geN 32 dX4_append_9 rfl (by omega) (by omega) (fun c9 => ?_) (fun c9 => ?_)
  · exact absurd c9 (by omega)
  · refine x_aload_n dX4_append_12 rfl ?_
    refine x_getR dX4_append_13 fl_X4_15 rfl ?_
    refine x_aload_n dX4_append_16 rfl ?_
    refine x_getIV dX4_append_17 fl_X4_21 rfl (hL.1) ?_
    refine x_iload_n dX4_append_20 rfl ?_
    refine x_iastN dX4_append_21 rfl rfl (by omega) ?_
    refine x_aload_n dX4_append_22 rfl ?_
    refine x_dup dX4_append_23 rfl ?_
    refine x_getIV dX4_append_24 fl_X4_21 rfl (hL.1) ?_
    refine x_ic _ ic_1 dX4_append_27 ?_
    refine x_iaddN dX4_append_28 ?_
    refine x_put dX4_append_29 fp_X4_21 rfl rfl rfl ?_
    refine x_ret dX4_append_32 rfl ?_
    refine ⟨rfl, ⟨?_, fun k d hk => ?_⟩, ((FO.rf _ _ S).sA _ (by simp)).sF _ (by simp)⟩
    · rw [sF_at, upd_s, List.length_append]; rfl
    · show (sA S 25 _).2.1 25 k = _
      rw [sA_at]
      by_cases q : k = L.length
      · subst q
        rw [upd_s]
        rw [List.getElem?_append_right (Nat.le_refl _)] at hk
        simp at hk
        rw [hk]
      · rw [upd_n _ _ q]
        refine hL.2 k d ?_
        by_cases z : k < L.length
        · rw [List.getElem?_append_left z] at hk; exact hk
        · rw [List.getElem?_eq_none (by rw [List.length_append]; simp; omega)] at hk; cases hk
set_option maxRecDepth 100000 in
set_option maxHeartbeats 4000000 in
theorem kx_ans_24 (S : amS) (L : List Nat) (hL : LsX S 24 25 L) (hn : L.length ≤ 126) (x : Int32) (hx : ¬ x < i32 (-1)) : X shX mX4_answer 0 [.ref 24, .int x] [] S (fun r S' => r = some (.int (lAns L x)) ∧ S' = S) := by
  refine x_iload_n dX4_answer_0 rfl ?_
  refine x_ic _ ic_m1 dX4_answer_1 ?_
  refine x_icmp_ne 10 dX4_answer_2 rfl (fun c2 => ?_) (fun c2 => ?_)
  · refine x_iload_n dX4_answer_10 rfl ?_
    refine x_if_lt 31 dX4_answer_11 rfl (fun c11 => ?_) (fun c11 => ?_)
    · exfalso
      refine hx ?_
      have hb := Int32.le_toInt x
      have hb2 := Int32.toInt_lt x
      rw [i32_of x] at c2 c11 ⊢
      rw [show (0 : Int32) = i32 0 by decide, i32_lt (by omega) (by omega)] at c11
      rw [i32_eq (by omega) (by omega)] at c2
      rw [i32_lt (by omega) (by omega)]
      omega
    · obtain ⟨j, hj, rfl⟩ := nI_of c11
      refine x_iload_n dX4_answer_14 rfl ?_
      refine x_aload_n dX4_answer_15 rfl ?_
      refine x_getIV dX4_answer_16 fl_X4_21 rfl (hL.1) ?_
      refine x_icmp_geN 31 dX4_answer_19 rfl (by omega) (by omega) (fun c19 => ?_) (fun c19 => ?_)
      · refine x_bi _ bi_m5 dX4_answer_31 ?_
        refine x_iretI dX4_answer_33 rfl ?_
        exact ⟨by rw [lAns_none hx c2 (fun m hm => by rw [ne_eq, nI_eq hj (by omega)]; omega)], rfl⟩
      · refine x_aload_n dX4_answer_22 rfl ?_
        refine x_getR dX4_answer_23 fl_X4_15 rfl ?_
        refine x_iload_n dX4_answer_26 rfl ?_
        refine x_ialdN dX4_answer_27 rfl rfl (by omega) ((hL.2 j _ (List.getElem?_eq_getElem c19))) ?_
        refine x_goto 33 dX4_answer_28 rfl ?_
        refine x_iretI dX4_answer_33 rfl ?_
        exact ⟨by rw [lAns_at (List.getElem?_eq_getElem c19) hj], rfl⟩
  · subst c2
    refine x_aload_n dX4_answer_5 rfl ?_
    refine x_getIV dX4_answer_6 fl_X4_21 rfl (hL.1) ?_
    refine x_iretI dX4_answer_9 rfl ?_
    exact ⟨by rw [lAns_cnt], rfl⟩
set_option maxRecDepth 100000 in
set_option maxHeartbeats 4000000 in
theorem kx_app_26 (S : amS) (L : List Nat) (hL : LsX S 26 27 L) (hn : L.length < 126) (c : Nat) : X shX mX4_append 0 [.ref 26, .int (nI c)] [] S (fun q S' => q = none ∧ LsX S' 26 27 (L ++ [c]) ∧ FO [26] [27] S S') := by
  refine x_aload_n dX4_append_0 rfl ?_
  refine x_getIV dX4_append_1 fl_X4_21 rfl (hL.1) ?_
  refine x_aload_n dX4_append_4 rfl ?_
  refine x_getR dX4_append_5 fl_X4_15 rfl ?_
  refine x_alen dX4_append_8 rfl ?_
  refine x_icmp_geN 32 dX4_append_9 rfl (by omega) (by omega) (fun c9 => ?_) (fun c9 => ?_)
  · exact absurd c9 (by omega)
  · refine x_aload_n dX4_append_12 rfl ?_
    refine x_getR dX4_append_13 fl_X4_15 rfl ?_
    refine x_aload_n dX4_append_16 rfl ?_
    refine x_getIV dX4_append_17 fl_X4_21 rfl (hL.1) ?_
    refine x_iload_n dX4_append_20 rfl ?_
    refine x_iastN dX4_append_21 rfl rfl (by omega) ?_
    refine x_aload_n dX4_append_22 rfl ?_
    refine x_dup dX4_append_23 rfl ?_
    refine x_getIV dX4_append_24 fl_X4_21 rfl (hL.1) ?_
    refine x_ic _ ic_1 dX4_append_27 ?_
    refine x_iaddN dX4_append_28 ?_
    refine x_put dX4_append_29 fp_X4_21 rfl rfl rfl ?_
    refine x_ret dX4_append_32 rfl ?_
    refine ⟨rfl, ⟨?_, fun k d hk => ?_⟩, ((FO.rf _ _ S).sA _ (by simp)).sF _ (by simp)⟩
    · rw [sF_at, upd_s, List.length_append]; rfl
    · show (sA S 27 _).2.1 27 k = _
      rw [sA_at]
      by_cases q : k = L.length
      · subst q
        rw [upd_s]
        rw [List.getElem?_append_right (Nat.le_refl _)] at hk
        simp at hk
        rw [hk]
      · rw [upd_n _ _ q]
        refine hL.2 k d ?_
        by_cases z : k < L.length
        · rw [List.getElem?_append_left z] at hk; exact hk
        · rw [List.getElem?_eq_none (by rw [List.length_append]; simp; omega)] at hk; cases hk
set_option maxRecDepth 100000 in
set_option maxHeartbeats 4000000 in
theorem kx_ans_26 (S : amS) (L : List Nat) (hL : LsX S 26 27 L) (hn : L.length ≤ 126) (x : Int32) (hx : ¬ x < i32 (-1)) : X shX mX4_answer 0 [.ref 26, .int x] [] S (fun r S' => r = some (.int (lAns L x)) ∧ S' = S) := by
  refine x_iload_n dX4_answer_0 rfl ?_
  refine x_ic _ ic_m1 dX4_answer_1 ?_
  refine x_icmp_ne 10 dX4_answer_2 rfl (fun c2 => ?_) (fun c2 => ?_)
  · refine x_iload_n dX4_answer_10 rfl ?_
    refine x_if_lt 31 dX4_answer_11 rfl (fun c11 => ?_) (fun c11 => ?_)
    · exfalso
      refine hx ?_
      have hb := Int32.le_toInt x
      have hb2 := Int32.toInt_lt x
      rw [i32_of x] at c2 c11 ⊢
      rw [show (0 : Int32) = i32 0 by decide, i32_lt (by omega) (by omega)] at c11
      rw [i32_eq (by omega) (by omega)] at c2
      rw [i32_lt (by omega) (by omega)]
      omega
    · obtain ⟨j, hj, rfl⟩ := nI_of c11
      refine x_iload_n dX4_answer_14 rfl ?_
      refine x_aload_n dX4_answer_15 rfl ?_
      refine x_getIV dX4_answer_16 fl_X4_21 rfl (hL.1) ?_
      refine x_icmp_geN 31 dX4_answer_19 rfl (by omega) (by omega) (fun c19 => ?_) (fun c19 => ?_)
      · refine x_bi _ bi_m5 dX4_answer_31 ?_
        refine x_iretI dX4_answer_33 rfl ?_
        exact ⟨by rw [lAns_none hx c2 (fun m hm => by rw [ne_eq, nI_eq hj (by omega)]; omega)], rfl⟩
      · refine x_aload_n dX4_answer_22 rfl ?_
        refine x_getR dX4_answer_23 fl_X4_15 rfl ?_
        refine x_iload_n dX4_answer_26 rfl ?_
        refine x_ialdN dX4_answer_27 rfl rfl (by omega) ((hL.2 j _ (List.getElem?_eq_getElem c19))) ?_
        refine x_goto 33 dX4_answer_28 rfl ?_
        refine x_iretI dX4_answer_33 rfl ?_
        exact ⟨by rw [lAns_at (List.getElem?_eq_getElem c19) hj], rfl⟩
  · subst c2
    refine x_aload_n dX4_answer_5 rfl ?_
    refine x_getIV dX4_answer_6 fl_X4_21 rfl (hL.1) ?_
    refine x_iretI dX4_answer_9 rfl ?_
    exact ⟨by rw [lAns_cnt], rfl⟩
set_option maxRecDepth 100000 in
set_option maxHeartbeats 4000000 in
theorem kx_app_32 (S : amS) (L : List Nat) (hL : LsX S 32 33 L) (hn : L.length < 186) (c : Nat) : X shX mX4_append 0 [.ref 32, .int (nI c)] [] S (fun q S' => q = none ∧ LsX S' 32 33 (L ++ [c]) ∧ FO [32] [33] S S') := by
  refine x_aload_n dX4_append_0 rfl ?_
  refine x_getIV dX4_append_1 fl_X4_21 rfl (hL.1) ?_
  refine x_aload_n dX4_append_4 rfl ?_
  refine x_getR dX4_append_5 fl_X4_15 rfl ?_
  refine x_alen dX4_append_8 rfl ?_
  refine x_icmp_geN 32 dX4_append_9 rfl (by omega) (by omega) (fun c9 => ?_) (fun c9 => ?_)
  · exact absurd c9 (by omega)
  · refine x_aload_n dX4_append_12 rfl ?_
    refine x_getR dX4_append_13 fl_X4_15 rfl ?_
    refine x_aload_n dX4_append_16 rfl ?_
    refine x_getIV dX4_append_17 fl_X4_21 rfl (hL.1) ?_
    refine x_iload_n dX4_append_20 rfl ?_
    refine x_iastN dX4_append_21 rfl rfl (by omega) ?_
    refine x_aload_n dX4_append_22 rfl ?_
    refine x_dup dX4_append_23 rfl ?_
    refine x_getIV dX4_append_24 fl_X4_21 rfl (hL.1) ?_
    refine x_ic _ ic_1 dX4_append_27 ?_
    refine x_iaddN dX4_append_28 ?_
    refine x_put dX4_append_29 fp_X4_21 rfl rfl rfl ?_
    refine x_ret dX4_append_32 rfl ?_
    refine ⟨rfl, ⟨?_, fun k d hk => ?_⟩, ((FO.rf _ _ S).sA _ (by simp)).sF _ (by simp)⟩
    · rw [sF_at, upd_s, List.length_append]; rfl
    · show (sA S 33 _).2.1 33 k = _
      rw [sA_at]
      by_cases q : k = L.length
      · subst q
        rw [upd_s]
        rw [List.getElem?_append_right (Nat.le_refl _)] at hk
        simp at hk
        rw [hk]
      · rw [upd_n _ _ q]
        refine hL.2 k d ?_
        by_cases z : k < L.length
        · rw [List.getElem?_append_left z] at hk; exact hk
        · rw [List.getElem?_eq_none (by rw [List.length_append]; simp; omega)] at hk; cases hk
set_option maxRecDepth 100000 in
set_option maxHeartbeats 4000000 in
theorem kx_ans_32 (S : amS) (L : List Nat) (hL : LsX S 32 33 L) (hn : L.length ≤ 186) (x : Int32) (hx : ¬ x < i32 (-1)) : X shX mX4_answer 0 [.ref 32, .int x] [] S (fun r S' => r = some (.int (lAns L x)) ∧ S' = S) := by
  refine x_iload_n dX4_answer_0 rfl ?_
  refine x_ic _ ic_m1 dX4_answer_1 ?_
  refine x_icmp_ne 10 dX4_answer_2 rfl (fun c2 => ?_) (fun c2 => ?_)
  · refine x_iload_n dX4_answer_10 rfl ?_
    refine x_if_lt 31 dX4_answer_11 rfl (fun c11 => ?_) (fun c11 => ?_)
    · exfalso
      refine hx ?_
      have hb := Int32.le_toInt x
      have hb2 := Int32.toInt_lt x
      rw [i32_of x] at c2 c11 ⊢
      rw [show (0 : Int32) = i32 0 by decide, i32_lt (by omega) (by omega)] at c11
      rw [i32_eq (by omega) (by omega)] at c2
      rw [i32_lt (by omega) (by omega)]
      omega
    · obtain ⟨j, hj, rfl⟩ := nI_of c11
      refine x_iload_n dX4_answer_14 rfl ?_
      refine x_aload_n dX4_answer_15 rfl ?_
      refine x_getIV dX4_answer_16 fl_X4_21 rfl (hL.1) ?_
      refine x_icmp_geN 31 dX4_answer_19 rfl (by omega) (by omega) (fun c19 => ?_) (fun c19 => ?_)
      · refine x_bi _ bi_m5 dX4_answer_31 ?_
        refine x_iretI dX4_answer_33 rfl ?_
        exact ⟨by rw [lAns_none hx c2 (fun m hm => by rw [ne_eq, nI_eq hj (by omega)]; omega)], rfl⟩
      · refine x_aload_n dX4_answer_22 rfl ?_
        refine x_getR dX4_answer_23 fl_X4_15 rfl ?_
        refine x_iload_n dX4_answer_26 rfl ?_
        refine x_ialdN dX4_answer_27 rfl rfl (by omega) ((hL.2 j _ (List.getElem?_eq_getElem c19))) ?_
        refine x_goto 33 dX4_answer_28 rfl ?_
        refine x_iretI dX4_answer_33 rfl ?_
        exact ⟨by rw [lAns_at (List.getElem?_eq_getElem c19) hj], rfl⟩
  · subst c2
    refine x_aload_n dX4_answer_5 rfl ?_
    refine x_getIV dX4_answer_6 fl_X4_21 rfl (hL.1) ?_
    refine x_iretI dX4_answer_9 rfl ?_
    exact ⟨by rw [lAns_cnt], rfl⟩
set_option maxRecDepth 100000 in
set_option maxHeartbeats 4000000 in
theorem kx_app_45 (S : amS) (L : List Nat) (hL : LsX S 45 46 L) (hn : L.length < 126) (c : Nat) : X shX mX4_append 0 [.ref 45, .int (nI c)] [] S (fun q S' => q = none ∧ LsX S' 45 46 (L ++ [c]) ∧ FO [45] [46] S S') := by
  refine x_aload_n dX4_append_0 rfl ?_
  refine x_getIV dX4_append_1 fl_X4_21 rfl (hL.1) ?_
  refine x_aload_n dX4_append_4 rfl ?_
  refine x_getR dX4_append_5 fl_X4_15 rfl ?_
  refine x_alen dX4_append_8 rfl ?_
  refine x_icmp_geN 32 dX4_append_9 rfl (by omega) (by omega) (fun c9 => ?_) (fun c9 => ?_)
  · exact absurd c9 (by omega)
  · refine x_aload_n dX4_append_12 rfl ?_
    refine x_getR dX4_append_13 fl_X4_15 rfl ?_
    refine x_aload_n dX4_append_16 rfl ?_
    refine x_getIV dX4_append_17 fl_X4_21 rfl (hL.1) ?_
    refine x_iload_n dX4_append_20 rfl ?_
    refine x_iastN dX4_append_21 rfl rfl (by omega) ?_
    refine x_aload_n dX4_append_22 rfl ?_
    refine x_dup dX4_append_23 rfl ?_
    refine x_getIV dX4_append_24 fl_X4_21 rfl (hL.1) ?_
    refine x_ic _ ic_1 dX4_append_27 ?_
    refine x_iaddN dX4_append_28 ?_
    refine x_put dX4_append_29 fp_X4_21 rfl rfl rfl ?_
    refine x_ret dX4_append_32 rfl ?_
    refine ⟨rfl, ⟨?_, fun k d hk => ?_⟩, ((FO.rf _ _ S).sA _ (by simp)).sF _ (by simp)⟩
    · rw [sF_at, upd_s, List.length_append]; rfl
    · show (sA S 46 _).2.1 46 k = _
      rw [sA_at]
      by_cases q : k = L.length
      · subst q
        rw [upd_s]
        rw [List.getElem?_append_right (Nat.le_refl _)] at hk
        simp at hk
        rw [hk]
      · rw [upd_n _ _ q]
        refine hL.2 k d ?_
        by_cases z : k < L.length
        · rw [List.getElem?_append_left z] at hk; exact hk
        · rw [List.getElem?_eq_none (by rw [List.length_append]; simp; omega)] at hk; cases hk
set_option maxRecDepth 100000 in
set_option maxHeartbeats 4000000 in
theorem kx_ans_45 (S : amS) (L : List Nat) (hL : LsX S 45 46 L) (hn : L.length ≤ 126) (x : Int32) (hx : ¬ x < i32 (-1)) : X shX mX4_answer 0 [.ref 45, .int x] [] S (fun r S' => r = some (.int (lAns L x)) ∧ S' = S) := by
  refine x_iload_n dX4_answer_0 rfl ?_
  refine x_ic _ ic_m1 dX4_answer_1 ?_
  refine x_icmp_ne 10 dX4_answer_2 rfl (fun c2 => ?_) (fun c2 => ?_)
  · refine x_iload_n dX4_answer_10 rfl ?_
    refine x_if_lt 31 dX4_answer_11 rfl (fun c11 => ?_) (fun c11 => ?_)
    · exfalso
      refine hx ?_
      have hb := Int32.le_toInt x
      have hb2 := Int32.toInt_lt x
      rw [i32_of x] at c2 c11 ⊢
      rw [show (0 : Int32) = i32 0 by decide, i32_lt (by omega) (by omega)] at c11
      rw [i32_eq (by omega) (by omega)] at c2
      rw [i32_lt (by omega) (by omega)]
      omega
    · obtain ⟨j, hj, rfl⟩ := nI_of c11
      refine x_iload_n dX4_answer_14 rfl ?_
      refine x_aload_n dX4_answer_15 rfl ?_
      refine x_getIV dX4_answer_16 fl_X4_21 rfl (hL.1) ?_
      refine x_icmp_geN 31 dX4_answer_19 rfl (by omega) (by omega) (fun c19 => ?_) (fun c19 => ?_)
      · refine x_bi _ bi_m5 dX4_answer_31 ?_
        refine x_iretI dX4_answer_33 rfl ?_
        exact ⟨by rw [lAns_none hx c2 (fun m hm => by rw [ne_eq, nI_eq hj (by omega)]; omega)], rfl⟩
      · refine x_aload_n dX4_answer_22 rfl ?_
        refine x_getR dX4_answer_23 fl_X4_15 rfl ?_
        refine x_iload_n dX4_answer_26 rfl ?_
        refine x_ialdN dX4_answer_27 rfl rfl (by omega) ((hL.2 j _ (List.getElem?_eq_getElem c19))) ?_
        refine x_goto 33 dX4_answer_28 rfl ?_
        refine x_iretI dX4_answer_33 rfl ?_
        exact ⟨by rw [lAns_at (List.getElem?_eq_getElem c19) hj], rfl⟩
  · subst c2
    refine x_aload_n dX4_answer_5 rfl ?_
    refine x_getIV dX4_answer_6 fl_X4_21 rfl (hL.1) ?_
    refine x_iretI dX4_answer_9 rfl ?_
    exact ⟨by rw [lAns_cnt], rfl⟩
