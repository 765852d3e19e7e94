/-! THE CLASS: finite fields -/
theorem dom_of {p : Nat} (hp : p = 2 ∨ p = 3 ∨ p = 5 ∨ p = 7) : Dom (p : Int) := by
  have key : ∀ (q : Nat), 2 ≤ q → (∀ i, i < q → ∀ j, j < q → (i * j) % q = 0 → i = 0 ∨ j = 0) → Dom (q : Int) := by
    intro q hq h
    refine ⟨fun z => ?_, fun a b z => ?_⟩
    · have := Int.le_of_dvd (by omega) z
      omega
    · have ha := Int.emod_nonneg a (show (q : Int) ≠ 0 by omega)
      have ha2 := Int.emod_lt_of_pos a (show (0 : Int) < q by omega)
      have hb := Int.emod_nonneg b (show (q : Int) ≠ 0 by omega)
      have hb2 := Int.emod_lt_of_pos b (show (0 : Int) < q by omega)
      obtain ⟨i, hi⟩ : ∃ i : Nat, a % (q : Int) = i := ⟨(a % (q : Int)).toNat, by omega⟩
      obtain ⟨j, hj⟩ : ∃ j : Nat, b % (q : Int) = j := ⟨(b % (q : Int)).toNat, by omega⟩
      have h1 := Int.emod_eq_zero_of_dvd z
      rw [Int.mul_emod, hi, hj] at h1
      have h2 : (i * j) % q = 0 := by
        have : ((i * j % q : Nat) : Int) = 0 := by rw [← h1]; simp
        omega
      rcases h i (by omega) j (by omega) h2 with e | e
      · left; exact Int.dvd_of_emod_eq_zero (by rw [hi, e]; rfl)
      · right; exact Int.dvd_of_emod_eq_zero (by rw [hj, e]; rfl)
  rcases hp with rfl | rfl | rfl | rfl
  · exact key 2 (by omega) (by decide)
  · exact key 3 (by omega) (by decide)
  · exact key 5 (by omega) (by decide)
  · exact key 7 (by omega) (by decide)
set_option maxRecDepth 100000 in
set_option maxHeartbeats 4000000 in
theorem kx_sp_l (S : amS) (x : Nat) (hx : x < 2147483648) (p : Nat) (hp : 2 ≤ p ∧ p ≤ 7) : ∀ (e j : Nat) (g : Nat → Int32), j + e = 4 → (∀ k, k < j → g k = nI (x / p ^ k % p)) → X shX mX2_setPoint 5 [.ref 38, .int (nI x), .int (nI p), .int (nI (x / p ^ j)), .int (nI j)] [] (sA S 41 g) (fun r S' => r = none ∧ ∃ g, S' = sA S 41 g ∧ ∀ k, k < 4 → g k = nI (x / p ^ k % p)) := by
  intro e
  induction e with
  | zero =>
    intro j g h1 h2
    obtain rfl : j = 4 := by omega
    refine x_iload dX2_setPoint_5 rfl ?_
    refine x_ic _ ic_4 dX2_setPoint_7 ?_
    refine x_icmp_geN 35 dX2_setPoint_8 rfl (by omega) (by omega) (fun c8 => ?_) (fun c8 => ?_)
    · refine x_ret dX2_setPoint_35 rfl ?_
      exact ⟨rfl, g, rfl, h2⟩
    · exact absurd c8 (by omega)
  | succ e ih =>
    intro j g h1 h2
    have hxd : x / p ^ j ≤ x := Nat.div_le_self _ _
    refine x_iload dX2_setPoint_5 rfl ?_
    refine x_ic _ ic_4 dX2_setPoint_7 ?_
    refine x_icmp_geN 35 dX2_setPoint_8 rfl (by omega) (by omega) (fun c8 => ?_) (fun c8 => ?_)
    · exact absurd c8 (by omega)
    · refine x_iload_n dX2_setPoint_11 rfl ?_
      refine x_topI ?_
      refine x_if_leI 35 dX2_setPoint_12 rfl (by omega) (fun c12 => ?_) (fun c12 => ?_)
      · exact absurd c12 (by omega)
      · refine x_aload_n dX2_setPoint_15 rfl ?_
        refine x_getR dX2_setPoint_16 fl_X2_18 rfl ?_
        refine x_iload dX2_setPoint_19 rfl ?_
        refine x_iload_n dX2_setPoint_21 rfl ?_
        refine x_iload_n dX2_setPoint_22 rfl ?_
        refine x_iremN dX2_setPoint_23 (by omega) (by omega) (by omega) ?_
        refine x_iastN dX2_setPoint_24 rfl rfl (by omega) ?_
        refine x_iload_n dX2_setPoint_25 rfl ?_
        refine x_iload_n dX2_setPoint_26 rfl ?_
        refine x_idivN dX2_setPoint_27 (by omega) (by omega) (by omega) ?_
        refine x_istore_n dX2_setPoint_28 rfl ?_
        refine x_iincN dX2_setPoint_29 rfl rfl ?_
        refine x_goto 5 dX2_setPoint_32 rfl ?_
        rw [sA_sA, sA_at, div_step]
        refine ih (j + 1) _ (by omega) (fun k hk => ?_)
        by_cases q : k = j
        · rw [q, upd_s]
        · rw [upd_n _ _ q]; exact h2 k (by omega)
set_option maxRecDepth 100000 in
set_option maxHeartbeats 4000000 in
theorem kx_setPoint (S : amS) (x : Nat) (hx : x < 2147483648) (p : Nat) (hp : 2 ≤ p ∧ p ≤ 7) : X shX mX2_setPoint 0 [.ref 38, .int (nI x), .int (nI p), .null, .null] [] S (fun r S' => r = none ∧ ∃ g, S' = sA S 41 g ∧ ∀ k, k < 4 → g k = nI (x / p ^ k % p)) := by
  refine x_iload_n dX2_setPoint_0 rfl ?_
  refine x_istore_n dX2_setPoint_1 rfl ?_
  refine x_ic _ ic_0 dX2_setPoint_2 ?_
  refine x_istore dX2_setPoint_3 rfl ?_
  refine x_st (sA_self S 41) ?_
  refine x_loc (show _ = [Value.ref 38, .int (nI x), .int (nI p), .int (nI (x / p ^ 0)), .int (nI 0)] by rw [Nat.pow_zero, Nat.div_one]; rfl) ?_
  exact kx_sp_l S x hx p hp 4 0 _ (by omega) (fun k hk => absurd hk (Nat.not_lt_zero k))
set_option maxRecDepth 100000 in
set_option maxHeartbeats 4000000 in
theorem kx_if_2 (S : amS) (a : Ar) (hA : Arr a.1 a.2.1 a.2.2) (ho : aObj S 1 2 a) (p : Nat) (hp : 2 ≤ p ∧ p ≤ 7) (x i : Nat) (hi : i < a.2.1) (hpt : ∀ k, k < 4 → S.2.1 41 k = nI (x / p ^ k % p)) (Q : Option Value → amS → Prop) (hq : X shX mX2_isFree 57 [.ref 38, .int (nI p), .int (nI i), .int (i32 (sm (fun j => a.2.2 i j * dgt p x j) a.1)), .int (nI a.1)] [] S Q) : ∀ (e j : Nat), j + e = a.1 → X shX mX2_isFree 18 [.ref 38, .int (nI p), .int (nI i), .int (i32 (sm (fun j => a.2.2 i j * dgt p x j) j)), .int (nI j)] [] S Q := by
  obtain ⟨a1, a2, a3, a4, a5, a6, a7⟩ := id hA
  obtain ⟨m1, m2, m3⟩ := id ho
  intro e
  induction e with
  | zero =>
    intro j h1
    obtain rfl : j = a.1 := by omega
    refine x_iload dX2_isFree_18 rfl ?_
    refine x_aload_n dX2_isFree_20 rfl ?_
    refine x_getR dX2_isFree_21 fl_X2_22 rfl ?_
    refine x_getIV dX2_isFree_24 fl_X2_36 rfl (m1) ?_
    refine x_icmp_geN 57 dX2_isFree_27 rfl (by omega) (by omega) (fun c27 => ?_) (fun c27 => ?_)
    · exact hq
    · exact absurd c27 (by omega)
  | succ e ih =>
    intro j h1
    refine x_iload dX2_isFree_18 rfl ?_
    refine x_aload_n dX2_isFree_20 rfl ?_
    refine x_getR dX2_isFree_21 fl_X2_22 rfl ?_
    refine x_getIV dX2_isFree_24 fl_X2_36 rfl (m1) ?_
    refine x_icmp_geN 57 dX2_isFree_27 rfl (by omega) (by omega) (fun c27 => ?_) (fun c27 => ?_)
    · exact absurd c27 (by omega)
    · refine x_iload_n dX2_isFree_30 rfl ?_
      refine x_aload_n dX2_isFree_31 rfl ?_
      refine x_getR dX2_isFree_32 fl_X2_22 rfl ?_
      refine x_iload_n dX2_isFree_35 rfl ?_
      refine x_iload dX2_isFree_36 rfl ?_
      refine x_v2d (N := mX1_at) dX2_isFree_38 ml_X2_47 nv_X1_at rfl rfl (kx_at S i j (by omega) (by omega) _ (m3 i j hi (by omega))) ?_
      refine x_aload_n dX2_isFree_41 rfl ?_
      refine x_getR dX2_isFree_42 fl_X2_18 rfl ?_
      refine x_iload dX2_isFree_45 rfl ?_
      refine x_ialdN dX2_isFree_47 rfl rfl (by omega) (hpt j (by omega)) ?_
      refine x_imulIN dX2_isFree_48 ?_
      refine x_iaddI dX2_isFree_49 ?_
      refine x_istore_n dX2_isFree_50 rfl ?_
      refine x_iincN dX2_isFree_51 rfl rfl ?_
      refine x_goto 18 dX2_isFree_54 rfl ?_
      exact ih (j + 1) (by omega)
set_option maxRecDepth 100000 in
set_option maxHeartbeats 4000000 in
theorem kx_if_1 (S : amS) (a : Ar) (hA : Arr a.1 a.2.1 a.2.2) (ho : aObj S 1 2 a) (p : Nat) (hp : 2 ≤ p ∧ p ≤ 7) (x : Nat) (hpt : ∀ k, k < 4 → S.2.1 41 k = nI (x / p ^ k % p)) : ∀ (e i : Nat) (z3 z4 : Value), i + e = a.2.1 → frB a.2.2 a.1 p x i = true → X shX mX2_isFree 2 [.ref 38, .int (nI p), .int (nI i), z3, z4] [] S (fun r S' => r = some (.int (zB (frB a.2.2 a.1 p x a.2.1))) ∧ S' = S) := by
  obtain ⟨a1, a2, a3, a4, a5, a6, a7⟩ := id hA
  obtain ⟨m1, m2, m3⟩ := id ho
  intro e
  induction e with
  | zero =>
    intro i z3 z4 h1 h2
    obtain rfl : i = a.2.1 := by omega
    refine x_iload_n dX2_isFree_2 rfl ?_
    refine x_aload_n dX2_isFree_3 rfl ?_
    refine x_getR dX2_isFree_4 fl_X2_22 rfl ?_
    refine x_getIV dX2_isFree_7 fl_X2_30 rfl (m2) ?_
    refine x_icmp_geN 75 dX2_isFree_10 rfl (by omega) (by omega) (fun c10 => ?_) (fun c10 => ?_)
    · refine x_ic _ ic_1 dX2_isFree_75 ?_
      refine x_zret1 dX2_isFree_76 rfl ?_
      exact ⟨by rw [zB_t h2], rfl⟩
    · exact absurd c10 (by omega)
  | succ e ih =>
    intro i z3 z4 h1 h2
    have hb := sm_bd (fun j => a.2.2 i j * dgt p x j) 18 a.1 (fun j _ => dgm_bd hp (a4 i j))
    have hb2 : (a.1 : Int) * 18 ≤ 72 := by omega
    have hfr : frB a.2.2 a.1 p x (i + 1) = decide (¬ (p : Int) ∣ sm (fun j => a.2.2 i j * dgt p x j) a.1) := by rw [frB, h2]; rfl
    refine x_iload_n dX2_isFree_2 rfl ?_
    refine x_aload_n dX2_isFree_3 rfl ?_
    refine x_getR dX2_isFree_4 fl_X2_22 rfl ?_
    refine x_getIV dX2_isFree_7 fl_X2_30 rfl (m2) ?_
    refine x_icmp_geN 75 dX2_isFree_10 rfl (by omega) (by omega) (fun c10 => ?_) (fun c10 => ?_)
    · exact absurd c10 (by omega)
    · refine x_ic _ ic_0 dX2_isFree_13 ?_
      refine x_istore_n dX2_isFree_14 rfl ?_
      refine x_ic _ ic_0 dX2_isFree_15 ?_
      refine x_istore dX2_isFree_16 rfl ?_
      refine kx_if_2 S a hA ho p hp x i (by omega) hpt _ ?_ a.1 0 (by omega)
      refine x_iload_n dX2_isFree_57 rfl ?_
      refine x_topI ?_
      refine x_if_leI 69 dX2_isFree_58 rfl (by omega) (fun c58 => ?_) (fun c58 => ?_)
      · exact absurd c58 (by omega)
      · refine x_iload_n dX2_isFree_61 rfl ?_
        refine x_iload_n dX2_isFree_62 rfl ?_
        refine x_topI ?_
        refine x_iremI dX2_isFree_63 (by omega) (by omega) (by omega) ?_
        refine x_if_neI 69 dX2_isFree_64 rfl (by have := tdm (sm (fun j => a.2.2 i j * dgt p x j) a.1) p (by omega); omega) (fun c64 => ?_) (fun c64 => ?_)
        · refine x_iincN dX2_isFree_69 rfl rfl ?_
          refine x_goto 2 dX2_isFree_72 rfl ?_
          refine ih (i + 1) _ _ (by omega) ?_
          rw [hfr]
          exact decide_eq_true (fun z => c64 (tm_dvd.mpr z))
        · refine x_ic _ ic_0 dX2_isFree_67 ?_
          refine x_zret0 dX2_isFree_68 rfl ?_
          exact ⟨by rw [zB_f (frB_f (i := i + 1) (by rw [hfr]; exact decide_eq_false (fun z => z (tm_dvd.mp c64))) a.2.1 (by omega))], rfl⟩
set_option maxRecDepth 100000 in
set_option maxHeartbeats 4000000 in
theorem kx_isFree (S : amS) (a : Ar) (hA : Arr a.1 a.2.1 a.2.2) (ho : aObj S 1 2 a) (p : Nat) (hp : 2 ≤ p ∧ p ≤ 7) (x : Nat) (hpt : ∀ k, k < 4 → S.2.1 41 k = nI (x / p ^ k % p)) : X shX mX2_isFree 0 [.ref 38, .int (nI p), .null, .null, .null] [] S (fun r S' => r = some (.int (zB (frB a.2.2 a.1 p x a.2.1))) ∧ S' = S) := by
  refine x_ic _ ic_0 dX2_isFree_0 ?_
  refine x_istore_n dX2_isFree_1 rfl ?_
  exact kx_if_1 S a hA ho p hp x hpt a.2.1 0 _ _ (by omega) rfl
def fcB (v : Nat → Row) (N d p l m : Nat) : Nat := ((List.range m).filter (fun k => frB v d p (p ^ l + k) N)).length
def cfN (v : Nat → Row) (N d p : Nat) : Nat → Nat
  | 0 => if N = 0 then 1 else 0
  | l + 1 => cfN v N d p l + (p - 1) * fcB v N d p l (p ^ l)
set_option maxRecDepth 100000 in
set_option maxHeartbeats 4000000 in
theorem kx_cf_2 (S0 : amS) (a : Ar) (hA : Arr a.1 a.2.1 a.2.2) (ho0 : aObj S0 1 2 a) (p : Nat) (hp : 2 ≤ p ∧ p ≤ 7) (l : Nat) (hl : l < 4) (Q : Option Value → amS → Prop) (hq : ∀ g, X shX mX2_countFreePoints 71 [.ref 38, .int (nI p), .int (nI (cfN a.2.2 a.2.1 a.1 p (l + 1))), .int (nI (p ^ l)), .int (nI l), .int (nI (p ^ l + p ^ l))] [] (sA S0 41 g) Q) : ∀ (e k : Nat) (g : Nat → Int32), k + e = p ^ l → X shX mX2_countFreePoints 36 [.ref 38, .int (nI p), .int (nI ((cfN a.2.2 a.2.1 a.1 p l) + (p - 1) * (fcB a.2.2 a.2.1 a.1 p l k))), .int (nI (p ^ l)), .int (nI l), .int (nI (p ^ l + k))] [] (sA S0 41 g) Q := by
  have hpl : p ^ l ≤ 343 := pw_le hp (show l ≤ 3 by omega)
  intro e
  induction e with
  | zero =>
    intro k g h1
    obtain rfl : k = p ^ l := by omega
    refine x_iload dX2_countFreePoints_36 rfl ?_
    refine x_ic _ ic_2 dX2_countFreePoints_38 ?_
    refine x_iload_n dX2_countFreePoints_39 rfl ?_
    refine x_imulN dX2_countFreePoints_40 ?_
    refine x_icmp_geN 71 dX2_countFreePoints_41 rfl (by omega) (by omega) (fun c41 => ?_) (fun c41 => ?_)
    · exact hq g
    · exact absurd c41 (by omega)
  | succ e ih =>
    intro k g h1
    have hfs : fcB a.2.2 a.2.1 a.1 p l (k + 1) = fcB a.2.2 a.2.1 a.1 p l k + (frB a.2.2 a.1 p (p ^ l + k) a.2.1).toNat := filter_succ _ _
    refine x_iload dX2_countFreePoints_36 rfl ?_
    refine x_ic _ ic_2 dX2_countFreePoints_38 ?_
    refine x_iload_n dX2_countFreePoints_39 rfl ?_
    refine x_imulN dX2_countFreePoints_40 ?_
    refine x_icmp_geN 71 dX2_countFreePoints_41 rfl (by omega) (by omega) (fun c41 => ?_) (fun c41 => ?_)
    · exact absurd c41 (by omega)
    · refine x_aload_n dX2_countFreePoints_44 rfl ?_
      refine x_iload dX2_countFreePoints_45 rfl ?_
      refine x_iload_n dX2_countFreePoints_47 rfl ?_
      refine x_v2 (N := mX2_setPoint) dX2_countFreePoints_48 ml_X2_39 nv_X2_setPoint rfl rfl (kx_setPoint (sA S0 41 g) (p ^ l + k) (by omega) p hp) ?_
      rintro _ _ ⟨rfl, g2, rfl, hg2⟩
      rw [sA_sA]
      refine x_aload_n dX2_countFreePoints_51 rfl ?_
      refine x_iload_n dX2_countFreePoints_52 rfl ?_
      refine x_v1d (N := mX2_isFree) dX2_countFreePoints_53 ml_X2_43 nv_X2_isFree rfl rfl (kx_isFree (sA S0 41 g2) a hA ho0 p hp (p ^ l + k) (fun j hj => by rw [sA_at]; exact hg2 j hj)) ?_
      refine x_if_eqB 65 dX2_countFreePoints_56 rfl (fun c56 => ?_) (fun c56 => ?_)
      · refine x_iincN dX2_countFreePoints_65 rfl rfl ?_
        refine x_goto 36 dX2_countFreePoints_68 rfl ?_
        have := ih (k + 1) g2 (by omega)
        rw [hfs, c56, Bool.toNat_false, Nat.add_zero] at this
        exact this
      · refine x_iload_n dX2_countFreePoints_59 rfl ?_
        refine x_iload_n dX2_countFreePoints_60 rfl ?_
        refine x_ic _ ic_1 dX2_countFreePoints_61 ?_
        refine x_isubN dX2_countFreePoints_62 (by omega) ?_
        refine x_iaddN dX2_countFreePoints_63 ?_
        refine x_istore_n dX2_countFreePoints_64 rfl ?_
        refine x_iincN dX2_countFreePoints_65 rfl rfl ?_
        refine x_goto 36 dX2_countFreePoints_68 rfl ?_
        have := ih (k + 1) g2 (by omega)
        rw [hfs, c56, Bool.toNat_true, Nat.mul_add, Nat.mul_one, ← Nat.add_assoc] at this
        exact this
set_option maxRecDepth 100000 in
set_option maxHeartbeats 4000000 in
theorem kx_cf_1 (S0 : amS) (a : Ar) (hA : Arr a.1 a.2.1 a.2.2) (ho0 : aObj S0 1 2 a) (p : Nat) (hp : 2 ≤ p ∧ p ≤ 7) : ∀ (e l : Nat) (g : Nat → Int32) (z : Value), l + e = a.1 → X shX mX2_countFreePoints 21 [.ref 38, .int (nI p), .int (nI (cfN a.2.2 a.2.1 a.1 p l)), .int (nI (p ^ l)), .int (nI l), z] [] (sA S0 41 g) (fun r S' => r = some (.int (nI (cfN a.2.2 a.2.1 a.1 p a.1))) ∧ ∃ g, S' = sA S0 41 g) := by
  have a2 := hA.2.1
  intro e
  induction e with
  | zero =>
    intro l g z h1
    obtain rfl : l = a.1 := by omega
    refine x_iload dX2_countFreePoints_21 rfl ?_
    refine x_aload_n dX2_countFreePoints_23 rfl ?_
    refine x_getR dX2_countFreePoints_24 fl_X2_22 rfl ?_
    refine x_getIV dX2_countFreePoints_27 fl_X2_36 rfl (ho0.1) ?_
    refine x_icmp_geN 81 dX2_countFreePoints_30 rfl (by omega) (by omega) (fun c30 => ?_) (fun c30 => ?_)
    · refine x_iload_n dX2_countFreePoints_81 rfl ?_
      refine x_iretI dX2_countFreePoints_82 rfl ?_
      exact ⟨rfl, g, rfl⟩
    · exact absurd c30 (by omega)
  | succ e ih =>
    intro l g z h1
    refine x_iload dX2_countFreePoints_21 rfl ?_
    refine x_aload_n dX2_countFreePoints_23 rfl ?_
    refine x_getR dX2_countFreePoints_24 fl_X2_22 rfl ?_
    refine x_getIV dX2_countFreePoints_27 fl_X2_36 rfl (ho0.1) ?_
    refine x_icmp_geN 81 dX2_countFreePoints_30 rfl (by omega) (by omega) (fun c30 => ?_) (fun c30 => ?_)
    · exact absurd c30 (by omega)
    · refine x_iload_n dX2_countFreePoints_33 rfl ?_
      refine x_istore dX2_countFreePoints_34 rfl ?_
      refine kx_cf_2 S0 a hA ho0 p hp l (by omega) _ (fun g2 => ?_) (p ^ l) 0 g (by omega)
      refine x_iload_n dX2_countFreePoints_71 rfl ?_
      refine x_iload_n dX2_countFreePoints_72 rfl ?_
      refine x_imulN dX2_countFreePoints_73 ?_
      refine x_istore_n dX2_countFreePoints_74 rfl ?_
      refine x_iincN dX2_countFreePoints_75 rfl rfl ?_
      refine x_goto 21 dX2_countFreePoints_78 rfl ?_
      rw [← Nat.pow_succ]
      exact ih (l + 1) g2 _ (by omega)
set_option maxRecDepth 100000 in
set_option maxHeartbeats 4000000 in
theorem kx_countFree (S : amS) (a : Ar) (hA : Arr a.1 a.2.1 a.2.2) (ho : aObj S 1 2 a) (p : Nat) (hp : 2 ≤ p ∧ p ≤ 7) : X shX mX2_countFreePoints 0 [.ref 38, .int (nI p), .null, .null, .null, .null] [] S (fun r S' => r = some (.int (nI (cfN a.2.2 a.2.1 a.1 p a.1))) ∧ ∃ g, S' = sA S 41 g) := by
  obtain ⟨a1, a2, a3, a4, a5, a6, a7⟩ := id hA
  obtain ⟨m1, m2, m3⟩ := id ho
  refine x_aload_n dX2_countFreePoints_0 rfl ?_
  refine x_getR dX2_countFreePoints_1 fl_X2_22 rfl ?_
  refine x_getIV dX2_countFreePoints_4 fl_X2_30 rfl (m2) ?_
  refine x_if_neN 14 dX2_countFreePoints_7 rfl (by omega) (fun c7 => ?_) (fun c7 => ?_)
  · refine x_ic _ ic_0 dX2_countFreePoints_14 ?_
    refine x_top (b := nI (cfN a.2.2 a.2.1 a.1 p 0)) (by rw [cfN, if_neg c7]) ?_
    refine x_istore_n dX2_countFreePoints_15 rfl ?_
    refine x_ic _ ic_1 dX2_countFreePoints_16 ?_
    refine x_istore_n dX2_countFreePoints_17 rfl ?_
    refine x_ic _ ic_0 dX2_countFreePoints_18 ?_
    refine x_istore dX2_countFreePoints_19 rfl ?_
    refine x_st (sA_self S 41) ?_
    exact kx_cf_1 S a hA ho p hp a.1 0 _ _ (by omega)
  · refine x_ic _ ic_1 dX2_countFreePoints_10 ?_
    refine x_goto 15 dX2_countFreePoints_11 rfl ?_
    refine x_top (b := nI (cfN a.2.2 a.2.1 a.1 p 0)) (by rw [cfN, if_pos c7]) ?_
    refine x_istore_n dX2_countFreePoints_15 rfl ?_
    refine x_ic _ ic_1 dX2_countFreePoints_16 ?_
    refine x_istore_n dX2_countFreePoints_17 rfl ?_
    refine x_ic _ ic_0 dX2_countFreePoints_18 ?_
    refine x_istore dX2_countFreePoints_19 rfl ?_
    refine x_st (sA_self S 41) ?_
    exact kx_cf_1 S a hA ho p hp a.1 0 _ _ (by omega)
noncomputable def gcB (v : Nat → Row) (N d p : Nat) : Nat → Bool
  | 0 => true
  | t + 1 => gcB v N d p t && (!(pc9 t == rkV v (2 ^ N - 1) && !bdB (rkV v) t) || decide (rkV v (2 ^ N - 1) ≤ rkC p (cl d d) (rowsB v t N)))
theorem gcB_f {v : Nat → Row} {N d p t : Nat} (h : gcB v N d p t = false) : ∀ u, t ≤ u → gcB v N d p u = false := by
  intro u hu
  obtain ⟨k, rfl⟩ := Nat.exists_eq_add_of_le hu
  induction k with
  | zero => exact h
  | succ k ih => rw [← Nat.add_assoc, gcB, ih (by omega)]; rfl
set_option maxRecDepth 100000 in
set_option maxHeartbeats 4000000 in
theorem kx_gd_l (B : Nat) (a : Ar) (hs : List Ar) (tx : List Nat) (u0 u1 u2 ck co : Int32) (hB : B < 2147483648) (p : Nat) (hp4 : p = 2 ∨ p = 3 ∨ p = 5 ∨ p = 7) : ∀ (e t : Nat) (S : amS), t + e = 2 ^ a.2.1 → xCore S B a hs tx u0 u1 u2 ck co → gcB a.2.2 a.2.1 a.1 p t = true → X shX mX2_isGood 20 [.ref 38, .int (nI p), .int (nI (2 ^ a.2.1 - 1)), .int (nI (rkV a.2.2 (2 ^ a.2.1 - 1))), .int (nI t)] [] S (fun r S' => r = some (.int (zB (gcB a.2.2 a.2.1 a.1 p (2 ^ a.2.1)))) ∧ xCore S' B a hs tx u0 u1 u2 ck co) := by
  intro e
  induction e with
  | zero =>
    intro t S h1 hc h2
    obtain rfl : t = 2 ^ a.2.1 := by omega
    obtain ⟨⟨hA, ho⟩, hrest, hV⟩ := id hc
    obtain ⟨a1, a2, a3, a4, a5, a6, a7⟩ := id hA
    obtain ⟨m1, m2, m3⟩ := id ho
    have h512 := pow9 a3
    have hpos := Nat.two_pow_pos a.2.1
    have hr9 : ∀ t, t < 2 ^ a.2.1 → rkV a.2.2 t ≤ 9 := fun t ht => Nat.le_trans (rkV_le (by omega)) (pc9_le t (by omega))
    refine x_iload dX2_isGood_20 rfl ?_
    refine x_iload_n dX2_isGood_22 rfl ?_
    refine x_icmp_gtN 80 dX2_isGood_23 rfl (by omega) (by omega) (fun c23 => ?_) (fun c23 => ?_)
    · refine x_ic _ ic_1 dX2_isGood_80 ?_
      refine x_zret1 dX2_isGood_81 rfl ?_
      exact ⟨by rw [zB_t h2], hc⟩
    · exact absurd c23 (by omega)
  | succ e ih =>
    intro t S h1 hc h2
    obtain ⟨⟨hA, ho⟩, hrest, hV⟩ := id hc
    obtain ⟨a1, a2, a3, a4, a5, a6, a7⟩ := id hA
    obtain ⟨m1, m2, m3⟩ := id ho
    have h512 := pow9 a3
    have hpos := Nat.two_pow_pos a.2.1
    have hr9 : ∀ t, t < 2 ^ a.2.1 → rkV a.2.2 t ≤ 9 := fun t ht => Nat.le_trans (rkV_le (by omega)) (pc9_le t (by omega))
    have hpc := pc9_le t (by omega)
    have htop := rkV_d hA (2 ^ a.2.1 - 1)
    have hp7 : 2 ≤ p ∧ p ≤ 7 := by omega
    have hgs : gcB a.2.2 a.2.1 a.1 p (t + 1) = (!(pc9 t == rkV a.2.2 (2 ^ a.2.1 - 1) && !bdB (rkV a.2.2) t) || decide (rkV a.2.2 (2 ^ a.2.1 - 1) ≤ rkC p (cl a.1 a.1) (rowsB a.2.2 t a.2.1))) := by rw [gcB, h2]; rfl
    refine x_iload dX2_isGood_20 rfl ?_
    refine x_iload_n dX2_isGood_22 rfl ?_
    refine x_icmp_gtN 80 dX2_isGood_23 rfl (by omega) (by omega) (fun c23 => ?_) (fun c23 => ?_)
    · exact absurd c23 (by omega)
    · refine x_iload dX2_isGood_26 rfl ?_
      refine x_s1d (N := mJ6_bitCount_0f7a4) dX2_isGood_28 ml_X2_61 ns_J6_bitCount_0f7a4 rfl (kx_bc S t (by omega)) ?_
      refine x_iload_n dX2_isGood_31 rfl ?_
      refine x_icmp_neN 74 dX2_isGood_32 rfl (by omega) (by omega) (fun c32 => ?_) (fun c32 => ?_)
      · refine x_iincN dX2_isGood_74 rfl rfl ?_
        refine x_goto 20 dX2_isGood_77 rfl ?_
        refine ih (t + 1) S (by omega) hc ?_
        rw [hgs]; rw [beq_false_of_ne c32]; rfl
      · refine x_aload_n dX2_isGood_35 rfl ?_
        refine x_getR dX2_isGood_36 fl_X2_26 rfl ?_
        refine x_iload dX2_isGood_39 rfl ?_
        refine x_v1 (N := mX6_isIndependent) dX2_isGood_41 ml_X2_66 nv_X6_isIndependent rfl rfl (kx_isIndF S B a hs tx u0 u1 u2 ck co hc hB t (by omega)) ?_
        rintro _ S1 ⟨rfl, hc1, f1⟩
        refine x_if_eqB 74 dX2_isGood_44 rfl (fun c44 => ?_) (fun c44 => ?_)
        · refine x_iincN dX2_isGood_74 rfl rfl ?_
          refine x_goto 20 dX2_isGood_77 rfl ?_
          refine ih (t + 1) S1 (by omega) hc1 ?_
          rw [hgs]; rw [c44]; simp
        · refine x_aload_n dX2_isGood_47 rfl ?_
          refine x_getR dX2_isGood_48 fl_X2_12 rfl ?_
          refine x_aload_n dX2_isGood_51 rfl ?_
          refine x_getR dX2_isGood_52 fl_X2_22 rfl ?_
          refine x_iload dX2_isGood_55 rfl ?_
          have h5 : pcb t a.2.1 ≤ 5 := by rw [pcb_pc9 a.2.1 (by omega) t (by omega)]; omega
          refine x_v2 (N := mX5_load) dX2_isGood_57 ml_X2_69 nv_X5_load rfl rfl (kMB_load S1 t a.1 a.2.1 a3 (by omega) a.2.2 a4 a2 h5 hc1.1.2.1 hc1.1.2.2.1 hc1.1.2.2.2) ?_
          rintro _ S2 ⟨rfl, f2, ⟨g1, g2, g3⟩, hM⟩
          refine x_aload_n dX2_isGood_60 rfl ?_
          refine x_getR dX2_isGood_61 fl_X2_12 rfl ?_
          refine x_iload_n dX2_isGood_64 rfl ?_
          refine x_v1 (N := mX5_reduce) dX2_isGood_65 ml_X2_73 nv_X5_reduce rfl rfl (kMB_reduce S2 (pcb t a.2.1) a.1 a.1 ⟨a1, a2⟩ (Nat.le_refl _) h5 (by omega) g1 g3 g2 (rwf (rowsB a.2.2 t a.2.1)) hM p hp7 (dom_of hp4)) ?_
          rintro _ _ ⟨rfl, f, rfl⟩
          have er : rkC p (cl a.1 a.1) (act (rwf (rowsB a.2.2 t a.2.1)) 0 (pcb t a.2.1)) = rkC p (cl a.1 a.1) (rowsB a.2.2 t a.2.1) := by rw [← rowsB_pcb a.2.2 t a.2.1, rkC_act p (dom_of hp4)]
          rw [er]
          have hrl := rkC_jl (q := (p : Int)) (cl a.1 a.1) (rowsB a.2.2 t a.2.1)
          rw [cl_len] at hrl
          have hc2 := hc1.scr (f2.sL (r := 40) f) (by decide) (by decide)
          refine x_iload_n dX2_isGood_68 rfl ?_
          refine x_icmp_geN 74 dX2_isGood_69 rfl (by omega) (by omega) (fun c69 => ?_) (fun c69 => ?_)
          · refine x_iincN dX2_isGood_74 rfl rfl ?_
            refine x_goto 20 dX2_isGood_77 rfl ?_
            refine ih (t + 1) _ (by omega) hc2 ?_
            rw [hgs, decide_eq_true c69]; simp
          · refine x_ic _ ic_0 dX2_isGood_72 ?_
            refine x_zret0 dX2_isGood_73 rfl ?_
            exact ⟨by rw [zB_f (gcB_f (t := t + 1) (by rw [hgs, c32, c44, decide_eq_false (by omega)]; simp) _ (by omega))], hc2⟩
set_option maxRecDepth 100000 in
set_option maxHeartbeats 4000000 in
theorem kx_isGood (S : amS) (B : Nat) (a : Ar) (hs : List Ar) (tx : List Nat) (u0 u1 u2 ck co : Int32) (hc : xCore S B a hs tx u0 u1 u2 ck co) (hB : B < 2147483648) (p : Nat) (hp4 : p = 2 ∨ p = 3 ∨ p = 5 ∨ p = 7) : X shX mX2_isGood 0 [.ref 38, .int (nI p), .null, .null, .null] [] S (fun r S' => r = some (.int (zB (gcB a.2.2 a.2.1 a.1 p (2 ^ a.2.1)))) ∧ xCore S' B a hs tx u0 u1 u2 ck co) := by
  obtain ⟨⟨hA, ho⟩, hrest, hV⟩ := id hc
  obtain ⟨a1, a2, a3, a4, a5, a6, a7⟩ := id hA
  obtain ⟨m1, m2, m3⟩ := id ho
  have h512 := pow9 a3
  have hpos := Nat.two_pow_pos a.2.1
  have hr9 : ∀ t, t < 2 ^ a.2.1 → rkV a.2.2 t ≤ 9 := fun t ht => Nat.le_trans (rkV_le (by omega)) (pc9_le t (by omega))
  refine x_aload_n dX2_isGood_0 rfl ?_
  refine x_getR dX2_isGood_1 fl_X2_22 rfl ?_
  refine x_v0d (N := mX1_all) dX2_isGood_4 ml_X2_51 nv_X1_all rfl rfl (kx_all S a.2.1 a3 m2) ?_
  refine x_istore_n dX2_isGood_7 rfl ?_
  refine x_aload_n dX2_isGood_8 rfl ?_
  refine x_getR dX2_isGood_9 fl_X2_26 rfl ?_
  refine x_iload_n dX2_isGood_12 rfl ?_
  refine x_v1 (N := mX6_rankOf) dX2_isGood_13 ml_X2_55 nv_X6_rankOf rfl rfl (kx_rankOf S B a hs tx u0 u1 u2 ck co hc hB (2 ^ a.2.1 - 1) (by omega)) ?_
  rintro _ S' ⟨rfl, hc', hl⟩
  refine x_istore_n dX2_isGood_16 rfl ?_
  refine x_ic _ ic_0 dX2_isGood_17 ?_
  refine x_istore dX2_isGood_18 rfl ?_
  exact kx_gd_l B a hs tx u0 u1 u2 ck co hB p hp4 (2 ^ a.2.1) 0 S' (by omega) hc' rfl
set_option maxRecDepth 100000 in
set_option maxHeartbeats 4000000 in
theorem kx_places_bad (S : amS) (B : Nat) (a : Ar) (hs : List Ar) (tx : List Nat) (u0 u1 u2 ck co : Int32) (hc : xCore S B a hs tx u0 u1 u2 ck co) (x y : Int32) (hxy : ¬ ((x = nI 2 ∨ x = nI 3 ∨ x = nI 5 ∨ x = nI 7) ∧ InR y 2)) : X shX mX10_places 0 [.ref 0, .int x, .int y, .null] [] S (fun r S' => r = some (.int (i32 (-2))) ∧ xCore S' B a hs tx (u0 + nI 1) u1 u2 ck co) := by
  obtain ⟨⟨hA, ho⟩, hrest, hV⟩ := id hc
  obtain ⟨a1, a2, a3, a4, a5, a6, a7⟩ := id hA
  obtain ⟨m1, m2, m3⟩ := id ho
  have h512 := pow9 a3
  have hpos := Nat.two_pow_pos a.2.1
  have hr9 : ∀ t, t < 2 ^ a.2.1 → rkV a.2.2 t ≤ 9 := fun t ht => Nat.le_trans (rkV_le (by omega)) (pc9_le t (by omega))
  refine x_iload_n dX10_places_0 rfl ?_
  refine x_ic _ ic_2 dX10_places_1 ?_
  refine x_icmp_eq 21 dX10_places_2 rfl (fun c2 => ?_) (fun c2 => ?_)
  · refine x_ic _ ic_1 dX10_places_21 ?_
    refine x_goto 26 dX10_places_22 rfl ?_
    refine x_istore_n dX10_places_26 rfl ?_
    refine x_iload_n dX10_places_27 rfl ?_
    refine x_if_eqN 40 dX10_places_28 rfl (by omega) (fun c28 => ?_) (fun c28 => ?_)
    · refine x_aload_n dX10_places_40 rfl ?_
      refine x_bi _ bi_m2 dX10_places_41 ?_
      refine x_v1 (N := mX10_refused) dX10_places_43 ml_X10_120 nv_X10_refused rfl rfl (kx_bad S B a hs tx u0 u1 u2 ck co hc) ?_
      rintro _ S' ⟨rfl, h'⟩
      refine x_iretI dX10_places_46 rfl ?_
      exact ⟨rfl, h'⟩
    · refine x_iload_n dX10_places_31 rfl ?_
      refine x_if_lt 40 dX10_places_32 rfl (fun c32 => ?_) (fun c32 => ?_)
      · refine x_aload_n dX10_places_40 rfl ?_
        refine x_bi _ bi_m2 dX10_places_41 ?_
        refine x_v1 (N := mX10_refused) dX10_places_43 ml_X10_120 nv_X10_refused rfl rfl (kx_bad S B a hs tx u0 u1 u2 ck co hc) ?_
        rintro _ S' ⟨rfl, h'⟩
        refine x_iretI dX10_places_46 rfl ?_
        exact ⟨rfl, h'⟩
      · refine x_iload_n dX10_places_35 rfl ?_
        refine x_ic _ ic_1 dX10_places_36 ?_
        refine x_icmp_le 47 dX10_places_37 rfl (fun c37 => ?_) (fun c37 => ?_)
        · exfalso
          apply hxy
          refine ⟨?_, (in_R y (n := 1) (by omega)).mp (decide_eq_true ⟨Int32.not_lt.mp c32, c37⟩)⟩
          first | exact Or.inl c2 | exact Or.inr (Or.inl c7) | exact Or.inr (Or.inr (Or.inl c12)) | exact Or.inr (Or.inr (Or.inr c18)) | exact absurd rfl c28
        · refine x_aload_n dX10_places_40 rfl ?_
          refine x_bi _ bi_m2 dX10_places_41 ?_
          refine x_v1 (N := mX10_refused) dX10_places_43 ml_X10_120 nv_X10_refused rfl rfl (kx_bad S B a hs tx u0 u1 u2 ck co hc) ?_
          rintro _ S' ⟨rfl, h'⟩
          refine x_iretI dX10_places_46 rfl ?_
          exact ⟨rfl, h'⟩
  · refine x_iload_n dX10_places_5 rfl ?_
    refine x_ic _ ic_3 dX10_places_6 ?_
    refine x_icmp_eq 21 dX10_places_7 rfl (fun c7 => ?_) (fun c7 => ?_)
    · refine x_ic _ ic_1 dX10_places_21 ?_
      refine x_goto 26 dX10_places_22 rfl ?_
      refine x_istore_n dX10_places_26 rfl ?_
      refine x_iload_n dX10_places_27 rfl ?_
      refine x_if_eqN 40 dX10_places_28 rfl (by omega) (fun c28 => ?_) (fun c28 => ?_)
      · refine x_aload_n dX10_places_40 rfl ?_
        refine x_bi _ bi_m2 dX10_places_41 ?_
        refine x_v1 (N := mX10_refused) dX10_places_43 ml_X10_120 nv_X10_refused rfl rfl (kx_bad S B a hs tx u0 u1 u2 ck co hc) ?_
        rintro _ S' ⟨rfl, h'⟩
        refine x_iretI dX10_places_46 rfl ?_
        exact ⟨rfl, h'⟩
      · refine x_iload_n dX10_places_31 rfl ?_
        refine x_if_lt 40 dX10_places_32 rfl (fun c32 => ?_) (fun c32 => ?_)
        · refine x_aload_n dX10_places_40 rfl ?_
          refine x_bi _ bi_m2 dX10_places_41 ?_
          refine x_v1 (N := mX10_refused) dX10_places_43 ml_X10_120 nv_X10_refused rfl rfl (kx_bad S B a hs tx u0 u1 u2 ck co hc) ?_
          rintro _ S' ⟨rfl, h'⟩
          refine x_iretI dX10_places_46 rfl ?_
          exact ⟨rfl, h'⟩
        · refine x_iload_n dX10_places_35 rfl ?_
          refine x_ic _ ic_1 dX10_places_36 ?_
          refine x_icmp_le 47 dX10_places_37 rfl (fun c37 => ?_) (fun c37 => ?_)
          · exfalso
            apply hxy
            refine ⟨?_, (in_R y (n := 1) (by omega)).mp (decide_eq_true ⟨Int32.not_lt.mp c32, c37⟩)⟩
            first | exact Or.inl c2 | exact Or.inr (Or.inl c7) | exact Or.inr (Or.inr (Or.inl c12)) | exact Or.inr (Or.inr (Or.inr c18)) | exact absurd rfl c28
          · refine x_aload_n dX10_places_40 rfl ?_
            refine x_bi _ bi_m2 dX10_places_41 ?_
            refine x_v1 (N := mX10_refused) dX10_places_43 ml_X10_120 nv_X10_refused rfl rfl (kx_bad S B a hs tx u0 u1 u2 ck co hc) ?_
            rintro _ S' ⟨rfl, h'⟩
            refine x_iretI dX10_places_46 rfl ?_
            exact ⟨rfl, h'⟩
    · refine x_iload_n dX10_places_10 rfl ?_
      refine x_ic _ ic_5 dX10_places_11 ?_
      refine x_icmp_eq 21 dX10_places_12 rfl (fun c12 => ?_) (fun c12 => ?_)
      · refine x_ic _ ic_1 dX10_places_21 ?_
        refine x_goto 26 dX10_places_22 rfl ?_
        refine x_istore_n dX10_places_26 rfl ?_
        refine x_iload_n dX10_places_27 rfl ?_
        refine x_if_eqN 40 dX10_places_28 rfl (by omega) (fun c28 => ?_) (fun c28 => ?_)
        · refine x_aload_n dX10_places_40 rfl ?_
          refine x_bi _ bi_m2 dX10_places_41 ?_
          refine x_v1 (N := mX10_refused) dX10_places_43 ml_X10_120 nv_X10_refused rfl rfl (kx_bad S B a hs tx u0 u1 u2 ck co hc) ?_
          rintro _ S' ⟨rfl, h'⟩
          refine x_iretI dX10_places_46 rfl ?_
          exact ⟨rfl, h'⟩
        · refine x_iload_n dX10_places_31 rfl ?_
          refine x_if_lt 40 dX10_places_32 rfl (fun c32 => ?_) (fun c32 => ?_)
          · refine x_aload_n dX10_places_40 rfl ?_
            refine x_bi _ bi_m2 dX10_places_41 ?_
            refine x_v1 (N := mX10_refused) dX10_places_43 ml_X10_120 nv_X10_refused rfl rfl (kx_bad S B a hs tx u0 u1 u2 ck co hc) ?_
            rintro _ S' ⟨rfl, h'⟩
            refine x_iretI dX10_places_46 rfl ?_
            exact ⟨rfl, h'⟩
          · refine x_iload_n dX10_places_35 rfl ?_
            refine x_ic _ ic_1 dX10_places_36 ?_
            refine x_icmp_le 47 dX10_places_37 rfl (fun c37 => ?_) (fun c37 => ?_)
            · exfalso
              apply hxy
              refine ⟨?_, (in_R y (n := 1) (by omega)).mp (decide_eq_true ⟨Int32.not_lt.mp c32, c37⟩)⟩
              first | exact Or.inl c2 | exact Or.inr (Or.inl c7) | exact Or.inr (Or.inr (Or.inl c12)) | exact Or.inr (Or.inr (Or.inr c18)) | exact absurd rfl c28
            · refine x_aload_n dX10_places_40 rfl ?_
              refine x_bi _ bi_m2 dX10_places_41 ?_
              refine x_v1 (N := mX10_refused) dX10_places_43 ml_X10_120 nv_X10_refused rfl rfl (kx_bad S B a hs tx u0 u1 u2 ck co hc) ?_
              rintro _ S' ⟨rfl, h'⟩
              refine x_iretI dX10_places_46 rfl ?_
              exact ⟨rfl, h'⟩
      · refine x_iload_n dX10_places_15 rfl ?_
        refine x_bi _ bi_7 dX10_places_16 ?_
        refine x_icmp_ne 25 dX10_places_18 rfl (fun c18 => ?_) (fun c18 => ?_)
        · refine x_ic _ ic_0 dX10_places_25 ?_
          refine x_istore_n dX10_places_26 rfl ?_
          refine x_iload_n dX10_places_27 rfl ?_
          refine x_if_eqN 40 dX10_places_28 rfl (by omega) (fun c28 => ?_) (fun c28 => ?_)
          · refine x_aload_n dX10_places_40 rfl ?_
            refine x_bi _ bi_m2 dX10_places_41 ?_
            refine x_v1 (N := mX10_refused) dX10_places_43 ml_X10_120 nv_X10_refused rfl rfl (kx_bad S B a hs tx u0 u1 u2 ck co hc) ?_
            rintro _ S' ⟨rfl, h'⟩
            refine x_iretI dX10_places_46 rfl ?_
            exact ⟨rfl, h'⟩
          · refine x_iload_n dX10_places_31 rfl ?_
            refine x_if_lt 40 dX10_places_32 rfl (fun c32 => ?_) (fun c32 => ?_)
            · refine x_aload_n dX10_places_40 rfl ?_
              refine x_bi _ bi_m2 dX10_places_41 ?_
              refine x_v1 (N := mX10_refused) dX10_places_43 ml_X10_120 nv_X10_refused rfl rfl (kx_bad S B a hs tx u0 u1 u2 ck co hc) ?_
              rintro _ S' ⟨rfl, h'⟩
              refine x_iretI dX10_places_46 rfl ?_
              exact ⟨rfl, h'⟩
            · refine x_iload_n dX10_places_35 rfl ?_
              refine x_ic _ ic_1 dX10_places_36 ?_
              refine x_icmp_le 47 dX10_places_37 rfl (fun c37 => ?_) (fun c37 => ?_)
              · exfalso
                apply hxy
                refine ⟨?_, (in_R y (n := 1) (by omega)).mp (decide_eq_true ⟨Int32.not_lt.mp c32, c37⟩)⟩
                first | exact Or.inl c2 | exact Or.inr (Or.inl c7) | exact Or.inr (Or.inr (Or.inl c12)) | exact Or.inr (Or.inr (Or.inr c18)) | exact absurd rfl c28
              · refine x_aload_n dX10_places_40 rfl ?_
                refine x_bi _ bi_m2 dX10_places_41 ?_
                refine x_v1 (N := mX10_refused) dX10_places_43 ml_X10_120 nv_X10_refused rfl rfl (kx_bad S B a hs tx u0 u1 u2 ck co hc) ?_
                rintro _ S' ⟨rfl, h'⟩
                refine x_iretI dX10_places_46 rfl ?_
                exact ⟨rfl, h'⟩
        · refine x_ic _ ic_1 dX10_places_21 ?_
          refine x_goto 26 dX10_places_22 rfl ?_
          refine x_istore_n dX10_places_26 rfl ?_
          refine x_iload_n dX10_places_27 rfl ?_
          refine x_if_eqN 40 dX10_places_28 rfl (by omega) (fun c28 => ?_) (fun c28 => ?_)
          · refine x_aload_n dX10_places_40 rfl ?_
            refine x_bi _ bi_m2 dX10_places_41 ?_
            refine x_v1 (N := mX10_refused) dX10_places_43 ml_X10_120 nv_X10_refused rfl rfl (kx_bad S B a hs tx u0 u1 u2 ck co hc) ?_
            rintro _ S' ⟨rfl, h'⟩
            refine x_iretI dX10_places_46 rfl ?_
            exact ⟨rfl, h'⟩
          · refine x_iload_n dX10_places_31 rfl ?_
            refine x_if_lt 40 dX10_places_32 rfl (fun c32 => ?_) (fun c32 => ?_)
            · refine x_aload_n dX10_places_40 rfl ?_
              refine x_bi _ bi_m2 dX10_places_41 ?_
              refine x_v1 (N := mX10_refused) dX10_places_43 ml_X10_120 nv_X10_refused rfl rfl (kx_bad S B a hs tx u0 u1 u2 ck co hc) ?_
              rintro _ S' ⟨rfl, h'⟩
              refine x_iretI dX10_places_46 rfl ?_
              exact ⟨rfl, h'⟩
            · refine x_iload_n dX10_places_35 rfl ?_
              refine x_ic _ ic_1 dX10_places_36 ?_
              refine x_icmp_le 47 dX10_places_37 rfl (fun c37 => ?_) (fun c37 => ?_)
              · exfalso
                apply hxy
                refine ⟨?_, (in_R y (n := 1) (by omega)).mp (decide_eq_true ⟨Int32.not_lt.mp c32, c37⟩)⟩
                first | exact Or.inl c2 | exact Or.inr (Or.inl c7) | exact Or.inr (Or.inr (Or.inl c12)) | exact Or.inr (Or.inr (Or.inr c18)) | exact absurd rfl c28
              · refine x_aload_n dX10_places_40 rfl ?_
                refine x_bi _ bi_m2 dX10_places_41 ?_
                refine x_v1 (N := mX10_refused) dX10_places_43 ml_X10_120 nv_X10_refused rfl rfl (kx_bad S B a hs tx u0 u1 u2 ck co hc) ?_
                rintro _ S' ⟨rfl, h'⟩
                refine x_iretI dX10_places_46 rfl ?_
                exact ⟨rfl, h'⟩
set_option maxRecDepth 100000 in
set_option maxHeartbeats 4000000 in
theorem kx_places_00 (S : amS) (B : Nat) (a : Ar) (hs : List Ar) (tx : List Nat) (u0 u1 u2 ck co : Int32) (hc : xCore S B a hs tx u0 u1 u2 ck co) (hB : B < 2147483648) (p : Nat) (hp4 : p = 2 ∨ p = 3 ∨ p = 5 ∨ p = 7) : X shX mX10_places 0 [.ref 0, .int (nI p), .int (nI 0), .null] [] S (fun r S' => r = some (.int (nI (cfN a.2.2 a.2.1 a.1 p a.1))) ∧ xCore S' B a hs tx u0 u1 u2 ck co) := by
  obtain ⟨⟨hA, ho⟩, hrest, hV⟩ := id hc
  obtain ⟨a1, a2, a3, a4, a5, a6, a7⟩ := id hA
  obtain ⟨m1, m2, m3⟩ := id ho
  have h512 := pow9 a3
  have hpos := Nat.two_pow_pos a.2.1
  have hr9 : ∀ t, t < 2 ^ a.2.1 → rkV a.2.2 t ≤ 9 := fun t ht => Nat.le_trans (rkV_le (by omega)) (pc9_le t (by omega))
  have hp7 : 2 ≤ p ∧ p ≤ 7 := by omega
  refine x_iload_n dX10_places_0 rfl ?_
  refine x_ic _ ic_2 dX10_places_1 ?_
  refine x_icmp_eqN 21 dX10_places_2 rfl (by omega) (by omega) (fun c2 => ?_) (fun c2 => ?_)
  · refine x_ic _ ic_1 dX10_places_21 ?_
    refine x_goto 26 dX10_places_22 rfl ?_
    refine x_istore_n dX10_places_26 rfl ?_
    refine x_iload_n dX10_places_27 rfl ?_
    refine x_if_eqN 40 dX10_places_28 rfl (by omega) (fun c28 => ?_) (fun c28 => ?_)
    · exact absurd c28 (by omega)
    · refine x_iload_n dX10_places_31 rfl ?_
      refine x_topI ?_
      refine x_if_ltI 40 dX10_places_32 rfl (by omega) (fun c32 => ?_) (fun c32 => ?_)
      · exact absurd c32 (by omega)
      · refine x_iload_n dX10_places_35 rfl ?_
        refine x_ic _ ic_1 dX10_places_36 ?_
        refine x_icmp_leN 47 dX10_places_37 rfl (by omega) (by omega) (fun c37 => ?_) (fun c37 => ?_)
        · refine x_iload_n dX10_places_47 rfl ?_
          refine x_if_neN 60 dX10_places_48 rfl (by omega) (fun c48 => ?_) (fun c48 => ?_)
          · exact absurd rfl c48
          · refine x_aload_n dX10_places_51 rfl ?_
            refine x_getR dX10_places_52 fl_X10_54 rfl ?_
            refine x_iload_n dX10_places_55 rfl ?_
            refine x_v1 (N := mX2_countFreePoints) dX10_places_56 ml_X10_199 nv_X2_countFreePoints rfl rfl (kx_countFree S a hA ho p hp7) ?_
            rintro _ _ ⟨rfl, g, rfl⟩
            refine x_iretI dX10_places_59 rfl ?_
            exact ⟨rfl, hc.scr ((FO.rf [] [41] S).sA g (by decide)) (by decide) (by decide)⟩
        · exact absurd c37 (by omega)
  · refine x_iload_n dX10_places_5 rfl ?_
    refine x_ic _ ic_3 dX10_places_6 ?_
    refine x_icmp_eqN 21 dX10_places_7 rfl (by omega) (by omega) (fun c7 => ?_) (fun c7 => ?_)
    · refine x_ic _ ic_1 dX10_places_21 ?_
      refine x_goto 26 dX10_places_22 rfl ?_
      refine x_istore_n dX10_places_26 rfl ?_
      refine x_iload_n dX10_places_27 rfl ?_
      refine x_if_eqN 40 dX10_places_28 rfl (by omega) (fun c28 => ?_) (fun c28 => ?_)
      · exact absurd c28 (by omega)
      · refine x_iload_n dX10_places_31 rfl ?_
        refine x_topI ?_
        refine x_if_ltI 40 dX10_places_32 rfl (by omega) (fun c32 => ?_) (fun c32 => ?_)
        · exact absurd c32 (by omega)
        · refine x_iload_n dX10_places_35 rfl ?_
          refine x_ic _ ic_1 dX10_places_36 ?_
          refine x_icmp_leN 47 dX10_places_37 rfl (by omega) (by omega) (fun c37 => ?_) (fun c37 => ?_)
          · refine x_iload_n dX10_places_47 rfl ?_
            refine x_if_neN 60 dX10_places_48 rfl (by omega) (fun c48 => ?_) (fun c48 => ?_)
            · exact absurd rfl c48
            · refine x_aload_n dX10_places_51 rfl ?_
              refine x_getR dX10_places_52 fl_X10_54 rfl ?_
              refine x_iload_n dX10_places_55 rfl ?_
              refine x_v1 (N := mX2_countFreePoints) dX10_places_56 ml_X10_199 nv_X2_countFreePoints rfl rfl (kx_countFree S a hA ho p hp7) ?_
              rintro _ _ ⟨rfl, g, rfl⟩
              refine x_iretI dX10_places_59 rfl ?_
              exact ⟨rfl, hc.scr ((FO.rf [] [41] S).sA g (by decide)) (by decide) (by decide)⟩
          · exact absurd c37 (by omega)
    · refine x_iload_n dX10_places_10 rfl ?_
      refine x_ic _ ic_5 dX10_places_11 ?_
      refine x_icmp_eqN 21 dX10_places_12 rfl (by omega) (by omega) (fun c12 => ?_) (fun c12 => ?_)
      · refine x_ic _ ic_1 dX10_places_21 ?_
        refine x_goto 26 dX10_places_22 rfl ?_
        refine x_istore_n dX10_places_26 rfl ?_
        refine x_iload_n dX10_places_27 rfl ?_
        refine x_if_eqN 40 dX10_places_28 rfl (by omega) (fun c28 => ?_) (fun c28 => ?_)
        · exact absurd c28 (by omega)
        · refine x_iload_n dX10_places_31 rfl ?_
          refine x_topI ?_
          refine x_if_ltI 40 dX10_places_32 rfl (by omega) (fun c32 => ?_) (fun c32 => ?_)
          · exact absurd c32 (by omega)
          · refine x_iload_n dX10_places_35 rfl ?_
            refine x_ic _ ic_1 dX10_places_36 ?_
            refine x_icmp_leN 47 dX10_places_37 rfl (by omega) (by omega) (fun c37 => ?_) (fun c37 => ?_)
            · refine x_iload_n dX10_places_47 rfl ?_
              refine x_if_neN 60 dX10_places_48 rfl (by omega) (fun c48 => ?_) (fun c48 => ?_)
              · exact absurd rfl c48
              · refine x_aload_n dX10_places_51 rfl ?_
                refine x_getR dX10_places_52 fl_X10_54 rfl ?_
                refine x_iload_n dX10_places_55 rfl ?_
                refine x_v1 (N := mX2_countFreePoints) dX10_places_56 ml_X10_199 nv_X2_countFreePoints rfl rfl (kx_countFree S a hA ho p hp7) ?_
                rintro _ _ ⟨rfl, g, rfl⟩
                refine x_iretI dX10_places_59 rfl ?_
                exact ⟨rfl, hc.scr ((FO.rf [] [41] S).sA g (by decide)) (by decide) (by decide)⟩
            · exact absurd c37 (by omega)
      · refine x_iload_n dX10_places_15 rfl ?_
        refine x_bi _ bi_7 dX10_places_16 ?_
        refine x_icmp_neN 25 dX10_places_18 rfl (by omega) (by omega) (fun c18 => ?_) (fun c18 => ?_)
        · exact absurd hp4 (by omega)
        · refine x_ic _ ic_1 dX10_places_21 ?_
          refine x_goto 26 dX10_places_22 rfl ?_
          refine x_istore_n dX10_places_26 rfl ?_
          refine x_iload_n dX10_places_27 rfl ?_
          refine x_if_eqN 40 dX10_places_28 rfl (by omega) (fun c28 => ?_) (fun c28 => ?_)
          · exact absurd c28 (by omega)
          · refine x_iload_n dX10_places_31 rfl ?_
            refine x_topI ?_
            refine x_if_ltI 40 dX10_places_32 rfl (by omega) (fun c32 => ?_) (fun c32 => ?_)
            · exact absurd c32 (by omega)
            · refine x_iload_n dX10_places_35 rfl ?_
              refine x_ic _ ic_1 dX10_places_36 ?_
              refine x_icmp_leN 47 dX10_places_37 rfl (by omega) (by omega) (fun c37 => ?_) (fun c37 => ?_)
              · refine x_iload_n dX10_places_47 rfl ?_
                refine x_if_neN 60 dX10_places_48 rfl (by omega) (fun c48 => ?_) (fun c48 => ?_)
                · exact absurd rfl c48
                · refine x_aload_n dX10_places_51 rfl ?_
                  refine x_getR dX10_places_52 fl_X10_54 rfl ?_
                  refine x_iload_n dX10_places_55 rfl ?_
                  refine x_v1 (N := mX2_countFreePoints) dX10_places_56 ml_X10_199 nv_X2_countFreePoints rfl rfl (kx_countFree S a hA ho p hp7) ?_
                  rintro _ _ ⟨rfl, g, rfl⟩
                  refine x_iretI dX10_places_59 rfl ?_
                  exact ⟨rfl, hc.scr ((FO.rf [] [41] S).sA g (by decide)) (by decide) (by decide)⟩
              · exact absurd c37 (by omega)
set_option maxRecDepth 100000 in
set_option maxHeartbeats 4000000 in
theorem kx_places_10 (S : amS) (B : Nat) (a : Ar) (hs : List Ar) (tx : List Nat) (u0 u1 u2 ck co : Int32) (hc : xCore S B a hs tx u0 u1 u2 ck co) (hB : B < 2147483648) (p : Nat) (hp4 : p = 2 ∨ p = 3 ∨ p = 5 ∨ p = 7) : X shX mX10_places 0 [.ref 0, .int (nI p), .int (nI 1), .null] [] S (fun r S' => r = some (.int (zB (gcB a.2.2 a.2.1 a.1 p (2 ^ a.2.1)))) ∧ xCore S' B a hs tx u0 u1 u2 ck co) := by
  obtain ⟨⟨hA, ho⟩, hrest, hV⟩ := id hc
  obtain ⟨a1, a2, a3, a4, a5, a6, a7⟩ := id hA
  obtain ⟨m1, m2, m3⟩ := id ho
  have h512 := pow9 a3
  have hpos := Nat.two_pow_pos a.2.1
  have hr9 : ∀ t, t < 2 ^ a.2.1 → rkV a.2.2 t ≤ 9 := fun t ht => Nat.le_trans (rkV_le (by omega)) (pc9_le t (by omega))
  have hp7 : 2 ≤ p ∧ p ≤ 7 := by omega
  refine x_iload_n dX10_places_0 rfl ?_
  refine x_ic _ ic_2 dX10_places_1 ?_
  refine x_icmp_eqN 21 dX10_places_2 rfl (by omega) (by omega) (fun c2 => ?_) (fun c2 => ?_)
  · refine x_ic _ ic_1 dX10_places_21 ?_
    refine x_goto 26 dX10_places_22 rfl ?_
    refine x_istore_n dX10_places_26 rfl ?_
    refine x_iload_n dX10_places_27 rfl ?_
    refine x_if_eqN 40 dX10_places_28 rfl (by omega) (fun c28 => ?_) (fun c28 => ?_)
    · exact absurd c28 (by omega)
    · refine x_iload_n dX10_places_31 rfl ?_
      refine x_topI ?_
      refine x_if_ltI 40 dX10_places_32 rfl (by omega) (fun c32 => ?_) (fun c32 => ?_)
      · exact absurd c32 (by omega)
      · refine x_iload_n dX10_places_35 rfl ?_
        refine x_ic _ ic_1 dX10_places_36 ?_
        refine x_icmp_leN 47 dX10_places_37 rfl (by omega) (by omega) (fun c37 => ?_) (fun c37 => ?_)
        · refine x_iload_n dX10_places_47 rfl ?_
          refine x_if_neN 60 dX10_places_48 rfl (by omega) (fun c48 => ?_) (fun c48 => ?_)
          · refine x_aload_n dX10_places_60 rfl ?_
            refine x_getR dX10_places_61 fl_X10_54 rfl ?_
            refine x_iload_n dX10_places_64 rfl ?_
            refine x_v1 (N := mX2_isGood) dX10_places_65 ml_X10_202 nv_X2_isGood rfl rfl (kx_isGood S B a hs tx u0 u1 u2 ck co hc hB p hp4) ?_
            rintro _ S' ⟨rfl, hc'⟩
            refine x_if_eqB 75 dX10_places_68 rfl (fun c68 => ?_) (fun c68 => ?_)
            · refine x_ic _ ic_0 dX10_places_75 ?_
              refine x_iretI dX10_places_76 rfl ?_
              exact ⟨by rw [zB_f c68], hc'⟩
            · refine x_ic _ ic_1 dX10_places_71 ?_
              refine x_goto 76 dX10_places_72 rfl ?_
              refine x_iretI dX10_places_76 rfl ?_
              exact ⟨by rw [zB_t c68], hc'⟩
          · exact absurd c48 (by omega)
        · exact absurd c37 (by omega)
  · refine x_iload_n dX10_places_5 rfl ?_
    refine x_ic _ ic_3 dX10_places_6 ?_
    refine x_icmp_eqN 21 dX10_places_7 rfl (by omega) (by omega) (fun c7 => ?_) (fun c7 => ?_)
    · refine x_ic _ ic_1 dX10_places_21 ?_
      refine x_goto 26 dX10_places_22 rfl ?_
      refine x_istore_n dX10_places_26 rfl ?_
      refine x_iload_n dX10_places_27 rfl ?_
      refine x_if_eqN 40 dX10_places_28 rfl (by omega) (fun c28 => ?_) (fun c28 => ?_)
      · exact absurd c28 (by omega)
      · refine x_iload_n dX10_places_31 rfl ?_
        refine x_topI ?_
        refine x_if_ltI 40 dX10_places_32 rfl (by omega) (fun c32 => ?_) (fun c32 => ?_)
        · exact absurd c32 (by omega)
        · refine x_iload_n dX10_places_35 rfl ?_
          refine x_ic _ ic_1 dX10_places_36 ?_
          refine x_icmp_leN 47 dX10_places_37 rfl (by omega) (by omega) (fun c37 => ?_) (fun c37 => ?_)
          · refine x_iload_n dX10_places_47 rfl ?_
            refine x_if_neN 60 dX10_places_48 rfl (by omega) (fun c48 => ?_) (fun c48 => ?_)
            · refine x_aload_n dX10_places_60 rfl ?_
              refine x_getR dX10_places_61 fl_X10_54 rfl ?_
              refine x_iload_n dX10_places_64 rfl ?_
              refine x_v1 (N := mX2_isGood) dX10_places_65 ml_X10_202 nv_X2_isGood rfl rfl (kx_isGood S B a hs tx u0 u1 u2 ck co hc hB p hp4) ?_
              rintro _ S' ⟨rfl, hc'⟩
              refine x_if_eqB 75 dX10_places_68 rfl (fun c68 => ?_) (fun c68 => ?_)
              · refine x_ic _ ic_0 dX10_places_75 ?_
                refine x_iretI dX10_places_76 rfl ?_
                exact ⟨by rw [zB_f c68], hc'⟩
              · refine x_ic _ ic_1 dX10_places_71 ?_
                refine x_goto 76 dX10_places_72 rfl ?_
                refine x_iretI dX10_places_76 rfl ?_
                exact ⟨by rw [zB_t c68], hc'⟩
            · exact absurd c48 (by omega)
          · exact absurd c37 (by omega)
    · refine x_iload_n dX10_places_10 rfl ?_
      refine x_ic _ ic_5 dX10_places_11 ?_
      refine x_icmp_eqN 21 dX10_places_12 rfl (by omega) (by omega) (fun c12 => ?_) (fun c12 => ?_)
      · refine x_ic _ ic_1 dX10_places_21 ?_
        refine x_goto 26 dX10_places_22 rfl ?_
        refine x_istore_n dX10_places_26 rfl ?_
        refine x_iload_n dX10_places_27 rfl ?_
        refine x_if_eqN 40 dX10_places_28 rfl (by omega) (fun c28 => ?_) (fun c28 => ?_)
        · exact absurd c28 (by omega)
        · refine x_iload_n dX10_places_31 rfl ?_
          refine x_topI ?_
          refine x_if_ltI 40 dX10_places_32 rfl (by omega) (fun c32 => ?_) (fun c32 => ?_)
          · exact absurd c32 (by omega)
          · refine x_iload_n dX10_places_35 rfl ?_
            refine x_ic _ ic_1 dX10_places_36 ?_
            refine x_icmp_leN 47 dX10_places_37 rfl (by omega) (by omega) (fun c37 => ?_) (fun c37 => ?_)
            · refine x_iload_n dX10_places_47 rfl ?_
              refine x_if_neN 60 dX10_places_48 rfl (by omega) (fun c48 => ?_) (fun c48 => ?_)
              · refine x_aload_n dX10_places_60 rfl ?_
                refine x_getR dX10_places_61 fl_X10_54 rfl ?_
                refine x_iload_n dX10_places_64 rfl ?_
                refine x_v1 (N := mX2_isGood) dX10_places_65 ml_X10_202 nv_X2_isGood rfl rfl (kx_isGood S B a hs tx u0 u1 u2 ck co hc hB p hp4) ?_
                rintro _ S' ⟨rfl, hc'⟩
                refine x_if_eqB 75 dX10_places_68 rfl (fun c68 => ?_) (fun c68 => ?_)
                · refine x_ic _ ic_0 dX10_places_75 ?_
                  refine x_iretI dX10_places_76 rfl ?_
                  exact ⟨by rw [zB_f c68], hc'⟩
                · refine x_ic _ ic_1 dX10_places_71 ?_
                  refine x_goto 76 dX10_places_72 rfl ?_
                  refine x_iretI dX10_places_76 rfl ?_
                  exact ⟨by rw [zB_t c68], hc'⟩
              · exact absurd c48 (by omega)
            · exact absurd c37 (by omega)
      · refine x_iload_n dX10_places_15 rfl ?_
        refine x_bi _ bi_7 dX10_places_16 ?_
        refine x_icmp_neN 25 dX10_places_18 rfl (by omega) (by omega) (fun c18 => ?_) (fun c18 => ?_)
        · exact absurd hp4 (by omega)
        · refine x_ic _ ic_1 dX10_places_21 ?_
          refine x_goto 26 dX10_places_22 rfl ?_
          refine x_istore_n dX10_places_26 rfl ?_
          refine x_iload_n dX10_places_27 rfl ?_
          refine x_if_eqN 40 dX10_places_28 rfl (by omega) (fun c28 => ?_) (fun c28 => ?_)
          · exact absurd c28 (by omega)
          · refine x_iload_n dX10_places_31 rfl ?_
            refine x_topI ?_
            refine x_if_ltI 40 dX10_places_32 rfl (by omega) (fun c32 => ?_) (fun c32 => ?_)
            · exact absurd c32 (by omega)
            · refine x_iload_n dX10_places_35 rfl ?_
              refine x_ic _ ic_1 dX10_places_36 ?_
              refine x_icmp_leN 47 dX10_places_37 rfl (by omega) (by omega) (fun c37 => ?_) (fun c37 => ?_)
              · refine x_iload_n dX10_places_47 rfl ?_
                refine x_if_neN 60 dX10_places_48 rfl (by omega) (fun c48 => ?_) (fun c48 => ?_)
                · refine x_aload_n dX10_places_60 rfl ?_
                  refine x_getR dX10_places_61 fl_X10_54 rfl ?_
                  refine x_iload_n dX10_places_64 rfl ?_
                  refine x_v1 (N := mX2_isGood) dX10_places_65 ml_X10_202 nv_X2_isGood rfl rfl (kx_isGood S B a hs tx u0 u1 u2 ck co hc hB p hp4) ?_
                  rintro _ S' ⟨rfl, hc'⟩
                  refine x_if_eqB 75 dX10_places_68 rfl (fun c68 => ?_) (fun c68 => ?_)
                  · refine x_ic _ ic_0 dX10_places_75 ?_
                    refine x_iretI dX10_places_76 rfl ?_
                    exact ⟨by rw [zB_f c68], hc'⟩
                  · refine x_ic _ ic_1 dX10_places_71 ?_
                    refine x_goto 76 dX10_places_72 rfl ?_
                    refine x_iretI dX10_places_76 rfl ?_
                    exact ⟨by rw [zB_t c68], hc'⟩
                · exact absurd c48 (by omega)
              · exact absurd c37 (by omega)
