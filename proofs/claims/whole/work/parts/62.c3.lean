/-! THE CLASS: planes are added -/
def put1 (S S' : amS) (V : Nat) (N : Nat) (x : Nat → Int32) : Prop := FO [1] [2] S S' ∧ S'.1 1 1 = S.1 1 1 ∧ S'.1 1 2 = nI (N + 1) ∧ S'.1 1 3 = nI (V + 1) ∧ (∀ j, j < 4 → S'.2.1 2 (4 * N + j) = x j) ∧ ∀ k, k < 4 * N → S'.2.1 2 k = S.2.1 2 k
set_option maxRecDepth 100000 in
set_option maxHeartbeats 4000000 in
theorem kx_put (S : amS) (N V : Nat) (hN : N < 9) (m2 : S.1 1 2 = nI N) (hV : S.1 1 3 = nI V) (x0 x1 x2 x3 : Int32) : X shX mX1_put 0 [.ref 1, .int x0, .int x1, .int x2, .int x3, .null] [] S (fun r S' => r = some (.int (nI N)) ∧ put1 S S' V N (q4 x0 x1 x2 x3)) := by
  refine x_aload_n dX1_put_0 rfl ?_
  refine x_getIV dX1_put_1 fl_X1_19 rfl (m2) ?_
  refine x_ic _ ic_4 dX1_put_4 ?_
  refine x_imulN dX1_put_5 ?_
  refine x_istore dX1_put_6 rfl ?_
  refine x_aload_n dX1_put_8 rfl ?_
  refine x_getR dX1_put_9 fl_X1_9 rfl ?_
  refine x_iload dX1_put_12 rfl ?_
  refine x_iload_n dX1_put_14 rfl ?_
  refine x_iastN dX1_put_15 rfl rfl (by omega) ?_
  refine x_aload_n dX1_put_16 rfl ?_
  refine x_getR dX1_put_17 fl_X1_9 rfl ?_
  refine x_iload dX1_put_20 rfl ?_
  refine x_ic _ ic_1 dX1_put_22 ?_
  refine x_iaddN dX1_put_23 ?_
  refine x_iload_n dX1_put_24 rfl ?_
  refine x_iastN dX1_put_25 rfl rfl (by omega) ?_
  refine x_aload_n dX1_put_26 rfl ?_
  refine x_getR dX1_put_27 fl_X1_9 rfl ?_
  refine x_iload dX1_put_30 rfl ?_
  refine x_ic _ ic_2 dX1_put_32 ?_
  refine x_iaddN dX1_put_33 ?_
  refine x_iload_n dX1_put_34 rfl ?_
  refine x_iastN dX1_put_35 rfl rfl (by omega) ?_
  refine x_aload_n dX1_put_36 rfl ?_
  refine x_getR dX1_put_37 fl_X1_9 rfl ?_
  refine x_iload dX1_put_40 rfl ?_
  refine x_ic _ ic_3 dX1_put_42 ?_
  refine x_iaddN dX1_put_43 ?_
  refine x_iload dX1_put_44 rfl ?_
  refine x_iastN dX1_put_46 rfl rfl (by omega) ?_
  refine x_aload_n dX1_put_47 rfl ?_
  refine x_dup dX1_put_48 rfl ?_
  refine x_getIV dX1_put_49 fl_X1_19 rfl (m2) ?_
  refine x_ic _ ic_1 dX1_put_52 ?_
  refine x_iaddN dX1_put_53 ?_
  refine x_put dX1_put_54 fp_X1_19 rfl rfl rfl ?_
  refine x_aload_n dX1_put_57 rfl ?_
  refine x_dup dX1_put_58 rfl ?_
  refine x_getIV dX1_put_59 fl_X1_32 rfl ((show _ = nI V by simp [sF, sA, va_up, upd]; exact hV)) ?_
  refine x_ic _ ic_1 dX1_put_62 ?_
  refine x_iaddN dX1_put_63 ?_
  refine x_put dX1_put_64 fp_X1_32 rfl rfl rfl ?_
  refine x_aload_n dX1_put_67 rfl ?_
  refine x_getIV dX1_put_68 fl_X1_19 rfl ((show _ = nI (N + 1) by simp [sF, sA, va_up, upd])) ?_
  refine x_ic _ ic_1 dX1_put_71 ?_
  refine x_isubN dX1_put_72 (by omega) ?_
  refine x_iretI dX1_put_73 rfl ?_
  refine ⟨by rw [Nat.add_sub_cancel], ((((((FO.rf _ _ S).sA _ (by simp)).sA _ (by simp)).sA _ (by simp)).sA _ (by simp)).sF _ (by simp)).sF _ (by simp), ?_, ?_, ?_, fun j hj => ?_, fun k hk => ?_⟩
  · simp [sF, sA, va_up, upd]
  · simp [sF, sA, va_up, upd]
  · simp [sF, sA, va_up, upd]
  · rcases (show j = 0 ∨ j = 1 ∨ j = 2 ∨ j = 3 by omega) with rfl | rfl | rfl | rfl
    all_goals simp [sF, sA, va_up, upd, q4, Nat.mul_comm N 4]
  · simp [sF, sA, va_up, upd]
    rw [if_neg (by omega), if_neg (by omega), if_neg (by omega), if_neg (by omega)]
theorem put1.obj {S S' : amS} {V : Nat} {a : Ar} {x : Nat → Int32} {r : Row} (h : put1 S S' V a.2.1 x) (hm : aObj S 1 2 a) (hx : ∀ j, j < 4 → x j = i32 (r j)) : chg S S' V 1 (aAdd a r) := by
  obtain ⟨f1, f2, f3, f4, f5, f6⟩ := h
  obtain ⟨m1, m2, m3⟩ := hm
  refine ⟨f1, ⟨f2.trans m1, f3, fun i j hi hj => ?_⟩, V + 1, by omega, by omega, f4⟩
  show _ = i32 (if i = a.2.1 then r j else a.2.2 i j)
  have hi' : i < a.2.1 + 1 := hi
  by_cases q : i = a.2.1
  · rw [if_pos q, q, f5 j hj, hx j hj]
  · rw [if_neg q, f6 _ (by omega)]
    exact m3 i j (by omega) hj
theorem mul3 {a b : Int} (ha : -3 ≤ a ∧ a ≤ 3) (hb : -3 ≤ b ∧ b ≤ 3) : -9 ≤ a * b ∧ a * b ≤ 9 := by
  obtain ⟨a1, a2⟩ := ha
  rcases (show a = -3 ∨ a = -2 ∨ a = -1 ∨ a = 0 ∨ a = 1 ∨ a = 2 ∨ a = 3 by omega) with rfl | rfl | rfl | rfl | rfl | rfl | rfl <;> omega
theorem same6 {x y : Row} (h1 : x 0 * y 1 = x 1 * y 0) (h2 : x 0 * y 2 = x 2 * y 0) (h3 : x 0 * y 3 = x 3 * y 0) (h4 : x 1 * y 2 = x 2 * y 1) (h5 : x 1 * y 3 = x 3 * y 1) (h6 : x 2 * y 3 = x 3 * y 2) : same x y := by
  intro j l hj hl
  rcases (show j = 0 ∨ j = 1 ∨ j = 2 ∨ j = 3 by omega) with rfl | rfl | rfl | rfl <;> rcases (show l = 0 ∨ l = 1 ∨ l = 2 ∨ l = 3 by omega) with rfl | rfl | rfl | rfl <;> first | rfl | assumption | (symm; assumption)
set_option maxRecDepth 100000 in
set_option maxHeartbeats 4000000 in
theorem kx_isSame (S : amS) (i : Nat) (hi : i < 9) (v r : Row) (hv : ∀ j, -3 ≤ v j ∧ v j ≤ 3) (hr : ∀ j, -3 ≤ r j ∧ r j ≤ 3) (hm : ∀ j, j < 4 → S.2.1 2 (4 * i + j) = i32 (v j)) (x0 x1 x2 x3 : Int32) (e0 : x0 = i32 (r 0)) (e1 : x1 = i32 (r 1)) (e2 : x2 = i32 (r 2)) (e3 : x3 = i32 (r 3)) (b : Bool) (hb : b = true ↔ same v r) : X shX mX1_isSame 0 [.ref 1, .int (nI i), .int x0, .int x1, .int x2, .int x3, .null, .null, .null, .null] [] S (fun q S' => q = some (.int (zB b)) ∧ S' = S) := by
  subst e0 e1 e2 e3
  have p01 := mul3 (hv 0) (hr 1)
  have p10 := mul3 (hv 1) (hr 0)
  have p02 := mul3 (hv 0) (hr 2)
  have p20 := mul3 (hv 2) (hr 0)
  have p03 := mul3 (hv 0) (hr 3)
  have p30 := mul3 (hv 3) (hr 0)
  have p12 := mul3 (hv 1) (hr 2)
  have p21 := mul3 (hv 2) (hr 1)
  have p13 := mul3 (hv 1) (hr 3)
  have p31 := mul3 (hv 3) (hr 1)
  have p23 := mul3 (hv 2) (hr 3)
  have p32 := mul3 (hv 3) (hr 2)
  refine x_aload_n dX1_isSame_0 rfl ?_
  refine x_iload_n dX1_isSame_1 rfl ?_
  refine x_ic _ ic_0 dX1_isSame_2 ?_
  refine x_v2d (N := mX1_at) dX1_isSame_3 ml_X1_47 nv_X1_at rfl rfl (kx_at S i 0 hi (by omega) (i32 (v 0)) (hm 0 (by omega))) ?_
  refine x_istore dX1_isSame_6 rfl ?_
  refine x_aload_n dX1_isSame_8 rfl ?_
  refine x_iload_n dX1_isSame_9 rfl ?_
  refine x_ic _ ic_1 dX1_isSame_10 ?_
  refine x_v2d (N := mX1_at) dX1_isSame_11 ml_X1_47 nv_X1_at rfl rfl (kx_at S i 1 hi (by omega) (i32 (v 1)) (hm 1 (by omega))) ?_
  refine x_istore dX1_isSame_14 rfl ?_
  refine x_aload_n dX1_isSame_16 rfl ?_
  refine x_iload_n dX1_isSame_17 rfl ?_
  refine x_ic _ ic_2 dX1_isSame_18 ?_
  refine x_v2d (N := mX1_at) dX1_isSame_19 ml_X1_47 nv_X1_at rfl rfl (kx_at S i 2 hi (by omega) (i32 (v 2)) (hm 2 (by omega))) ?_
  refine x_istore dX1_isSame_22 rfl ?_
  refine x_aload_n dX1_isSame_24 rfl ?_
  refine x_iload_n dX1_isSame_25 rfl ?_
  refine x_ic _ ic_3 dX1_isSame_26 ?_
  refine x_v2d (N := mX1_at) dX1_isSame_27 ml_X1_47 nv_X1_at rfl rfl (kx_at S i 3 hi (by omega) (i32 (v 3)) (hm 3 (by omega))) ?_
  refine x_istore dX1_isSame_30 rfl ?_
  refine x_iload dX1_isSame_32 rfl ?_
  refine x_iload_n dX1_isSame_34 rfl ?_
  refine x_imulI dX1_isSame_35 ?_
  refine x_iload dX1_isSame_36 rfl ?_
  refine x_iload_n dX1_isSame_38 rfl ?_
  refine x_imulI dX1_isSame_39 ?_
  refine x_icmp_neI 108 dX1_isSame_40 rfl (by omega) (by omega) (fun c40 => ?_) (fun c40 => ?_)
  · refine x_ic _ ic_0 dX1_isSame_108 ?_
    refine x_zret0 dX1_isSame_109 rfl ?_
    exact ⟨by rw [zB_f]; exact Bool.eq_false_iff.mpr (fun z => c40 (hb.mp z 0 1 (by omega) (by omega))), rfl⟩
  · refine x_iload dX1_isSame_43 rfl ?_
    refine x_iload dX1_isSame_45 rfl ?_
    refine x_imulI dX1_isSame_47 ?_
    refine x_iload dX1_isSame_48 rfl ?_
    refine x_iload_n dX1_isSame_50 rfl ?_
    refine x_imulI dX1_isSame_51 ?_
    refine x_icmp_neI 108 dX1_isSame_52 rfl (by omega) (by omega) (fun c52 => ?_) (fun c52 => ?_)
    · refine x_ic _ ic_0 dX1_isSame_108 ?_
      refine x_zret0 dX1_isSame_109 rfl ?_
      exact ⟨by rw [zB_f]; exact Bool.eq_false_iff.mpr (fun z => c52 (hb.mp z 0 2 (by omega) (by omega))), rfl⟩
    · refine x_iload dX1_isSame_55 rfl ?_
      refine x_iload dX1_isSame_57 rfl ?_
      refine x_imulI dX1_isSame_59 ?_
      refine x_iload dX1_isSame_60 rfl ?_
      refine x_iload_n dX1_isSame_62 rfl ?_
      refine x_imulI dX1_isSame_63 ?_
      refine x_icmp_neI 108 dX1_isSame_64 rfl (by omega) (by omega) (fun c64 => ?_) (fun c64 => ?_)
      · refine x_ic _ ic_0 dX1_isSame_108 ?_
        refine x_zret0 dX1_isSame_109 rfl ?_
        exact ⟨by rw [zB_f]; exact Bool.eq_false_iff.mpr (fun z => c64 (hb.mp z 0 3 (by omega) (by omega))), rfl⟩
      · refine x_iload dX1_isSame_67 rfl ?_
        refine x_iload dX1_isSame_69 rfl ?_
        refine x_imulI dX1_isSame_71 ?_
        refine x_iload dX1_isSame_72 rfl ?_
        refine x_iload_n dX1_isSame_74 rfl ?_
        refine x_imulI dX1_isSame_75 ?_
        refine x_icmp_neI 108 dX1_isSame_76 rfl (by omega) (by omega) (fun c76 => ?_) (fun c76 => ?_)
        · refine x_ic _ ic_0 dX1_isSame_108 ?_
          refine x_zret0 dX1_isSame_109 rfl ?_
          exact ⟨by rw [zB_f]; exact Bool.eq_false_iff.mpr (fun z => c76 (hb.mp z 1 2 (by omega) (by omega))), rfl⟩
        · refine x_iload dX1_isSame_79 rfl ?_
          refine x_iload dX1_isSame_81 rfl ?_
          refine x_imulI dX1_isSame_83 ?_
          refine x_iload dX1_isSame_84 rfl ?_
          refine x_iload_n dX1_isSame_86 rfl ?_
          refine x_imulI dX1_isSame_87 ?_
          refine x_icmp_neI 108 dX1_isSame_88 rfl (by omega) (by omega) (fun c88 => ?_) (fun c88 => ?_)
          · refine x_ic _ ic_0 dX1_isSame_108 ?_
            refine x_zret0 dX1_isSame_109 rfl ?_
            exact ⟨by rw [zB_f]; exact Bool.eq_false_iff.mpr (fun z => c88 (hb.mp z 1 3 (by omega) (by omega))), rfl⟩
          · refine x_iload dX1_isSame_91 rfl ?_
            refine x_iload dX1_isSame_93 rfl ?_
            refine x_imulI dX1_isSame_95 ?_
            refine x_iload dX1_isSame_96 rfl ?_
            refine x_iload dX1_isSame_98 rfl ?_
            refine x_imulI dX1_isSame_100 ?_
            refine x_icmp_neI 108 dX1_isSame_101 rfl (by omega) (by omega) (fun c101 => ?_) (fun c101 => ?_)
            · refine x_ic _ ic_0 dX1_isSame_108 ?_
              refine x_zret0 dX1_isSame_109 rfl ?_
              exact ⟨by rw [zB_f]; exact Bool.eq_false_iff.mpr (fun z => c101 (hb.mp z 2 3 (by omega) (by omega))), rfl⟩
            · refine x_ic _ ic_1 dX1_isSame_104 ?_
              refine x_goto 109 dX1_isSame_105 rfl ?_
              refine x_zret1 dX1_isSame_109 rfl ?_
              exact ⟨by rw [zB_t]; exact hb.mpr (same6 c40 c52 c64 c76 c88 c101), rfl⟩
set_option maxRecDepth 100000 in
set_option maxHeartbeats 4000000 in
theorem kx_add_l (S : amS) (a : Ar) (hA : Arr a.1 a.2.1 a.2.2) (hm : aObj S 1 2 a) (x0 x1 x2 x3 : Int32) (hx : plOK a.1 (q4 x0 x1 x2 x3)) (Q : Option Value → amS → Prop) (hno : (∃ i, i < a.2.1 ∧ same (a.2.2 i) (plR (q4 x0 x1 x2 x3))) → Q (some (.int (i32 (-3)))) S) (hq : (∀ i, i < a.2.1 → ¬ same (a.2.2 i) (plR (q4 x0 x1 x2 x3))) → X shX mX1_add 115 [.ref 1, .int x0, .int x1, .int x2, .int x3, .int (nI a.2.1)] [] S Q) : ∀ (e t : Nat), t + e = a.2.1 → (∀ i, i < t → ¬ same (a.2.2 i) (plR (q4 x0 x1 x2 x3))) → X shX mX1_add 83 [.ref 1, .int x0, .int x1, .int x2, .int x3, .int (nI t)] [] S Q := by
  obtain ⟨a1, a2, a3, a4, a5, a6, a7⟩ := id hA
  obtain ⟨m1, m2, m3⟩ := id hm
  intro e
  induction e with
  | zero =>
    intro t h1 h2
    obtain rfl : t = a.2.1 := by omega
    refine x_iload dX1_add_83 rfl ?_
    refine x_aload_n dX1_add_85 rfl ?_
    refine x_getIV dX1_add_86 fl_X1_19 rfl (m2) ?_
    refine x_icmp_geN 115 dX1_add_89 rfl (by omega) (by omega) (fun c89 => ?_) (fun c89 => ?_)
    · exact hq h2
    · exact absurd c89 (by omega)
  | succ e ih =>
    intro t h1 h2
    obtain ⟨b, hb⟩ : ∃ b : Bool, b = true ↔ same (a.2.2 t) (plR (q4 x0 x1 x2 x3)) := ⟨@decide (same (a.2.2 t) (plR (q4 x0 x1 x2 x3))) (Classical.propDecidable _), by simp⟩
    refine x_iload dX1_add_83 rfl ?_
    refine x_aload_n dX1_add_85 rfl ?_
    refine x_getIV dX1_add_86 fl_X1_19 rfl (m2) ?_
    refine x_icmp_geN 115 dX1_add_89 rfl (by omega) (by omega) (fun c89 => ?_) (fun c89 => ?_)
    · exact absurd c89 (by omega)
    · refine x_aload_n dX1_add_92 rfl ?_
      refine x_iload dX1_add_93 rfl ?_
      refine x_iload_n dX1_add_95 rfl ?_
      refine x_iload_n dX1_add_96 rfl ?_
      refine x_iload_n dX1_add_97 rfl ?_
      refine x_iload dX1_add_98 rfl ?_
      refine x_v5d (N := mX1_isSame) dX1_add_100 ml_X1_39 nv_X1_isSame rfl rfl (kx_isSame S t (by omega) (a.2.2 t) (plR (q4 x0 x1 x2 x3)) (fun j => a4 t j) (plR_bd hx) (fun j hj => m3 t j (by omega) hj) x0 x1 x2 x3 (plR_at (x := q4 x0 x1 x2 x3) (j := 0) (by omega)) (plR_at (x := q4 x0 x1 x2 x3) (j := 1) (by omega)) (plR_at (x := q4 x0 x1 x2 x3) (j := 2) (by omega)) (plR_at (x := q4 x0 x1 x2 x3) (j := 3) (by omega)) b hb) ?_
      refine x_if_eqB 109 dX1_add_103 rfl (fun c103 => ?_) (fun c103 => ?_)
      · refine x_iincN dX1_add_109 rfl rfl ?_
        refine x_goto 83 dX1_add_112 rfl ?_
        refine ih (t + 1) (by omega) (fun i hi => ?_)
        by_cases q : i = t
        · rw [q]; exact fun z => by rw [hb.mpr z] at c103; cases c103
        · exact h2 i (by omega)
      · refine x_bi _ bi_m3 dX1_add_106 ?_
        refine x_iretI dX1_add_108 rfl ?_
        exact hno ⟨t, by omega, hb.mp c103⟩
theorem plOK_mk {d : Nat} (hd : 2 ≤ d) {x0 x1 x2 x3 : Int32} (h0 : i32 (-3) ≤ x0 ∧ x0 ≤ nI 3) (h1 : i32 (-3) ≤ x1 ∧ x1 ≤ nI 3) (h2 : i32 (-3) ≤ x2 ∧ x2 ≤ nI 3) (h3 : i32 (-3) ≤ x3 ∧ x3 ≤ nI 3) (hz : x0 ≠ 0 ∨ x1 ≠ 0 ∨ x2 ≠ 0 ∨ x3 ≠ 0) (h4 : 3 ≤ d ∨ x2 = 0) (h5 : 4 ≤ d ∨ x3 = 0) : plOK d (q4 x0 x1 x2 x3) := by
  refine ⟨fun j hj => ?_, ?_⟩
  · rcases (show j = 0 ∨ j = 1 ∨ j = 2 ∨ j = 3 by omega) with rfl | rfl | rfl | rfl
    · exact ⟨h0, Or.inl (by omega)⟩
    · exact ⟨h1, Or.inl (by omega)⟩
    · exact ⟨h2, h4.elim (fun z => Or.inl (by omega)) Or.inr⟩
    · exact ⟨h3, h5.elim (fun z => Or.inl (by omega)) Or.inr⟩
  · rcases hz with z | z | z | z
    · exact ⟨0, by omega, z⟩
    · exact ⟨1, by omega, z⟩
    · exact ⟨2, by omega, z⟩
    · exact ⟨3, by omega, z⟩
theorem plOK_un {d : Nat} {x0 x1 x2 x3 : Int32} (h : plOK d (q4 x0 x1 x2 x3)) : ((i32 (-3) ≤ x0 ∧ x0 ≤ nI 3) ∧ (i32 (-3) ≤ x1 ∧ x1 ≤ nI 3) ∧ (i32 (-3) ≤ x2 ∧ x2 ≤ nI 3) ∧ (i32 (-3) ≤ x3 ∧ x3 ≤ nI 3)) ∧ ¬ (x0 = 0 ∧ x1 = 0 ∧ x2 = 0 ∧ x3 = 0) ∧ (3 ≤ d ∨ x2 = 0) ∧ (4 ≤ d ∨ x3 = 0) := by
  obtain ⟨h1, j, hj, hz⟩ := h
  refine ⟨⟨(h1 0 (by omega)).1, (h1 1 (by omega)).1, (h1 2 (by omega)).1, (h1 3 (by omega)).1⟩, ?_, ?_, ?_⟩
  · rintro ⟨z0, z1, z2, z3⟩
    subst z0 z1 z2 z3
    apply hz
    simp [q4]
    rfl
  · rcases (h1 2 (by omega)).2 with z | z
    · exact Or.inl (by omega)
    · exact Or.inr z
  · rcases (h1 3 (by omega)).2 with z | z
    · exact Or.inl (by omega)
    · exact Or.inr z
set_option maxRecDepth 100000 in
set_option maxHeartbeats 4000000 in
theorem kx_add_bad (S : amS) (a : Ar) (hA : Arr a.1 a.2.1 a.2.2) (hm : aObj S 1 2 a) (x0 x1 x2 x3 : Int32) (hx : ¬ plOK a.1 (q4 x0 x1 x2 x3)) : X shX mX1_add 0 [.ref 1, .int x0, .int x1, .int x2, .int x3, .null] [] S (fun r S' => r = some (.int (i32 (-2))) ∧ S' = S) := by
  obtain ⟨a1, a2, a3, a4, a5, a6, a7⟩ := id hA
  obtain ⟨m1, m2, m3⟩ := id hm
  refine x_iload_n dX1_add_0 rfl ?_
  refine x_s1d (N := mX1_isCoefficient) dX1_add_1 ml_X1_35 ns_X1_isCoefficient rfl (kx_isC S _) ?_
  refine x_if_eqB 29 dX1_add_4 rfl (fun c4 => ?_) (fun c4 => ?_)
  · refine x_bi _ bi_m2 dX1_add_29 ?_
    refine x_iretI dX1_add_31 rfl ?_
    exact ⟨rfl, rfl⟩
  · refine x_iload_n dX1_add_7 rfl ?_
    refine x_s1d (N := mX1_isCoefficient) dX1_add_8 ml_X1_35 ns_X1_isCoefficient rfl (kx_isC S _) ?_
    refine x_if_eqB 29 dX1_add_11 rfl (fun c11 => ?_) (fun c11 => ?_)
    · refine x_bi _ bi_m2 dX1_add_29 ?_
      refine x_iretI dX1_add_31 rfl ?_
      exact ⟨rfl, rfl⟩
    · refine x_iload_n dX1_add_14 rfl ?_
      refine x_s1d (N := mX1_isCoefficient) dX1_add_15 ml_X1_35 ns_X1_isCoefficient rfl (kx_isC S _) ?_
      refine x_if_eqB 29 dX1_add_18 rfl (fun c18 => ?_) (fun c18 => ?_)
      · refine x_bi _ bi_m2 dX1_add_29 ?_
        refine x_iretI dX1_add_31 rfl ?_
        exact ⟨rfl, rfl⟩
      · refine x_iload dX1_add_21 rfl ?_
        refine x_s1d (N := mX1_isCoefficient) dX1_add_23 ml_X1_35 ns_X1_isCoefficient rfl (kx_isC S _) ?_
        refine x_if_neB 32 dX1_add_26 rfl (fun c26 => ?_) (fun c26 => ?_)
        · refine x_iload_n dX1_add_32 rfl ?_
          refine x_if_ne 52 dX1_add_33 rfl (fun c33 => ?_) (fun c33 => ?_)
          · refine x_aload_n dX1_add_52 rfl ?_
            refine x_getIV dX1_add_53 fl_X1_15 rfl (m1) ?_
            refine x_ic _ ic_3 dX1_add_56 ?_
            refine x_icmp_geN 64 dX1_add_57 rfl (by omega) (by omega) (fun c57 => ?_) (fun c57 => ?_)
            · refine x_aload_n dX1_add_64 rfl ?_
              refine x_getIV dX1_add_65 fl_X1_15 rfl (m1) ?_
              refine x_ic _ ic_4 dX1_add_68 ?_
              refine x_icmp_geN 80 dX1_add_69 rfl (by omega) (by omega) (fun c69 => ?_) (fun c69 => ?_)
              · exfalso
                refine absurd (plOK_mk a1 (of_decide_eq_true c4) (of_decide_eq_true c11) (of_decide_eq_true c18) (of_decide_eq_true c26) ?_ ?_ ?_) hx
                · first | exact Or.inl c33 | exact Or.inr (Or.inl c37) | exact Or.inr (Or.inr (Or.inl c41)) | exact Or.inr (Or.inr (Or.inr c46))
                · first | exact Or.inl c57 | exact Or.inr (Classical.not_not.mp c61) | exact Or.inr c61
                · first | exact Or.inl c69 | exact Or.inr c74
              · refine x_iload dX1_add_72 rfl ?_
                refine x_if_eq 80 dX1_add_74 rfl (fun c74 => ?_) (fun c74 => ?_)
                · exfalso
                  refine absurd (plOK_mk a1 (of_decide_eq_true c4) (of_decide_eq_true c11) (of_decide_eq_true c18) (of_decide_eq_true c26) ?_ ?_ ?_) hx
                  · first | exact Or.inl c33 | exact Or.inr (Or.inl c37) | exact Or.inr (Or.inr (Or.inl c41)) | exact Or.inr (Or.inr (Or.inr c46))
                  · first | exact Or.inl c57 | exact Or.inr (Classical.not_not.mp c61) | exact Or.inr c61
                  · first | exact Or.inl c69 | exact Or.inr c74
                · refine x_bi _ bi_m2 dX1_add_77 ?_
                  refine x_iretI dX1_add_79 rfl ?_
                  exact ⟨rfl, rfl⟩
            · refine x_iload_n dX1_add_60 rfl ?_
              refine x_if_ne 77 dX1_add_61 rfl (fun c61 => ?_) (fun c61 => ?_)
              · refine x_bi _ bi_m2 dX1_add_77 ?_
                refine x_iretI dX1_add_79 rfl ?_
                exact ⟨rfl, rfl⟩
              · refine x_aload_n dX1_add_64 rfl ?_
                refine x_getIV dX1_add_65 fl_X1_15 rfl (m1) ?_
                refine x_ic _ ic_4 dX1_add_68 ?_
                refine x_icmp_geN 80 dX1_add_69 rfl (by omega) (by omega) (fun c69 => ?_) (fun c69 => ?_)
                · exfalso
                  refine absurd (plOK_mk a1 (of_decide_eq_true c4) (of_decide_eq_true c11) (of_decide_eq_true c18) (of_decide_eq_true c26) ?_ ?_ ?_) hx
                  · first | exact Or.inl c33 | exact Or.inr (Or.inl c37) | exact Or.inr (Or.inr (Or.inl c41)) | exact Or.inr (Or.inr (Or.inr c46))
                  · first | exact Or.inl c57 | exact Or.inr (Classical.not_not.mp c61) | exact Or.inr c61
                  · first | exact Or.inl c69 | exact Or.inr c74
                · refine x_iload dX1_add_72 rfl ?_
                  refine x_if_eq 80 dX1_add_74 rfl (fun c74 => ?_) (fun c74 => ?_)
                  · exfalso
                    refine absurd (plOK_mk a1 (of_decide_eq_true c4) (of_decide_eq_true c11) (of_decide_eq_true c18) (of_decide_eq_true c26) ?_ ?_ ?_) hx
                    · first | exact Or.inl c33 | exact Or.inr (Or.inl c37) | exact Or.inr (Or.inr (Or.inl c41)) | exact Or.inr (Or.inr (Or.inr c46))
                    · first | exact Or.inl c57 | exact Or.inr (Classical.not_not.mp c61) | exact Or.inr c61
                    · first | exact Or.inl c69 | exact Or.inr c74
                  · refine x_bi _ bi_m2 dX1_add_77 ?_
                    refine x_iretI dX1_add_79 rfl ?_
                    exact ⟨rfl, rfl⟩
          · refine x_iload_n dX1_add_36 rfl ?_
            refine x_if_ne 52 dX1_add_37 rfl (fun c37 => ?_) (fun c37 => ?_)
            · refine x_aload_n dX1_add_52 rfl ?_
              refine x_getIV dX1_add_53 fl_X1_15 rfl (m1) ?_
              refine x_ic _ ic_3 dX1_add_56 ?_
              refine x_icmp_geN 64 dX1_add_57 rfl (by omega) (by omega) (fun c57 => ?_) (fun c57 => ?_)
              · refine x_aload_n dX1_add_64 rfl ?_
                refine x_getIV dX1_add_65 fl_X1_15 rfl (m1) ?_
                refine x_ic _ ic_4 dX1_add_68 ?_
                refine x_icmp_geN 80 dX1_add_69 rfl (by omega) (by omega) (fun c69 => ?_) (fun c69 => ?_)
                · exfalso
                  refine absurd (plOK_mk a1 (of_decide_eq_true c4) (of_decide_eq_true c11) (of_decide_eq_true c18) (of_decide_eq_true c26) ?_ ?_ ?_) hx
                  · first | exact Or.inl c33 | exact Or.inr (Or.inl c37) | exact Or.inr (Or.inr (Or.inl c41)) | exact Or.inr (Or.inr (Or.inr c46))
                  · first | exact Or.inl c57 | exact Or.inr (Classical.not_not.mp c61) | exact Or.inr c61
                  · first | exact Or.inl c69 | exact Or.inr c74
                · refine x_iload dX1_add_72 rfl ?_
                  refine x_if_eq 80 dX1_add_74 rfl (fun c74 => ?_) (fun c74 => ?_)
                  · exfalso
                    refine absurd (plOK_mk a1 (of_decide_eq_true c4) (of_decide_eq_true c11) (of_decide_eq_true c18) (of_decide_eq_true c26) ?_ ?_ ?_) hx
                    · first | exact Or.inl c33 | exact Or.inr (Or.inl c37) | exact Or.inr (Or.inr (Or.inl c41)) | exact Or.inr (Or.inr (Or.inr c46))
                    · first | exact Or.inl c57 | exact Or.inr (Classical.not_not.mp c61) | exact Or.inr c61
                    · first | exact Or.inl c69 | exact Or.inr c74
                  · refine x_bi _ bi_m2 dX1_add_77 ?_
                    refine x_iretI dX1_add_79 rfl ?_
                    exact ⟨rfl, rfl⟩
              · refine x_iload_n dX1_add_60 rfl ?_
                refine x_if_ne 77 dX1_add_61 rfl (fun c61 => ?_) (fun c61 => ?_)
                · refine x_bi _ bi_m2 dX1_add_77 ?_
                  refine x_iretI dX1_add_79 rfl ?_
                  exact ⟨rfl, rfl⟩
                · refine x_aload_n dX1_add_64 rfl ?_
                  refine x_getIV dX1_add_65 fl_X1_15 rfl (m1) ?_
                  refine x_ic _ ic_4 dX1_add_68 ?_
                  refine x_icmp_geN 80 dX1_add_69 rfl (by omega) (by omega) (fun c69 => ?_) (fun c69 => ?_)
                  · exfalso
                    refine absurd (plOK_mk a1 (of_decide_eq_true c4) (of_decide_eq_true c11) (of_decide_eq_true c18) (of_decide_eq_true c26) ?_ ?_ ?_) hx
                    · first | exact Or.inl c33 | exact Or.inr (Or.inl c37) | exact Or.inr (Or.inr (Or.inl c41)) | exact Or.inr (Or.inr (Or.inr c46))
                    · first | exact Or.inl c57 | exact Or.inr (Classical.not_not.mp c61) | exact Or.inr c61
                    · first | exact Or.inl c69 | exact Or.inr c74
                  · refine x_iload dX1_add_72 rfl ?_
                    refine x_if_eq 80 dX1_add_74 rfl (fun c74 => ?_) (fun c74 => ?_)
                    · exfalso
                      refine absurd (plOK_mk a1 (of_decide_eq_true c4) (of_decide_eq_true c11) (of_decide_eq_true c18) (of_decide_eq_true c26) ?_ ?_ ?_) hx
                      · first | exact Or.inl c33 | exact Or.inr (Or.inl c37) | exact Or.inr (Or.inr (Or.inl c41)) | exact Or.inr (Or.inr (Or.inr c46))
                      · first | exact Or.inl c57 | exact Or.inr (Classical.not_not.mp c61) | exact Or.inr c61
                      · first | exact Or.inl c69 | exact Or.inr c74
                    · refine x_bi _ bi_m2 dX1_add_77 ?_
                      refine x_iretI dX1_add_79 rfl ?_
                      exact ⟨rfl, rfl⟩
            · refine x_iload_n dX1_add_40 rfl ?_
              refine x_if_ne 52 dX1_add_41 rfl (fun c41 => ?_) (fun c41 => ?_)
              · refine x_aload_n dX1_add_52 rfl ?_
                refine x_getIV dX1_add_53 fl_X1_15 rfl (m1) ?_
                refine x_ic _ ic_3 dX1_add_56 ?_
                refine x_icmp_geN 64 dX1_add_57 rfl (by omega) (by omega) (fun c57 => ?_) (fun c57 => ?_)
                · refine x_aload_n dX1_add_64 rfl ?_
                  refine x_getIV dX1_add_65 fl_X1_15 rfl (m1) ?_
                  refine x_ic _ ic_4 dX1_add_68 ?_
                  refine x_icmp_geN 80 dX1_add_69 rfl (by omega) (by omega) (fun c69 => ?_) (fun c69 => ?_)
                  · exfalso
                    refine absurd (plOK_mk a1 (of_decide_eq_true c4) (of_decide_eq_true c11) (of_decide_eq_true c18) (of_decide_eq_true c26) ?_ ?_ ?_) hx
                    · first | exact Or.inl c33 | exact Or.inr (Or.inl c37) | exact Or.inr (Or.inr (Or.inl c41)) | exact Or.inr (Or.inr (Or.inr c46))
                    · first | exact Or.inl c57 | exact Or.inr (Classical.not_not.mp c61) | exact Or.inr c61
                    · first | exact Or.inl c69 | exact Or.inr c74
                  · refine x_iload dX1_add_72 rfl ?_
                    refine x_if_eq 80 dX1_add_74 rfl (fun c74 => ?_) (fun c74 => ?_)
                    · exfalso
                      refine absurd (plOK_mk a1 (of_decide_eq_true c4) (of_decide_eq_true c11) (of_decide_eq_true c18) (of_decide_eq_true c26) ?_ ?_ ?_) hx
                      · first | exact Or.inl c33 | exact Or.inr (Or.inl c37) | exact Or.inr (Or.inr (Or.inl c41)) | exact Or.inr (Or.inr (Or.inr c46))
                      · first | exact Or.inl c57 | exact Or.inr (Classical.not_not.mp c61) | exact Or.inr c61
                      · first | exact Or.inl c69 | exact Or.inr c74
                    · refine x_bi _ bi_m2 dX1_add_77 ?_
                      refine x_iretI dX1_add_79 rfl ?_
                      exact ⟨rfl, rfl⟩
                · refine x_iload_n dX1_add_60 rfl ?_
                  refine x_if_ne 77 dX1_add_61 rfl (fun c61 => ?_) (fun c61 => ?_)
                  · refine x_bi _ bi_m2 dX1_add_77 ?_
                    refine x_iretI dX1_add_79 rfl ?_
                    exact ⟨rfl, rfl⟩
                  · refine x_aload_n dX1_add_64 rfl ?_
                    refine x_getIV dX1_add_65 fl_X1_15 rfl (m1) ?_
                    refine x_ic _ ic_4 dX1_add_68 ?_
                    refine x_icmp_geN 80 dX1_add_69 rfl (by omega) (by omega) (fun c69 => ?_) (fun c69 => ?_)
                    · exfalso
                      refine absurd (plOK_mk a1 (of_decide_eq_true c4) (of_decide_eq_true c11) (of_decide_eq_true c18) (of_decide_eq_true c26) ?_ ?_ ?_) hx
                      · first | exact Or.inl c33 | exact Or.inr (Or.inl c37) | exact Or.inr (Or.inr (Or.inl c41)) | exact Or.inr (Or.inr (Or.inr c46))
                      · first | exact Or.inl c57 | exact Or.inr (Classical.not_not.mp c61) | exact Or.inr c61
                      · first | exact Or.inl c69 | exact Or.inr c74
                    · refine x_iload dX1_add_72 rfl ?_
                      refine x_if_eq 80 dX1_add_74 rfl (fun c74 => ?_) (fun c74 => ?_)
                      · exfalso
                        refine absurd (plOK_mk a1 (of_decide_eq_true c4) (of_decide_eq_true c11) (of_decide_eq_true c18) (of_decide_eq_true c26) ?_ ?_ ?_) hx
                        · first | exact Or.inl c33 | exact Or.inr (Or.inl c37) | exact Or.inr (Or.inr (Or.inl c41)) | exact Or.inr (Or.inr (Or.inr c46))
                        · first | exact Or.inl c57 | exact Or.inr (Classical.not_not.mp c61) | exact Or.inr c61
                        · first | exact Or.inl c69 | exact Or.inr c74
                      · refine x_bi _ bi_m2 dX1_add_77 ?_
                        refine x_iretI dX1_add_79 rfl ?_
                        exact ⟨rfl, rfl⟩
              · refine x_iload dX1_add_44 rfl ?_
                refine x_if_ne 52 dX1_add_46 rfl (fun c46 => ?_) (fun c46 => ?_)
                · refine x_aload_n dX1_add_52 rfl ?_
                  refine x_getIV dX1_add_53 fl_X1_15 rfl (m1) ?_
                  refine x_ic _ ic_3 dX1_add_56 ?_
                  refine x_icmp_geN 64 dX1_add_57 rfl (by omega) (by omega) (fun c57 => ?_) (fun c57 => ?_)
                  · refine x_aload_n dX1_add_64 rfl ?_
                    refine x_getIV dX1_add_65 fl_X1_15 rfl (m1) ?_
                    refine x_ic _ ic_4 dX1_add_68 ?_
                    refine x_icmp_geN 80 dX1_add_69 rfl (by omega) (by omega) (fun c69 => ?_) (fun c69 => ?_)
                    · exfalso
                      refine absurd (plOK_mk a1 (of_decide_eq_true c4) (of_decide_eq_true c11) (of_decide_eq_true c18) (of_decide_eq_true c26) ?_ ?_ ?_) hx
                      · first | exact Or.inl c33 | exact Or.inr (Or.inl c37) | exact Or.inr (Or.inr (Or.inl c41)) | exact Or.inr (Or.inr (Or.inr c46))
                      · first | exact Or.inl c57 | exact Or.inr (Classical.not_not.mp c61) | exact Or.inr c61
                      · first | exact Or.inl c69 | exact Or.inr c74
                    · refine x_iload dX1_add_72 rfl ?_
                      refine x_if_eq 80 dX1_add_74 rfl (fun c74 => ?_) (fun c74 => ?_)
                      · exfalso
                        refine absurd (plOK_mk a1 (of_decide_eq_true c4) (of_decide_eq_true c11) (of_decide_eq_true c18) (of_decide_eq_true c26) ?_ ?_ ?_) hx
                        · first | exact Or.inl c33 | exact Or.inr (Or.inl c37) | exact Or.inr (Or.inr (Or.inl c41)) | exact Or.inr (Or.inr (Or.inr c46))
                        · first | exact Or.inl c57 | exact Or.inr (Classical.not_not.mp c61) | exact Or.inr c61
                        · first | exact Or.inl c69 | exact Or.inr c74
                      · refine x_bi _ bi_m2 dX1_add_77 ?_
                        refine x_iretI dX1_add_79 rfl ?_
                        exact ⟨rfl, rfl⟩
                  · refine x_iload_n dX1_add_60 rfl ?_
                    refine x_if_ne 77 dX1_add_61 rfl (fun c61 => ?_) (fun c61 => ?_)
                    · refine x_bi _ bi_m2 dX1_add_77 ?_
                      refine x_iretI dX1_add_79 rfl ?_
                      exact ⟨rfl, rfl⟩
                    · refine x_aload_n dX1_add_64 rfl ?_
                      refine x_getIV dX1_add_65 fl_X1_15 rfl (m1) ?_
                      refine x_ic _ ic_4 dX1_add_68 ?_
                      refine x_icmp_geN 80 dX1_add_69 rfl (by omega) (by omega) (fun c69 => ?_) (fun c69 => ?_)
                      · exfalso
                        refine absurd (plOK_mk a1 (of_decide_eq_true c4) (of_decide_eq_true c11) (of_decide_eq_true c18) (of_decide_eq_true c26) ?_ ?_ ?_) hx
                        · first | exact Or.inl c33 | exact Or.inr (Or.inl c37) | exact Or.inr (Or.inr (Or.inl c41)) | exact Or.inr (Or.inr (Or.inr c46))
                        · first | exact Or.inl c57 | exact Or.inr (Classical.not_not.mp c61) | exact Or.inr c61
                        · first | exact Or.inl c69 | exact Or.inr c74
                      · refine x_iload dX1_add_72 rfl ?_
                        refine x_if_eq 80 dX1_add_74 rfl (fun c74 => ?_) (fun c74 => ?_)
                        · exfalso
                          refine absurd (plOK_mk a1 (of_decide_eq_true c4) (of_decide_eq_true c11) (of_decide_eq_true c18) (of_decide_eq_true c26) ?_ ?_ ?_) hx
                          · first | exact Or.inl c33 | exact Or.inr (Or.inl c37) | exact Or.inr (Or.inr (Or.inl c41)) | exact Or.inr (Or.inr (Or.inr c46))
                          · first | exact Or.inl c57 | exact Or.inr (Classical.not_not.mp c61) | exact Or.inr c61
                          · first | exact Or.inl c69 | exact Or.inr c74
                        · refine x_bi _ bi_m2 dX1_add_77 ?_
                          refine x_iretI dX1_add_79 rfl ?_
                          exact ⟨rfl, rfl⟩
                · refine x_bi _ bi_m2 dX1_add_49 ?_
                  refine x_iretI dX1_add_51 rfl ?_
                  exact ⟨rfl, rfl⟩
        · refine x_bi _ bi_m2 dX1_add_29 ?_
          refine x_iretI dX1_add_31 rfl ?_
          exact ⟨rfl, rfl⟩
set_option maxRecDepth 100000 in
set_option maxHeartbeats 4000000 in
theorem kx_add_1 (S : amS) (a : Ar) (hA : Arr a.1 a.2.1 a.2.2) (hm : aObj S 1 2 a) (x0 x1 x2 x3 : Int32) (hx : plOK a.1 (q4 x0 x1 x2 x3)) (Q : Option Value → amS → Prop) (hq : X shX mX1_add 83 [.ref 1, .int x0, .int x1, .int x2, .int x3, .int (nI 0)] [] S Q) : X shX mX1_add 0 [.ref 1, .int x0, .int x1, .int x2, .int x3, .null] [] S Q := by
  obtain ⟨a1, a2, a3, a4, a5, a6, a7⟩ := id hA
  obtain ⟨m1, m2, m3⟩ := id hm
  obtain ⟨⟨g0, g1, g2, g3⟩, g4, g5, g6⟩ := plOK_un hx
  refine x_iload_n dX1_add_0 rfl ?_
  refine x_s1d (N := mX1_isCoefficient) dX1_add_1 ml_X1_35 ns_X1_isCoefficient rfl (kx_isC S _) ?_
  refine x_if_eqB 29 dX1_add_4 rfl (fun c4 => ?_) (fun c4 => ?_)
  · rw [decide_eq_true g0] at c4; cases c4
  · refine x_iload_n dX1_add_7 rfl ?_
    refine x_s1d (N := mX1_isCoefficient) dX1_add_8 ml_X1_35 ns_X1_isCoefficient rfl (kx_isC S _) ?_
    refine x_if_eqB 29 dX1_add_11 rfl (fun c11 => ?_) (fun c11 => ?_)
    · rw [decide_eq_true g1] at c11; cases c11
    · refine x_iload_n dX1_add_14 rfl ?_
      refine x_s1d (N := mX1_isCoefficient) dX1_add_15 ml_X1_35 ns_X1_isCoefficient rfl (kx_isC S _) ?_
      refine x_if_eqB 29 dX1_add_18 rfl (fun c18 => ?_) (fun c18 => ?_)
      · rw [decide_eq_true g2] at c18; cases c18
      · refine x_iload dX1_add_21 rfl ?_
        refine x_s1d (N := mX1_isCoefficient) dX1_add_23 ml_X1_35 ns_X1_isCoefficient rfl (kx_isC S _) ?_
        refine x_if_neB 32 dX1_add_26 rfl (fun c26 => ?_) (fun c26 => ?_)
        · refine x_iload_n dX1_add_32 rfl ?_
          refine x_if_ne 52 dX1_add_33 rfl (fun c33 => ?_) (fun c33 => ?_)
          · refine x_aload_n dX1_add_52 rfl ?_
            refine x_getIV dX1_add_53 fl_X1_15 rfl (m1) ?_
            refine x_ic _ ic_3 dX1_add_56 ?_
            refine x_icmp_geN 64 dX1_add_57 rfl (by omega) (by omega) (fun c57 => ?_) (fun c57 => ?_)
            · refine x_aload_n dX1_add_64 rfl ?_
              refine x_getIV dX1_add_65 fl_X1_15 rfl (m1) ?_
              refine x_ic _ ic_4 dX1_add_68 ?_
              refine x_icmp_geN 80 dX1_add_69 rfl (by omega) (by omega) (fun c69 => ?_) (fun c69 => ?_)
              · refine x_ic _ ic_0 dX1_add_80 ?_
                refine x_istore dX1_add_81 rfl ?_
                exact hq
              · refine x_iload dX1_add_72 rfl ?_
                refine x_if_eq 80 dX1_add_74 rfl (fun c74 => ?_) (fun c74 => ?_)
                · refine x_ic _ ic_0 dX1_add_80 ?_
                  refine x_istore dX1_add_81 rfl ?_
                  exact hq
                · rcases g6 with z | z
                  · exact absurd z (by omega)
                  · exact absurd z c74
            · refine x_iload_n dX1_add_60 rfl ?_
              refine x_if_ne 77 dX1_add_61 rfl (fun c61 => ?_) (fun c61 => ?_)
              · rcases g5 with z | z
                · exact absurd z (by omega)
                · exact absurd z c61
              · refine x_aload_n dX1_add_64 rfl ?_
                refine x_getIV dX1_add_65 fl_X1_15 rfl (m1) ?_
                refine x_ic _ ic_4 dX1_add_68 ?_
                refine x_icmp_geN 80 dX1_add_69 rfl (by omega) (by omega) (fun c69 => ?_) (fun c69 => ?_)
                · refine x_ic _ ic_0 dX1_add_80 ?_
                  refine x_istore dX1_add_81 rfl ?_
                  exact hq
                · refine x_iload dX1_add_72 rfl ?_
                  refine x_if_eq 80 dX1_add_74 rfl (fun c74 => ?_) (fun c74 => ?_)
                  · refine x_ic _ ic_0 dX1_add_80 ?_
                    refine x_istore dX1_add_81 rfl ?_
                    exact hq
                  · rcases g6 with z | z
                    · exact absurd z (by omega)
                    · exact absurd z c74
          · refine x_iload_n dX1_add_36 rfl ?_
            refine x_if_ne 52 dX1_add_37 rfl (fun c37 => ?_) (fun c37 => ?_)
            · refine x_aload_n dX1_add_52 rfl ?_
              refine x_getIV dX1_add_53 fl_X1_15 rfl (m1) ?_
              refine x_ic _ ic_3 dX1_add_56 ?_
              refine x_icmp_geN 64 dX1_add_57 rfl (by omega) (by omega) (fun c57 => ?_) (fun c57 => ?_)
              · refine x_aload_n dX1_add_64 rfl ?_
                refine x_getIV dX1_add_65 fl_X1_15 rfl (m1) ?_
                refine x_ic _ ic_4 dX1_add_68 ?_
                refine x_icmp_geN 80 dX1_add_69 rfl (by omega) (by omega) (fun c69 => ?_) (fun c69 => ?_)
                · refine x_ic _ ic_0 dX1_add_80 ?_
                  refine x_istore dX1_add_81 rfl ?_
                  exact hq
                · refine x_iload dX1_add_72 rfl ?_
                  refine x_if_eq 80 dX1_add_74 rfl (fun c74 => ?_) (fun c74 => ?_)
                  · refine x_ic _ ic_0 dX1_add_80 ?_
                    refine x_istore dX1_add_81 rfl ?_
                    exact hq
                  · rcases g6 with z | z
                    · exact absurd z (by omega)
                    · exact absurd z c74
              · refine x_iload_n dX1_add_60 rfl ?_
                refine x_if_ne 77 dX1_add_61 rfl (fun c61 => ?_) (fun c61 => ?_)
                · rcases g5 with z | z
                  · exact absurd z (by omega)
                  · exact absurd z c61
                · refine x_aload_n dX1_add_64 rfl ?_
                  refine x_getIV dX1_add_65 fl_X1_15 rfl (m1) ?_
                  refine x_ic _ ic_4 dX1_add_68 ?_
                  refine x_icmp_geN 80 dX1_add_69 rfl (by omega) (by omega) (fun c69 => ?_) (fun c69 => ?_)
                  · refine x_ic _ ic_0 dX1_add_80 ?_
                    refine x_istore dX1_add_81 rfl ?_
                    exact hq
                  · refine x_iload dX1_add_72 rfl ?_
                    refine x_if_eq 80 dX1_add_74 rfl (fun c74 => ?_) (fun c74 => ?_)
                    · refine x_ic _ ic_0 dX1_add_80 ?_
                      refine x_istore dX1_add_81 rfl ?_
                      exact hq
                    · rcases g6 with z | z
                      · exact absurd z (by omega)
                      · exact absurd z c74
            · refine x_iload_n dX1_add_40 rfl ?_
              refine x_if_ne 52 dX1_add_41 rfl (fun c41 => ?_) (fun c41 => ?_)
              · refine x_aload_n dX1_add_52 rfl ?_
                refine x_getIV dX1_add_53 fl_X1_15 rfl (m1) ?_
                refine x_ic _ ic_3 dX1_add_56 ?_
                refine x_icmp_geN 64 dX1_add_57 rfl (by omega) (by omega) (fun c57 => ?_) (fun c57 => ?_)
                · refine x_aload_n dX1_add_64 rfl ?_
                  refine x_getIV dX1_add_65 fl_X1_15 rfl (m1) ?_
                  refine x_ic _ ic_4 dX1_add_68 ?_
                  refine x_icmp_geN 80 dX1_add_69 rfl (by omega) (by omega) (fun c69 => ?_) (fun c69 => ?_)
                  · refine x_ic _ ic_0 dX1_add_80 ?_
                    refine x_istore dX1_add_81 rfl ?_
                    exact hq
                  · refine x_iload dX1_add_72 rfl ?_
                    refine x_if_eq 80 dX1_add_74 rfl (fun c74 => ?_) (fun c74 => ?_)
                    · refine x_ic _ ic_0 dX1_add_80 ?_
                      refine x_istore dX1_add_81 rfl ?_
                      exact hq
                    · rcases g6 with z | z
                      · exact absurd z (by omega)
                      · exact absurd z c74
                · refine x_iload_n dX1_add_60 rfl ?_
                  refine x_if_ne 77 dX1_add_61 rfl (fun c61 => ?_) (fun c61 => ?_)
                  · rcases g5 with z | z
                    · exact absurd z (by omega)
                    · exact absurd z c61
                  · refine x_aload_n dX1_add_64 rfl ?_
                    refine x_getIV dX1_add_65 fl_X1_15 rfl (m1) ?_
                    refine x_ic _ ic_4 dX1_add_68 ?_
                    refine x_icmp_geN 80 dX1_add_69 rfl (by omega) (by omega) (fun c69 => ?_) (fun c69 => ?_)
                    · refine x_ic _ ic_0 dX1_add_80 ?_
                      refine x_istore dX1_add_81 rfl ?_
                      exact hq
                    · refine x_iload dX1_add_72 rfl ?_
                      refine x_if_eq 80 dX1_add_74 rfl (fun c74 => ?_) (fun c74 => ?_)
                      · refine x_ic _ ic_0 dX1_add_80 ?_
                        refine x_istore dX1_add_81 rfl ?_
                        exact hq
                      · rcases g6 with z | z
                        · exact absurd z (by omega)
                        · exact absurd z c74
              · refine x_iload dX1_add_44 rfl ?_
                refine x_if_ne 52 dX1_add_46 rfl (fun c46 => ?_) (fun c46 => ?_)
                · refine x_aload_n dX1_add_52 rfl ?_
                  refine x_getIV dX1_add_53 fl_X1_15 rfl (m1) ?_
                  refine x_ic _ ic_3 dX1_add_56 ?_
                  refine x_icmp_geN 64 dX1_add_57 rfl (by omega) (by omega) (fun c57 => ?_) (fun c57 => ?_)
                  · refine x_aload_n dX1_add_64 rfl ?_
                    refine x_getIV dX1_add_65 fl_X1_15 rfl (m1) ?_
                    refine x_ic _ ic_4 dX1_add_68 ?_
                    refine x_icmp_geN 80 dX1_add_69 rfl (by omega) (by omega) (fun c69 => ?_) (fun c69 => ?_)
                    · refine x_ic _ ic_0 dX1_add_80 ?_
                      refine x_istore dX1_add_81 rfl ?_
                      exact hq
                    · refine x_iload dX1_add_72 rfl ?_
                      refine x_if_eq 80 dX1_add_74 rfl (fun c74 => ?_) (fun c74 => ?_)
                      · refine x_ic _ ic_0 dX1_add_80 ?_
                        refine x_istore dX1_add_81 rfl ?_
                        exact hq
                      · rcases g6 with z | z
                        · exact absurd z (by omega)
                        · exact absurd z c74
                  · refine x_iload_n dX1_add_60 rfl ?_
                    refine x_if_ne 77 dX1_add_61 rfl (fun c61 => ?_) (fun c61 => ?_)
                    · rcases g5 with z | z
                      · exact absurd z (by omega)
                      · exact absurd z c61
                    · refine x_aload_n dX1_add_64 rfl ?_
                      refine x_getIV dX1_add_65 fl_X1_15 rfl (m1) ?_
                      refine x_ic _ ic_4 dX1_add_68 ?_
                      refine x_icmp_geN 80 dX1_add_69 rfl (by omega) (by omega) (fun c69 => ?_) (fun c69 => ?_)
                      · refine x_ic _ ic_0 dX1_add_80 ?_
                        refine x_istore dX1_add_81 rfl ?_
                        exact hq
                      · refine x_iload dX1_add_72 rfl ?_
                        refine x_if_eq 80 dX1_add_74 rfl (fun c74 => ?_) (fun c74 => ?_)
                        · refine x_ic _ ic_0 dX1_add_80 ?_
                          refine x_istore dX1_add_81 rfl ?_
                          exact hq
                        · rcases g6 with z | z
                          · exact absurd z (by omega)
                          · exact absurd z c74
                · exact absurd ⟨c33, c37, c41, c46⟩ g4
        · rw [decide_eq_true g3] at c26; cases c26
set_option maxRecDepth 100000 in
set_option maxHeartbeats 4000000 in
theorem kx_add_no (S : amS) (a : Ar) (hA : Arr a.1 a.2.1 a.2.2) (hm : aObj S 1 2 a) (V : Nat) (hV : S.1 1 3 = nI V) (x0 x1 x2 x3 : Int32) (hx : plOK a.1 (q4 x0 x1 x2 x3)) (hn : ∃ i, i < a.2.1 ∧ same (a.2.2 i) (plR (q4 x0 x1 x2 x3))) : X shX mX1_add 0 [.ref 1, .int x0, .int x1, .int x2, .int x3, .null] [] S (fun r S' => r = some (.int (i32 (-3))) ∧ S' = S) := by
  obtain ⟨a1, a2, a3, a4, a5, a6, a7⟩ := id hA
  obtain ⟨m1, m2, m3⟩ := id hm
  refine kx_add_1 S a hA hm x0 x1 x2 x3 hx _ (kx_add_l S a hA hm x0 x1 x2 x3 hx _ (fun hsame => ?_) (fun hns => ?_) a.2.1 0 (by omega) (fun i hi => absurd hi (Nat.not_lt_zero i)))
  · exact ⟨rfl, rfl⟩
  · obtain ⟨i, hi, hs⟩ := hn
    exact absurd hs (hns i hi)
set_option maxRecDepth 100000 in
set_option maxHeartbeats 4000000 in
theorem kx_add_full (S : amS) (a : Ar) (hA : Arr a.1 a.2.1 a.2.2) (hm : aObj S 1 2 a) (V : Nat) (hV : S.1 1 3 = nI V) (x0 x1 x2 x3 : Int32) (hx : plOK a.1 (q4 x0 x1 x2 x3)) (hn : ∀ i, i < a.2.1 → ¬ same (a.2.2 i) (plR (q4 x0 x1 x2 x3))) (h9 : a.2.1 = 9) : X shX mX1_add 0 [.ref 1, .int x0, .int x1, .int x2, .int x3, .null] [] S (fun r S' => r = some (.int (i32 (-4))) ∧ S' = S) := by
  obtain ⟨a1, a2, a3, a4, a5, a6, a7⟩ := id hA
  obtain ⟨m1, m2, m3⟩ := id hm
  refine kx_add_1 S a hA hm x0 x1 x2 x3 hx _ (kx_add_l S a hA hm x0 x1 x2 x3 hx _ (fun hsame => ?_) (fun hns => ?_) a.2.1 0 (by omega) (fun i hi => absurd hi (Nat.not_lt_zero i)))
  · obtain ⟨i, hi, hs⟩ := hsame
    exact absurd hs (hn i hi)
  · refine x_aload_n dX1_add_115 rfl ?_
    refine x_getIV dX1_add_116 fl_X1_19 rfl (m2) ?_
    refine x_bi _ bi_9 dX1_add_119 ?_
    refine x_icmp_ltN 129 dX1_add_121 rfl (by omega) (by omega) (fun c121 => ?_) (fun c121 => ?_)
    · exact absurd c121 (by omega)
    · refine x_bi _ bi_m4 dX1_add_124 ?_
      refine x_goto 138 dX1_add_126 rfl ?_
      refine x_iretI dX1_add_138 rfl ?_
      exact ⟨rfl, rfl⟩
set_option maxRecDepth 100000 in
set_option maxHeartbeats 4000000 in
theorem kx_add_ok (S : amS) (a : Ar) (hA : Arr a.1 a.2.1 a.2.2) (hm : aObj S 1 2 a) (V : Nat) (hV : S.1 1 3 = nI V) (x0 x1 x2 x3 : Int32) (hx : plOK a.1 (q4 x0 x1 x2 x3)) (hn : ∀ i, i < a.2.1 → ¬ same (a.2.2 i) (plR (q4 x0 x1 x2 x3))) (h9 : a.2.1 < 9) : X shX mX1_add 0 [.ref 1, .int x0, .int x1, .int x2, .int x3, .null] [] S (fun r S' => r = some (.int (nI a.2.1)) ∧ chg S S' V 1 (aAdd a (plR (q4 x0 x1 x2 x3)))) := by
  obtain ⟨a1, a2, a3, a4, a5, a6, a7⟩ := id hA
  obtain ⟨m1, m2, m3⟩ := id hm
  refine kx_add_1 S a hA hm x0 x1 x2 x3 hx _ (kx_add_l S a hA hm x0 x1 x2 x3 hx _ (fun hsame => ?_) (fun hns => ?_) a.2.1 0 (by omega) (fun i hi => absurd hi (Nat.not_lt_zero i)))
  · obtain ⟨i, hi, hs⟩ := hsame
    exact absurd hs (hn i hi)
  · refine x_aload_n dX1_add_115 rfl ?_
    refine x_getIV dX1_add_116 fl_X1_19 rfl (m2) ?_
    refine x_bi _ bi_9 dX1_add_119 ?_
    refine x_icmp_ltN 129 dX1_add_121 rfl (by omega) (by omega) (fun c121 => ?_) (fun c121 => ?_)
    · refine x_aload_n dX1_add_129 rfl ?_
      refine x_iload_n dX1_add_130 rfl ?_
      refine x_iload_n dX1_add_131 rfl ?_
      refine x_iload_n dX1_add_132 rfl ?_
      refine x_iload dX1_add_133 rfl ?_
      refine x_v4 (N := mX1_put) dX1_add_135 ml_X1_43 nv_X1_put rfl rfl (kx_put S a.2.1 V (by omega) m2 hV x0 x1 x2 x3) ?_
      rintro _ S' ⟨rfl, hp⟩
      refine x_iretI dX1_add_138 rfl ?_
      exact ⟨rfl, hp.obj hm (fun j hj => plR_at hj)⟩
    · exact absurd c121 (by omega)
def cgl (S S' : amS) (V c : Nat) (b : Ar) : Prop := FO [1] [2] S S' ∧ aObj S' 1 2 b ∧ ∃ V', V ≤ V' ∧ V' ≤ V + c ∧ S'.1 1 3 = nI V'
set_option maxRecDepth 100000 in
set_option maxHeartbeats 4000000 in
theorem kx_putPair (S : amS) (a : Ar) (V : Nat) (hm : aObj S 1 2 a) (h9 : a.2.1 ≤ 9) (hV : S.1 1 3 = nI V) (i j : Nat) (hi : i < 4) (hj : j < 4) (x y : Int) (hxy : i = j → x = y) (p q : Int32) (hp : p = i32 x) (hq : q = i32 y) : X shX mX1_putPair 0 [.ref 1, .int (nI i), .int p, .int (nI j), .int q, .null] [] S (fun r S' => r = none ∧ cgl S S' V 1 (mk1 a i x j y)) := by
  obtain ⟨m1, m2, m3⟩ := id hm
  refine x_aload_n dX1_putPair_0 rfl ?_
  refine x_getIV dX1_putPair_1 fl_X1_19 rfl (m2) ?_
  refine x_bi _ bi_9 dX1_putPair_4 ?_
  refine x_icmp_ltN 10 dX1_putPair_6 rfl (by omega) (by omega) (fun c6 => ?_) (fun c6 => ?_)
  · refine x_aload_n dX1_putPair_10 rfl ?_
    refine x_getIV dX1_putPair_11 fl_X1_19 rfl (m2) ?_
    refine x_ic _ ic_4 dX1_putPair_14 ?_
    refine x_imulN dX1_putPair_15 ?_
    refine x_istore dX1_putPair_16 rfl ?_
    refine x_aload_n dX1_putPair_18 rfl ?_
    refine x_ic _ ic_0 dX1_putPair_19 ?_
    refine x_ic _ ic_0 dX1_putPair_20 ?_
    refine x_ic _ ic_0 dX1_putPair_21 ?_
    refine x_ic _ ic_0 dX1_putPair_22 ?_
    refine x_v4 (N := mX1_put) dX1_putPair_23 ml_X1_43 nv_X1_put rfl rfl (kx_put S a.2.1 V (by omega) m2 hV (nI 0) (nI 0) (nI 0) (nI 0)) ?_
    rintro _ S' ⟨rfl, f1, f2, f3, f4, f5, f6⟩
    refine x_pop dX1_putPair_26 rfl ?_
    refine x_aload_n dX1_putPair_27 rfl ?_
    refine x_getR dX1_putPair_28 fl_X1_9 rfl ?_
    refine x_iload dX1_putPair_31 rfl ?_
    refine x_iload_n dX1_putPair_33 rfl ?_
    refine x_iaddN dX1_putPair_34 ?_
    refine x_iload_n dX1_putPair_35 rfl ?_
    refine x_iastN dX1_putPair_36 rfl rfl (by omega) ?_
    refine x_aload_n dX1_putPair_37 rfl ?_
    refine x_getR dX1_putPair_38 fl_X1_9 rfl ?_
    refine x_iload dX1_putPair_41 rfl ?_
    refine x_iload_n dX1_putPair_43 rfl ?_
    refine x_iaddN dX1_putPair_44 ?_
    refine x_iload dX1_putPair_45 rfl ?_
    refine x_iastN dX1_putPair_47 rfl rfl (by omega) ?_
    refine x_ret dX1_putPair_48 rfl ?_
    refine ⟨rfl, (f1.sA _ (by simp)).sA _ (by simp), ?_, V + 1, by omega, by omega, f4⟩
    unfold mk1
    rw [if_pos c6]
    refine ⟨f2.trans m1, f3, fun k l hk hl => ?_⟩
    have hk2 : k < a.2.1 + 1 := hk
    show (sA (sA S' 2 _) 2 _).2.1 2 _ = i32 (if k = a.2.1 then pairR i x j y l else a.2.2 k l)
    rw [sA_at, sA_at]
    by_cases z : k = a.2.1
    · subst z
      rw [if_pos rfl, pairR]
      by_cases z2 : l = j
      · subst z2
        rw [show 4 * a.2.1 + l = a.2.1 * 4 + l by omega, upd_s, hq]
        by_cases z3 : l = i
        · rw [if_pos z3, hxy z3.symm]
        · rw [if_neg z3, if_pos rfl]
      · rw [upd_n _ _ (by omega), if_neg z2]
        by_cases z3 : l = i
        · rw [z3, show 4 * a.2.1 + i = a.2.1 * 4 + i by omega, upd_s, hp, if_pos rfl]
        · rw [upd_n _ _ (by omega), if_neg z3, f5 l hl]
          rcases (show l = 0 ∨ l = 1 ∨ l = 2 ∨ l = 3 by omega) with rfl | rfl | rfl | rfl <;> rfl
    · rw [if_neg z, upd_n _ _ (by omega), upd_n _ _ (by omega), f6 _ (by omega)]
      exact m3 k l (by omega) hl
  · refine x_ret dX1_putPair_9 rfl ?_
    refine ⟨rfl, FO.rf _ _ S, ?_, V, by omega, by omega, hV⟩
    unfold mk1
    rw [if_neg (by omega)]
    exact hm
theorem cgl.tr {S S' S2 : amS} {V c c' : Nat} {b b2 : Ar} (h : cgl S S' V c b) {V' : Nat} (hV : V ≤ V') (hV2 : V' ≤ V + c) (g : cgl S' S2 V' c' b2) : cgl S S2 V (c + c') b2 := by
  obtain ⟨g1, g2, V2, g3, g4, g5⟩ := g
  exact ⟨h.1.tr g1, g2, V2, by omega, by omega, g5⟩
set_option maxRecDepth 100000 in
set_option maxHeartbeats 4000000 in
theorem kx_pp_2 (S0 : amS) (d : Nat) (hd : 2 ≤ d ∧ d ≤ 4) (κ : Nat) (hκ : 0 < κ ∧ κ < 4) (s : Nat) (hs : s = if 1 < κ then 1 else 0) (V : Nat) (Q : Option Value → amS → Prop) (j : Nat) (hj : j < d) (p : Ar) (hp : Pre d p) (c : Nat) (hq : ∀ S, cgl S0 S V (c + 2 * j) (mkI κ j p j) → X shX mX1_putPairs 43 [.ref 1, .int (nI s), .int (nI j), .int (nI j)] [] S Q) : ∀ (k i : Nat) (S : amS), i + k = j → cgl S0 S V (c + 2 * i) (mkI κ j p i) → X shX mX1_putPairs 12 [.ref 1, .int (nI s), .int (nI j), .int (nI i)] [] S Q := by
  intro k
  induction k with
  | zero =>
    intro i S h1 h2
    obtain rfl : i = j := by omega
    refine x_iload_n dX1_putPairs_12 rfl ?_
    refine x_iload_n dX1_putPairs_13 rfl ?_
    refine x_icmp_geN 43 dX1_putPairs_14 rfl (by omega) (by omega) (fun c14 => ?_) (fun c14 => ?_)
    · exact hq S h2
    · exact absurd c14 (by omega)
  | succ k ih =>
    intro i S h1 h2
    have hpi := Pre.mI (κ := κ) hp hj i (by omega)
    have hp2 := hpi.mk (i := i) (j := j) (x := 1) (y := -1) (by omega) hj (by omega) (by omega)
    obtain ⟨f1, f2, V1, f3, f4, f5⟩ := id h2
    have hs1 : s ≤ 1 := by rw [hs]; split <;> omega
    refine x_iload_n dX1_putPairs_12 rfl ?_
    refine x_iload_n dX1_putPairs_13 rfl ?_
    refine x_icmp_geN 43 dX1_putPairs_14 rfl (by omega) (by omega) (fun c14 => ?_) (fun c14 => ?_)
    · exact absurd c14 (by omega)
    · refine x_aload_n dX1_putPairs_17 rfl ?_
      refine x_iload_n dX1_putPairs_18 rfl ?_
      refine x_ic _ ic_1 dX1_putPairs_19 ?_
      refine x_iload_n dX1_putPairs_20 rfl ?_
      refine x_ic _ ic_m1 dX1_putPairs_21 ?_
      refine x_v4 (N := mX1_putPair) dX1_putPairs_22 ml_X1_54 nv_X1_putPair rfl rfl (kx_putPair S (mkI κ j p i) V1 f2 hpi.2.1 f5 i j (by omega) (by omega) 1 (-1) (fun z => absurd z (by omega)) (nI 1) (i32 (-1)) rfl rfl) ?_
      rintro _ S' ⟨rfl, ho⟩
      have h3 := h2.tr f3 f4 ho
      obtain ⟨g1, g2, V2, g3, g4, g5⟩ := id h3
      refine x_iload_n dX1_putPairs_25 rfl ?_
      refine x_if_eqN 37 dX1_putPairs_26 rfl (by omega) (fun c26 => ?_) (fun c26 => ?_)
      · refine x_iincN dX1_putPairs_37 rfl rfl ?_
        refine x_goto 12 dX1_putPairs_40 rfl ?_
        refine ih (i + 1) S' (by omega) ⟨g1, ?_, V2, by omega, by omega, g5⟩
        have hk1 : ¬ 1 < κ := fun z => by rw [if_pos z] at hs; omega
        rw [mkI, if_neg hk1]
        exact g2
      · refine x_aload_n dX1_putPairs_29 rfl ?_
        refine x_iload_n dX1_putPairs_30 rfl ?_
        refine x_ic _ ic_1 dX1_putPairs_31 ?_
        refine x_iload_n dX1_putPairs_32 rfl ?_
        refine x_ic _ ic_1 dX1_putPairs_33 ?_
        refine x_v4 (N := mX1_putPair) dX1_putPairs_34 ml_X1_54 nv_X1_putPair rfl rfl (kx_putPair S' (mk1 (mkI κ j p i) i 1 j (-1)) V2 g2 hp2.2.1 g5 i j (by omega) (by omega) 1 1 (fun z => rfl) (nI 1) (nI 1) rfl rfl) ?_
        rintro _ S2 ⟨rfl, ho2⟩
        have h4 := h3.tr g3 g4 ho2
        obtain ⟨k1, k2, V3, k3, k4, k5⟩ := id h4
        refine x_iincN dX1_putPairs_37 rfl rfl ?_
        refine x_goto 12 dX1_putPairs_40 rfl ?_
        refine ih (i + 1) S2 (by omega) ⟨k1, ?_, V3, by omega, by omega, k5⟩
        have hk1 : 1 < κ := Classical.not_not.mp (fun z => by rw [if_neg z] at hs; omega)
        rw [mkI, if_pos hk1]
        exact k2
set_option maxRecDepth 100000 in
set_option maxHeartbeats 4000000 in
theorem kx_pp_3 (S0 : amS) (d : Nat) (hd : 2 ≤ d ∧ d ≤ 4) (κ : Nat) (hκ : 0 < κ ∧ κ < 4) (s : Nat) (hs : s = if 1 < κ then 1 else 0) (V : Nat) (Q : Option Value → amS → Prop) (p : Ar) (hp : Pre d p) (hq : ∀ S, cgl S0 S V (12 + 8 * (d - 1)) (mkB κ p (d - 1)) → Q none S) : ∀ (k n : Nat) (S : amS) (z : Value), n + 1 + k = d → cgl S0 S V (12 + 8 * n) (mkB κ p n) → X shX mX1_putPairs 2 [.ref 1, .int (nI s), .int (nI (n + 1)), z] [] S Q := by
  intro k
  induction k with
  | zero =>
    intro n S z h1 h2
    obtain rfl : n = d - 1 := by omega
    have e6 : S.1 1 1 = nI d := h2.2.1.1.trans (by rw [(Pre.mB (κ := κ) hp (d - 1) (by omega)).1])
    refine x_iload_n dX1_putPairs_2 rfl ?_
    refine x_aload_n dX1_putPairs_3 rfl ?_
    refine x_getIV dX1_putPairs_4 fl_X1_15 rfl (e6) ?_
    refine x_icmp_geN 49 dX1_putPairs_7 rfl (by omega) (by omega) (fun c7 => ?_) (fun c7 => ?_)
    · refine x_ret dX1_putPairs_49 rfl ?_
      exact hq S h2
    · exact absurd c7 (by omega)
  | succ k ih =>
    intro n S z h1 h2
    have e6 : S.1 1 1 = nI d := h2.2.1.1.trans (by rw [(Pre.mB (κ := κ) hp n (by omega)).1])
    refine x_iload_n dX1_putPairs_2 rfl ?_
    refine x_aload_n dX1_putPairs_3 rfl ?_
    refine x_getIV dX1_putPairs_4 fl_X1_15 rfl (e6) ?_
    refine x_icmp_geN 49 dX1_putPairs_7 rfl (by omega) (by omega) (fun c7 => ?_) (fun c7 => ?_)
    · exact absurd c7 (by omega)
    · refine x_ic _ ic_0 dX1_putPairs_10 ?_
      refine x_istore_n dX1_putPairs_11 rfl ?_
      refine kx_pp_2 S0 d hd κ hκ s hs V Q (n + 1) (by omega) (mkB κ p n) (Pre.mB hp n (by omega)) (12 + 8 * n) (fun S' i1 => ?_) (n + 1) 0 S (by omega) h2
      refine x_iincN dX1_putPairs_43 rfl rfl ?_
      refine x_goto 2 dX1_putPairs_46 rfl ?_
      obtain ⟨k1, k2, V3, k3, k4, k5⟩ := i1
      exact ih (n + 1) S' _ (by omega) ⟨k1, k2, V3, k3, by omega, k5⟩
set_option maxRecDepth 100000 in
set_option maxHeartbeats 4000000 in
theorem kx_putPairs (S0 S : amS) (d : Nat) (hd : 2 ≤ d ∧ d ≤ 4) (κ : Nat) (hκ : 0 < κ ∧ κ < 4) (s : Nat) (hs : s = if 1 < κ then 1 else 0) (V : Nat) (p : Ar) (hp : Pre d p) (h : cgl S0 S V 12 p) : X shX mX1_putPairs 0 [.ref 1, .int (nI s), .null, .null] [] S (fun r S' => r = none ∧ cgl S0 S' V 60 (mkB κ p (d - 1))) := by
  refine x_ic _ ic_1 dX1_putPairs_0 ?_
  refine x_istore_n dX1_putPairs_1 rfl ?_
  exact kx_pp_3 S0 d hd κ hκ s hs V _ p hp (fun S' ⟨k1, k2, V3, k3, k4, k5⟩ => ⟨rfl, k1, k2, V3, k3, by omega, k5⟩) (d - 1) 0 S _ (by omega) h
set_option maxRecDepth 100000 in
set_option maxHeartbeats 4000000 in
theorem kx_fi_1 (S0 : amS) (d : Nat) (hd : 2 ≤ d ∧ d ≤ 4) (κ V : Nat) (Q : Option Value → amS → Prop) (hq : ∀ S, cgl S0 S V (1 + d) (mkA (aSpace d) d) → X shX mX1_fill 60 [.ref 1, .int (nI κ), .int (nI d)] [] S Q) : ∀ (k i : Nat) (S : amS), i + k = d → cgl S0 S V (1 + i) (mkA (aSpace d) i) → X shX mX1_fill 38 [.ref 1, .int (nI κ), .int (nI i)] [] S Q := by
  intro k
  induction k with
  | zero =>
    intro i S h1 h2
    obtain rfl : i = d := by omega
    have e6 : S.1 1 1 = nI i := h2.2.1.1.trans (by rw [(Pre.mA i (Nat.le_refl i)).1])
    refine x_iload_n dX1_fill_38 rfl ?_
    refine x_aload_n dX1_fill_39 rfl ?_
    refine x_getIV dX1_fill_40 fl_X1_15 rfl (e6) ?_
    refine x_icmp_geN 60 dX1_fill_43 rfl (by omega) (by omega) (fun c43 => ?_) (fun c43 => ?_)
    · exact hq S h2
    · exact absurd c43 (by omega)
  | succ k ih =>
    intro i S h1 h2
    have hpi := Pre.mA (d := d) i (by omega)
    have e6 : S.1 1 1 = nI d := h2.2.1.1.trans (by rw [hpi.1])
    obtain ⟨f1, f2, V1, f3, f4, f5⟩ := id h2
    refine x_iload_n dX1_fill_38 rfl ?_
    refine x_aload_n dX1_fill_39 rfl ?_
    refine x_getIV dX1_fill_40 fl_X1_15 rfl (e6) ?_
    refine x_icmp_geN 60 dX1_fill_43 rfl (by omega) (by omega) (fun c43 => ?_) (fun c43 => ?_)
    · exact absurd c43 (by omega)
    · refine x_aload_n dX1_fill_46 rfl ?_
      refine x_iload_n dX1_fill_47 rfl ?_
      refine x_ic _ ic_1 dX1_fill_48 ?_
      refine x_iload_n dX1_fill_49 rfl ?_
      refine x_ic _ ic_1 dX1_fill_50 ?_
      refine x_v4 (N := mX1_putPair) dX1_fill_51 ml_X1_54 nv_X1_putPair rfl rfl (kx_putPair S (mkA (aSpace d) i) V1 f2 hpi.2.1 f5 i i (by omega) (by omega) 1 1 (fun z => rfl) (nI 1) (nI 1) rfl rfl) ?_
      rintro _ S' ⟨rfl, ho⟩
      have h3 := h2.tr f3 f4 ho
      refine x_iincN dX1_fill_54 rfl rfl ?_
      refine x_goto 38 dX1_fill_57 rfl ?_
      exact ih (i + 1) S' (by omega) h3
set_option maxRecDepth 100000 in
set_option maxHeartbeats 4000000 in
theorem kx_fi_2 (S0 S : amS) (d : Nat) (hd : 2 ≤ d ∧ d ≤ 4) (κ V : Nat) (hκ : κ < 4) (z : Value) (h : cgl S0 S V 5 (aMk0 d κ)) : X shX mX1_fill 60 [.ref 1, .int (nI κ), z] [] S (fun r S' => r = some (.int (nI (aMakes d κ).2.1)) ∧ cgl S0 S' V 60 (aMakes d κ)) := by
  obtain ⟨f1, f2, V1, f3, f4, f5⟩ := id h
  by_cases h0 : 0 < κ
  · have e : aMakes d κ = mkB κ (aMk0 d κ) (d - 1) := by unfold aMakes; rw [if_pos h0]
    rw [e]
    refine x_iload_n dX1_fill_60 rfl ?_
    refine x_if_eqN 78 dX1_fill_61 rfl (by omega) (fun c61 => ?_) (fun c61 => ?_)
    · exact absurd c61 (by omega)
    · refine x_aload_n dX1_fill_64 rfl ?_
      refine x_iload_n dX1_fill_65 rfl ?_
      refine x_ic _ ic_2 dX1_fill_66 ?_
      refine x_icmp_ltN 74 dX1_fill_67 rfl (by omega) (by omega) (fun c67 => ?_) (fun c67 => ?_)
      · refine x_ic _ ic_0 dX1_fill_74 ?_
        refine x_v1 (N := mX1_putPairs) dX1_fill_75 ml_X1_58 nv_X1_putPairs rfl rfl (kx_putPairs S0 S d hd κ ⟨h0, hκ⟩ 0 (by rw [if_neg (by omega)]) V (aMk0 d κ) (Pre.m0 d κ) ⟨f1, f2, V1, f3, by omega, f5⟩) ?_
        rintro _ S' ⟨rfl, h3⟩
        refine x_aload_n dX1_fill_78 rfl ?_
        refine x_getIV dX1_fill_79 fl_X1_19 rfl (h3.2.1.2.1) ?_
        refine x_iretI dX1_fill_82 rfl ?_
        exact ⟨rfl, h3⟩
      · refine x_ic _ ic_1 dX1_fill_70 ?_
        refine x_goto 75 dX1_fill_71 rfl ?_
        refine x_v1 (N := mX1_putPairs) dX1_fill_75 ml_X1_58 nv_X1_putPairs rfl rfl (kx_putPairs S0 S d hd κ ⟨h0, hκ⟩ 1 (by rw [if_pos (by omega)]) V (aMk0 d κ) (Pre.m0 d κ) ⟨f1, f2, V1, f3, by omega, f5⟩) ?_
        rintro _ S' ⟨rfl, h3⟩
        refine x_aload_n dX1_fill_78 rfl ?_
        refine x_getIV dX1_fill_79 fl_X1_19 rfl (h3.2.1.2.1) ?_
        refine x_iretI dX1_fill_82 rfl ?_
        exact ⟨rfl, h3⟩
  · have e : aMakes d κ = aMk0 d κ := by unfold aMakes; rw [if_neg h0]
    rw [e]
    refine x_iload_n dX1_fill_60 rfl ?_
    refine x_if_eqN 78 dX1_fill_61 rfl (by omega) (fun c61 => ?_) (fun c61 => ?_)
    · refine x_aload_n dX1_fill_78 rfl ?_
      refine x_getIV dX1_fill_79 fl_X1_19 rfl (f2.2.1) ?_
      refine x_iretI dX1_fill_82 rfl ?_
      exact ⟨rfl, f1, f2, V1, f3, by omega, f5⟩
    · omega
set_option maxRecDepth 100000 in
set_option maxHeartbeats 4000000 in
theorem kx_fill_ok (S : amS) (a : Ar) (hA : Arr a.1 a.2.1 a.2.2) (hm : aObj S 1 2 a) (V : Nat) (hV : S.1 1 3 = nI V) (κ : Nat) (hκ : κ < 4) : X shX mX1_fill 0 [.ref 1, .int (nI κ), .null] [] S (fun r S' => r = some (.int (nI (aMakes a.1 κ).2.1)) ∧ chg S S' V 61 (aMakes a.1 κ)) := by
  obtain ⟨a1, a2, a3, a4, a5, a6, a7⟩ := id hA
  obtain ⟨m1, m2, m3⟩ := id hm
  refine x_iload_n dX1_fill_0 rfl ?_
  refine x_topI ?_
  refine x_if_ltI 9 dX1_fill_1 rfl (by omega) (fun c1 => ?_) (fun c1 => ?_)
  · exact absurd c1 (by omega)
  · refine x_iload_n dX1_fill_4 rfl ?_
    refine x_ic _ ic_3 dX1_fill_5 ?_
    refine x_icmp_leN 12 dX1_fill_6 rfl (by omega) (by omega) (fun c6 => ?_) (fun c6 => ?_)
    · refine x_aload_n dX1_fill_12 rfl ?_
      refine x_ic _ ic_0 dX1_fill_13 ?_
      refine x_put dX1_fill_14 fp_X1_19 rfl rfl rfl ?_
      refine x_aload_n dX1_fill_17 rfl ?_
      refine x_dup dX1_fill_18 rfl ?_
      refine x_getIV dX1_fill_19 fl_X1_32 rfl ((show _ = nI V by simp [sF, sA, va_up, upd]; exact hV)) ?_
      refine x_ic _ ic_1 dX1_fill_22 ?_
      refine x_iaddN dX1_fill_23 ?_
      refine x_put dX1_fill_24 fp_X1_32 rfl rfl rfl ?_
      have hb0 : ∀ T : amS, T = sF (sF S 1 (upd (S.1 1) 2 (nI 0))) 1 (upd (upd (S.1 1) 2 (nI 0)) 3 (nI (V + 1))) → cgl T T (V + 1) 0 (aSpace a.1) ∧ FO [1] [2] S T := by
        rintro T rfl
        refine ⟨⟨FO.rf _ _ _, ⟨?_, ?_, fun i j hi => absurd hi (Nat.not_lt_zero i)⟩, V + 1, by omega, by omega, ?_⟩, ((FO.rf _ _ S).sF _ (by simp)).sF _ (by simp)⟩
        · simp [sF, sA, va_up, upd]; exact m1
        · simp [sF, sA, va_up, upd]; rfl
        · simp [sF, sA, va_up, upd]
      obtain ⟨hb1, hb2⟩ := hb0 _ rfl
      rw [sF_at]
      generalize sF (sF S 1 (upd (S.1 1) 2 (nI 0))) 1 (upd (upd (S.1 1) 2 (nI 0)) 3 (nI (V + 1))) = T at hb1 hb2 ⊢
      refine x_mono (Q := fun r S' => r = some (.int (nI (aMakes a.1 κ).2.1)) ∧ cgl T S' (V + 1) 60 (aMakes a.1 κ)) ?_ ?_
      · rintro r S' ⟨rfl, g1, g2, V2, g3, g4, g5⟩
        exact ⟨rfl, hb2.tr g1, g2, V2, by omega, by omega, g5⟩
      by_cases h03 : κ = 0 ∨ κ = 3
      · have hk : ∀ z, X shX mX1_fill 36 [.ref 1, .int (nI κ), z] [] T (fun r S' => r = some (.int (nI (aMakes a.1 κ).2.1)) ∧ cgl T S' (V + 1) 60 (aMakes a.1 κ)) := by
          intro z
          refine x_ic _ ic_0 dX1_fill_36 ?_
          refine x_istore_n dX1_fill_37 rfl ?_
          obtain ⟨e1, e2, V9, e3, e4, e5⟩ := hb1
          exact kx_fi_1 T a.1 ⟨a1, a2⟩ κ (V + 1) _ (fun S' i1 => kx_fi_2 T S' a.1 ⟨a1, a2⟩ κ (V + 1) hκ _ (by unfold aMk0; rw [if_pos h03]; obtain ⟨k1, k2, V3, k3, k4, k5⟩ := i1; exact ⟨k1, k2, V3, k3, by omega, k5⟩)) a.1 0 T (by omega) ⟨e1, e2, V9, e3, by omega, e5⟩
        refine x_iload_n dX1_fill_27 rfl ?_
        refine x_if_eqN 36 dX1_fill_28 rfl (by omega) (fun c28 => ?_) (fun c28 => ?_)
        · exact hk _
        · refine x_iload_n dX1_fill_31 rfl ?_
          refine x_ic _ ic_3 dX1_fill_32 ?_
          refine x_icmp_neN 60 dX1_fill_33 rfl (by omega) (by omega) (fun c33 => ?_) (fun c33 => ?_)
          · exact absurd h03 (by omega)
          · exact hk _
      · refine x_iload_n dX1_fill_27 rfl ?_
        refine x_if_eqN 36 dX1_fill_28 rfl (by omega) (fun c28 => ?_) (fun c28 => ?_)
        · exact absurd (Or.inl c28) h03
        · refine x_iload_n dX1_fill_31 rfl ?_
          refine x_ic _ ic_3 dX1_fill_32 ?_
          refine x_icmp_neN 60 dX1_fill_33 rfl (by omega) (by omega) (fun c33 => ?_) (fun c33 => ?_)
          · exact kx_fi_2 T T a.1 ⟨a1, a2⟩ κ (V + 1) hκ _ (by unfold aMk0; rw [if_neg h03]; obtain ⟨k1, k2, V3, k3, k4, k5⟩ := hb1; exact ⟨k1, k2, V3, k3, by omega, k5⟩)
          · exact absurd (Or.inr c33) h03
    · exact absurd c6 (by omega)
set_option maxRecDepth 100000 in
set_option maxHeartbeats 4000000 in
theorem kx_fill_bad (S : amS) (x : Int32) (hx : ¬ InR x 4) : X shX mX1_fill 0 [.ref 1, .int x, .null] [] S (fun r S' => r = some (.int (i32 (-2))) ∧ S' = S) := by
  refine x_iload_n dX1_fill_0 rfl ?_
  refine x_if_lt 9 dX1_fill_1 rfl (fun c1 => ?_) (fun c1 => ?_)
  · refine x_bi _ bi_m2 dX1_fill_9 ?_
    refine x_iretI dX1_fill_11 rfl ?_
    exact ⟨rfl, rfl⟩
  · refine x_iload_n dX1_fill_4 rfl ?_
    refine x_ic _ ic_3 dX1_fill_5 ?_
    refine x_icmp_le 12 dX1_fill_6 rfl (fun c6 => ?_) (fun c6 => ?_)
    · exact absurd ((in_R x (by omega)).mp (decide_eq_true ⟨Int32.not_lt.mp c1, c6⟩)) hx
    · refine x_bi _ bi_m2 dX1_fill_9 ?_
      refine x_iretI dX1_fill_11 rfl ?_
      exact ⟨rfl, rfl⟩
