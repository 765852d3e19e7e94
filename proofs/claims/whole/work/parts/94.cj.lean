/-! CONSTRUCTORS: both whole objects -/
theorem y_nm {M : amM} {D : va_G} {A : Nat → Prop} {NC NS : Nat} {Bk : va_W → ctK → Prop} {pc : Nat} {loc : List (Nat × Value)} {st : List Value} {ws : va_W} {tys : ctK} {k n : Nat} (pc' k' n' : Nat) (h1 : pc = pc') (h2 : k = k') (h3 : n = n') (kk : Y M D A NC NS Bk pc' loc st ws tys k' n') : Y M D A NC NS Bk pc loc st ws tys k n := by
  subst h1; subst h2; subst h3
  exact kk
def bk_X10 (h0 : Nat) (ws : va_W) (tys : ctK) : Prop := ∃ (q0 : Nat) (b1 : va_W) (t1 : ctK) (q2 : Nat) (b3 : va_W) (t3 : ctK) (q4 : Nat) (b5 : va_W) (t5 : ctK) (q6 : Nat) (b7 : va_W) (t7 : ctK) (q8 : Nat) (b9 : va_W) (t9 : ctK) (q10 : Nat) (b11 : va_W) (t11 : ctK) (q12 : Nat) (b13 : va_W) (t13 : ctK) (q14 : Nat) (b15 : va_W) (t15 : ctK) (q16 : Nat) (b17 : va_W) (t17 : ctK), ws = (h0, .inr (10, [.ref q0, .ref q4, .ref q6, .ref q2, .ref q8, .ref q10, .ref q12, .ref q14, .ref q16, .int 0, .int 0, .int 0, .int 0, .int (i32 (-1))])) :: ((((((((([] ++ b1) ++ b3) ++ b5) ++ b7) ++ b9) ++ b11) ++ b13) ++ b15) ++ b17) ∧ tys = ((((((((([] ++ t1) ++ t3) ++ t5) ++ t7) ++ t9) ++ t11) ++ t13) ++ t15) ++ t17) ∧ bk_X1 q0 b1 t1 ∧ bk_X6 q2 q0 b3 t3 ∧ bk_X1 q4 b5 t5 ∧ bk_X3 q6 b7 t7 ∧ bk_X8 q8 q0 q2 b9 t9 ∧ bk_X7 q10 q0 q2 b11 t11 ∧ bk_X2 q12 q0 q2 b13 t13 ∧ bk_X0 q14 q0 q2 b15 t15 ∧ bk_X9 q16 b17 t17
theorem ci_X10 (D : va_G) (h0 : Nat) (l : Launch) : ctM l mX10_init D h0 10 [.null, .null, .null, .null, .null, .null, .null, .null, .null, .int 0, .int 0, .int 0, .int 0, .int 0] [] 50 5419 (bk_X10 h0) := by
  refine ct_met pn_X10.1 rfl rfl (Nat.le_of_ble_eq_true rfl) (fun A => ?_) l
  show Y mX10_init D A _ _ _ 0 [(0, .ref h0)] [] [(h0, .inr (10, [.null, .null, .null, .null, .null, .null, .null, .null, .null, .int 0, .int 0, .int 0, .int 0, .int 0]))] [] 0 0
  refine y_aload 0 dX10_init_0 rfl ?_
  refine y_obj dX10_init_1 (lm_t1 _ (List.mem_of_getElem? (i := 22) rfl)) rfl rfl ?_
  refine y_new (ci := 1) (fs := [.null, .int 0, .int 0, .int 0]) dX10_init_4 in_X1 tyX1_ok (lm_t1 _ (List.mem_of_getElem? (i := 25) rfl)) (lm_t1 _ (List.mem_of_getElem? (i := 26) rfl)) (lm_t1 _ (List.mem_of_getElem? (i := 2) rfl)) rfl df_X1 (Nat.le_of_ble_eq_true rfl) (Nat.le_of_ble_eq_true rfl) (fun q0 => ?_)
  refine y_dup dX10_init_7 ?_
  refine y_call0 dX10_init_8 (fun l => ci_X1 D q0  l) nvc_X1 (Or.inr ⟨_, (lm_t1 _ (List.mem_of_getElem? (i := 27) rfl))⟩) rfl rfl rfl (Nat.le_of_ble_eq_true rfl) (Nat.le_of_ble_eq_true rfl) (Nat.le_of_ble_eq_true rfl) (fun b1 t1 h1 => ?_)
  refine y_astore [(1, .ref q0), (0, .ref h0)] dX10_init_11 (by decide) rfl ?_
  refine y_new (ci := 6) (fs := [.null, .null, .null, .null, .null, .null, .null, .int 0]) dX10_init_12 in_X6 tyX6_ok (lm_t1 _ (List.mem_of_getElem? (i := 59) rfl)) (lm_t1 _ (List.mem_of_getElem? (i := 60) rfl)) (lm_t1 _ (List.mem_of_getElem? (i := 3) rfl)) rfl df_X6 (Nat.le_of_ble_eq_true rfl) (Nat.le_of_ble_eq_true rfl) (fun q2 => ?_)
  refine y_dup dX10_init_15 ?_
  refine y_aload 0 dX10_init_16 rfl ?_
  refine y_call1 dX10_init_17 (fun l => ci_X6 D q2 q0 l) nvc_X6 (Or.inl (lm_t1 _ (List.mem_of_getElem? (i := 61) rfl))) rfl rfl rfl (Nat.le_of_ble_eq_true rfl) (Nat.le_of_ble_eq_true rfl) (Nat.le_of_ble_eq_true rfl) (fun b3 t3 h3 => ?_)
  refine y_astore [(2, .ref q2), (1, .ref q0), (0, .ref h0)] dX10_init_20 (by decide) rfl ?_
  refine y_aload 2 dX10_init_21 rfl ?_
  refine y_aload 1 dX10_init_22 rfl ?_
  refine y_putF (ci := 10) [.ref q0, .null, .null, .null, .null, .null, .null, .null, .null, .int 0, .int 0, .int 0, .int 0, .int 0] 0 dX10_init_23 in_X10 tyX10_ok nmX10 rfl (by decide) (lm_t2 _ (List.mem_of_getElem? (i := 46) rfl)) rfl rfl rfl rfl rfl rfl rfl ?_
  refine y_nm 26 12 1386 rfl rfl rfl ?_
  refine y_aload 2 dX10_init_26 rfl ?_
  refine y_aload 0 dX10_init_27 rfl ?_
  refine y_putF (ci := 10) [.ref q0, .null, .null, .ref q2, .null, .null, .null, .null, .null, .int 0, .int 0, .int 0, .int 0, .int 0] 3 dX10_init_28 in_X10 tyX10_ok nmX10 rfl (by decide) (lm_t2 _ (List.mem_of_getElem? (i := 49) rfl)) rfl rfl rfl rfl rfl rfl rfl ?_
  refine y_nm 31 12 1386 rfl rfl rfl ?_
  refine y_aload 2 dX10_init_31 rfl ?_
  refine y_new (ci := 1) (fs := [.null, .int 0, .int 0, .int 0]) dX10_init_32 in_X1 tyX1_ok (lm_t1 _ (List.mem_of_getElem? (i := 25) rfl)) (lm_t1 _ (List.mem_of_getElem? (i := 26) rfl)) (lm_t1 _ (List.mem_of_getElem? (i := 2) rfl)) rfl df_X1 (Nat.le_of_ble_eq_true rfl) (Nat.le_of_ble_eq_true rfl) (fun q4 => ?_)
  refine y_dup dX10_init_35 ?_
  refine y_call0 dX10_init_36 (fun l => ci_X1 D q4  l) nvc_X1 (Or.inr ⟨_, (lm_t1 _ (List.mem_of_getElem? (i := 27) rfl))⟩) rfl rfl rfl (Nat.le_of_ble_eq_true rfl) (Nat.le_of_ble_eq_true rfl) (Nat.le_of_ble_eq_true rfl) (fun b5 t5 h5 => ?_)
  refine y_putF (ci := 10) [.ref q0, .ref q4, .null, .ref q2, .null, .null, .null, .null, .null, .int 0, .int 0, .int 0, .int 0, .int 0] 1 dX10_init_39 in_X10 tyX10_ok nmX10 rfl (by decide) (lm_t2 _ (List.mem_of_getElem? (i := 47) rfl)) rfl rfl rfl rfl rfl rfl rfl ?_
  refine y_nm 42 14 1426 rfl rfl rfl ?_
  refine y_aload 2 dX10_init_42 rfl ?_
  refine y_new (ci := 3) (fs := [.null, .int 0, .int 0]) dX10_init_43 in_X3 tyX3_ok (lm_t1 _ (List.mem_of_getElem? (i := 138) rfl)) (lm_t1 _ (List.mem_of_getElem? (i := 139) rfl)) (lm_t1 _ (List.mem_of_getElem? (i := 7) rfl)) rfl df_X3 (Nat.le_of_ble_eq_true rfl) (Nat.le_of_ble_eq_true rfl) (fun q6 => ?_)
  refine y_dup dX10_init_46 ?_
  refine y_call0 dX10_init_47 (fun l => ci_X3 D q6  l) nvc_X3 (Or.inl (lm_t1 _ (List.mem_of_getElem? (i := 140) rfl))) rfl rfl rfl (Nat.le_of_ble_eq_true rfl) (Nat.le_of_ble_eq_true rfl) (Nat.le_of_ble_eq_true rfl) (fun b7 t7 h7 => ?_)
  refine y_putF (ci := 10) [.ref q0, .ref q4, .ref q6, .ref q2, .null, .null, .null, .null, .null, .int 0, .int 0, .int 0, .int 0, .int 0] 2 dX10_init_50 in_X10 tyX10_ok nmX10 rfl (by decide) (lm_t2 _ (List.mem_of_getElem? (i := 48) rfl)) rfl rfl rfl rfl rfl rfl rfl ?_
  refine y_nm 53 28 1675 rfl rfl rfl ?_
  refine y_aload 2 dX10_init_53 rfl ?_
  refine y_new (ci := 8) (fs := [.null, .null, .null, .null, .null, .int 0]) dX10_init_54 in_X8 tyX8_ok (lm_t1 _ (List.mem_of_getElem? (i := 158) rfl)) (lm_t1 _ (List.mem_of_getElem? (i := 159) rfl)) (lm_t1 _ (List.mem_of_getElem? (i := 8) rfl)) rfl df_X8 (Nat.le_of_ble_eq_true rfl) (Nat.le_of_ble_eq_true rfl) (fun q8 => ?_)
  refine y_dup dX10_init_57 ?_
  refine y_aload 1 dX10_init_58 rfl ?_
  refine y_aload 0 dX10_init_59 rfl ?_
  refine y_call2 dX10_init_60 (fun l => ci_X8 D q8 q0 q2 l) nvc_X8 (Or.inl (lm_t1 _ (List.mem_of_getElem? (i := 160) rfl))) rfl rfl rfl (Nat.le_of_ble_eq_true rfl) (Nat.le_of_ble_eq_true rfl) (Nat.le_of_ble_eq_true rfl) (fun b9 t9 h9 => ?_)
  refine y_putF (ci := 10) [.ref q0, .ref q4, .ref q6, .ref q2, .ref q8, .null, .null, .null, .null, .int 0, .int 0, .int 0, .int 0, .int 0] 4 dX10_init_63 in_X10 tyX10_ok nmX10 rfl (by decide) (lm_t2 _ (List.mem_of_getElem? (i := 50) rfl)) rfl rfl rfl rfl rfl rfl rfl ?_
  refine y_nm 66 33 2893 rfl rfl rfl ?_
  refine y_aload 2 dX10_init_66 rfl ?_
  refine y_new (ci := 7) (fs := [.null, .null, .null, .null, .null, .int 0]) dX10_init_67 in_X7 tyX7_ok (lm_t1 _ (List.mem_of_getElem? (i := 185) rfl)) (lm_t1 _ (List.mem_of_getElem? (i := 186) rfl)) (lm_t1 _ (List.mem_of_getElem? (i := 9) rfl)) rfl df_X7 (Nat.le_of_ble_eq_true rfl) (Nat.le_of_ble_eq_true rfl) (fun q10 => ?_)
  refine y_dup dX10_init_70 ?_
  refine y_aload 1 dX10_init_71 rfl ?_
  refine y_aload 0 dX10_init_72 rfl ?_
  refine y_call2 dX10_init_73 (fun l => ci_X7 D q10 q0 q2 l) nvc_X7 (Or.inl (lm_t1 _ (List.mem_of_getElem? (i := 187) rfl))) rfl rfl rfl (Nat.le_of_ble_eq_true rfl) (Nat.le_of_ble_eq_true rfl) (Nat.le_of_ble_eq_true rfl) (fun b11 t11 h11 => ?_)
  refine y_putF (ci := 10) [.ref q0, .ref q4, .ref q6, .ref q2, .ref q8, .ref q10, .null, .null, .null, .int 0, .int 0, .int 0, .int 0, .int 0] 5 dX10_init_76 in_X10 tyX10_ok nmX10 rfl (by decide) (lm_t2 _ (List.mem_of_getElem? (i := 51) rfl)) rfl rfl rfl rfl rfl rfl rfl ?_
  refine y_nm 79 37 3928 rfl rfl rfl ?_
  refine y_aload 2 dX10_init_79 rfl ?_
  refine y_new (ci := 2) (fs := [.null, .null, .null, .null]) dX10_init_80 in_X2 tyX2_ok (lm_t1 _ (List.mem_of_getElem? (i := 210) rfl)) (lm_t1 _ (List.mem_of_getElem? (i := 211) rfl)) (lm_t1 _ (List.mem_of_getElem? (i := 10) rfl)) rfl df_X2 (Nat.le_of_ble_eq_true rfl) (Nat.le_of_ble_eq_true rfl) (fun q12 => ?_)
  refine y_dup dX10_init_83 ?_
  refine y_aload 1 dX10_init_84 rfl ?_
  refine y_aload 0 dX10_init_85 rfl ?_
  refine y_call2 dX10_init_86 (fun l => ci_X2 D q12 q0 q2 l) nvc_X2 (Or.inl (lm_t1 _ (List.mem_of_getElem? (i := 212) rfl))) rfl rfl rfl (Nat.le_of_ble_eq_true rfl) (Nat.le_of_ble_eq_true rfl) (Nat.le_of_ble_eq_true rfl) (fun b13 t13 h13 => ?_)
  refine y_putF (ci := 10) [.ref q0, .ref q4, .ref q6, .ref q2, .ref q8, .ref q10, .ref q12, .null, .null, .int 0, .int 0, .int 0, .int 0, .int 0] 6 dX10_init_89 in_X10 tyX10_ok nmX10 rfl (by decide) (lm_t2 _ (List.mem_of_getElem? (i := 52) rfl)) rfl rfl rfl rfl rfl rfl rfl ?_
  refine y_nm 92 41 3985 rfl rfl rfl ?_
  refine y_aload 2 dX10_init_92 rfl ?_
  refine y_new (ci := 0) (fs := [.null, .null, .null, .null, .null, .int 0]) dX10_init_93 in_X0 tyX0_ok (lm_t1 _ (List.mem_of_getElem? (i := 231) rfl)) (lm_t1 _ (List.mem_of_getElem? (i := 232) rfl)) (lm_t1 _ (List.mem_of_getElem? (i := 11) rfl)) rfl df_X0 (Nat.le_of_ble_eq_true rfl) (Nat.le_of_ble_eq_true rfl) (fun q14 => ?_)
  refine y_dup dX10_init_96 ?_
  refine y_aload 1 dX10_init_97 rfl ?_
  refine y_aload 0 dX10_init_98 rfl ?_
  refine y_call2 dX10_init_99 (fun l => ci_X0 D q14 q0 q2 l) nvc_X0 (Or.inl (lm_t1 _ (List.mem_of_getElem? (i := 233) rfl))) rfl rfl rfl (Nat.le_of_ble_eq_true rfl) (Nat.le_of_ble_eq_true rfl) (Nat.le_of_ble_eq_true rfl) (fun b15 t15 h15 => ?_)
  refine y_putF (ci := 10) [.ref q0, .ref q4, .ref q6, .ref q2, .ref q8, .ref q10, .ref q12, .ref q14, .null, .int 0, .int 0, .int 0, .int 0, .int 0] 7 dX10_init_102 in_X10 tyX10_ok nmX10 rfl (by decide) (lm_t2 _ (List.mem_of_getElem? (i := 53) rfl)) rfl rfl rfl rfl rfl rfl rfl ?_
  refine y_nm 105 46 5143 rfl rfl rfl ?_
  refine y_aload 2 dX10_init_105 rfl ?_
  refine y_new (ci := 9) (fs := [.null, .null, .null, .int 0, .int 0, .int 0]) dX10_init_106 in_X9 tyX9_ok (lm_t2 _ (List.mem_of_getElem? (i := 18) rfl)) (lm_t2 _ (List.mem_of_getElem? (i := 19) rfl)) (lm_t1 _ (List.mem_of_getElem? (i := 12) rfl)) rfl df_X9 (Nat.le_of_ble_eq_true rfl) (Nat.le_of_ble_eq_true rfl) (fun q16 => ?_)
  refine y_dup dX10_init_109 ?_
  refine y_call0 dX10_init_110 (fun l => ci_X9 D q16  l) nvc_X9 (Or.inr ⟨_, (lm_t2 _ (List.mem_of_getElem? (i := 20) rfl))⟩) rfl rfl rfl (Nat.le_of_ble_eq_true rfl) (Nat.le_of_ble_eq_true rfl) (Nat.le_of_ble_eq_true rfl) (fun b17 t17 h17 => ?_)
  refine y_putF (ci := 10) [.ref q0, .ref q4, .ref q6, .ref q2, .ref q8, .ref q10, .ref q12, .ref q14, .ref q16, .int 0, .int 0, .int 0, .int 0, .int 0] 8 dX10_init_113 in_X10 tyX10_ok nmX10 rfl (by decide) (lm_t2 _ (List.mem_of_getElem? (i := 54) rfl)) rfl rfl rfl rfl rfl rfl rfl ?_
  refine y_nm 116 50 5419 rfl rfl rfl ?_
  refine y_aload 2 dX10_init_116 rfl ?_
  refine y_iconst (i32 (-1)) dX10_init_117 (by decide +kernel) ?_
  refine y_put (ci := 10) [.ref q0, .ref q4, .ref q6, .ref q2, .ref q8, .ref q10, .ref q12, .ref q14, .ref q16, .int 0, .int 0, .int 0, .int 0, .int (i32 (-1))] 13 dX10_init_118 in_X10 tyX10_ok nmX10 rfl (by decide) (lm_t2 _ (List.mem_of_getElem? (i := 59) rfl)) rfl rfl rfl rfl rfl rfl ?_
  refine y_nm 121 50 5419 rfl rfl rfl ?_
  exact y_ret dX10_init_121 (Nat.le_of_ble_eq_true rfl) (Nat.le_of_ble_eq_true rfl) ⟨q0, b1, t1, q2, b3, t3, q4, b5, t5, q6, b7, t7, q8, b9, t9, q10, b11, t11, q12, b13, t13, q14, b15, t15, q16, b17, t17, rfl, rfl, h1, h3, h5, h7, h9, h11, h13, h15, h17⟩
def bk_X11 (h0 : Nat) (ws : va_W) (tys : ctK) : Prop := ∃ (q0 : Nat) (c0 : ClassId) (q1 : Nat) (c1 : ClassId) (q2 : Nat) (c2 : ClassId) (q3 : Nat) (c3 : ClassId) (q4 : Nat) (c4 : ClassId) (q5 : Nat) (c5 : ClassId) (q6 : Nat) (c6 : ClassId) (q7 : Nat) (c7 : ClassId) (q8 : Nat) (c8 : ClassId) (q9 : Nat) (c9 : ClassId) (q10 : Nat) (c10 : ClassId) (q11 : Nat) (c11 : ClassId) (q12 : Nat) (c12 : ClassId) (q13 : Nat) (c13 : ClassId) (q14 : Nat) (c14 : ClassId) (q15 : Nat) (c15 : ClassId) (q16 : Nat) (c16 : ClassId) (q17 : Nat) (c17 : ClassId) (q18 : Nat) (c18 : ClassId) (q19 : Nat) (c19 : ClassId) (q20 : Nat) (c20 : ClassId) (q21 : Nat) (c21 : ClassId), ws = ((h0, .inr (11, [.ref q0, .ref q1, .ref q2, .int 0, .ref q3, .ref q4, .int 0, .int 0, .int (i32 (-1)), .int 0, .ref q5, .ref q6, .int 0, .ref q7, .ref q8, .ref q9, .ref q10, .ref q11, .int 0, .ref q12, .ref q13, .ref q14, .ref q15, .ref q16, .ref q17, .ref q18, .ref q19, .int 0, .int 0, .int 0, .ref q20, .ref q21, .long 0])) :: (((((((((((((((((((((([] ++ [(q0, .inl (c0, 38, .inl (fun _ => 0)))]) ++ [(q1, .inl (c1, 38, .inl (fun _ => 0)))]) ++ [(q2, .inl (c2, 228, .inl (fun _ => 0)))]) ++ [(q3, .inl (c3, 3, .inl (fun _ => 0)))]) ++ [(q4, .inl (c4, 100, .inl (fun _ => 0)))]) ++ [(q5, .inl (c5, 512, .inl (fun _ => 0)))]) ++ [(q6, .inl (c6, 36, .inr (.inl (fun _ => 0))))]) ++ [(q7, .inl (c7, 400, .inl (fun _ => 0)))]) ++ [(q8, .inl (c8, 400, .inl (fun _ => 0)))]) ++ [(q9, .inl (c9, 9, .inr (.inl (fun _ => 0))))]) ++ [(q10, .inl (c10, 9, .inl (fun _ => 0)))]) ++ [(q11, .inl (c11, 20, .inr (.inl (fun _ => 0))))]) ++ [(q12, .inl (c12, 4, .inl (fun _ => 0)))]) ++ [(q13, .inl (c13, 512, .inl (fun _ => 0)))]) ++ [(q14, .inl (c14, 512, .inl (fun _ => 0)))]) ++ [(q15, .inl (c15, 512, .inl (fun _ => 0)))]) ++ [(q16, .inl (c16, 512, .inl (fun _ => 0)))]) ++ [(q17, .inl (c17, 512, .inl (fun _ => 0)))]) ++ [(q18, .inl (c18, 5, .inl (fun _ => 0)))]) ++ [(q19, .inl (c19, 512, .inl (fun _ => 0)))]) ++ [(q20, .inl (c20, 50, .inl (fun _ => 0)))]) ++ [(q21, .inl (c21, 200, .inl (fun _ => 0)))])).set 1 (q0, .inl (c0, 38, .inl (upd (fun _ => 0) 36 (nI 3)))) ∧ tys = (((((((((((((((((((((([] ++ [(c0, .int)]) ++ [(c1, .int)]) ++ [(c2, .int)]) ++ [(c3, .int)]) ++ [(c4, .int)]) ++ [(c5, .int)]) ++ [(c6, .long)]) ++ [(c7, .int)]) ++ [(c8, .int)]) ++ [(c9, .long)]) ++ [(c10, .int)]) ++ [(c11, .long)]) ++ [(c12, .int)]) ++ [(c13, .int)]) ++ [(c14, .int)]) ++ [(c15, .int)]) ++ [(c16, .int)]) ++ [(c17, .boolean)]) ++ [(c18, .int)]) ++ [(c19, .int)]) ++ [(c20, .int)]) ++ [(c21, .int)])
theorem ci_X11 (D : va_G) (h0 : Nat) (l : Launch) : ctM l mX11_init D h0 11 [.null, .null, .null, .int 0, .null, .null, .int 0, .int 0, .int 0, .int 0, .null, .null, .int 0, .null, .null, .null, .null, .null, .int 0, .null, .null, .null, .null, .null, .null, .null, .null, .int 0, .int 0, .int 0, .null, .null, .long 0] [] 22 5124 (bk_X11 h0) := by
  refine ct_met pn_X11.1 rfl rfl (Nat.le_of_ble_eq_true rfl) (fun A => ?_) l
  show Y mX11_init D A _ _ _ 0 [(0, .ref h0)] [] [(h0, .inr (11, [.null, .null, .null, .int 0, .null, .null, .int 0, .int 0, .int 0, .int 0, .null, .null, .int 0, .null, .null, .null, .null, .null, .int 0, .null, .null, .null, .null, .null, .null, .null, .null, .int 0, .int 0, .int 0, .null, .null, .long 0]))] [] 0 0
  refine y_aload 0 dX11_init_0 rfl ?_
  refine y_obj dX11_init_1 (lm_t4 _ (List.mem_of_getElem? (i := 115) rfl)) rfl rfl ?_
  refine y_aload 0 dX11_init_4 rfl ?_
  refine y_bipush (nI 38) dX11_init_5 (by decide +kernel) ?_
  refine y_newa .int 38 (38, .inl (fun _ => 0)) dX11_init_7 (lm_t1 _ (List.mem_of_getElem? (i := 58) rfl)) rfl (fun _ => rfl) (by decide +kernel) (by decide +kernel) (Nat.le_of_ble_eq_true rfl) (Nat.le_of_ble_eq_true rfl) (Nat.le_of_ble_eq_true rfl) (fun q0 c0 => ?_)
  refine y_putF (ci := 11) [.ref q0, .null, .null, .int 0, .null, .null, .int 0, .int 0, .int 0, .int 0, .null, .null, .int 0, .null, .null, .null, .null, .null, .int 0, .null, .null, .null, .null, .null, .null, .null, .null, .int 0, .int 0, .int 0, .null, .null, .long 0] 0 dX11_init_9 in_X11 tyX11_ok nmX11 rfl (by decide) (lm_t4 _ (List.mem_of_getElem? (i := 116) rfl)) rfl rfl rfl rfl rfl rfl rfl ?_
  refine y_nm 12 1 38 rfl rfl rfl ?_
  refine y_aload 0 dX11_init_12 rfl ?_
  refine y_bipush (nI 38) dX11_init_13 (by decide +kernel) ?_
  refine y_newa .int 38 (38, .inl (fun _ => 0)) dX11_init_15 (lm_t1 _ (List.mem_of_getElem? (i := 58) rfl)) rfl (fun _ => rfl) (by decide +kernel) (by decide +kernel) (Nat.le_of_ble_eq_true rfl) (Nat.le_of_ble_eq_true rfl) (Nat.le_of_ble_eq_true rfl) (fun q1 c1 => ?_)
  refine y_putF (ci := 11) [.ref q0, .ref q1, .null, .int 0, .null, .null, .int 0, .int 0, .int 0, .int 0, .null, .null, .int 0, .null, .null, .null, .null, .null, .int 0, .null, .null, .null, .null, .null, .null, .null, .null, .int 0, .int 0, .int 0, .null, .null, .long 0] 1 dX11_init_17 in_X11 tyX11_ok nmX11 rfl (by decide) (lm_t4 _ (List.mem_of_getElem? (i := 117) rfl)) rfl rfl rfl rfl rfl rfl rfl ?_
  refine y_nm 20 2 76 rfl rfl rfl ?_
  refine y_aload 0 dX11_init_20 rfl ?_
  refine y_sipush (nI 228) dX11_init_21 (by decide +kernel) ?_
  refine y_newa .int 228 (228, .inl (fun _ => 0)) dX11_init_24 (lm_t1 _ (List.mem_of_getElem? (i := 58) rfl)) rfl (fun _ => rfl) (by decide +kernel) (by decide +kernel) (Nat.le_of_ble_eq_true rfl) (Nat.le_of_ble_eq_true rfl) (Nat.le_of_ble_eq_true rfl) (fun q2 c2 => ?_)
  refine y_putF (ci := 11) [.ref q0, .ref q1, .ref q2, .int 0, .null, .null, .int 0, .int 0, .int 0, .int 0, .null, .null, .int 0, .null, .null, .null, .null, .null, .int 0, .null, .null, .null, .null, .null, .null, .null, .null, .int 0, .int 0, .int 0, .null, .null, .long 0] 2 dX11_init_26 in_X11 tyX11_ok nmX11 rfl (by decide) (lm_t4 _ (List.mem_of_getElem? (i := 118) rfl)) rfl rfl rfl rfl rfl rfl rfl ?_
  refine y_nm 29 3 304 rfl rfl rfl ?_
  refine y_aload 0 dX11_init_29 rfl ?_
  refine y_iconst (nI 3) dX11_init_30 (by decide +kernel) ?_
  refine y_newa .int 3 (3, .inl (fun _ => 0)) dX11_init_31 (lm_t1 _ (List.mem_of_getElem? (i := 58) rfl)) rfl (fun _ => rfl) (by decide +kernel) (by decide +kernel) (Nat.le_of_ble_eq_true rfl) (Nat.le_of_ble_eq_true rfl) (Nat.le_of_ble_eq_true rfl) (fun q3 c3 => ?_)
  refine y_putF (ci := 11) [.ref q0, .ref q1, .ref q2, .int 0, .ref q3, .null, .int 0, .int 0, .int 0, .int 0, .null, .null, .int 0, .null, .null, .null, .null, .null, .int 0, .null, .null, .null, .null, .null, .null, .null, .null, .int 0, .int 0, .int 0, .null, .null, .long 0] 4 dX11_init_33 in_X11 tyX11_ok nmX11 rfl (by decide) (lm_t4 _ (List.mem_of_getElem? (i := 120) rfl)) rfl rfl rfl rfl rfl rfl rfl ?_
  refine y_nm 36 4 307 rfl rfl rfl ?_
  refine y_aload 0 dX11_init_36 rfl ?_
  refine y_bipush (nI 100) dX11_init_37 (by decide +kernel) ?_
  refine y_newa .int 100 (100, .inl (fun _ => 0)) dX11_init_39 (lm_t1 _ (List.mem_of_getElem? (i := 58) rfl)) rfl (fun _ => rfl) (by decide +kernel) (by decide +kernel) (Nat.le_of_ble_eq_true rfl) (Nat.le_of_ble_eq_true rfl) (Nat.le_of_ble_eq_true rfl) (fun q4 c4 => ?_)
  refine y_putF (ci := 11) [.ref q0, .ref q1, .ref q2, .int 0, .ref q3, .ref q4, .int 0, .int 0, .int 0, .int 0, .null, .null, .int 0, .null, .null, .null, .null, .null, .int 0, .null, .null, .null, .null, .null, .null, .null, .null, .int 0, .int 0, .int 0, .null, .null, .long 0] 5 dX11_init_41 in_X11 tyX11_ok nmX11 rfl (by decide) (lm_t4 _ (List.mem_of_getElem? (i := 121) rfl)) rfl rfl rfl rfl rfl rfl rfl ?_
  refine y_nm 44 5 407 rfl rfl rfl ?_
  refine y_aload 0 dX11_init_44 rfl ?_
  refine y_iconst (i32 (-1)) dX11_init_45 (by decide +kernel) ?_
  refine y_put (ci := 11) [.ref q0, .ref q1, .ref q2, .int 0, .ref q3, .ref q4, .int 0, .int 0, .int (i32 (-1)), .int 0, .null, .null, .int 0, .null, .null, .null, .null, .null, .int 0, .null, .null, .null, .null, .null, .null, .null, .null, .int 0, .int 0, .int 0, .null, .null, .long 0] 8 dX11_init_46 in_X11 tyX11_ok nmX11 rfl (by decide) (lm_t4 _ (List.mem_of_getElem? (i := 124) rfl)) rfl rfl rfl rfl rfl rfl ?_
  refine y_nm 49 5 407 rfl rfl rfl ?_
  refine y_aload 0 dX11_init_49 rfl ?_
  refine y_sipush (nI 512) dX11_init_50 (by decide +kernel) ?_
  refine y_newa .int 512 (512, .inl (fun _ => 0)) dX11_init_53 (lm_t1 _ (List.mem_of_getElem? (i := 58) rfl)) rfl (fun _ => rfl) (by decide +kernel) (by decide +kernel) (Nat.le_of_ble_eq_true rfl) (Nat.le_of_ble_eq_true rfl) (Nat.le_of_ble_eq_true rfl) (fun q5 c5 => ?_)
  refine y_putF (ci := 11) [.ref q0, .ref q1, .ref q2, .int 0, .ref q3, .ref q4, .int 0, .int 0, .int (i32 (-1)), .int 0, .ref q5, .null, .int 0, .null, .null, .null, .null, .null, .int 0, .null, .null, .null, .null, .null, .null, .null, .null, .int 0, .int 0, .int 0, .null, .null, .long 0] 10 dX11_init_55 in_X11 tyX11_ok nmX11 rfl (by decide) (lm_t4 _ (List.mem_of_getElem? (i := 126) rfl)) rfl rfl rfl rfl rfl rfl rfl ?_
  refine y_nm 58 6 919 rfl rfl rfl ?_
  refine y_aload 0 dX11_init_58 rfl ?_
  refine y_bipush (nI 36) dX11_init_59 (by decide +kernel) ?_
  refine y_newa .long 36 (36, .inr (.inl (fun _ => 0))) dX11_init_61 (lm_t1 _ (List.mem_of_getElem? (i := 84) rfl)) rfl (fun _ => rfl) (by decide +kernel) (by decide +kernel) (Nat.le_of_ble_eq_true rfl) (Nat.le_of_ble_eq_true rfl) (Nat.le_of_ble_eq_true rfl) (fun q6 c6 => ?_)
  refine y_putF (ci := 11) [.ref q0, .ref q1, .ref q2, .int 0, .ref q3, .ref q4, .int 0, .int 0, .int (i32 (-1)), .int 0, .ref q5, .ref q6, .int 0, .null, .null, .null, .null, .null, .int 0, .null, .null, .null, .null, .null, .null, .null, .null, .int 0, .int 0, .int 0, .null, .null, .long 0] 11 dX11_init_63 in_X11 tyX11_ok nmX11 rfl (by decide) (lm_t4 _ (List.mem_of_getElem? (i := 127) rfl)) rfl rfl rfl rfl rfl rfl rfl ?_
  refine y_nm 66 7 955 rfl rfl rfl ?_
  refine y_aload 0 dX11_init_66 rfl ?_
  refine y_sipush (nI 400) dX11_init_67 (by decide +kernel) ?_
  refine y_newa .int 400 (400, .inl (fun _ => 0)) dX11_init_70 (lm_t1 _ (List.mem_of_getElem? (i := 58) rfl)) rfl (fun _ => rfl) (by decide +kernel) (by decide +kernel) (Nat.le_of_ble_eq_true rfl) (Nat.le_of_ble_eq_true rfl) (Nat.le_of_ble_eq_true rfl) (fun q7 c7 => ?_)
  refine y_putF (ci := 11) [.ref q0, .ref q1, .ref q2, .int 0, .ref q3, .ref q4, .int 0, .int 0, .int (i32 (-1)), .int 0, .ref q5, .ref q6, .int 0, .ref q7, .null, .null, .null, .null, .int 0, .null, .null, .null, .null, .null, .null, .null, .null, .int 0, .int 0, .int 0, .null, .null, .long 0] 13 dX11_init_72 in_X11 tyX11_ok nmX11 rfl (by decide) (lm_t4 _ (List.mem_of_getElem? (i := 129) rfl)) rfl rfl rfl rfl rfl rfl rfl ?_
  refine y_nm 75 8 1355 rfl rfl rfl ?_
  refine y_aload 0 dX11_init_75 rfl ?_
  refine y_sipush (nI 400) dX11_init_76 (by decide +kernel) ?_
  refine y_newa .int 400 (400, .inl (fun _ => 0)) dX11_init_79 (lm_t1 _ (List.mem_of_getElem? (i := 58) rfl)) rfl (fun _ => rfl) (by decide +kernel) (by decide +kernel) (Nat.le_of_ble_eq_true rfl) (Nat.le_of_ble_eq_true rfl) (Nat.le_of_ble_eq_true rfl) (fun q8 c8 => ?_)
  refine y_putF (ci := 11) [.ref q0, .ref q1, .ref q2, .int 0, .ref q3, .ref q4, .int 0, .int 0, .int (i32 (-1)), .int 0, .ref q5, .ref q6, .int 0, .ref q7, .ref q8, .null, .null, .null, .int 0, .null, .null, .null, .null, .null, .null, .null, .null, .int 0, .int 0, .int 0, .null, .null, .long 0] 14 dX11_init_81 in_X11 tyX11_ok nmX11 rfl (by decide) (lm_t4 _ (List.mem_of_getElem? (i := 130) rfl)) rfl rfl rfl rfl rfl rfl rfl ?_
  refine y_nm 84 9 1755 rfl rfl rfl ?_
  refine y_aload 0 dX11_init_84 rfl ?_
  refine y_bipush (nI 9) dX11_init_85 (by decide +kernel) ?_
  refine y_newa .long 9 (9, .inr (.inl (fun _ => 0))) dX11_init_87 (lm_t1 _ (List.mem_of_getElem? (i := 84) rfl)) rfl (fun _ => rfl) (by decide +kernel) (by decide +kernel) (Nat.le_of_ble_eq_true rfl) (Nat.le_of_ble_eq_true rfl) (Nat.le_of_ble_eq_true rfl) (fun q9 c9 => ?_)
  refine y_putF (ci := 11) [.ref q0, .ref q1, .ref q2, .int 0, .ref q3, .ref q4, .int 0, .int 0, .int (i32 (-1)), .int 0, .ref q5, .ref q6, .int 0, .ref q7, .ref q8, .ref q9, .null, .null, .int 0, .null, .null, .null, .null, .null, .null, .null, .null, .int 0, .int 0, .int 0, .null, .null, .long 0] 15 dX11_init_89 in_X11 tyX11_ok nmX11 rfl (by decide) (lm_t4 _ (List.mem_of_getElem? (i := 131) rfl)) rfl rfl rfl rfl rfl rfl rfl ?_
  refine y_nm 92 10 1764 rfl rfl rfl ?_
  refine y_aload 0 dX11_init_92 rfl ?_
  refine y_bipush (nI 9) dX11_init_93 (by decide +kernel) ?_
  refine y_newa .int 9 (9, .inl (fun _ => 0)) dX11_init_95 (lm_t1 _ (List.mem_of_getElem? (i := 58) rfl)) rfl (fun _ => rfl) (by decide +kernel) (by decide +kernel) (Nat.le_of_ble_eq_true rfl) (Nat.le_of_ble_eq_true rfl) (Nat.le_of_ble_eq_true rfl) (fun q10 c10 => ?_)
  refine y_putF (ci := 11) [.ref q0, .ref q1, .ref q2, .int 0, .ref q3, .ref q4, .int 0, .int 0, .int (i32 (-1)), .int 0, .ref q5, .ref q6, .int 0, .ref q7, .ref q8, .ref q9, .ref q10, .null, .int 0, .null, .null, .null, .null, .null, .null, .null, .null, .int 0, .int 0, .int 0, .null, .null, .long 0] 16 dX11_init_97 in_X11 tyX11_ok nmX11 rfl (by decide) (lm_t4 _ (List.mem_of_getElem? (i := 132) rfl)) rfl rfl rfl rfl rfl rfl rfl ?_
  refine y_nm 100 11 1773 rfl rfl rfl ?_
  refine y_aload 0 dX11_init_100 rfl ?_
  refine y_bipush (nI 20) dX11_init_101 (by decide +kernel) ?_
  refine y_newa .long 20 (20, .inr (.inl (fun _ => 0))) dX11_init_103 (lm_t1 _ (List.mem_of_getElem? (i := 84) rfl)) rfl (fun _ => rfl) (by decide +kernel) (by decide +kernel) (Nat.le_of_ble_eq_true rfl) (Nat.le_of_ble_eq_true rfl) (Nat.le_of_ble_eq_true rfl) (fun q11 c11 => ?_)
  refine y_putF (ci := 11) [.ref q0, .ref q1, .ref q2, .int 0, .ref q3, .ref q4, .int 0, .int 0, .int (i32 (-1)), .int 0, .ref q5, .ref q6, .int 0, .ref q7, .ref q8, .ref q9, .ref q10, .ref q11, .int 0, .null, .null, .null, .null, .null, .null, .null, .null, .int 0, .int 0, .int 0, .null, .null, .long 0] 17 dX11_init_105 in_X11 tyX11_ok nmX11 rfl (by decide) (lm_t4 _ (List.mem_of_getElem? (i := 133) rfl)) rfl rfl rfl rfl rfl rfl rfl ?_
  refine y_nm 108 12 1793 rfl rfl rfl ?_
  refine y_aload 0 dX11_init_108 rfl ?_
  refine y_iconst (nI 4) dX11_init_109 (by decide +kernel) ?_
  refine y_newa .int 4 (4, .inl (fun _ => 0)) dX11_init_110 (lm_t1 _ (List.mem_of_getElem? (i := 58) rfl)) rfl (fun _ => rfl) (by decide +kernel) (by decide +kernel) (Nat.le_of_ble_eq_true rfl) (Nat.le_of_ble_eq_true rfl) (Nat.le_of_ble_eq_true rfl) (fun q12 c12 => ?_)
  refine y_putF (ci := 11) [.ref q0, .ref q1, .ref q2, .int 0, .ref q3, .ref q4, .int 0, .int 0, .int (i32 (-1)), .int 0, .ref q5, .ref q6, .int 0, .ref q7, .ref q8, .ref q9, .ref q10, .ref q11, .int 0, .ref q12, .null, .null, .null, .null, .null, .null, .null, .int 0, .int 0, .int 0, .null, .null, .long 0] 19 dX11_init_112 in_X11 tyX11_ok nmX11 rfl (by decide) (lm_t4 _ (List.mem_of_getElem? (i := 135) rfl)) rfl rfl rfl rfl rfl rfl rfl ?_
  refine y_nm 115 13 1797 rfl rfl rfl ?_
  refine y_aload 0 dX11_init_115 rfl ?_
  refine y_sipush (nI 512) dX11_init_116 (by decide +kernel) ?_
  refine y_newa .int 512 (512, .inl (fun _ => 0)) dX11_init_119 (lm_t1 _ (List.mem_of_getElem? (i := 58) rfl)) rfl (fun _ => rfl) (by decide +kernel) (by decide +kernel) (Nat.le_of_ble_eq_true rfl) (Nat.le_of_ble_eq_true rfl) (Nat.le_of_ble_eq_true rfl) (fun q13 c13 => ?_)
  refine y_putF (ci := 11) [.ref q0, .ref q1, .ref q2, .int 0, .ref q3, .ref q4, .int 0, .int 0, .int (i32 (-1)), .int 0, .ref q5, .ref q6, .int 0, .ref q7, .ref q8, .ref q9, .ref q10, .ref q11, .int 0, .ref q12, .ref q13, .null, .null, .null, .null, .null, .null, .int 0, .int 0, .int 0, .null, .null, .long 0] 20 dX11_init_121 in_X11 tyX11_ok nmX11 rfl (by decide) (lm_t4 _ (List.mem_of_getElem? (i := 136) rfl)) rfl rfl rfl rfl rfl rfl rfl ?_
  refine y_nm 124 14 2309 rfl rfl rfl ?_
  refine y_aload 0 dX11_init_124 rfl ?_
  refine y_sipush (nI 512) dX11_init_125 (by decide +kernel) ?_
  refine y_newa .int 512 (512, .inl (fun _ => 0)) dX11_init_128 (lm_t1 _ (List.mem_of_getElem? (i := 58) rfl)) rfl (fun _ => rfl) (by decide +kernel) (by decide +kernel) (Nat.le_of_ble_eq_true rfl) (Nat.le_of_ble_eq_true rfl) (Nat.le_of_ble_eq_true rfl) (fun q14 c14 => ?_)
  refine y_putF (ci := 11) [.ref q0, .ref q1, .ref q2, .int 0, .ref q3, .ref q4, .int 0, .int 0, .int (i32 (-1)), .int 0, .ref q5, .ref q6, .int 0, .ref q7, .ref q8, .ref q9, .ref q10, .ref q11, .int 0, .ref q12, .ref q13, .ref q14, .null, .null, .null, .null, .null, .int 0, .int 0, .int 0, .null, .null, .long 0] 21 dX11_init_130 in_X11 tyX11_ok nmX11 rfl (by decide) (lm_t4 _ (List.mem_of_getElem? (i := 137) rfl)) rfl rfl rfl rfl rfl rfl rfl ?_
  refine y_nm 133 15 2821 rfl rfl rfl ?_
  refine y_aload 0 dX11_init_133 rfl ?_
  refine y_sipush (nI 512) dX11_init_134 (by decide +kernel) ?_
  refine y_newa .int 512 (512, .inl (fun _ => 0)) dX11_init_137 (lm_t1 _ (List.mem_of_getElem? (i := 58) rfl)) rfl (fun _ => rfl) (by decide +kernel) (by decide +kernel) (Nat.le_of_ble_eq_true rfl) (Nat.le_of_ble_eq_true rfl) (Nat.le_of_ble_eq_true rfl) (fun q15 c15 => ?_)
  refine y_putF (ci := 11) [.ref q0, .ref q1, .ref q2, .int 0, .ref q3, .ref q4, .int 0, .int 0, .int (i32 (-1)), .int 0, .ref q5, .ref q6, .int 0, .ref q7, .ref q8, .ref q9, .ref q10, .ref q11, .int 0, .ref q12, .ref q13, .ref q14, .ref q15, .null, .null, .null, .null, .int 0, .int 0, .int 0, .null, .null, .long 0] 22 dX11_init_139 in_X11 tyX11_ok nmX11 rfl (by decide) (lm_t4 _ (List.mem_of_getElem? (i := 138) rfl)) rfl rfl rfl rfl rfl rfl rfl ?_
  refine y_nm 142 16 3333 rfl rfl rfl ?_
  refine y_aload 0 dX11_init_142 rfl ?_
  refine y_sipush (nI 512) dX11_init_143 (by decide +kernel) ?_
  refine y_newa .int 512 (512, .inl (fun _ => 0)) dX11_init_146 (lm_t1 _ (List.mem_of_getElem? (i := 58) rfl)) rfl (fun _ => rfl) (by decide +kernel) (by decide +kernel) (Nat.le_of_ble_eq_true rfl) (Nat.le_of_ble_eq_true rfl) (Nat.le_of_ble_eq_true rfl) (fun q16 c16 => ?_)
  refine y_putF (ci := 11) [.ref q0, .ref q1, .ref q2, .int 0, .ref q3, .ref q4, .int 0, .int 0, .int (i32 (-1)), .int 0, .ref q5, .ref q6, .int 0, .ref q7, .ref q8, .ref q9, .ref q10, .ref q11, .int 0, .ref q12, .ref q13, .ref q14, .ref q15, .ref q16, .null, .null, .null, .int 0, .int 0, .int 0, .null, .null, .long 0] 23 dX11_init_148 in_X11 tyX11_ok nmX11 rfl (by decide) (lm_t4 _ (List.mem_of_getElem? (i := 139) rfl)) rfl rfl rfl rfl rfl rfl rfl ?_
  refine y_nm 151 17 3845 rfl rfl rfl ?_
  refine y_aload 0 dX11_init_151 rfl ?_
  refine y_sipush (nI 512) dX11_init_152 (by decide +kernel) ?_
  refine y_newa .boolean 512 (512, .inl (fun _ => 0)) dX11_init_155 (lm_t1 _ (List.mem_of_getElem? (i := 108) rfl)) rfl (fun _ => rfl) (by decide +kernel) (by decide +kernel) (Nat.le_of_ble_eq_true rfl) (Nat.le_of_ble_eq_true rfl) (Nat.le_of_ble_eq_true rfl) (fun q17 c17 => ?_)
  refine y_putF (ci := 11) [.ref q0, .ref q1, .ref q2, .int 0, .ref q3, .ref q4, .int 0, .int 0, .int (i32 (-1)), .int 0, .ref q5, .ref q6, .int 0, .ref q7, .ref q8, .ref q9, .ref q10, .ref q11, .int 0, .ref q12, .ref q13, .ref q14, .ref q15, .ref q16, .ref q17, .null, .null, .int 0, .int 0, .int 0, .null, .null, .long 0] 24 dX11_init_157 in_X11 tyX11_ok nmX11 rfl (by decide) (lm_t4 _ (List.mem_of_getElem? (i := 140) rfl)) rfl rfl rfl rfl rfl rfl rfl ?_
  refine y_nm 160 18 4357 rfl rfl rfl ?_
  refine y_aload 0 dX11_init_160 rfl ?_
  refine y_iconst (nI 5) dX11_init_161 (by decide +kernel) ?_
  refine y_newa .int 5 (5, .inl (fun _ => 0)) dX11_init_162 (lm_t1 _ (List.mem_of_getElem? (i := 58) rfl)) rfl (fun _ => rfl) (by decide +kernel) (by decide +kernel) (Nat.le_of_ble_eq_true rfl) (Nat.le_of_ble_eq_true rfl) (Nat.le_of_ble_eq_true rfl) (fun q18 c18 => ?_)
  refine y_putF (ci := 11) [.ref q0, .ref q1, .ref q2, .int 0, .ref q3, .ref q4, .int 0, .int 0, .int (i32 (-1)), .int 0, .ref q5, .ref q6, .int 0, .ref q7, .ref q8, .ref q9, .ref q10, .ref q11, .int 0, .ref q12, .ref q13, .ref q14, .ref q15, .ref q16, .ref q17, .ref q18, .null, .int 0, .int 0, .int 0, .null, .null, .long 0] 25 dX11_init_164 in_X11 tyX11_ok nmX11 rfl (by decide) (lm_t4 _ (List.mem_of_getElem? (i := 141) rfl)) rfl rfl rfl rfl rfl rfl rfl ?_
  refine y_nm 167 19 4362 rfl rfl rfl ?_
  refine y_aload 0 dX11_init_167 rfl ?_
  refine y_sipush (nI 512) dX11_init_168 (by decide +kernel) ?_
  refine y_newa .int 512 (512, .inl (fun _ => 0)) dX11_init_171 (lm_t1 _ (List.mem_of_getElem? (i := 58) rfl)) rfl (fun _ => rfl) (by decide +kernel) (by decide +kernel) (Nat.le_of_ble_eq_true rfl) (Nat.le_of_ble_eq_true rfl) (Nat.le_of_ble_eq_true rfl) (fun q19 c19 => ?_)
  refine y_putF (ci := 11) [.ref q0, .ref q1, .ref q2, .int 0, .ref q3, .ref q4, .int 0, .int 0, .int (i32 (-1)), .int 0, .ref q5, .ref q6, .int 0, .ref q7, .ref q8, .ref q9, .ref q10, .ref q11, .int 0, .ref q12, .ref q13, .ref q14, .ref q15, .ref q16, .ref q17, .ref q18, .ref q19, .int 0, .int 0, .int 0, .null, .null, .long 0] 26 dX11_init_173 in_X11 tyX11_ok nmX11 rfl (by decide) (lm_t4 _ (List.mem_of_getElem? (i := 142) rfl)) rfl rfl rfl rfl rfl rfl rfl ?_
  refine y_nm 176 20 4874 rfl rfl rfl ?_
  refine y_aload 0 dX11_init_176 rfl ?_
  refine y_bipush (nI 50) dX11_init_177 (by decide +kernel) ?_
  refine y_newa .int 50 (50, .inl (fun _ => 0)) dX11_init_179 (lm_t1 _ (List.mem_of_getElem? (i := 58) rfl)) rfl (fun _ => rfl) (by decide +kernel) (by decide +kernel) (Nat.le_of_ble_eq_true rfl) (Nat.le_of_ble_eq_true rfl) (Nat.le_of_ble_eq_true rfl) (fun q20 c20 => ?_)
  refine y_putF (ci := 11) [.ref q0, .ref q1, .ref q2, .int 0, .ref q3, .ref q4, .int 0, .int 0, .int (i32 (-1)), .int 0, .ref q5, .ref q6, .int 0, .ref q7, .ref q8, .ref q9, .ref q10, .ref q11, .int 0, .ref q12, .ref q13, .ref q14, .ref q15, .ref q16, .ref q17, .ref q18, .ref q19, .int 0, .int 0, .int 0, .ref q20, .null, .long 0] 30 dX11_init_181 in_X11 tyX11_ok nmX11 rfl (by decide) (lm_t4 _ (List.mem_of_getElem? (i := 146) rfl)) rfl rfl rfl rfl rfl rfl rfl ?_
  refine y_nm 184 21 4924 rfl rfl rfl ?_
  refine y_aload 0 dX11_init_184 rfl ?_
  refine y_sipush (nI 200) dX11_init_185 (by decide +kernel) ?_
  refine y_newa .int 200 (200, .inl (fun _ => 0)) dX11_init_188 (lm_t1 _ (List.mem_of_getElem? (i := 58) rfl)) rfl (fun _ => rfl) (by decide +kernel) (by decide +kernel) (Nat.le_of_ble_eq_true rfl) (Nat.le_of_ble_eq_true rfl) (Nat.le_of_ble_eq_true rfl) (fun q21 c21 => ?_)
  refine y_putF (ci := 11) [.ref q0, .ref q1, .ref q2, .int 0, .ref q3, .ref q4, .int 0, .int 0, .int (i32 (-1)), .int 0, .ref q5, .ref q6, .int 0, .ref q7, .ref q8, .ref q9, .ref q10, .ref q11, .int 0, .ref q12, .ref q13, .ref q14, .ref q15, .ref q16, .ref q17, .ref q18, .ref q19, .int 0, .int 0, .int 0, .ref q20, .ref q21, .long 0] 31 dX11_init_190 in_X11 tyX11_ok nmX11 rfl (by decide) (lm_t4 _ (List.mem_of_getElem? (i := 147) rfl)) rfl rfl rfl rfl rfl rfl rfl ?_
  refine y_nm 193 22 5124 rfl rfl rfl ?_
  refine y_aload 0 dX11_init_193 rfl ?_
  refine y_get (ci := 11) 0 dX11_init_194 in_X11 rfl (by decide) (lm_t4 _ (List.mem_of_getElem? (i := 116) rfl)) rfl ?_
  refine y_bipush (nI 36) dX11_init_197 (by decide +kernel) ?_
  refine y_iconst (nI 3) dX11_init_199 (by decide +kernel) ?_
  refine y_iast 1 0 dX11_init_200 rfl rfl (by unfold vp_in; decide +kernel) ?_
  rw [show (nI 36).toNatClampNeg = 36 by decide +kernel]
  exact y_ret dX11_init_201 (Nat.le_of_ble_eq_true rfl) (Nat.le_of_ble_eq_true rfl) ⟨q0, c0, q1, c1, q2, c2, q3, c3, q4, c4, q5, c5, q6, c6, q7, c7, q8, c8, q9, c9, q10, c10, q11, c11, q12, c12, q13, c13, q14, c14, q15, c15, q16, c16, q17, c17, q18, c18, q19, c19, q20, c20, q21, c21, rfl, rfl⟩
