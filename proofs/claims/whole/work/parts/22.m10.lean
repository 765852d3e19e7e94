/-! THE REFERENCE: findFactors, the grid and its elimination -/
set_option maxRecDepth 100000 in
set_option maxHeartbeats 4000000 in
theorem k_ff_b2 (S : amS) (s : Nat) (v : Nat → Row) (f : Nat → Int64) (g : Nat → Int32) (hg : ∀ k, k < pcb s 9 → g k = nI (colB s 9 k)) (hv : ∀ i j, s.testBit i = true → i < 9 → j < 4 → S.2.1 1 (4 * i + j) = i32 (v i j)) (hb : ∀ i j, i < 9 → -3 ≤ v i j ∧ v i j ≤ 3) (hm : pcb s 9 ≤ 5) (row : Nat) (hr : row < 4) (Q : Option Value → amS → Prop) (hq : ∀ h, (∀ r e, r < 4 → e < 5 → (r < row ∨ (r = row ∧ e < 5)) → h (5 * r + e) = i64 (gr0 v s 9 r e)) → X shM mX11_findFactors 112 [.ref 0, .int (nI s), .int (nI row), .int (nI 5), .null, .null, .null, .null] [] (sL (ffS S f g (pcb s 9)) 12 h) Q) : ∀ (k j : Nat) (h : Nat → Int64), j + k = 5 → (∀ r e, r < 4 → e < 5 → (r < row ∨ (r = row ∧ e < j)) → h (5 * r + e) = i64 (gr0 v s 9 r e)) → X shM mX11_findFactors 63 [.ref 0, .int (nI s), .int (nI row), .int (nI j), .null, .null, .null, .null] [] (sL (ffS S f g (pcb s 9)) 12 h) Q := by
  intro k
  induction k with
  | zero =>
    intro j h h1 h2
    obtain rfl : j = 5 := by omega
    refine x_iload_n dX11_findFactors_63 rfl ?_
    refine x_ic _ ic_5 dX11_findFactors_64 ?_
    refine x_icmp_geN 112 dX11_findFactors_65 rfl (by omega) (by omega) (fun c65 => ?_) (fun c65 => ?_)
    · exact hq h h2
    · exact absurd c65 (by omega)
  | succ k ih =>
    intro j h h1 h2
    have hj : j < 5 := by omega
    refine x_iload_n dX11_findFactors_63 rfl ?_
    refine x_ic _ ic_5 dX11_findFactors_64 ?_
    refine x_icmp_geN 112 dX11_findFactors_65 rfl (by omega) (by omega) (fun c65 => ?_) (fun c65 => ?_)
    · exact absurd c65 (by omega)
    · refine x_aload_n dX11_findFactors_68 rfl ?_
      refine x_getR dX11_findFactors_69 fl_X11_48 rfl ?_
      refine x_ic _ ic_5 dX11_findFactors_72 ?_
      refine x_iload_n dX11_findFactors_73 rfl ?_
      refine x_imulN dX11_findFactors_74 ?_
      refine x_iload_n dX11_findFactors_75 rfl ?_
      refine x_iaddN dX11_findFactors_76 ?_
      refine x_iload_n dX11_findFactors_77 rfl ?_
      refine x_aload_n dX11_findFactors_78 rfl ?_
      refine x_getIV dX11_findFactors_79 fl_X11_136 rfl (rfl) ?_
      refine x_icmp_geN 104 dX11_findFactors_82 rfl (by omega) (by omega) (fun c82 => ?_) (fun c82 => ?_)
      · refine x_lc _ lc_0 dX11_findFactors_104 ?_
        refine x_lastN dX11_findFactors_105 rfl rfl (by omega) ?_
        refine x_iincN dX11_findFactors_106 rfl rfl ?_
        refine x_goto 63 dX11_findFactors_109 rfl ?_
        rw [sL_sL, sL_at]
        refine ih (j + 1) _ (by omega) (fun r e hr1 he hre => ?_)
        by_cases q : 5 * r + e = 5 * row + j
        · obtain ⟨rfl, rfl⟩ := Mx_ix he hj q
          simp only [vp_updL, if_true]
          simp only [gr0, if_neg (show ¬ e < pcb s 9 by omega)]
        · simp only [vp_updL, q, if_false]
          exact h2 r e hr1 he (by omega)
      · obtain ⟨o1, o2, o3⟩ := colB_ok (s := s) (N := 9) c82
        have obb := hb (colB s 9 j) row o1
        refine x_aload_n dX11_findFactors_85 rfl ?_
        refine x_getR dX11_findFactors_86 fl_X11_7 rfl ?_
        refine x_ic _ ic_4 dX11_findFactors_89 ?_
        refine x_aload_n dX11_findFactors_90 rfl ?_
        refine x_getR dX11_findFactors_91 fl_X11_45 rfl ?_
        refine x_iload_n dX11_findFactors_94 rfl ?_
        refine x_ialdN dX11_findFactors_95 rfl rfl (by omega) (hg j c82) ?_
        refine x_imulN dX11_findFactors_96 ?_
        refine x_iload_n dX11_findFactors_97 rfl ?_
        refine x_iaddN dX11_findFactors_98 ?_
        refine x_ialdN dX11_findFactors_99 rfl rfl (by omega) (hv _ row o2 o1 hr) ?_
        refine x_i2lI dX11_findFactors_100 (by omega) (by omega) ?_
        refine x_goto 105 dX11_findFactors_101 rfl ?_
        refine x_lastN dX11_findFactors_105 rfl rfl (by omega) ?_
        refine x_iincN dX11_findFactors_106 rfl rfl ?_
        refine x_goto 63 dX11_findFactors_109 rfl ?_
        rw [sL_sL, sL_at]
        refine ih (j + 1) _ (by omega) (fun r e hr1 he hre => ?_)
        by_cases q : 5 * r + e = 5 * row + j
        · obtain ⟨rfl, rfl⟩ := Mx_ix he hj q
          simp only [vp_updL, if_true]
          simp only [gr0, if_pos c82]
        · simp only [vp_updL, q, if_false]
          exact h2 r e hr1 he (by omega)
set_option maxRecDepth 100000 in
set_option maxHeartbeats 4000000 in
theorem k_ff_b1 (S : amS) (s : Nat) (v : Nat → Row) (f : Nat → Int64) (g : Nat → Int32) (hg : ∀ k, k < pcb s 9 → g k = nI (colB s 9 k)) (hv : ∀ i j, s.testBit i = true → i < 9 → j < 4 → S.2.1 1 (4 * i + j) = i32 (v i j)) (hb : ∀ i j, i < 9 → -3 ≤ v i j ∧ v i j ≤ 3) (hm : pcb s 9 ≤ 5) (Q : Option Value → amS → Prop) (hq : ∀ h z3, Mx 5 h 4 (gr0 v s 9) 3 → X shM mX11_findFactors 118 [.ref 0, .int (nI s), .int (nI 4), z3, .null, .null, .null, .null] [] (sL (ffS S f g (pcb s 9)) 12 h) Q) : ∀ (k row : Nat) (h : Nat → Int64) (z3 : Value), row + k = 4 → (∀ r e, r < 4 → e < 5 → (r < row ∨ (r = row ∧ e < 0)) → h (5 * r + e) = i64 (gr0 v s 9 r e)) → X shM mX11_findFactors 56 [.ref 0, .int (nI s), .int (nI row), z3, .null, .null, .null, .null] [] (sL (ffS S f g (pcb s 9)) 12 h) Q := by
  intro k
  induction k with
  | zero =>
    intro row h z3 h1 h2
    obtain rfl : row = 4 := by omega
    refine x_iload_n dX11_findFactors_56 rfl ?_
    refine x_ic _ ic_4 dX11_findFactors_57 ?_
    refine x_icmp_geN 118 dX11_findFactors_58 rfl (by omega) (by omega) (fun c58 => ?_) (fun c58 => ?_)
    · refine hq h z3 (fun r e hr he => ⟨h2 r e hr he (Or.inl hr), ?_⟩)
      simp only [gr0]
      split
      next q => exact hb _ r (colB_ok q).1
      next q => omega
    · exact absurd c58 (by omega)
  | succ k ih =>
    intro row h z3 h1 h2
    have hr : row < 4 := by omega
    refine x_iload_n dX11_findFactors_56 rfl ?_
    refine x_ic _ ic_4 dX11_findFactors_57 ?_
    refine x_icmp_geN 118 dX11_findFactors_58 rfl (by omega) (by omega) (fun c58 => ?_) (fun c58 => ?_)
    · exact absurd c58 (by omega)
    · refine x_ic _ ic_0 dX11_findFactors_61 ?_
      refine x_istore_n dX11_findFactors_62 rfl ?_
      refine k_ff_b2 S s v f g hg hv hb hm row hr Q ?_ 5 0 h (by omega) h2
      intro h3 h4
      refine x_iincN dX11_findFactors_112 rfl rfl ?_
      refine x_goto 56 dX11_findFactors_115 rfl ?_
      exact ih (row + 1) h3 _ (by omega) (fun r e hr1 he hre => h4 r e hr1 he (by omega))
set_option maxRecDepth 100000 in
set_option maxHeartbeats 4000000 in
theorem k_ff_c (T : amS) (s last : Nat) (hl : last ≤ 4) (G0 : Nat → Nat → Int) (hI : ∀ c, c < last → ∀ z : Nat → Int, (∀ k, c < k → z k = 0) → (∀ r, r < 4 → dt G0 z r = 0) → z c = 0) (Q : Option Value → amS → Prop) (hq : ∀ h G, Mx 5 h 4 G (bnd last) → JI G0 G last (last + 1) → X shM mX11_findFactors 143 [.ref 0, .int (nI s), .int (nI last), .int (nI last), .null, .null, .null, .null] [] (sL T 12 h) Q) : ∀ (k c : Nat) (h : Nat → Int64) (G : Nat → Nat → Int), c + k = last → Mx 5 h 4 G (bnd c) → JI G0 G c (last + 1) → X shM mX11_findFactors 127 [.ref 0, .int (nI s), .int (nI last), .int (nI c), .null, .null, .null, .null] [] (sL T 12 h) Q := by
  intro k
  induction k with
  | zero =>
    intro c h G h1 h2 h3
    obtain rfl : c = last := by omega
    refine x_iload_n dX11_findFactors_127 rfl ?_
    refine x_iload_n dX11_findFactors_128 rfl ?_
    refine x_icmp_geN 143 dX11_findFactors_129 rfl (by omega) (by omega) (fun c129 => ?_) (fun c129 => ?_)
    · exact hq h G h2 h3
    · exact absurd c129 (by omega)
  | succ k ih =>
    intro c h G h1 h2 h3
    obtain ⟨b0, b1, b2, b3, b4⟩ := bnd_ok c (by omega)
    obtain ⟨e0, p1, p2⟩ := JI_pivot h3 (by omega) (hI c (by omega))
    refine x_iload_n dX11_findFactors_127 rfl ?_
    refine x_iload_n dX11_findFactors_128 rfl ?_
    refine x_icmp_geN 143 dX11_findFactors_129 rfl (by omega) (by omega) (fun c129 => ?_) (fun c129 => ?_)
    · exact absurd c129 (by omega)
    · refine x_aload_n dX11_findFactors_132 rfl ?_
      refine x_iload_n dX11_findFactors_133 rfl ?_
      refine x_v1 (N := mX11_clearColumn) dX11_findFactors_134 ml_X11_139 nv_X11_clearColumn rfl rfl (k_clearColumn (sL T 12 h) c (by omega) G (bnd c) (bnd (c + 1)) b0 b2 b3 b4 h2 e0 p1 p2) ?_
      rintro _ _ ⟨rfl, f', G', a, rfl, a1, a2, a3, a4, a5, a6⟩
      rw [sL_sL]
      refine x_iincN dX11_findFactors_137 rfl rfl ?_
      refine x_goto 127 dX11_findFactors_140 rfl ?_
      exact ih (c + 1) f' G' (by omega) a4 (JI_step h3 (by omega) (by omega) a1 a2 a3 a5 a6)
