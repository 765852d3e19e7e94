/-! THE REFERENCE: good primes -/
/-- the sum over the planes of a set, dimension j, with the numbers of row x -/
def zsm (v : Nat → Row) (s N p x j : Nat) : Nat → Int := sm (fun k => v (colB s N k) j * dgt p x k)
/-- all sums are multiples, of the dimensions below j -/
def zrB (v : Nat → Row) (s N p x : Nat) : Nat → Bool
  | 0 => true
  | j + 1 => zrB v s N p x j && decide ((p : Int) ∣ zsm v s N p x j (pcb s N))
/-- no row below t but 0 makes them so -/
def foB (v : Nat → Row) (s N d p : Nat) : Nat → Bool
  | 0 => true
  | t + 1 => foB v s N d p t && (t == 0 || !zrB v s N p t d)
theorem zrB_f {v : Nat → Row} {s N p x j : Nat} (h : zrB v s N p x j = false) : ∀ d, j ≤ d → zrB v s N p x d = false := by
  intro d hd
  obtain ⟨k, rfl⟩ := Nat.exists_eq_add_of_le hd
  induction k with
  | zero => exact h
  | succ k ih => rw [← Nat.add_assoc, zrB, ih (by omega)]; rfl
theorem foB_f {v : Nat → Row} {s N d p t : Nat} (h : foB v s N d p t = false) : ∀ u, t ≤ u → foB v s N d p u = false := by
  intro u hu
  obtain ⟨k, rfl⟩ := Nat.exists_eq_add_of_le hu
  induction k with
  | zero => exact h
  | succ k ih => rw [← Nat.add_assoc, foB, ih (by omega)]; rfl
theorem pcb_le (s : Nat) : ∀ N, pcb s N ≤ N := by
  intro N
  induction N with
  | zero => exact Nat.le_refl _
  | succ N ih =>
    simp only [pcb]
    cases s.testBit N
    · simp; omega
    · simp; omega
theorem pcb_mono (s : Nat) {i N : Nat} (h : i ≤ N) : pcb s i ≤ pcb s N := by
  obtain ⟨k, rfl⟩ := Nat.exists_eq_add_of_le h
  induction k with
  | zero => exact Nat.le_refl _
  | succ k ih =>
    have := ih (by omega)
    have e : pcb s (i + (k + 1)) = pcb s (i + k) + (s.testBit (i + k)).toNat := rfl
    omega
theorem colB_ext {s i k : Nat} (h : k < pcb s i) : ∀ N, i ≤ N → colB s N k = colB s i k := by
  intro N hN
  obtain ⟨h1, h2, h3⟩ := colB_ok h
  have := colB_at (N := N) (show colB s i k < N by omega) h2
  rw [h3] at this
  exact this
set_option maxRecDepth 100000 in
set_option maxHeartbeats 4000000 in
theorem k_fo_d (S : amS) (N d p : Nat) (v : Nat → Row) (hN : N ≤ 9) (hd : d ≤ 4) (hp : 2 ≤ p ∧ p ≤ 7) (hD : S.2.1 1 36 = nI d) (hM : S.2.1 1 37 = nI N) (hv : ∀ i j, i < N → j < 4 → S.2.1 1 (4 * i + j) = i32 (v i j)) (hb : ∀ i j, -3 ≤ v i j ∧ v i j ≤ 3) (s : Nat) (hs : s < 512) (hcol : ∀ k, k < pcb s N → S.2.1 11 k = nI (colB s N k)) (rw x j : Nat) (hx : x < 40353607) (hj : j < 4) (f : Int32) (Q : Option Value → amS → Prop) (hq : ∀ y, X shM mX11_isFreeOver 155 [.ref 0, .int (nI s), .int (nI p), .int (nI (pcb s N)), .int (nI rw), .int (nI x), .int f, .int (nI j), .int y, .int (i32 (zsm v s N p x j (pcb s N))), .int (nI (pcb s N))] [] S Q) : ∀ (e k : Nat), k + e = pcb s N → X shM mX11_isFreeOver 110 [.ref 0, .int (nI s), .int (nI p), .int (nI (pcb s N)), .int (nI rw), .int (nI x), .int f, .int (nI j), .int (nI (x / p ^ k)), .int (i32 (zsm v s N p x j k)), .int (nI k)] [] S Q := by
  have hpc := pcb_le s N
  intro e
  induction e with
  | zero =>
    intro k h1
    obtain rfl : k = pcb s N := by omega
    refine x_iload dX11_isFreeOver_110 rfl ?_
    refine x_iload_n dX11_isFreeOver_112 rfl ?_
    refine x_icmp_geN 155 dX11_isFreeOver_113 rfl (by omega) (by omega) (fun c113 => ?_) (fun c113 => ?_)
    · exact hq _
    · exact absurd c113 (by omega)
  | succ e ih =>
    intro k h1
    have hq1 := Nat.div_le_self x (p ^ k)
    obtain ⟨hk1, hk2, hk3⟩ := colB_ok (s := s) (N := N) (k := k) (by omega)
    refine x_iload dX11_isFreeOver_110 rfl ?_
    refine x_iload_n dX11_isFreeOver_112 rfl ?_
    refine x_icmp_geN 155 dX11_isFreeOver_113 rfl (by omega) (by omega) (fun c113 => ?_) (fun c113 => ?_)
    · exact absurd c113 (by omega)
    · refine x_iload dX11_isFreeOver_116 rfl ?_
      refine x_aload_n dX11_isFreeOver_118 rfl ?_
      refine x_getR dX11_isFreeOver_119 fl_X11_7 rfl ?_
      refine x_ic _ ic_4 dX11_isFreeOver_122 ?_
      refine x_aload_n dX11_isFreeOver_123 rfl ?_
      refine x_getR dX11_isFreeOver_124 fl_X11_45 rfl ?_
      refine x_iload dX11_isFreeOver_127 rfl ?_
      refine x_ialdN dX11_isFreeOver_129 rfl rfl (by omega) (hcol k (by omega)) ?_
      refine x_imulN dX11_isFreeOver_130 ?_
      refine x_iload dX11_isFreeOver_131 rfl ?_
      refine x_iaddN dX11_isFreeOver_133 ?_
      refine x_ialdN dX11_isFreeOver_134 rfl rfl (by omega) (hv (colB s N k) j hk1 hj) ?_
      refine x_iload dX11_isFreeOver_135 rfl ?_
      refine x_iload_n dX11_isFreeOver_137 rfl ?_
      refine x_iremN dX11_isFreeOver_138 (by omega) (by omega) (by omega) ?_
      refine x_imulIN dX11_isFreeOver_139 ?_
      refine x_iaddI dX11_isFreeOver_140 ?_
      refine x_istore dX11_isFreeOver_141 rfl ?_
      refine x_iload dX11_isFreeOver_143 rfl ?_
      refine x_iload_n dX11_isFreeOver_145 rfl ?_
      refine x_idivN dX11_isFreeOver_146 (by omega) (by omega) (by omega) ?_
      refine x_istore dX11_isFreeOver_147 rfl ?_
      refine x_iincN dX11_isFreeOver_149 rfl rfl ?_
      refine x_goto 110 dX11_isFreeOver_152 rfl ?_
      rw [div_step]
      exact ih (k + 1) (by omega)
set_option maxRecDepth 100000 in
set_option maxHeartbeats 4000000 in
theorem k_fo_c (S : amS) (N d p : Nat) (v : Nat → Row) (hN : N ≤ 9) (hd : d ≤ 4) (hp : 2 ≤ p ∧ p ≤ 7) (hD : S.2.1 1 36 = nI d) (hM : S.2.1 1 37 = nI N) (hv : ∀ i j, i < N → j < 4 → S.2.1 1 (4 * i + j) = i32 (v i j)) (hb : ∀ i j, -3 ≤ v i j ∧ v i j ≤ 3) (s : Nat) (hs : s < 512) (hcol : ∀ k, k < pcb s N → S.2.1 11 k = nI (colB s N k)) (rw x : Nat) (hx : x < 40353607) (Q : Option Value → amS → Prop) (hq : ∀ z7 z8 z9 z10, X shM mX11_isFreeOver 175 [.ref 0, .int (nI s), .int (nI p), .int (nI (pcb s N)), .int (nI rw), .int (nI x), .int (zB (zrB v s N p x d)), z7, z8, z9, z10] [] S Q) : ∀ (e j : Nat) (z8 z9 z10 : Value), j + e = d → X shM mX11_isFreeOver 83 [.ref 0, .int (nI s), .int (nI p), .int (nI (pcb s N)), .int (nI rw), .int (nI x), .int (zB (zrB v s N p x j)), .int (nI j), z8, z9, z10] [] S Q := by
  have hpc := pcb_le s N
  intro e
  induction e with
  | zero =>
    intro j z8 z9 z10 h1
    obtain rfl : j = d := by omega
    refine x_iload dX11_isFreeOver_83 rfl ?_
    refine x_aload_n dX11_isFreeOver_85 rfl ?_
    refine x_getR dX11_isFreeOver_86 fl_X11_7 rfl ?_
    refine x_bi _ bi_36 dX11_isFreeOver_89 ?_
    refine x_ialdN dX11_isFreeOver_91 rfl rfl (by omega) (hD) ?_
    refine x_icmp_geN 175 dX11_isFreeOver_92 rfl (by omega) (by omega) (fun c92 => ?_) (fun c92 => ?_)
    · exact hq _ _ _ _
    · exact absurd c92 (by omega)
  | succ e ih =>
    intro j z8 z9 z10 h1
    have hsb := sm_bd (fun k => v (colB s N k) j * dgt p x k) 18 (pcb s N) (fun k _ => dgm_bd hp (hb (colB s N k) j))
    have hsb' : -162 ≤ zsm v s N p x j (pcb s N) ∧ zsm v s N p x j (pcb s N) ≤ 162 := by unfold zsm; omega
    have htm := tdm (zsm v s N p x j (pcb s N)) (p : Int) (by omega)
    refine x_iload dX11_isFreeOver_83 rfl ?_
    refine x_aload_n dX11_isFreeOver_85 rfl ?_
    refine x_getR dX11_isFreeOver_86 fl_X11_7 rfl ?_
    refine x_bi _ bi_36 dX11_isFreeOver_89 ?_
    refine x_ialdN dX11_isFreeOver_91 rfl rfl (by omega) (hD) ?_
    refine x_icmp_geN 175 dX11_isFreeOver_92 rfl (by omega) (by omega) (fun c92 => ?_) (fun c92 => ?_)
    · exact absurd c92 (by omega)
    · refine x_iload dX11_isFreeOver_95 rfl ?_
      refine x_if_eqB 175 dX11_isFreeOver_97 rfl (fun c97 => ?_) (fun c97 => ?_)
      · rw [c97]
        have := hq (.int (nI j)) z8 z9 z10
        rw [zrB_f c97 d (by omega)] at this
        exact this
      · refine x_iload dX11_isFreeOver_100 rfl ?_
        refine x_istore dX11_isFreeOver_102 rfl ?_
        refine x_ic _ ic_0 dX11_isFreeOver_104 ?_
        refine x_istore dX11_isFreeOver_105 rfl ?_
        refine x_ic _ ic_0 dX11_isFreeOver_107 ?_
        refine x_istore dX11_isFreeOver_108 rfl ?_
        refine x_loc (show _ = [.ref 0, .int (nI s), .int (nI p), .int (nI (pcb s N)), .int (nI rw), .int (nI x), .int (zB (zrB v s N p x j)), .int (nI j), .int (nI (x / p ^ 0)), .int (i32 (zsm v s N p x j 0)), .int (nI 0)] from by rw [Nat.pow_zero, Nat.div_one]; rfl) ?_
        refine k_fo_d S N d p v hN hd hp hD hM hv hb s hs hcol rw x j hx (by omega) _ Q (fun y => ?_) (pcb s N) 0 (by omega)
        refine x_iload dX11_isFreeOver_155 rfl ?_
        refine x_iload_n dX11_isFreeOver_157 rfl ?_
        refine x_topI ?_
        refine x_iremI dX11_isFreeOver_158 (by omega) (by omega) (by omega) ?_
        refine x_if_neI 166 dX11_isFreeOver_159 rfl (by omega) (fun c159 => ?_) (fun c159 => ?_)
        · refine x_ic _ ic_0 dX11_isFreeOver_166 ?_
          refine x_istore dX11_isFreeOver_167 rfl ?_
          refine x_iincN dX11_isFreeOver_169 rfl rfl ?_
          refine x_goto 83 dX11_isFreeOver_172 rfl ?_
          have hfr : zrB v s N p x (j + 1) = false := by rw [zrB, c97]; simp only [Bool.true_and]; rw [decide_eq_false_iff_not]; exact fun z => c159 (tm_dvd.mpr z)
          have := ih (j + 1) (.int y) (.int (i32 (zsm v s N p x j (pcb s N)))) (.int (nI (pcb s N))) (by omega)
          rw [hfr] at this
          exact this
        · refine x_ic _ ic_1 dX11_isFreeOver_162 ?_
          refine x_goto 167 dX11_isFreeOver_163 rfl ?_
          refine x_istore dX11_isFreeOver_167 rfl ?_
          refine x_iincN dX11_isFreeOver_169 rfl rfl ?_
          refine x_goto 83 dX11_isFreeOver_172 rfl ?_
          have hfr : zrB v s N p x (j + 1) = true := by rw [zrB, c97]; simp only [Bool.true_and]; rw [decide_eq_true_eq]; exact tm_dvd.mp c159
          have := ih (j + 1) (.int y) (.int (i32 (zsm v s N p x j (pcb s N)))) (.int (nI (pcb s N))) (by omega)
          rw [hfr] at this
          exact this
set_option maxRecDepth 100000 in
set_option maxHeartbeats 4000000 in
theorem k_fo_b (S : amS) (N d p : Nat) (v : Nat → Row) (hN : N ≤ 9) (hd : d ≤ 4) (hp : 2 ≤ p ∧ p ≤ 7) (hD : S.2.1 1 36 = nI d) (hM : S.2.1 1 37 = nI N) (hv : ∀ i j, i < N → j < 4 → S.2.1 1 (4 * i + j) = i32 (v i j)) (hb : ∀ i j, -3 ≤ v i j ∧ v i j ≤ 3) (s : Nat) (hs : s < 512) (hcol : ∀ k, k < pcb s N → S.2.1 11 k = nI (colB s N k)) : ∀ (e x : Nat) (z6 z7 z8 z9 z10 : Value), x + e = p ^ pcb s N → 1 ≤ x → foB v s N d p x = true → X shM mX11_isFreeOver 70 [.ref 0, .int (nI s), .int (nI p), .int (nI (pcb s N)), .int (nI (p ^ pcb s N)), .int (nI x), z6, z7, z8, z9, z10] [] S (fun q S' => q = some (.int (zB (foB v s N d p (p ^ pcb s N)))) ∧ S' = S) := by
  have hpc := pcb_le s N
  have hpd : p ^ pcb s N ≤ 40353607 := pw_le (k := 9) hp (by omega)
  intro e
  induction e with
  | zero =>
    intro x z6 z7 z8 z9 z10 h1 h2 h3
    obtain rfl : x = p ^ pcb s N := by omega
    refine x_iload dX11_isFreeOver_70 rfl ?_
    refine x_iload dX11_isFreeOver_72 rfl ?_
    refine x_icmp_geN 188 dX11_isFreeOver_74 rfl (by omega) (by omega) (fun c74 => ?_) (fun c74 => ?_)
    · refine x_ic _ ic_1 dX11_isFreeOver_188 ?_
      refine x_zret1 dX11_isFreeOver_189 rfl ?_
      exact ⟨by rw [zB_t h3], rfl⟩
    · exact absurd c74 (by omega)
  | succ e ih =>
    intro x z6 z7 z8 z9 z10 h1 h2 h3
    refine x_iload dX11_isFreeOver_70 rfl ?_
    refine x_iload dX11_isFreeOver_72 rfl ?_
    refine x_icmp_geN 188 dX11_isFreeOver_74 rfl (by omega) (by omega) (fun c74 => ?_) (fun c74 => ?_)
    · exact absurd c74 (by omega)
    · refine x_ic _ ic_1 dX11_isFreeOver_77 ?_
      refine x_istore dX11_isFreeOver_78 rfl ?_
      refine x_ic _ ic_0 dX11_isFreeOver_80 ?_
      refine x_istore dX11_isFreeOver_81 rfl ?_
      refine k_fo_c S N d p v hN hd hp hD hM hv hb s hs hcol _ x (by omega) _ (fun z7 z8 z9 z10 => ?_) d 0 _ _ _ (by omega)
      refine x_iload dX11_isFreeOver_175 rfl ?_
      refine x_if_eqB 182 dX11_isFreeOver_177 rfl (fun c177 => ?_) (fun c177 => ?_)
      · have h4 : foB v s N d p (x + 1) = true := by rw [foB, h3, c177]; simp
        refine x_iincN dX11_isFreeOver_182 rfl rfl ?_
        refine x_goto 70 dX11_isFreeOver_185 rfl ?_
        exact ih (x + 1) _ _ _ _ _ (by omega) (by omega) h4
      · refine x_ic _ ic_0 dX11_isFreeOver_180 ?_
        refine x_zret0 dX11_isFreeOver_181 rfl ?_
        have h4 : foB v s N d p (x + 1) = false := by rw [foB, h3, c177]; simp; omega
        exact ⟨by rw [zB_f (foB_f h4 _ (by omega))], rfl⟩
set_option maxRecDepth 100000 in
set_option maxHeartbeats 4000000 in
theorem k_fo_a (S : amS) (N d p : Nat) (v : Nat → Row) (hN : N ≤ 9) (hd : d ≤ 4) (hp : 2 ≤ p ∧ p ≤ 7) (hD : S.2.1 1 36 = nI d) (hM : S.2.1 1 37 = nI N) (hv : ∀ i j, i < N → j < 4 → S.2.1 1 (4 * i + j) = i32 (v i j)) (hb : ∀ i j, -3 ≤ v i j ∧ v i j ≤ 3) (s : Nat) (hs : s < 512) (hcol : ∀ k, k < pcb s N → S.2.1 11 k = nI (colB s N k)) : ∀ (e k : Nat), k + e = pcb s N → X shM mX11_isFreeOver 49 [.ref 0, .int (nI s), .int (nI p), .int (nI (pcb s N)), .int (nI (p ^ k)), .int (nI k), .null, .null, .null, .null, .null] [] S (fun q S' => q = some (.int (zB (foB v s N d p (p ^ pcb s N)))) ∧ S' = S) := by
  have hpc := pcb_le s N
  intro e
  induction e with
  | zero =>
    intro k h1
    obtain rfl : k = pcb s N := by omega
    have hpos : 1 ≤ p ^ pcb s N := Nat.pow_pos (by omega)
    refine x_iload dX11_isFreeOver_49 rfl ?_
    refine x_iload_n dX11_isFreeOver_51 rfl ?_
    refine x_icmp_geN 67 dX11_isFreeOver_52 rfl (by omega) (by omega) (fun c52 => ?_) (fun c52 => ?_)
    · refine x_ic _ ic_1 dX11_isFreeOver_67 ?_
      refine x_istore dX11_isFreeOver_68 rfl ?_
      exact k_fo_b S N d p v hN hd hp hD hM hv hb s hs hcol (p ^ pcb s N - 1) 1 _ _ _ _ _ (by omega) (Nat.le_refl _) (by simp [foB])
    · exact absurd c52 (by omega)
  | succ e ih =>
    intro k h1
    refine x_iload dX11_isFreeOver_49 rfl ?_
    refine x_iload_n dX11_isFreeOver_51 rfl ?_
    refine x_icmp_geN 67 dX11_isFreeOver_52 rfl (by omega) (by omega) (fun c52 => ?_) (fun c52 => ?_)
    · exact absurd c52 (by omega)
    · refine x_iload dX11_isFreeOver_55 rfl ?_
      refine x_iload_n dX11_isFreeOver_57 rfl ?_
      refine x_imulN dX11_isFreeOver_58 ?_
      refine x_istore dX11_isFreeOver_59 rfl ?_
      refine x_iincN dX11_isFreeOver_61 rfl rfl ?_
      refine x_goto 49 dX11_isFreeOver_64 rfl ?_
      rw [← Nat.pow_succ]
      exact ih (k + 1) (by omega)
set_option maxRecDepth 100000 in
set_option maxHeartbeats 4000000 in
theorem k_fo_0 (S : amS) (N d p : Nat) (v : Nat → Row) (hN : N ≤ 9) (hd : d ≤ 4) (hp : 2 ≤ p ∧ p ≤ 7) (hD : S.2.1 1 36 = nI d) (hM : S.2.1 1 37 = nI N) (hv : ∀ i j, i < N → j < 4 → S.2.1 1 (4 * i + j) = i32 (v i j)) (hb : ∀ i j, -3 ≤ v i j ∧ v i j ≤ 3) (s : Nat) (hs : s < 512) : ∀ (e i : Nat) (g : Nat → Int32), i + e = N → (∀ k, k < pcb s i → g k = nI (colB s i k)) → X shM mX11_isFreeOver 5 [.ref 0, .int (nI s), .int (nI p), .int (nI (pcb s i)), .int (nI i), .null, .null, .null, .null, .null, .null] [] (sA S 11 g) (fun q S' => q = some (.int (zB (foB v s N d p (p ^ pcb s N)))) ∧ ∃ g', S' = sA S 11 g') := by
  intro e
  induction e with
  | zero =>
    intro i g h1 h2
    obtain rfl : i = N := by omega
    refine x_iload dX11_isFreeOver_5 rfl ?_
    refine x_aload_n dX11_isFreeOver_7 rfl ?_
    refine x_getR dX11_isFreeOver_8 fl_X11_7 rfl ?_
    refine x_bi _ bi_37 dX11_isFreeOver_11 ?_
    refine x_ialdN dX11_isFreeOver_13 rfl rfl (by omega) (hM) ?_
    refine x_icmp_geN 43 dX11_isFreeOver_14 rfl (by omega) (by omega) (fun c14 => ?_) (fun c14 => ?_)
    · refine x_ic _ ic_1 dX11_isFreeOver_43 ?_
      refine x_istore dX11_isFreeOver_44 rfl ?_
      refine x_ic _ ic_0 dX11_isFreeOver_46 ?_
      refine x_istore dX11_isFreeOver_47 rfl ?_
      refine x_mono ?_ (k_fo_a (sA S 11 g) i d p v hN hd hp hD hM hv hb s hs h2 (pcb s i) 0 (by omega))
      rintro _ _ ⟨rfl, rfl⟩
      exact ⟨rfl, g, rfl⟩
    · exact absurd c14 (by omega)
  | succ e ih =>
    intro i g h1 h2
    have hpc := pcb_le s i
    have hps : pcb s (i + 1) = pcb s i + (s.testBit i).toNat := rfl
    refine x_iload dX11_isFreeOver_5 rfl ?_
    refine x_aload_n dX11_isFreeOver_7 rfl ?_
    refine x_getR dX11_isFreeOver_8 fl_X11_7 rfl ?_
    refine x_bi _ bi_37 dX11_isFreeOver_11 ?_
    refine x_ialdN dX11_isFreeOver_13 rfl rfl (by omega) (hM) ?_
    refine x_icmp_geN 43 dX11_isFreeOver_14 rfl (by omega) (by omega) (fun c14 => ?_) (fun c14 => ?_)
    · exact absurd c14 (by omega)
    · refine x_iload_n dX11_isFreeOver_17 rfl ?_
      refine x_iload dX11_isFreeOver_18 rfl ?_
      refine x_s2d (N := mX11_has) dX11_isFreeOver_20 ml_X11_97 ns_X11_has rfl (k_has (sA S 11 g) s i hs (by omega)) ?_
      refine x_if_eqB 37 dX11_isFreeOver_23 rfl (fun c23 => ?_) (fun c23 => ?_)
      · have hp0 : pcb s (i + 1) = pcb s i := by rw [hps, c23]; rfl
        rw [← hp0]
        refine x_iincN dX11_isFreeOver_37 rfl rfl ?_
        refine x_goto 5 dX11_isFreeOver_40 rfl ?_
        refine ih (i + 1) g (by omega) (fun k hk => ?_)
        rw [colB_ext (s := s) (i := i) (by omega) (i + 1) (by omega)]
        exact h2 k (by omega)
      · refine x_aload_n dX11_isFreeOver_26 rfl ?_
        refine x_getR dX11_isFreeOver_27 fl_X11_45 rfl ?_
        refine x_iload_n dX11_isFreeOver_30 rfl ?_
        refine x_iload dX11_isFreeOver_31 rfl ?_
        refine x_iastN dX11_isFreeOver_33 rfl rfl (by omega) ?_
        refine x_iincN dX11_isFreeOver_34 rfl rfl ?_
        refine x_iincN dX11_isFreeOver_37 rfl rfl ?_
        refine x_goto 5 dX11_isFreeOver_40 rfl ?_
        have hp0 : pcb s (i + 1) = pcb s i + 1 := by rw [hps, c23]; rfl
        rw [sA_sA, sA_at, ← hp0]
        refine ih (i + 1) _ (by omega) (fun k hk => ?_)
        by_cases q : k = pcb s i
        · subst q
          rw [upd_s, colB_at (by omega) c23]
        · rw [upd_n _ _ q, colB_ext (s := s) (i := i) (by omega) (i + 1) (by omega)]
          exact h2 k (by omega)
set_option maxRecDepth 100000 in
set_option maxHeartbeats 4000000 in
theorem k_isFreeOver (S : amS) (N d p : Nat) (v : Nat → Row) (hN : N ≤ 9) (hd : d ≤ 4) (hp : 2 ≤ p ∧ p ≤ 7) (hD : S.2.1 1 36 = nI d) (hM : S.2.1 1 37 = nI N) (hv : ∀ i j, i < N → j < 4 → S.2.1 1 (4 * i + j) = i32 (v i j)) (hb : ∀ i j, -3 ≤ v i j ∧ v i j ≤ 3) (s : Nat) (hs : s < 512) : X shM mX11_isFreeOver 0 [.ref 0, .int (nI s), .int (nI p), .null, .null, .null, .null, .null, .null, .null, .null] [] S (fun q S' => q = some (.int (zB (foB v s N d p (p ^ pcb s N)))) ∧ ∃ g', S' = sA S 11 g') := by
  refine x_ic _ ic_0 dX11_isFreeOver_0 ?_
  refine x_istore_n dX11_isFreeOver_1 rfl ?_
  refine x_ic _ ic_0 dX11_isFreeOver_2 ?_
  refine x_istore dX11_isFreeOver_3 rfl ?_
  refine x_st (sA_self S 11) ?_
  exact k_fo_0 S N d p v hN hd hp hD hM hv hb s hs N 0 _ (by omega) (fun k hk => absurd hk (Nat.not_lt_zero k))
/-- good, as the sets below t tell -/
noncomputable def gdB (v : Nat → Row) (N d p : Nat) : Nat → Bool
  | 0 => true
  | t + 1 => gdB v N d p t && (bdB (rkV v) t || foB v t N d p (p ^ pcb t N))
theorem gdB_f {v : Nat → Row} {N d p t : Nat} (h : gdB v N d p t = false) : ∀ u, t ≤ u → gdB v N d p u = false := by
  intro u hu
  obtain ⟨k, rfl⟩ := Nat.exists_eq_add_of_le hu
  induction k with
  | zero => exact h
  | succ k ih => rw [← Nat.add_assoc, gdB, ih (by omega)]; rfl
set_option maxRecDepth 100000 in
set_option maxHeartbeats 4000000 in
theorem k_gd_l (p : Nat) (hp : 2 ≤ p ∧ p ≤ 7) (a : Ar) (hs : List Ar) (tx : List Nat) (u0 u1 u2 ck co : Int32) : ∀ (e t : Nat) (S : amS), mCore S a hs tx u0 u1 u2 ck co → laidM S a.2.1 a.2.2 → t + e = 2 ^ a.2.1 → X shM mX11_isGood 8 [.ref 0, .int (nI p), .int (zB (gdB a.2.2 a.2.1 a.1 p t)), .int (nI t)] [] S (fun r S' => r = some (.int (zB (gdB a.2.2 a.2.1 a.1 p (2 ^ a.2.1)))) ∧ mCore S' a hs tx u0 u1 u2 ck co) := by
  intro e
  induction e with
  | zero =>
    intro t S hc hl h1
    obtain rfl : t = 2 ^ a.2.1 := by omega
    have hA := hc.1.1
    have hm := hc.1.2
    obtain ⟨a1, a2, a3, a4, a5, a6, a7⟩ := id hA
    have h512 := pow9 a3
    have hr9 : ∀ t, t < 2 ^ a.2.1 → rkV a.2.2 t ≤ 9 := fun t ht => Nat.le_trans (rkV_le (by omega)) (pc9_le t (by omega))
    have hpos := Nat.two_pow_pos a.2.1
    refine x_iload_n dX11_isGood_8 rfl ?_
    refine x_aload_n dX11_isGood_9 rfl ?_
    refine x_v0d (N := mX11_all) dX11_isGood_10 ml_X11_109 nv_X11_all rfl rfl (k_all S a.2.1 a3 hm.2.1) ?_
    refine x_icmp_gtN 49 dX11_isGood_13 rfl (by omega) (by omega) (fun c13 => ?_) (fun c13 => ?_)
    · refine x_iload_n dX11_isGood_49 rfl ?_
      refine x_zretB dX11_isGood_50 rfl ?_
      exact ⟨rfl, hc⟩
    · exact absurd c13 (by omega)
  | succ e ih =>
    intro t S hc hl h1
    have hA := hc.1.1
    have hm := hc.1.2
    obtain ⟨a1, a2, a3, a4, a5, a6, a7⟩ := id hA
    have h512 := pow9 a3
    have hr9 : ∀ t, t < 2 ^ a.2.1 → rkV a.2.2 t ≤ 9 := fun t ht => Nat.le_trans (rkV_le (by omega)) (pc9_le t (by omega))
    have hpos := Nat.two_pow_pos a.2.1
    refine x_iload_n dX11_isGood_8 rfl ?_
    refine x_aload_n dX11_isGood_9 rfl ?_
    refine x_v0d (N := mX11_all) dX11_isGood_10 ml_X11_109 nv_X11_all rfl rfl (k_all S a.2.1 a3 hm.2.1) ?_
    refine x_icmp_gtN 49 dX11_isGood_13 rfl (by omega) (by omega) (fun c13 => ?_) (fun c13 => ?_)
    · exact absurd c13 (by omega)
    · refine x_iload_n dX11_isGood_16 rfl ?_
      refine x_if_eqB 49 dX11_isGood_17 rfl (fun c17 => ?_) (fun c17 => ?_)
      · refine x_iload_n dX11_isGood_49 rfl ?_
        refine x_zretB dX11_isGood_50 rfl ?_
        exact ⟨by rw [c17, gdB_f c17 _ (by omega)], hc⟩
      · refine x_aload_n dX11_isGood_20 rfl ?_
        refine x_iload_n dX11_isGood_21 rfl ?_
        refine x_v1d (N := mX11_isBound) dX11_isGood_22 ml_X11_133 nv_X11_isBound rfl rfl (k_isBound S a.2.1 (rkV a.2.2) a3 hm.2.1 hl.1 hr9 t (by omega)) ?_
        refine x_if_neB 37 dX11_isGood_25 rfl (fun c25 => ?_) (fun c25 => ?_)
        · refine x_ic _ ic_1 dX11_isGood_37 ?_
          refine x_goto 42 dX11_isGood_38 rfl ?_
          refine x_istore_n dX11_isGood_42 rfl ?_
          refine x_iincN dX11_isGood_43 rfl rfl ?_
          refine x_goto 8 dX11_isGood_46 rfl ?_
          have hfr : gdB a.2.2 a.2.1 a.1 p (t + 1) = true := by rw [gdB, c17, c25]; simp only [Bool.true_or, Bool.and_self]
          have := ih (t + 1) S hc hl (by omega)
          rw [hfr] at this
          exact this
        · refine x_aload_n dX11_isGood_28 rfl ?_
          refine x_iload_n dX11_isGood_29 rfl ?_
          refine x_iload_n dX11_isGood_30 rfl ?_
          refine x_v2 (N := mX11_isFreeOver) dX11_isGood_31 ml_X11_222 nv_X11_isFreeOver rfl rfl (k_isFreeOver S a.2.1 a.1 p a.2.2 a3 a2 hp hm.1 hm.2.1 hm.2.2 a4 t (by omega)) ?_
          rintro _ _ ⟨rfl, g', rfl⟩
          have hc' : mCore (sA S 11 g') a hs tx u0 u1 u2 ck co := hc.keep (fun i hi => by show va_up S.2.1 11 g' i = _; rw [va_up_n _ _ (by omega)]) (fun k hk => rfl)
          have hl' : laidM (sA S 11 g') a.2.1 a.2.2 := hl
          refine x_if_eqB 41 dX11_isGood_34 rfl (fun c34 => ?_) (fun c34 => ?_)
          · refine x_ic _ ic_0 dX11_isGood_41 ?_
            refine x_istore_n dX11_isGood_42 rfl ?_
            refine x_iincN dX11_isGood_43 rfl rfl ?_
            refine x_goto 8 dX11_isGood_46 rfl ?_
            have hfr : gdB a.2.2 a.2.1 a.1 p (t + 1) = false := by rw [gdB, c17, c25, c34]; simp only [Bool.or_self, Bool.and_false]
            have := ih (t + 1) (sA S 11 g') hc' hl' (by omega)
            rw [hfr] at this
            exact this
          · refine x_ic _ ic_1 dX11_isGood_37 ?_
            refine x_goto 42 dX11_isGood_38 rfl ?_
            refine x_istore_n dX11_isGood_42 rfl ?_
            refine x_iincN dX11_isGood_43 rfl rfl ?_
            refine x_goto 8 dX11_isGood_46 rfl ?_
            have hfr : gdB a.2.2 a.2.1 a.1 p (t + 1) = true := by rw [gdB, c17, c25, c34]; simp only [Bool.or_true, Bool.and_self]
            have := ih (t + 1) (sA S 11 g') hc' hl' (by omega)
            rw [hfr] at this
            exact this
set_option maxRecDepth 100000 in
set_option maxHeartbeats 4000000 in
theorem k_isGood (p : Nat) (hp : 2 ≤ p ∧ p ≤ 7) (S : amS) (a : Ar) (hs : List Ar) (tx : List Nat) (u0 u1 u2 ck co : Int32) (hc : mCore S a hs tx u0 u1 u2 ck co) : X shM mX11_isGood 0 [.ref 0, .int (nI p), .null, .null] [] S (fun r S' => r = some (.int (zB (gdB a.2.2 a.2.1 a.1 p (2 ^ a.2.1)))) ∧ mCore S' a hs tx u0 u1 u2 ck co) := by
  refine x_aload_n dX11_isGood_0 rfl ?_
  refine x_v0 (N := mX11_lay) dX11_isGood_1 ml_X11_187 nv_X11_lay rfl rfl (k_layq S a hs tx u0 u1 u2 ck co hc) ?_
  rintro _ S' ⟨rfl, hc', hl, hf⟩
  refine x_ic _ ic_1 dX11_isGood_4 ?_
  refine x_istore_n dX11_isGood_5 rfl ?_
  refine x_ic _ ic_0 dX11_isGood_6 ?_
  refine x_istore_n dX11_isGood_7 rfl ?_
  have := k_gd_l p hp a hs tx u0 u1 u2 ck co (2 ^ a.2.1) 0 S' hc' hl (by omega)
  exact this
set_option maxRecDepth 100000 in
set_option maxHeartbeats 4000000 in
theorem k_places_0 (S : amS) (a : Ar) (hs : List Ar) (tx : List Nat) (u0 u1 u2 ck co : Int32) (hc : mCore S a hs tx u0 u1 u2 ck co) (p : Nat) (hp : p = 2 ∨ p = 3 ∨ p = 5 ∨ p = 7) : X shM mX11_places 0 [.ref 0, .int (nI p), .int (nI 0)] [] S (fun r S' => r = some (.int (nI (plL a.2.2 a.2.1 a.1 p).length)) ∧ mCore S' a hs tx u0 u1 u2 ck co) := by
  have hA := hc.1.1
  have hm := hc.1.2
  obtain ⟨a1, a2, a3, a4, a5, a6, a7⟩ := id hA
  have h512 := pow9 a3
  have hr9 : ∀ t, t < 2 ^ a.2.1 → rkV a.2.2 t ≤ 9 := fun t ht => Nat.le_trans (rkV_le (by omega)) (pc9_le t (by omega))
  refine x_iload_n dX11_places_0 rfl ?_
  refine x_ic _ ic_2 dX11_places_1 ?_
  refine x_icmp_eqN 21 dX11_places_2 rfl (by omega) (by omega) (fun c2 => ?_) (fun c2 => ?_)
  · refine x_iload_n dX11_places_21 rfl ?_
    refine x_ic _ ic_0 dX11_places_22 ?_
    refine x_ic _ ic_1 dX11_places_23 ?_
    refine x_s3d (N := mX11_in) dX11_places_24 ml_X11_113 ns_X11_in rfl (k_in S _ _ _) ?_
    refine x_if_neB 37 dX11_places_27 rfl (fun c27 => ?_) (fun c27 => ?_)
    · refine x_iload_n dX11_places_37 rfl ?_
      refine x_if_neN 49 dX11_places_38 rfl (by omega) (fun c38 => ?_) (fun c38 => ?_)
      · exact absurd rfl c38
      · refine x_aload_n dX11_places_41 rfl ?_
        refine x_iload_n dX11_places_42 rfl ?_
        refine x_v1d (N := mX11_placesOver) dX11_places_43 ml_X11_225 nv_X11_placesOver rfl rfl (k_placesOver S a.2.1 a.1 p a.2.2 a3 a2 (by omega) hm.1 hm.2.1 hm.2.2 a4) ?_
        refine x_goto 62 dX11_places_46 rfl ?_
        refine x_iretI dX11_places_62 rfl ?_
        exact ⟨rfl, hc⟩
    · exact absurd c27 (by decide)
  · refine x_iload_n dX11_places_5 rfl ?_
    refine x_ic _ ic_3 dX11_places_6 ?_
    refine x_icmp_eqN 21 dX11_places_7 rfl (by omega) (by omega) (fun c7 => ?_) (fun c7 => ?_)
    · refine x_iload_n dX11_places_21 rfl ?_
      refine x_ic _ ic_0 dX11_places_22 ?_
      refine x_ic _ ic_1 dX11_places_23 ?_
      refine x_s3d (N := mX11_in) dX11_places_24 ml_X11_113 ns_X11_in rfl (k_in S _ _ _) ?_
      refine x_if_neB 37 dX11_places_27 rfl (fun c27 => ?_) (fun c27 => ?_)
      · refine x_iload_n dX11_places_37 rfl ?_
        refine x_if_neN 49 dX11_places_38 rfl (by omega) (fun c38 => ?_) (fun c38 => ?_)
        · exact absurd rfl c38
        · refine x_aload_n dX11_places_41 rfl ?_
          refine x_iload_n dX11_places_42 rfl ?_
          refine x_v1d (N := mX11_placesOver) dX11_places_43 ml_X11_225 nv_X11_placesOver rfl rfl (k_placesOver S a.2.1 a.1 p a.2.2 a3 a2 (by omega) hm.1 hm.2.1 hm.2.2 a4) ?_
          refine x_goto 62 dX11_places_46 rfl ?_
          refine x_iretI dX11_places_62 rfl ?_
          exact ⟨rfl, hc⟩
      · exact absurd c27 (by decide)
    · refine x_iload_n dX11_places_10 rfl ?_
      refine x_ic _ ic_5 dX11_places_11 ?_
      refine x_icmp_eqN 21 dX11_places_12 rfl (by omega) (by omega) (fun c12 => ?_) (fun c12 => ?_)
      · refine x_iload_n dX11_places_21 rfl ?_
        refine x_ic _ ic_0 dX11_places_22 ?_
        refine x_ic _ ic_1 dX11_places_23 ?_
        refine x_s3d (N := mX11_in) dX11_places_24 ml_X11_113 ns_X11_in rfl (k_in S _ _ _) ?_
        refine x_if_neB 37 dX11_places_27 rfl (fun c27 => ?_) (fun c27 => ?_)
        · refine x_iload_n dX11_places_37 rfl ?_
          refine x_if_neN 49 dX11_places_38 rfl (by omega) (fun c38 => ?_) (fun c38 => ?_)
          · exact absurd rfl c38
          · refine x_aload_n dX11_places_41 rfl ?_
            refine x_iload_n dX11_places_42 rfl ?_
            refine x_v1d (N := mX11_placesOver) dX11_places_43 ml_X11_225 nv_X11_placesOver rfl rfl (k_placesOver S a.2.1 a.1 p a.2.2 a3 a2 (by omega) hm.1 hm.2.1 hm.2.2 a4) ?_
            refine x_goto 62 dX11_places_46 rfl ?_
            refine x_iretI dX11_places_62 rfl ?_
            exact ⟨rfl, hc⟩
        · exact absurd c27 (by decide)
      · refine x_iload_n dX11_places_15 rfl ?_
        refine x_bi _ bi_7 dX11_places_16 ?_
        refine x_icmp_neN 30 dX11_places_18 rfl (by omega) (by omega) (fun c18 => ?_) (fun c18 => ?_)
        · omega
        · refine x_iload_n dX11_places_21 rfl ?_
          refine x_ic _ ic_0 dX11_places_22 ?_
          refine x_ic _ ic_1 dX11_places_23 ?_
          refine x_s3d (N := mX11_in) dX11_places_24 ml_X11_113 ns_X11_in rfl (k_in S _ _ _) ?_
          refine x_if_neB 37 dX11_places_27 rfl (fun c27 => ?_) (fun c27 => ?_)
          · refine x_iload_n dX11_places_37 rfl ?_
            refine x_if_neN 49 dX11_places_38 rfl (by omega) (fun c38 => ?_) (fun c38 => ?_)
            · exact absurd rfl c38
            · refine x_aload_n dX11_places_41 rfl ?_
              refine x_iload_n dX11_places_42 rfl ?_
              refine x_v1d (N := mX11_placesOver) dX11_places_43 ml_X11_225 nv_X11_placesOver rfl rfl (k_placesOver S a.2.1 a.1 p a.2.2 a3 a2 (by omega) hm.1 hm.2.1 hm.2.2 a4) ?_
              refine x_goto 62 dX11_places_46 rfl ?_
              refine x_iretI dX11_places_62 rfl ?_
              exact ⟨rfl, hc⟩
          · exact absurd c27 (by decide)
set_option maxRecDepth 100000 in
set_option maxHeartbeats 4000000 in
theorem k_places_1 (S : amS) (a : Ar) (hs : List Ar) (tx : List Nat) (u0 u1 u2 ck co : Int32) (hc : mCore S a hs tx u0 u1 u2 ck co) (p : Nat) (hp : p = 2 ∨ p = 3 ∨ p = 5 ∨ p = 7) : X shM mX11_places 0 [.ref 0, .int (nI p), .int (nI 1)] [] S (fun r S' => r = some (.int (zB (gdB a.2.2 a.2.1 a.1 p (2 ^ a.2.1)))) ∧ mCore S' a hs tx u0 u1 u2 ck co) := by
  have hA := hc.1.1
  have hm := hc.1.2
  obtain ⟨a1, a2, a3, a4, a5, a6, a7⟩ := id hA
  have h512 := pow9 a3
  have hr9 : ∀ t, t < 2 ^ a.2.1 → rkV a.2.2 t ≤ 9 := fun t ht => Nat.le_trans (rkV_le (by omega)) (pc9_le t (by omega))
  refine x_iload_n dX11_places_0 rfl ?_
  refine x_ic _ ic_2 dX11_places_1 ?_
  refine x_icmp_eqN 21 dX11_places_2 rfl (by omega) (by omega) (fun c2 => ?_) (fun c2 => ?_)
  · refine x_iload_n dX11_places_21 rfl ?_
    refine x_ic _ ic_0 dX11_places_22 ?_
    refine x_ic _ ic_1 dX11_places_23 ?_
    refine x_s3d (N := mX11_in) dX11_places_24 ml_X11_113 ns_X11_in rfl (k_in S _ _ _) ?_
    refine x_if_neB 37 dX11_places_27 rfl (fun c27 => ?_) (fun c27 => ?_)
    · refine x_iload_n dX11_places_37 rfl ?_
      refine x_if_neN 49 dX11_places_38 rfl (by omega) (fun c38 => ?_) (fun c38 => ?_)
      · refine x_aload_n dX11_places_49 rfl ?_
        refine x_iload_n dX11_places_50 rfl ?_
        refine x_v1 (N := mX11_isGood) dX11_places_51 ml_X11_228 nv_X11_isGood rfl rfl (k_isGood p (by omega) S a hs tx u0 u1 u2 ck co hc) ?_
        rintro _ S' ⟨rfl, hc'⟩
        refine x_if_eqB 61 dX11_places_54 rfl (fun c54 => ?_) (fun c54 => ?_)
        · refine x_ic _ ic_0 dX11_places_61 ?_
          refine x_iretI dX11_places_62 rfl ?_
          exact ⟨by rw [zB_f c54], hc'⟩
        · refine x_ic _ ic_1 dX11_places_57 ?_
          refine x_goto 62 dX11_places_58 rfl ?_
          refine x_iretI dX11_places_62 rfl ?_
          exact ⟨by rw [zB_t c54], hc'⟩
      · omega
    · exact absurd c27 (by decide)
  · refine x_iload_n dX11_places_5 rfl ?_
    refine x_ic _ ic_3 dX11_places_6 ?_
    refine x_icmp_eqN 21 dX11_places_7 rfl (by omega) (by omega) (fun c7 => ?_) (fun c7 => ?_)
    · refine x_iload_n dX11_places_21 rfl ?_
      refine x_ic _ ic_0 dX11_places_22 ?_
      refine x_ic _ ic_1 dX11_places_23 ?_
      refine x_s3d (N := mX11_in) dX11_places_24 ml_X11_113 ns_X11_in rfl (k_in S _ _ _) ?_
      refine x_if_neB 37 dX11_places_27 rfl (fun c27 => ?_) (fun c27 => ?_)
      · refine x_iload_n dX11_places_37 rfl ?_
        refine x_if_neN 49 dX11_places_38 rfl (by omega) (fun c38 => ?_) (fun c38 => ?_)
        · refine x_aload_n dX11_places_49 rfl ?_
          refine x_iload_n dX11_places_50 rfl ?_
          refine x_v1 (N := mX11_isGood) dX11_places_51 ml_X11_228 nv_X11_isGood rfl rfl (k_isGood p (by omega) S a hs tx u0 u1 u2 ck co hc) ?_
          rintro _ S' ⟨rfl, hc'⟩
          refine x_if_eqB 61 dX11_places_54 rfl (fun c54 => ?_) (fun c54 => ?_)
          · refine x_ic _ ic_0 dX11_places_61 ?_
            refine x_iretI dX11_places_62 rfl ?_
            exact ⟨by rw [zB_f c54], hc'⟩
          · refine x_ic _ ic_1 dX11_places_57 ?_
            refine x_goto 62 dX11_places_58 rfl ?_
            refine x_iretI dX11_places_62 rfl ?_
            exact ⟨by rw [zB_t c54], hc'⟩
        · omega
      · exact absurd c27 (by decide)
    · refine x_iload_n dX11_places_10 rfl ?_
      refine x_ic _ ic_5 dX11_places_11 ?_
      refine x_icmp_eqN 21 dX11_places_12 rfl (by omega) (by omega) (fun c12 => ?_) (fun c12 => ?_)
      · refine x_iload_n dX11_places_21 rfl ?_
        refine x_ic _ ic_0 dX11_places_22 ?_
        refine x_ic _ ic_1 dX11_places_23 ?_
        refine x_s3d (N := mX11_in) dX11_places_24 ml_X11_113 ns_X11_in rfl (k_in S _ _ _) ?_
        refine x_if_neB 37 dX11_places_27 rfl (fun c27 => ?_) (fun c27 => ?_)
        · refine x_iload_n dX11_places_37 rfl ?_
          refine x_if_neN 49 dX11_places_38 rfl (by omega) (fun c38 => ?_) (fun c38 => ?_)
          · refine x_aload_n dX11_places_49 rfl ?_
            refine x_iload_n dX11_places_50 rfl ?_
            refine x_v1 (N := mX11_isGood) dX11_places_51 ml_X11_228 nv_X11_isGood rfl rfl (k_isGood p (by omega) S a hs tx u0 u1 u2 ck co hc) ?_
            rintro _ S' ⟨rfl, hc'⟩
            refine x_if_eqB 61 dX11_places_54 rfl (fun c54 => ?_) (fun c54 => ?_)
            · refine x_ic _ ic_0 dX11_places_61 ?_
              refine x_iretI dX11_places_62 rfl ?_
              exact ⟨by rw [zB_f c54], hc'⟩
            · refine x_ic _ ic_1 dX11_places_57 ?_
              refine x_goto 62 dX11_places_58 rfl ?_
              refine x_iretI dX11_places_62 rfl ?_
              exact ⟨by rw [zB_t c54], hc'⟩
          · omega
        · exact absurd c27 (by decide)
      · refine x_iload_n dX11_places_15 rfl ?_
        refine x_bi _ bi_7 dX11_places_16 ?_
        refine x_icmp_neN 30 dX11_places_18 rfl (by omega) (by omega) (fun c18 => ?_) (fun c18 => ?_)
        · omega
        · refine x_iload_n dX11_places_21 rfl ?_
          refine x_ic _ ic_0 dX11_places_22 ?_
          refine x_ic _ ic_1 dX11_places_23 ?_
          refine x_s3d (N := mX11_in) dX11_places_24 ml_X11_113 ns_X11_in rfl (k_in S _ _ _) ?_
          refine x_if_neB 37 dX11_places_27 rfl (fun c27 => ?_) (fun c27 => ?_)
          · refine x_iload_n dX11_places_37 rfl ?_
            refine x_if_neN 49 dX11_places_38 rfl (by omega) (fun c38 => ?_) (fun c38 => ?_)
            · refine x_aload_n dX11_places_49 rfl ?_
              refine x_iload_n dX11_places_50 rfl ?_
              refine x_v1 (N := mX11_isGood) dX11_places_51 ml_X11_228 nv_X11_isGood rfl rfl (k_isGood p (by omega) S a hs tx u0 u1 u2 ck co hc) ?_
              rintro _ S' ⟨rfl, hc'⟩
              refine x_if_eqB 61 dX11_places_54 rfl (fun c54 => ?_) (fun c54 => ?_)
              · refine x_ic _ ic_0 dX11_places_61 ?_
                refine x_iretI dX11_places_62 rfl ?_
                exact ⟨by rw [zB_f c54], hc'⟩
              · refine x_ic _ ic_1 dX11_places_57 ?_
                refine x_goto 62 dX11_places_58 rfl ?_
                refine x_iretI dX11_places_62 rfl ?_
                exact ⟨by rw [zB_t c54], hc'⟩
            · omega
          · exact absurd c27 (by decide)
set_option maxRecDepth 100000 in
set_option maxHeartbeats 4000000 in
theorem k_places_bad (S : amS) (a : Ar) (hs : List Ar) (tx : List Nat) (u0 u1 u2 ck co : Int32) (hc : mCore S a hs tx u0 u1 u2 ck co) (x y : Int32) (hxy : ¬ ((x = nI 2 ∨ x = nI 3 ∨ x = nI 5 ∨ x = nI 7) ∧ InR y 2)) : X shM mX11_places 0 [.ref 0, .int x, .int y] [] S (fun r S' => r = some (.int (i32 (-2))) ∧ mCore S' a hs tx (u0 + nI 1) u1 u2 ck co) := by
  have hA := hc.1.1
  have hm := hc.1.2
  obtain ⟨a1, a2, a3, a4, a5, a6, a7⟩ := id hA
  have h512 := pow9 a3
  have hr9 : ∀ t, t < 2 ^ a.2.1 → rkV a.2.2 t ≤ 9 := fun t ht => Nat.le_trans (rkV_le (by omega)) (pc9_le t (by omega))
  refine x_iload_n dX11_places_0 rfl ?_
  refine x_ic _ ic_2 dX11_places_1 ?_
  refine x_icmp_eq 21 dX11_places_2 rfl (fun c2 => ?_) (fun c2 => ?_)
  · refine x_iload_n dX11_places_21 rfl ?_
    refine x_ic _ ic_0 dX11_places_22 ?_
    refine x_ic _ ic_1 dX11_places_23 ?_
    refine x_s3d (N := mX11_in) dX11_places_24 ml_X11_113 ns_X11_in rfl (k_in S _ _ _) ?_
    refine x_if_neB 37 dX11_places_27 rfl (fun c27 => ?_) (fun c27 => ?_)
    · rw [in_R _ (by omega)] at c27
      refine absurd ⟨?_, c27⟩ hxy
      first | exact Or.inl (by assumption) | exact Or.inr (Or.inl (by assumption)) | exact Or.inr (Or.inr (Or.inl (by assumption))) | exact Or.inr (Or.inr (Or.inr (by assumption)))
    · refine x_aload_n dX11_places_30 rfl ?_
      refine x_bi _ bi_m2 dX11_places_31 ?_
      refine x_v1 (N := mX11_refuses) dX11_places_33 ml_X11_89 nv_X11_refuses rfl rfl (k_bad S a hs tx u0 u1 u2 ck co hc) ?_
      rintro _ S' ⟨rfl, hc'⟩
      refine x_iretI dX11_places_36 rfl ?_
      exact ⟨rfl, hc'⟩
  · refine x_iload_n dX11_places_5 rfl ?_
    refine x_ic _ ic_3 dX11_places_6 ?_
    refine x_icmp_eq 21 dX11_places_7 rfl (fun c7 => ?_) (fun c7 => ?_)
    · refine x_iload_n dX11_places_21 rfl ?_
      refine x_ic _ ic_0 dX11_places_22 ?_
      refine x_ic _ ic_1 dX11_places_23 ?_
      refine x_s3d (N := mX11_in) dX11_places_24 ml_X11_113 ns_X11_in rfl (k_in S _ _ _) ?_
      refine x_if_neB 37 dX11_places_27 rfl (fun c27 => ?_) (fun c27 => ?_)
      · rw [in_R _ (by omega)] at c27
        refine absurd ⟨?_, c27⟩ hxy
        first | exact Or.inl (by assumption) | exact Or.inr (Or.inl (by assumption)) | exact Or.inr (Or.inr (Or.inl (by assumption))) | exact Or.inr (Or.inr (Or.inr (by assumption)))
      · refine x_aload_n dX11_places_30 rfl ?_
        refine x_bi _ bi_m2 dX11_places_31 ?_
        refine x_v1 (N := mX11_refuses) dX11_places_33 ml_X11_89 nv_X11_refuses rfl rfl (k_bad S a hs tx u0 u1 u2 ck co hc) ?_
        rintro _ S' ⟨rfl, hc'⟩
        refine x_iretI dX11_places_36 rfl ?_
        exact ⟨rfl, hc'⟩
    · refine x_iload_n dX11_places_10 rfl ?_
      refine x_ic _ ic_5 dX11_places_11 ?_
      refine x_icmp_eq 21 dX11_places_12 rfl (fun c12 => ?_) (fun c12 => ?_)
      · refine x_iload_n dX11_places_21 rfl ?_
        refine x_ic _ ic_0 dX11_places_22 ?_
        refine x_ic _ ic_1 dX11_places_23 ?_
        refine x_s3d (N := mX11_in) dX11_places_24 ml_X11_113 ns_X11_in rfl (k_in S _ _ _) ?_
        refine x_if_neB 37 dX11_places_27 rfl (fun c27 => ?_) (fun c27 => ?_)
        · rw [in_R _ (by omega)] at c27
          refine absurd ⟨?_, c27⟩ hxy
          first | exact Or.inl (by assumption) | exact Or.inr (Or.inl (by assumption)) | exact Or.inr (Or.inr (Or.inl (by assumption))) | exact Or.inr (Or.inr (Or.inr (by assumption)))
        · refine x_aload_n dX11_places_30 rfl ?_
          refine x_bi _ bi_m2 dX11_places_31 ?_
          refine x_v1 (N := mX11_refuses) dX11_places_33 ml_X11_89 nv_X11_refuses rfl rfl (k_bad S a hs tx u0 u1 u2 ck co hc) ?_
          rintro _ S' ⟨rfl, hc'⟩
          refine x_iretI dX11_places_36 rfl ?_
          exact ⟨rfl, hc'⟩
      · refine x_iload_n dX11_places_15 rfl ?_
        refine x_bi _ bi_7 dX11_places_16 ?_
        refine x_icmp_ne 30 dX11_places_18 rfl (fun c18 => ?_) (fun c18 => ?_)
        · refine x_aload_n dX11_places_30 rfl ?_
          refine x_bi _ bi_m2 dX11_places_31 ?_
          refine x_v1 (N := mX11_refuses) dX11_places_33 ml_X11_89 nv_X11_refuses rfl rfl (k_bad S a hs tx u0 u1 u2 ck co hc) ?_
          rintro _ S' ⟨rfl, hc'⟩
          refine x_iretI dX11_places_36 rfl ?_
          exact ⟨rfl, hc'⟩
        · refine x_iload_n dX11_places_21 rfl ?_
          refine x_ic _ ic_0 dX11_places_22 ?_
          refine x_ic _ ic_1 dX11_places_23 ?_
          refine x_s3d (N := mX11_in) dX11_places_24 ml_X11_113 ns_X11_in rfl (k_in S _ _ _) ?_
          refine x_if_neB 37 dX11_places_27 rfl (fun c27 => ?_) (fun c27 => ?_)
          · rw [in_R _ (by omega)] at c27
            refine absurd ⟨?_, c27⟩ hxy
            first | exact Or.inl (by assumption) | exact Or.inr (Or.inl (by assumption)) | exact Or.inr (Or.inr (Or.inl (by assumption))) | exact Or.inr (Or.inr (Or.inr (by assumption)))
          · refine x_aload_n dX11_places_30 rfl ?_
            refine x_bi _ bi_m2 dX11_places_31 ?_
            refine x_v1 (N := mX11_refuses) dX11_places_33 ml_X11_89 nv_X11_refuses rfl rfl (k_bad S a hs tx u0 u1 u2 ck co hc) ?_
            rintro _ S' ⟨rfl, hc'⟩
            refine x_iretI dX11_places_36 rfl ?_
            exact ⟨rfl, hc'⟩
