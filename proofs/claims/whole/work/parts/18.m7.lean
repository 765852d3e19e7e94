/-! THE REFERENCE: clearColumn -/
theorem gcdR_ext {w u : Nat → Int} : ∀ {n : Nat}, (∀ i, i < n → w i = u i) → gcdR w n = gcdR u n := by
  intro n
  induction n with
  | zero => intro _; rfl
  | succ n ih => intro h; simp only [gcdR]; rw [ih (fun i hi => h i (by omega)), h n (by omega)]
theorem gcdR_mul (a : Int) (f : Nat → Int) : ∀ n, gcdR (fun i => a * f i) n = a.natAbs * gcdR f n := by
  intro n
  induction n with
  | zero => simp [gcdR]
  | succ n ih =>
    simp only [gcdR]
    rw [ih]
    have : ((a.natAbs * gcdR f n : Nat) : Int) = (a.natAbs : Int) * (gcdR f n : Int) := Int.natCast_mul _ _
    rw [this, Int.gcd_eq_natAbs_gcd_natAbs, Int.natAbs_mul, Int.natAbs_mul, Int.natAbs_natCast, Nat.gcd_mul_left, Int.gcd_eq_natAbs_gcd_natAbs]
/-- primitive, or 0 -/
def Prim (w : Nat → Int) : Prop := gcdR w 5 = 1 ∨ ∀ k, k < 5 → w k = 0
theorem Prim.ext {w u : Nat → Int} (h : Prim w) (e : ∀ k, k < 5 → u k = w k) : Prim u := by
  rcases h with h | h
  · exact Or.inl (by rw [gcdR_ext e]; exact h)
  · exact Or.inr (fun k hk => by rw [e k hk]; exact h k hk)
set_option maxRecDepth 100000 in
set_option maxHeartbeats 4000000 in
theorem k_cc_0 (S : amS) (c : Nat) (hc : c < 4) (G : Nat → Nat → Int) (B : Int) (hB : B ≤ 4611686018427387904) (hm : Mx 5 (S.2.2.2 12) 4 G B) (e0 : Nat) (he0 : c ≤ e0 ∧ e0 < 4) (hg : G e0 c ≠ 0) (Q : Option Value → amS → Prop) (hq : ∀ a, c ≤ a → a < 4 → G a c ≠ 0 → X shM mX11_clearColumn 23 [.ref 0, .int (nI c), .int (nI a), .null, .null, .null, .null, .null, .null, .null, .null] [] S Q) : ∀ (k a : Nat), a + k = e0 → c ≤ a → X shM mX11_clearColumn 2 [.ref 0, .int (nI c), .int (nI a), .null, .null, .null, .null, .null, .null, .null, .null] [] S Q := by
  intro k
  induction k with
  | zero =>
    intro a h1 h2
    obtain rfl : a = e0 := by omega
    obtain ⟨q1, q2⟩ := hm a c he0.2 (by omega)
    refine x_aload_n dX11_clearColumn_2 rfl ?_
    refine x_getR dX11_clearColumn_3 fl_X11_48 rfl ?_
    refine x_ic _ ic_5 dX11_clearColumn_6 ?_
    refine x_iload_n dX11_clearColumn_7 rfl ?_
    refine x_imulN dX11_clearColumn_8 ?_
    refine x_iload_n dX11_clearColumn_9 rfl ?_
    refine x_iaddN dX11_clearColumn_10 ?_
    refine x_laldN dX11_clearColumn_11 rfl rfl (by omega) (q1) ?_
    refine x_lc _ lc_0 dX11_clearColumn_12 ?_
    refine x_lcmp_ne 23 dX11_clearColumn_13 dX11_clearColumn_14 rfl (by omega) (by omega) (fun c14 => ?_) (fun c14 => ?_)
    · exact hq a h2 he0.2 hg
    · exact absurd c14 hg
  | succ k ih =>
    intro a h1 h2
    obtain ⟨q1, q2⟩ := hm a c (by omega) (by omega)
    refine x_aload_n dX11_clearColumn_2 rfl ?_
    refine x_getR dX11_clearColumn_3 fl_X11_48 rfl ?_
    refine x_ic _ ic_5 dX11_clearColumn_6 ?_
    refine x_iload_n dX11_clearColumn_7 rfl ?_
    refine x_imulN dX11_clearColumn_8 ?_
    refine x_iload_n dX11_clearColumn_9 rfl ?_
    refine x_iaddN dX11_clearColumn_10 ?_
    refine x_laldN dX11_clearColumn_11 rfl rfl (by omega) (q1) ?_
    refine x_lc _ lc_0 dX11_clearColumn_12 ?_
    refine x_lcmp_ne 23 dX11_clearColumn_13 dX11_clearColumn_14 rfl (by omega) (by omega) (fun c14 => ?_) (fun c14 => ?_)
    · exact hq a h2 (by omega) c14
    · refine x_iincN dX11_clearColumn_17 rfl rfl ?_
      refine x_goto 2 dX11_clearColumn_20 rfl ?_
      exact ih (a + 1) (by omega) (by omega)
set_option maxRecDepth 100000 in
set_option maxHeartbeats 4000000 in
theorem k_cc_1 (S : amS) (c a : Nat) (hc : c < 4) (ha : a < 4) (w : Nat → Nat → Int) (B : Int) (Q : Option Value → amS → Prop) (hq : ∀ f z4, Mx 5 f 4 (fun i => if i = a then w c else if i = c then w a else w i) B → X shM mX11_clearColumn 80 [.ref 0, .int (nI c), .int (nI a), .int (nI 5), z4, .null, .null, .null, .null, .null, .null] [] (sL S 12 f) Q) : ∀ (k j : Nat) (f : Nat → Int64) (u : Nat → Nat → Int) (z4 : Value), j + k = 5 → Mx 5 f 4 u B → (∀ i e, i < 4 → e < 5 → u i e = if e < j then (if i = a then w c e else if i = c then w a e else w i e) else w i e) → X shM mX11_clearColumn 25 [.ref 0, .int (nI c), .int (nI a), .int (nI j), z4, .null, .null, .null, .null, .null, .null] [] (sL S 12 f) Q := by
  intro k
  induction k with
  | zero =>
    intro j f u z4 h1 h2 h3
    obtain rfl : j = 5 := by omega
    refine x_iload_n dX11_clearColumn_25 rfl ?_
    refine x_ic _ ic_5 dX11_clearColumn_26 ?_
    refine x_icmp_geN 80 dX11_clearColumn_27 rfl (by omega) (by omega) (fun c27 => ?_) (fun c27 => ?_)
    · exact hq f z4 (h2.ext (fun i e hi he => by have e0 := h3 i e hi he; grind))
    · exact absurd c27 (by omega)
  | succ k ih =>
    intro j f u z4 h1 h2 h3
    have hj : j < 5 := by omega
    obtain ⟨qa, qa2⟩ := h2 a j ha hj
    obtain ⟨qc, qc2⟩ := h2 c j hc hj
    refine x_iload_n dX11_clearColumn_25 rfl ?_
    refine x_ic _ ic_5 dX11_clearColumn_26 ?_
    refine x_icmp_geN 80 dX11_clearColumn_27 rfl (by omega) (by omega) (fun c27 => ?_) (fun c27 => ?_)
    · exact absurd c27 (by omega)
    · refine x_aload_n dX11_clearColumn_30 rfl ?_
      refine x_getR dX11_clearColumn_31 fl_X11_48 rfl ?_
      refine x_ic _ ic_5 dX11_clearColumn_34 ?_
      refine x_iload_n dX11_clearColumn_35 rfl ?_
      refine x_imulN dX11_clearColumn_36 ?_
      refine x_iload_n dX11_clearColumn_37 rfl ?_
      refine x_iaddN dX11_clearColumn_38 ?_
      refine x_laldN dX11_clearColumn_39 rfl rfl (by omega) (qa) ?_
      refine x_lstore dX11_clearColumn_40 rfl ?_
      refine x_aload_n dX11_clearColumn_42 rfl ?_
      refine x_getR dX11_clearColumn_43 fl_X11_48 rfl ?_
      refine x_ic _ ic_5 dX11_clearColumn_46 ?_
      refine x_iload_n dX11_clearColumn_47 rfl ?_
      refine x_imulN dX11_clearColumn_48 ?_
      refine x_iload_n dX11_clearColumn_49 rfl ?_
      refine x_iaddN dX11_clearColumn_50 ?_
      refine x_aload_n dX11_clearColumn_51 rfl ?_
      refine x_getR dX11_clearColumn_52 fl_X11_48 rfl ?_
      refine x_ic _ ic_5 dX11_clearColumn_55 ?_
      refine x_iload_n dX11_clearColumn_56 rfl ?_
      refine x_imulN dX11_clearColumn_57 ?_
      refine x_iload_n dX11_clearColumn_58 rfl ?_
      refine x_iaddN dX11_clearColumn_59 ?_
      refine x_laldN dX11_clearColumn_60 rfl rfl (by omega) (qc) ?_
      refine x_lastN dX11_clearColumn_61 rfl rfl (by omega) ?_
      refine x_aload_n dX11_clearColumn_62 rfl ?_
      refine x_getR dX11_clearColumn_63 fl_X11_48 rfl ?_
      refine x_ic _ ic_5 dX11_clearColumn_66 ?_
      refine x_iload_n dX11_clearColumn_67 rfl ?_
      refine x_imulN dX11_clearColumn_68 ?_
      refine x_iload_n dX11_clearColumn_69 rfl ?_
      refine x_iaddN dX11_clearColumn_70 ?_
      refine x_lload dX11_clearColumn_71 rfl ?_
      refine x_lastN dX11_clearColumn_73 rfl rfl (by omega) ?_
      refine x_iincN dX11_clearColumn_74 rfl rfl ?_
      refine x_goto 25 dX11_clearColumn_77 rfl ?_
      rw [sL_sL, sL_sL, sL_at, sL_at]
      refine ih (j + 1) _ (set2 (set2 u a j (u c j)) c j (u a j)) _ (by omega) ((h2.set hj qc2).set hj qa2) (fun i e hi he => ?_)
      have e0 := h3 i e hi he
      have ea := h3 a j ha hj
      have ec := h3 c j hc hj
      simp only [set2]
      grind
set_option maxRecDepth 100000 in
set_option maxHeartbeats 4000000 in
theorem k_cc_2 (S : amS) (c a row : Nat) (hc : c < 4) (hr : row < 4) (hrc : row ≠ c) (w : Nat → Nat → Int) (B C : Int) (hB : 0 ≤ B) (hBC : B ≤ C) (hC : C ≤ 4611686018427387904) (hC2 : C = 2 * (B * B)) (hw : ∀ e, e < 5 → (-B ≤ w row e ∧ w row e ≤ B) ∧ (-B ≤ w c e ∧ w c e ≤ B)) (Q : Option Value → amS → Prop) (hq : ∀ f u, Mx 5 f 4 u C → (∀ i e, i < 4 → e < 5 → u i e = if i = row then w row e * w c c - w c e * w row c else w i e) → X shM mX11_clearColumn 192 [.ref 0, .int (nI c), .int (nI a), .int (nI row), .long (i64 (w row c)), .null, .long (i64 (w c c)), .null, .long (i64 (gcdR (fun e => w row e * w c c - w c e * w row c) 5)), .null, .int (nI 5)] [] (sL S 12 f) Q) : ∀ (k j : Nat) (f : Nat → Int64) (u : Nat → Nat → Int), j + k = 5 → Mx 5 f 4 u C → (∀ i e, i < 4 → e < 5 → u i e = if i = row ∧ e < j then w row e * w c c - w c e * w row c else w i e) → X shM mX11_clearColumn 117 [.ref 0, .int (nI c), .int (nI a), .int (nI row), .long (i64 (w row c)), .null, .long (i64 (w c c)), .null, .long (i64 (gcdR (fun e => w row e * w c c - w c e * w row c) j)), .null, .int (nI j)] [] (sL S 12 f) Q := by
  have hnr : ∀ e, e < 5 → -C ≤ w row e * w c c - w c e * w row c ∧ w row e * w c c - w c e * w row c ≤ C := fun e he => by
    have b1 := mul_bd (hw e he).1 (hw c (by omega)).2
    have b2 := mul_bd (hw e he).2 (hw c (by omega)).1
    omega
  intro k
  induction k with
  | zero =>
    intro j f u h1 h2 h3
    obtain rfl : j = 5 := by omega
    refine x_iload dX11_clearColumn_117 rfl ?_
    refine x_ic _ ic_5 dX11_clearColumn_119 ?_
    refine x_icmp_geN 192 dX11_clearColumn_120 rfl (by omega) (by omega) (fun c120 => ?_) (fun c120 => ?_)
    · exact hq f u h2 (fun i e hi he => by have e0 := h3 i e hi he; grind)
    · exact absurd c120 (by omega)
  | succ k ih =>
    intro j f u h1 h2 h3
    have hj : j < 5 := by omega
    obtain ⟨q1, q2⟩ := h2 row j hr hj
    obtain ⟨q3, q4⟩ := h2 c j hc hj
    have e1 := h3 row j hr hj
    have e2 := h3 c j hc hj
    rw [if_neg (fun z => Nat.lt_irrefl _ z.2)] at e1
    rw [if_neg (fun z => hrc z.1.symm)] at e2
    rw [e1] at q1
    rw [e2] at q3
    have hb := hnr j hj
    have hg := gcdR_le (fun e => w row e * w c c - w c e * w row c) (show 0 ≤ C by omega) j (fun e he => hnr e (by omega))
    refine x_iload dX11_clearColumn_117 rfl ?_
    refine x_ic _ ic_5 dX11_clearColumn_119 ?_
    refine x_icmp_geN 192 dX11_clearColumn_120 rfl (by omega) (by omega) (fun c120 => ?_) (fun c120 => ?_)
    · exact absurd c120 (by omega)
    · refine x_iload_n dX11_clearColumn_123 rfl ?_
      refine x_iload_n dX11_clearColumn_124 rfl ?_
      refine x_icmp_eqN 192 dX11_clearColumn_125 rfl (by omega) (by omega) (fun c125 => ?_) (fun c125 => ?_)
      · exact absurd c125 hrc
      · refine x_aload_n dX11_clearColumn_128 rfl ?_
        refine x_getR dX11_clearColumn_129 fl_X11_48 rfl ?_
        refine x_ic _ ic_5 dX11_clearColumn_132 ?_
        refine x_iload_n dX11_clearColumn_133 rfl ?_
        refine x_imulN dX11_clearColumn_134 ?_
        refine x_iload dX11_clearColumn_135 rfl ?_
        refine x_iaddN dX11_clearColumn_137 ?_
        refine x_aload_n dX11_clearColumn_138 rfl ?_
        refine x_getR dX11_clearColumn_139 fl_X11_48 rfl ?_
        refine x_ic _ ic_5 dX11_clearColumn_142 ?_
        refine x_iload_n dX11_clearColumn_143 rfl ?_
        refine x_imulN dX11_clearColumn_144 ?_
        refine x_iload dX11_clearColumn_145 rfl ?_
        refine x_iaddN dX11_clearColumn_147 ?_
        refine x_laldN dX11_clearColumn_148 rfl rfl (by omega) (q1) ?_
        refine x_lload dX11_clearColumn_149 rfl ?_
        refine x_lmulI dX11_clearColumn_151 ?_
        refine x_aload_n dX11_clearColumn_152 rfl ?_
        refine x_getR dX11_clearColumn_153 fl_X11_48 rfl ?_
        refine x_ic _ ic_5 dX11_clearColumn_156 ?_
        refine x_iload_n dX11_clearColumn_157 rfl ?_
        refine x_imulN dX11_clearColumn_158 ?_
        refine x_iload dX11_clearColumn_159 rfl ?_
        refine x_iaddN dX11_clearColumn_161 ?_
        refine x_laldN dX11_clearColumn_162 rfl rfl (by omega) (q3) ?_
        refine x_lload dX11_clearColumn_163 rfl ?_
        refine x_lmulI dX11_clearColumn_165 ?_
        refine x_lsubI dX11_clearColumn_166 ?_
        refine x_lastN dX11_clearColumn_167 rfl rfl (by omega) ?_
        rw [sL_sL, sL_at]
        refine x_lload dX11_clearColumn_168 rfl ?_
        refine x_aload_n dX11_clearColumn_170 rfl ?_
        refine x_getR dX11_clearColumn_171 fl_X11_48 rfl ?_
        refine x_ic _ ic_5 dX11_clearColumn_174 ?_
        refine x_iload_n dX11_clearColumn_175 rfl ?_
        refine x_imulN dX11_clearColumn_176 ?_
        refine x_iload dX11_clearColumn_177 rfl ?_
        refine x_iaddN dX11_clearColumn_179 ?_
        refine x_laldN dX11_clearColumn_180 rfl rfl (by omega) ((show (sL S 12 (vp_updL f (5 * row + j) (i64 (w row j * w c c - w c j * w row c)))).2.2.2 12 (5 * row + j) = i64 (w row j * w c c - w c j * w row c) by rw [sL_at]; simp [vp_updL])) ?_
        refine x_s2d (N := mX11_common) dX11_clearColumn_181 ml_X11_93 ns_X11_common rfl (k_common _ (gcdR (fun e => w row e * w c c - w c e * w row c) j) (w row j * w c c - w c j * w row c) ⟨by omega, by omega⟩ ⟨by omega, by omega⟩) ?_
        refine x_lstore dX11_clearColumn_184 rfl ?_
        refine x_iincN dX11_clearColumn_186 rfl rfl ?_
        refine x_goto 117 dX11_clearColumn_189 rfl ?_
        refine ih (j + 1) _ (set2 u row j (w row j * w c c - w c j * w row c)) (by omega) (h2.set hj ⟨by omega, by omega⟩) (fun i e hi he => ?_)
        have e0 := h3 i e hi he
        simp only [set2]
        grind
set_option maxRecDepth 100000 in
set_option maxHeartbeats 4000000 in
theorem k_cc_3 (S : amS) (c a row : Nat) (hr : row < 4) (w : Nat → Nat → Int) (C : Int) (hC : 0 ≤ C ∧ C ≤ 4611686018427387904) (g : Nat) (hg : 1 < g) (hgC : (g : Int) ≤ C) (hw : ∀ e, e < 5 → -C ≤ w row e ∧ w row e ≤ C) (z4 z6 : Value) (Q : Option Value → amS → Prop) (hq : ∀ f u, Mx 5 f 4 u C → (∀ i e, i < 4 → e < 5 → u i e = if i = row then (w row e).tdiv g else w i e) → X shM mX11_clearColumn 230 [.ref 0, .int (nI c), .int (nI a), .int (nI row), z4, .null, z6, .null, .long (i64 g), .null, .int (nI 5)] [] (sL S 12 f) Q) : ∀ (k j : Nat) (f : Nat → Int64) (u : Nat → Nat → Int), j + k = 5 → Mx 5 f 4 u C → (∀ i e, i < 4 → e < 5 → u i e = if i = row ∧ e < j then (w row e).tdiv g else w i e) → X shM mX11_clearColumn 195 [.ref 0, .int (nI c), .int (nI a), .int (nI row), z4, .null, z6, .null, .long (i64 g), .null, .int (nI j)] [] (sL S 12 f) Q := by
  intro k
  induction k with
  | zero =>
    intro j f u h1 h2 h3
    obtain rfl : j = 5 := by omega
    refine x_iload dX11_clearColumn_195 rfl ?_
    refine x_ic _ ic_5 dX11_clearColumn_197 ?_
    refine x_icmp_geN 230 dX11_clearColumn_198 rfl (by omega) (by omega) (fun c198 => ?_) (fun c198 => ?_)
    · exact hq f u h2 (fun i e hi he => by have e0 := h3 i e hi he; grind)
    · exact absurd c198 (by omega)
  | succ k ih =>
    intro j f u h1 h2 h3
    have hj : j < 5 := by omega
    obtain ⟨q1, q2⟩ := h2 row j hr hj
    have e1 := h3 row j hr hj
    rw [if_neg (fun z => Nat.lt_irrefl _ z.2)] at e1
    have hb := hw j hj
    have hbd := tdiv_bd (w row j) g
    refine x_iload dX11_clearColumn_195 rfl ?_
    refine x_ic _ ic_5 dX11_clearColumn_197 ?_
    refine x_icmp_geN 230 dX11_clearColumn_198 rfl (by omega) (by omega) (fun c198 => ?_) (fun c198 => ?_)
    · exact absurd c198 (by omega)
    · refine x_lload dX11_clearColumn_201 rfl ?_
      refine x_lc _ lc_1 dX11_clearColumn_203 ?_
      refine x_lcmp_le 230 dX11_clearColumn_204 dX11_clearColumn_205 rfl (by omega) (by omega) (fun c205 => ?_) (fun c205 => ?_)
      · exact absurd c205 (by omega)
      · refine x_aload_n dX11_clearColumn_208 rfl ?_
        refine x_getR dX11_clearColumn_209 fl_X11_48 rfl ?_
        refine x_ic _ ic_5 dX11_clearColumn_212 ?_
        refine x_iload_n dX11_clearColumn_213 rfl ?_
        refine x_imulN dX11_clearColumn_214 ?_
        refine x_iload dX11_clearColumn_215 rfl ?_
        refine x_iaddN dX11_clearColumn_217 ?_
        refine x_dup2 dX11_clearColumn_218 rfl rfl ?_
        refine x_laldN dX11_clearColumn_219 rfl rfl (by omega) ((q1.trans (congrArg i64 e1))) ?_
        refine x_lload dX11_clearColumn_220 rfl ?_
        refine x_ldivI dX11_clearColumn_222 (⟨by omega, by omega⟩) (⟨by omega, by omega⟩) (by omega) ?_
        refine x_lastN dX11_clearColumn_223 rfl rfl (by omega) ?_
        refine x_iincN dX11_clearColumn_224 rfl rfl ?_
        refine x_goto 195 dX11_clearColumn_227 rfl ?_
        rw [sL_sL, sL_at]
        refine ih (j + 1) _ (set2 u row j ((w row j).tdiv g)) (by omega) (h2.set hj ⟨by omega, by omega⟩) (fun i e hi he => ?_)
        have e0 := h3 i e hi he
        simp only [set2]
        grind
