/-! THE REFERENCE: rankBy, elimination -/
theorem bnd_ok : ∀ t, t < 4 → 0 ≤ bnd t ∧ bnd t ≤ 1000000 ∧ bnd t ≤ bnd (t + 1) ∧ bnd (t + 1) ≤ 4611686018427387904 ∧ bnd (t + 1) = 2 * (bnd t * bnd t) := by
  intro t h
  rcases (show t = 0 ∨ t = 1 ∨ t = 2 ∨ t = 3 by omega) with rfl | rfl | rfl | rfl <;> decide
set_option maxRecDepth 100000 in
set_option maxHeartbeats 4000000 in
theorem k_rb_5 (S : amS) (s n rank row j at0 : Nat) (hn : n ≤ 9) (hr : rank < row) (hr2 : row < n) (hj : j < 4) (w : Nat → Nat → Int) (B C : Int) (hB : 0 ≤ B) (hBC : B ≤ C) (hC : C ≤ 4611686018427387904) (hC2 : C = 2 * (B * B)) (hw : ∀ i c, i < n → c < 4 → row ≤ i ∨ i ≤ rank → -B ≤ w i c ∧ w i c ≤ B) (Q : Option Value → amS → Prop) (hq : ∀ f u, Mx 4 f n u C → (∀ i c, i < n → c < 4 → u i c = if i = row then w row c * w rank j - w rank c * w row j else w i c) → X shM mX11_rankBy 221 [.ref 0, .int (nI s), .int (nI n), .int (nI rank), .int (nI j), .int (nI at0), .int (nI row), .long (i64 (w row j)), .null, .long (i64 (w rank j)), .null, .int (nI 4)] [] (sL S 7 f) Q) : ∀ (k c : Nat) (f : Nat → Int64) (u : Nat → Nat → Int), c + k = 4 → Mx 4 f n u C → (∀ i e, i < n → e < 4 → u i e = if i = row ∧ e < c then w row e * w rank j - w rank e * w row j else w i e) → X shM mX11_rankBy 167 [.ref 0, .int (nI s), .int (nI n), .int (nI rank), .int (nI j), .int (nI at0), .int (nI row), .long (i64 (w row j)), .null, .long (i64 (w rank j)), .null, .int (nI c)] [] (sL S 7 f) Q := by
  intro k
  induction k with
  | zero =>
    intro c f u h1 h2 h3
    obtain rfl : c = 4 := by omega
    refine x_iload dX11_rankBy_167 rfl ?_
    refine x_ic _ ic_4 dX11_rankBy_169 ?_
    refine x_icmp_geN 221 dX11_rankBy_170 rfl (by omega) (by omega) (fun c170 => ?_) (fun c170 => ?_)
    · refine hq f u h2 (fun i e hi he => ?_)
      have e0 := h3 i e hi he
      grind
    · exact absurd c170 (by omega)
  | succ k ih =>
    intro c f u h1 h2 h3
    have hc : c < 4 := by omega
    obtain ⟨q1, q2⟩ := h2 row c hr2 hc
    obtain ⟨q3, q4⟩ := h2 rank c (by omega) hc
    have e1 := h3 row c hr2 hc
    have e2 := h3 rank c (by omega) hc
    rw [if_neg (fun z => Nat.lt_irrefl _ z.2)] at e1
    rw [if_neg (fun z => by omega)] at e2
    rw [e1] at q1
    rw [e2] at q3
    have b1 := mul_bd (hw row c hr2 hc (Or.inl (Nat.le_refl _))) (hw rank j (by omega) hj (Or.inr (Nat.le_refl _)))
    have b2 := mul_bd (hw rank c (by omega) hc (Or.inr (Nat.le_refl _))) (hw row j hr2 hj (Or.inl (Nat.le_refl _)))
    refine x_iload dX11_rankBy_167 rfl ?_
    refine x_ic _ ic_4 dX11_rankBy_169 ?_
    refine x_icmp_geN 221 dX11_rankBy_170 rfl (by omega) (by omega) (fun c170 => ?_) (fun c170 => ?_)
    · exact absurd c170 (by omega)
    · refine x_aload_n dX11_rankBy_173 rfl ?_
      refine x_getR dX11_rankBy_174 fl_X11_32 rfl ?_
      refine x_ic _ ic_4 dX11_rankBy_177 ?_
      refine x_iload dX11_rankBy_178 rfl ?_
      refine x_imulN dX11_rankBy_180 ?_
      refine x_iload dX11_rankBy_181 rfl ?_
      refine x_iaddN dX11_rankBy_183 ?_
      refine x_aload_n dX11_rankBy_184 rfl ?_
      refine x_getR dX11_rankBy_185 fl_X11_32 rfl ?_
      refine x_ic _ ic_4 dX11_rankBy_188 ?_
      refine x_iload dX11_rankBy_189 rfl ?_
      refine x_imulN dX11_rankBy_191 ?_
      refine x_iload dX11_rankBy_192 rfl ?_
      refine x_iaddN dX11_rankBy_194 ?_
      refine x_laldN dX11_rankBy_195 rfl rfl (by omega) (q1) ?_
      refine x_lload dX11_rankBy_196 rfl ?_
      refine x_lmulI dX11_rankBy_198 ?_
      refine x_aload_n dX11_rankBy_199 rfl ?_
      refine x_getR dX11_rankBy_200 fl_X11_32 rfl ?_
      refine x_ic _ ic_4 dX11_rankBy_203 ?_
      refine x_iload_n dX11_rankBy_204 rfl ?_
      refine x_imulN dX11_rankBy_205 ?_
      refine x_iload dX11_rankBy_206 rfl ?_
      refine x_iaddN dX11_rankBy_208 ?_
      refine x_laldN dX11_rankBy_209 rfl rfl (by omega) (q3) ?_
      refine x_lload dX11_rankBy_210 rfl ?_
      refine x_lmulI dX11_rankBy_212 ?_
      refine x_lsubI dX11_rankBy_213 ?_
      refine x_lastN dX11_rankBy_214 rfl rfl (by omega) ?_
      refine x_iincN dX11_rankBy_215 rfl rfl ?_
      refine x_goto 167 dX11_rankBy_218 rfl ?_
      rw [sL_sL, sL_at]
      refine ih (c + 1) _ (set2 u row c (w row c * w rank j - w rank c * w row j)) (by omega) (h2.set hc ⟨by omega, by omega⟩) (fun i e hi he => ?_)
      have e0 := h3 i e hi he
      simp only [set2]
      grind
set_option maxRecDepth 100000 in
set_option maxHeartbeats 4000000 in
theorem k_rb_4 (S : amS) (s n rank j at0 : Nat) (hn : n ≤ 9) (hr : rank < n) (hj : j < 4) (w : Nat → Nat → Int) (B C : Int) (hB : 0 ≤ B) (hBC : B ≤ C) (hC : C ≤ 4611686018427387904) (hC2 : C = 2 * (B * B)) (hw : ∀ i c, i < n → c < 4 → -B ≤ w i c ∧ w i c ≤ B) (Q : Option Value → amS → Prop) (hq : ∀ f u z7 z8 z9 z10 z11, Mx 4 f n u C → (∀ i c, i ≤ rank → c < 4 → u i c = w i c) → (∀ a, rank < a → a < n → ∃ g : Int, 1 ≤ g ∧ ∀ c, c < 4 → g * u a c = w a c * w rank j - w rank c * w a j) → X shM mX11_rankBy 233 [.ref 0, .int (nI s), .int (nI n), .int (nI rank), .int (nI j), .int (nI at0), .int (nI n), z7, z8, z9, z10, z11] [] (sL S 7 f) Q) : ∀ (k row : Nat) (f : Nat → Int64) (u : Nat → Nat → Int) (z7 z8 z9 z10 z11 : Value), row + k = n → rank < row → Mx 4 f n u C → (∀ i c, i < n → c < 4 → row ≤ i ∨ i ≤ rank → u i c = w i c) → (∀ a, rank < a → a < row → ∃ g : Int, 1 ≤ g ∧ ∀ c, c < 4 → g * u a c = w a c * w rank j - w rank c * w a j) → X shM mX11_rankBy 131 [.ref 0, .int (nI s), .int (nI n), .int (nI rank), .int (nI j), .int (nI at0), .int (nI row), z7, z8, z9, z10, z11] [] (sL S 7 f) Q := by
  intro k
  induction k with
  | zero =>
    intro row f u z7 z8 z9 z10 z11 h1 h2 h3 h4 h5
    obtain rfl : row = n := by omega
    refine x_iload dX11_rankBy_131 rfl ?_
    refine x_iload_n dX11_rankBy_133 rfl ?_
    refine x_icmp_geN 233 dX11_rankBy_134 rfl (by omega) (by omega) (fun c134 => ?_) (fun c134 => ?_)
    · exact hq f u z7 z8 z9 z10 z11 h3 (fun i c hi hc => h4 i c (by omega) hc (Or.inr hi)) h5
    · exact absurd c134 (by omega)
  | succ k ih =>
    intro row f u z7 z8 z9 z10 z11 h1 h2 h3 h4 h5
    have hrow : row < n := by omega
    obtain ⟨q1, q2⟩ := h3 row j hrow hj
    obtain ⟨q3, q4⟩ := h3 rank j (by omega) hj
    rw [h4 row j hrow hj (Or.inl (Nat.le_refl _))] at q1
    rw [h4 rank j (by omega) hj (Or.inr (Nat.le_refl _))] at q3
    refine x_iload dX11_rankBy_131 rfl ?_
    refine x_iload_n dX11_rankBy_133 rfl ?_
    refine x_icmp_geN 233 dX11_rankBy_134 rfl (by omega) (by omega) (fun c134 => ?_) (fun c134 => ?_)
    · exact absurd c134 (by omega)
    · refine x_aload_n dX11_rankBy_137 rfl ?_
      refine x_getR dX11_rankBy_138 fl_X11_32 rfl ?_
      refine x_ic _ ic_4 dX11_rankBy_141 ?_
      refine x_iload dX11_rankBy_142 rfl ?_
      refine x_imulN dX11_rankBy_144 ?_
      refine x_iload dX11_rankBy_145 rfl ?_
      refine x_iaddN dX11_rankBy_147 ?_
      refine x_laldN dX11_rankBy_148 rfl rfl (by omega) (q1) ?_
      refine x_lstore dX11_rankBy_149 rfl ?_
      refine x_aload_n dX11_rankBy_151 rfl ?_
      refine x_getR dX11_rankBy_152 fl_X11_32 rfl ?_
      refine x_ic _ ic_4 dX11_rankBy_155 ?_
      refine x_iload_n dX11_rankBy_156 rfl ?_
      refine x_imulN dX11_rankBy_157 ?_
      refine x_iload dX11_rankBy_158 rfl ?_
      refine x_iaddN dX11_rankBy_160 ?_
      refine x_laldN dX11_rankBy_161 rfl rfl (by omega) (q3) ?_
      refine x_lstore dX11_rankBy_162 rfl ?_
      refine x_ic _ ic_0 dX11_rankBy_164 ?_
      refine x_istore dX11_rankBy_165 rfl ?_
      have p1 := h4 row j hrow hj (Or.inl (Nat.le_refl _))
      have p2 := h4 rank j (by omega) hj (Or.inr (Nat.le_refl _))
      have main := k_rb_5 S s n rank row j at0 hn h2 hrow hj u B C hB hBC hC hC2 (fun i c hi hc z => by rw [h4 i c hi hc z]; exact hw i c hi hc) Q ?_ 4 0 f u (by omega) h3 (fun i e _ _ => by rw [if_neg (fun z => Nat.not_lt_zero e z.2)])
      · rw [p1, p2] at main; exact main
      · intro f1 u1 g1 g2
        refine x_aload_n dX11_rankBy_221 rfl ?_
        refine x_iload dX11_rankBy_222 rfl ?_
        refine x_v1 (N := mX11_shrink) dX11_rankBy_224 ml_X11_105 nv_X11_shrink rfl rfl (k_shrink (sL S 7 f1) n row u1 C ⟨by omega, hC⟩ hn hrow g1) ?_
        rintro _ _ ⟨rfl, f2, w', g, rfl, e1, e2, e3⟩
        rw [sL_sL]
        refine x_iincN dX11_rankBy_227 rfl rfl ?_
        refine x_goto 131 dX11_rankBy_230 rfl ?_
        refine ih (row + 1) f2 (va_up u1 row w') _ _ _ _ _ (by omega) (by omega) e3 (fun i c hi hc z => ?_) (fun a ha1 ha2 => ?_)
        · rw [va_up_n _ _ (show i ≠ row by omega), g2 i c hi hc, if_neg (show i ≠ row by omega)]
          exact h4 i c hi hc (by omega)
        · by_cases e : a = row
          · subst e
            refine ⟨g, e1, fun c hc => ?_⟩
            rw [va_up_s, ← e2 c hc, g2 a c hrow hc, if_pos rfl, p1, p2, h4 a c hrow hc (Or.inl (Nat.le_refl _)), h4 rank c (by omega) hc (Or.inr (Nat.le_refl _))]
          · obtain ⟨g0, i1, i2⟩ := h5 a ha1 (by omega)
            refine ⟨g0, i1, fun c hc => ?_⟩
            rw [va_up_n _ _ e, g2 a c (by omega) hc, if_neg e]
            exact i2 c hc
set_option maxRecDepth 100000 in
set_option maxHeartbeats 4000000 in
theorem k_rb_3 (S : amS) (s n rank j : Nat) (hn : n ≤ 9) (hj : j < 4) (f : Nat → Int64) (u : Nat → Nat → Int) (C : Int) (hC : C ≤ 4611686018427387904) (hm : Mx 4 f n u C) (z6 z7 z8 z9 z10 z11 : Value) (Q : Option Value → amS → Prop) (hq : ∀ at0, rank ≤ at0 → at0 ≤ n → (∀ a, rank ≤ a → a < at0 → u a j = 0) → (at0 < n → u at0 j ≠ 0) → X shM mX11_rankBy 113 [.ref 0, .int (nI s), .int (nI n), .int (nI rank), .int (nI j), .int (nI at0), z6, z7, z8, z9, z10, z11] [] (sL S 7 f) Q) : ∀ (k at0 : Nat), at0 + k = n → rank ≤ at0 → (∀ a, rank ≤ a → a < at0 → u a j = 0) → X shM mX11_rankBy 84 [.ref 0, .int (nI s), .int (nI n), .int (nI rank), .int (nI j), .int (nI at0), z6, z7, z8, z9, z10, z11] [] (sL S 7 f) Q := by
  intro k
  induction k with
  | zero =>
    intro at0 h1 h2 h3
    obtain rfl : at0 = n := by omega
    refine x_iload dX11_rankBy_84 rfl ?_
    refine x_iload_n dX11_rankBy_86 rfl ?_
    refine x_icmp_geN 113 dX11_rankBy_87 rfl (by omega) (by omega) (fun c87 => ?_) (fun c87 => ?_)
    · exact hq at0 h2 (Nat.le_refl _) h3 (fun z => absurd z (Nat.lt_irrefl _))
    · exact absurd c87 (by omega)
  | succ k ih =>
    intro at0 h1 h2 h3
    have ha : at0 < n := by omega
    obtain ⟨q1, q2⟩ := hm at0 j ha hj
    refine x_iload dX11_rankBy_84 rfl ?_
    refine x_iload_n dX11_rankBy_86 rfl ?_
    refine x_icmp_geN 113 dX11_rankBy_87 rfl (by omega) (by omega) (fun c87 => ?_) (fun c87 => ?_)
    · exact absurd c87 (by omega)
    · refine x_aload_n dX11_rankBy_90 rfl ?_
      refine x_getR dX11_rankBy_91 fl_X11_32 rfl ?_
      refine x_ic _ ic_4 dX11_rankBy_94 ?_
      refine x_iload dX11_rankBy_95 rfl ?_
      refine x_imulN dX11_rankBy_97 ?_
      refine x_iload dX11_rankBy_98 rfl ?_
      refine x_iaddN dX11_rankBy_100 ?_
      refine x_laldN dX11_rankBy_101 rfl rfl (by omega) (q1) ?_
      refine x_lc _ lc_0 dX11_rankBy_102 ?_
      refine x_lcmp_ne 113 dX11_rankBy_103 dX11_rankBy_104 rfl (by omega) (by omega) (fun c104 => ?_) (fun c104 => ?_)
      · exact hq at0 h2 (by omega) h3 (fun _ => c104)
      · refine x_iincN dX11_rankBy_107 rfl rfl ?_
        refine x_goto 84 dX11_rankBy_110 rfl ?_
        refine ih (at0 + 1) (by omega) (by omega) (fun a ha1 ha2 => ?_)
        by_cases e : a = at0
        · subst e; exact c104
        · exact h3 a ha1 (by omega)
set_option maxRecDepth 100000 in
set_option maxHeartbeats 4000000 in
theorem k_rb_c (S : amS) (s n Rk : Nat) (hn : n ≤ 9) : ∀ (k j rank : Nat) (f : Nat → Int64) (u : Nat → Nat → Int) (z5 z6 z7 z8 z9 z10 z11 : Value), j + k = 4 → rank ≤ j → rank ≤ n → Mx 4 f n u (bnd rank) → rank + rkC 0 (cf k) (act u rank n) = Rk → X shM mX11_rankBy 75 [.ref 0, .int (nI s), .int (nI n), .int (nI rank), .int (nI j), z5, z6, z7, z8, z9, z10, z11] [] (sL S 7 f) (fun r S' => r = some (.int (nI Rk)) ∧ ∃ f', S' = sL S 7 f') := by
  intro k
  induction k with
  | zero =>
    intro j rank f u z5 z6 z7 z8 z9 z10 z11 h1 h2 h3 h4 h5
    obtain rfl : j = 4 := by omega
    simp only [cf, rkC, Nat.add_zero] at h5
    refine x_iload dX11_rankBy_75 rfl ?_
    refine x_ic _ ic_4 dX11_rankBy_77 ?_
    refine x_icmp_geN 242 dX11_rankBy_78 rfl (by omega) (by omega) (fun c78 => ?_) (fun c78 => ?_)
    · refine x_iload_n dX11_rankBy_242 rfl ?_
      refine x_iretI dX11_rankBy_243 rfl ?_
      exact ⟨by rw [h5], f, rfl⟩
    · exact absurd c78 (by omega)
  | succ k ih =>
    intro j rank f u z5 z6 z7 z8 z9 z10 z11 h1 h2 h3 h4 h5
    have hj : j < 4 := by omega
    have ej : 3 - k = j := by omega
    obtain ⟨b0, b1, b2, b3, b4⟩ := bnd_ok rank (by omega)
    rw [cf, ej] at h5
    have hcf := cf_mem k (by omega)
    refine x_iload dX11_rankBy_75 rfl ?_
    refine x_ic _ ic_4 dX11_rankBy_77 ?_
    refine x_icmp_geN 242 dX11_rankBy_78 rfl (by omega) (by omega) (fun c78 => ?_) (fun c78 => ?_)
    · exact absurd c78 (by omega)
    · refine x_iload_n dX11_rankBy_81 rfl ?_
      refine x_istore dX11_rankBy_82 rfl ?_
      refine k_rb_3 S s n rank j hn hj f u (bnd rank) (by omega) h4 _ _ _ _ _ _ _ ?_ (n - rank) rank (by omega) (Nat.le_refl _) (fun a h6 h7 => absurd h6 (by omega))
      intro at0 g1 g2 g3 g4
      refine x_iload dX11_rankBy_113 rfl ?_
      refine x_iload_n dX11_rankBy_115 rfl ?_
      refine x_icmp_geN 236 dX11_rankBy_116 rfl (by omega) (by omega) (fun c116 => ?_) (fun c116 => ?_)
      · obtain rfl : at0 = n := by omega
        rw [act_none (q := 0) (fun a h6 h7 => by rw [g3 a h6 h7]; exact Int.dvd_refl 0)] at h5
        refine x_iincN dX11_rankBy_236 rfl rfl ?_
        refine x_goto 75 dX11_rankBy_239 rfl ?_
        exact ih (j + 1) rank f u _ _ _ _ _ _ _ (by omega) (by omega) h3 h4 h5
      · refine x_aload_n dX11_rankBy_119 rfl ?_
        refine x_iload dX11_rankBy_120 rfl ?_
        refine x_iload_n dX11_rankBy_122 rfl ?_
        refine x_v2 (N := mX11_swapRows) dX11_rankBy_123 ml_X11_101 nv_X11_swapRows rfl rfl (k_swapRows (sL S 7 f) n at0 rank u (bnd rank) hn (by omega) (by omega) h4) ?_
        rintro _ _ ⟨rfl, f1, rfl, m1⟩
        rw [sL_sL]
        refine x_iload_n dX11_rankBy_126 rfl ?_
        refine x_ic _ ic_1 dX11_rankBy_127 ?_
        refine x_iaddN dX11_rankBy_128 ?_
        refine x_istore dX11_rankBy_129 rfl ?_
        refine k_rb_4 S s n rank j at0 hn (by omega) hj (fun i => if i = at0 then u rank else if i = rank then u at0 else u i) (bnd rank) (bnd (rank + 1)) b0 b2 b3 b4 (fun i c hi hc => (m1 i c hi hc).2) _ ?_ (n - (rank + 1)) (rank + 1) f1 _ _ _ _ _ _ (by omega) (by omega) (m1.mono b2) (fun i c _ _ _ => rfl) (fun a h6 h7 => absurd h6 (by omega))
        intro f2 u2 y7 y8 y9 y10 y11 t1 t2 t3
        refine x_iincN dX11_rankBy_233 rfl rfl ?_
        refine x_iincN dX11_rankBy_236 rfl rfl ?_
        refine x_goto 75 dX11_rankBy_239 rfl ?_
        refine ih (j + 1) (rank + 1) f2 u2 _ _ _ _ _ _ _ (by omega) (by omega) (by omega) t1 ?_
        rw [act_step dom0 (u := u2) (lo := rank) (p := at0) ⟨g1, c116⟩ (by rw [Int.zero_dvd]; exact g4 c116) (fun a h6 h7 => ?_)] at h5
        · omega
        · obtain ⟨g, i1, i2⟩ := t3 a h6 h7
          refine ⟨g, by rw [Int.zero_dvd]; omega, fun c hc => ?_⟩
          have i3 := i2 c (hcf c hc)
          simp only [if_true, show ∀ p q r : Row, (if rank = at0 then p else q) = (if rank = at0 then p else q) from fun _ _ _ => rfl] at i3
          rw [Int.zero_dvd, i3]
          simp only [el]
          have e1 : ∀ c, (if rank = at0 then u rank else if rank = rank then u at0 else u rank) c = u at0 c := by
            intro c
            by_cases e : rank = at0
            · rw [if_pos e, e]
            · rw [if_neg e, if_pos rfl]
          have e2 : (if a = at0 then u rank else if a = rank then u at0 else u a) = (if a = at0 then u rank else u a) := by
            rw [if_neg (show a ≠ rank by omega)]
          grind
