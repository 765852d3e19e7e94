/-! THE REFERENCE: findFactors, the factors themselves -/
theorem natAbs_le_dvd {a b : Int} (h : a ∣ b) (hb : b ≠ 0) : a.natAbs ≤ b.natAbs := Nat.le_of_dvd (by omega) (Int.natAbs_dvd_natAbs.mpr h)
set_option maxRecDepth 100000 in
set_option maxHeartbeats 4000000 in
theorem k_ff_d (T : amS) (s last : Nat) (hl : last ≤ 4) (G : Nat → Nat → Int) (hm : Mx 5 (T.2.2.2 12) 4 G (bnd last)) (yl : Int) (hyl : yl ≠ 0) (hyb : -192805230237696 ≤ yl ∧ yl ≤ 192805230237696) (hd : ∀ c, c < last → G c c ≠ 0 ∧ G c c ∣ yl) (Q : Option Value → amS → Prop) (hq : ∀ wh z6, wh ≠ 0 → wh ∣ yl → (∀ e, e < last → G e e ∣ wh) → X shM mX11_findFactors 186 [.ref 0, .int (nI s), .int (nI last), .long (i64 wh), .null, .int (nI last), z6, .null] [] T Q) : ∀ (k c : Nat) (wh : Int) (z6 : Value), c + k = last → wh ≠ 0 → wh ∣ yl → (∀ e, e < c → G e e ∣ wh) → X shM mX11_findFactors 148 [.ref 0, .int (nI s), .int (nI last), .long (i64 wh), .null, .int (nI c), z6, .null] [] T Q := by
  intro k
  induction k with
  | zero =>
    intro c wh z6 h1 h2 h3 h4
    obtain rfl : c = last := by omega
    refine x_iload dX11_findFactors_148 rfl ?_
    refine x_iload_n dX11_findFactors_150 rfl ?_
    refine x_icmp_geN 186 dX11_findFactors_151 rfl (by omega) (by omega) (fun c151 => ?_) (fun c151 => ?_)
    · exact hq wh z6 h2 h3 h4
    · exact absurd c151 (by omega)
  | succ k ih =>
    intro c wh z6 h1 h2 h3 h4
    obtain ⟨q1, q2⟩ := hm c c (by omega) (by omega)
    obtain ⟨d1, d2⟩ := hd c (by omega)
    obtain ⟨m1, m2, m3, m4⟩ := lcm_step h2 d1 h3 d2
    have hle := natAbs_le_dvd h3 hyl
    have hle2 := natAbs_le_dvd d2 hyl
    have hg1 : Int.gcd wh (G c c) ≠ 0 := fun e => h2 (Int.gcd_eq_zero_iff.mp e).1
    have hg2 := gcd_le (a := wh) (b := G c c) (B := 192805230237696) (by omega) ⟨by omega, by omega⟩ ⟨by omega, by omega⟩
    refine x_iload dX11_findFactors_148 rfl ?_
    refine x_iload_n dX11_findFactors_150 rfl ?_
    refine x_icmp_geN 186 dX11_findFactors_151 rfl (by omega) (by omega) (fun c151 => ?_) (fun c151 => ?_)
    · exact absurd c151 (by omega)
    · refine x_aload_n dX11_findFactors_154 rfl ?_
      refine x_getR dX11_findFactors_155 fl_X11_48 rfl ?_
      refine x_ic _ ic_5 dX11_findFactors_158 ?_
      refine x_iload dX11_findFactors_159 rfl ?_
      refine x_imulN dX11_findFactors_161 ?_
      refine x_iload dX11_findFactors_162 rfl ?_
      refine x_iaddN dX11_findFactors_164 ?_
      refine x_laldN dX11_findFactors_165 rfl rfl (by omega) (q1) ?_
      refine x_lstore dX11_findFactors_166 rfl ?_
      refine x_lload_n dX11_findFactors_168 rfl ?_
      refine x_lload dX11_findFactors_169 rfl ?_
      refine x_lload_n dX11_findFactors_171 rfl ?_
      refine x_lload dX11_findFactors_172 rfl ?_
      refine x_s2d (N := mX11_common) dX11_findFactors_174 ml_X11_93 ns_X11_common rfl (k_common T wh (G c c) ⟨by omega, by omega⟩ ⟨by omega, by omega⟩) ?_
      refine x_ldivI dX11_findFactors_177 (⟨by omega, by omega⟩) (⟨by omega, by omega⟩) (by omega) ?_
      refine x_lmulI dX11_findFactors_178 ?_
      refine x_lstore_n dX11_findFactors_179 rfl ?_
      refine x_iincN dX11_findFactors_180 rfl rfl ?_
      refine x_goto 148 dX11_findFactors_183 rfl ?_
      exact ih (c + 1) _ _ (by omega) m1 m2 (fun e he => by
        by_cases q : e = c
        · rw [q]; exact m3
        · exact Int.dvd_trans (h4 e (by omega)) m4)
/-- the factors before they are made primitive, by the place in the circuit -/
def fzB (G : Nat → Nat → Int) (last : Nat) (wh : Int) (k : Nat) : Int := if k = last then wh else -G k last * wh.tdiv (G k k)
def fxB (s last : Nat) (G : Nat → Nat → Int) (wh : Int) (c i : Nat) : Int := if s.testBit i ∧ (pcb s i < c ∨ pcb s i = last) then fzB G last wh (pcb s i) else 0
set_option maxRecDepth 100000 in
set_option maxHeartbeats 4000000 in
theorem k_ff_e (T : amS) (s last : Nat) (hl : last ≤ 4) (hsl : pcb s 9 = last + 1) (G : Nat → Nat → Int) (hm : Mx 5 (T.2.2.2 12) 4 G (bnd last)) (hcol : ∀ k, k < pcb s 9 → T.2.1 11 k = nI (colB s 9 k)) (wh : Int) (hw0 : wh ≠ 0) (hwb : -192805230237696 ≤ wh ∧ wh ≤ 192805230237696) (hd : ∀ c, c < last → G c c ≠ 0) (hzb : ∀ k, k < last → -192805230237696 ≤ fzB G last wh k ∧ fzB G last wh k ≤ 192805230237696) (Q : Option Value → amS → Prop) (hq : ∀ f b, (∀ i, i < 9 → f i = i64 (fxB s last G wh last i)) → (∀ d : Int, d ∣ b ↔ d ∣ wh ∧ ∀ e, e < last → d ∣ fzB G last wh e) → (1 ≤ last → 0 ≤ b) → (-192805230237696 ≤ b ∧ b ≤ 192805230237696) → X shM mX11_findFactors 274 [.ref 0, .int (nI s), .int (nI last), .long (i64 wh), .null, .long (i64 b), .null, .int (nI last)] [] (sL T 10 f) Q) : ∀ (k c : Nat) (f : Nat → Int64) (b : Int), c + k = last → (∀ i, i < 9 → f i = i64 (fxB s last G wh c i)) → (∀ d : Int, d ∣ b ↔ d ∣ wh ∧ ∀ e, e < c → d ∣ fzB G last wh e) → (1 ≤ c → 0 ≤ b) → (-192805230237696 ≤ b ∧ b ≤ 192805230237696) → X shM mX11_findFactors 204 [.ref 0, .int (nI s), .int (nI last), .long (i64 wh), .null, .long (i64 b), .null, .int (nI c)] [] (sL T 10 f) Q := by
  intro k
  induction k with
  | zero =>
    intro c f b h1 h2 h3 h4 h5
    obtain rfl : c = last := by omega
    refine x_iload dX11_findFactors_204 rfl ?_
    refine x_iload_n dX11_findFactors_206 rfl ?_
    refine x_icmp_geN 274 dX11_findFactors_207 rfl (by omega) (by omega) (fun c207 => ?_) (fun c207 => ?_)
    · exact hq f b h2 h3 h4 h5
    · exact absurd c207 (by omega)
  | succ k ih =>
    intro c f b h1 h2 h3 h4 h5
    have hc : c < last := by omega
    obtain ⟨q1, q2⟩ := hm c c (by omega) (by omega)
    obtain ⟨q3, q4⟩ := hm c last (by omega) (by omega)
    obtain ⟨o1, o2, o3⟩ := colB_ok (s := s) (N := 9) (k := c) (by omega)
    have hbl : bnd last ≤ 4611686018427387904 := by
      rcases (show last = 1 ∨ last = 2 ∨ last = 3 ∨ last = 4 by omega) with rfl | rfl | rfl | rfl <;> decide
    have d1 := hd c hc
    have ez : fzB G last wh c = -G c last * wh.tdiv (G c c) := by rw [fzB, if_neg (by omega)]
    have hz := hzb c hc
    have hg2 := gcd_le (a := b) (b := fzB G last wh c) (B := 192805230237696) (by omega) h5 hz
    refine x_iload dX11_findFactors_204 rfl ?_
    refine x_iload_n dX11_findFactors_206 rfl ?_
    refine x_icmp_geN 274 dX11_findFactors_207 rfl (by omega) (by omega) (fun c207 => ?_) (fun c207 => ?_)
    · exact absurd c207 (by omega)
    · refine x_aload_n dX11_findFactors_210 rfl ?_
      refine x_getR dX11_findFactors_211 fl_X11_42 rfl ?_
      refine x_aload_n dX11_findFactors_214 rfl ?_
      refine x_getR dX11_findFactors_215 fl_X11_45 rfl ?_
      refine x_iload dX11_findFactors_218 rfl ?_
      refine x_ialdN dX11_findFactors_220 rfl rfl (by omega) (hcol c (by omega)) ?_
      refine x_aload_n dX11_findFactors_221 rfl ?_
      refine x_getR dX11_findFactors_222 fl_X11_48 rfl ?_
      refine x_ic _ ic_5 dX11_findFactors_225 ?_
      refine x_iload dX11_findFactors_226 rfl ?_
      refine x_imulN dX11_findFactors_228 ?_
      refine x_iload_n dX11_findFactors_229 rfl ?_
      refine x_iaddN dX11_findFactors_230 ?_
      refine x_laldN dX11_findFactors_231 rfl rfl (by omega) (q3) ?_
      refine x_lnegI dX11_findFactors_232 ?_
      refine x_lload_n dX11_findFactors_233 rfl ?_
      refine x_aload_n dX11_findFactors_234 rfl ?_
      refine x_getR dX11_findFactors_235 fl_X11_48 rfl ?_
      refine x_ic _ ic_5 dX11_findFactors_238 ?_
      refine x_iload dX11_findFactors_239 rfl ?_
      refine x_imulN dX11_findFactors_241 ?_
      refine x_iload dX11_findFactors_242 rfl ?_
      refine x_iaddN dX11_findFactors_244 ?_
      refine x_laldN dX11_findFactors_245 rfl rfl (by omega) (q1) ?_
      refine x_ldivI dX11_findFactors_246 (⟨by omega, by omega⟩) (⟨by omega, by omega⟩) (d1) ?_
      refine x_lmulI dX11_findFactors_247 ?_
      refine x_lastN dX11_findFactors_248 rfl rfl (by omega) ?_
      rw [sL_sL, sL_at, ← ez]
      refine x_lload dX11_findFactors_249 rfl ?_
      refine x_aload_n dX11_findFactors_251 rfl ?_
      refine x_getR dX11_findFactors_252 fl_X11_42 rfl ?_
      refine x_aload_n dX11_findFactors_255 rfl ?_
      refine x_getR dX11_findFactors_256 fl_X11_45 rfl ?_
      refine x_iload dX11_findFactors_259 rfl ?_
      refine x_ialdN dX11_findFactors_261 rfl rfl (by omega) (hcol c (by omega)) ?_
      refine x_laldN dX11_findFactors_262 rfl rfl (by omega) ((show (sL T 10 (vp_updL f (colB s 9 c) (i64 (fzB G last wh c)))).2.2.2 10 (colB s 9 c) = i64 (fzB G last wh c) by rw [sL_at]; simp [vp_updL])) ?_
      refine x_s2d (N := mX11_common) dX11_findFactors_263 ml_X11_93 ns_X11_common rfl (k_common _ b (fzB G last wh c) ⟨by omega, by omega⟩ ⟨by omega, by omega⟩) ?_
      refine x_lstore dX11_findFactors_266 rfl ?_
      refine x_iincN dX11_findFactors_268 rfl rfl ?_
      refine x_goto 204 dX11_findFactors_271 rfl ?_
      refine ih (c + 1) _ _ (by omega) (fun i hi => ?_) (fun d => ?_) (fun _ => by omega) ⟨by omega, hg2⟩
      · by_cases q : i = colB s 9 c
        · simp only [vp_updL, q, if_true]
          rw [fxB, if_pos ⟨o2, Or.inl (by omega)⟩, o3]
        · simp only [vp_updL, q, if_false]
          rw [h2 i hi]
          congr 1
          unfold fxB
          by_cases hs : s.testBit i = true
          · have hne : pcb s i ≠ c := fun e => q (by rw [← e, colB_at hi hs])
            have : (pcb s i < c ∨ pcb s i = last) ↔ (pcb s i < c + 1 ∨ pcb s i = last) := by omega
            simp only [this]
          · simp only [hs, false_and, if_false]; simp
      · rw [Int.dvd_coe_gcd_iff, h3 d]
        constructor
        · rintro ⟨⟨i1, i2⟩, i3⟩
          refine ⟨i1, fun e he => ?_⟩
          by_cases q : e = c
          · rw [q]; exact i3
          · exact i2 e (by omega)
        · rintro ⟨i1, i2⟩
          exact ⟨⟨i1, fun e he => i2 e (by omega)⟩, i2 c (by omega)⟩
set_option maxRecDepth 100000 in
set_option maxHeartbeats 4000000 in
theorem k_ff_f (T : amS) (s last : Nat) (x : Nat → Int) (d wh : Int) (hd : d ≠ 0) (hdb : -192805230237696 ≤ d ∧ d ≤ 192805230237696) (hx : ∀ i, i < 9 → -192805230237696 ≤ x i ∧ x i ≤ 192805230237696) : ∀ (k j : Nat) (f : Nat → Int64), j + k = 9 → (∀ i, i < 9 → f i = i64 (if i < j then (x i).tdiv d else x i)) → X shM mX11_findFactors 303 [.ref 0, .int (nI s), .int (nI last), .long (i64 wh), .null, .long (i64 d), .null, .int (nI j)] [] (sL T 10 f) (fun r S' => r = none ∧ ∃ f', S' = sL T 10 f' ∧ ∀ i, i < 9 → f' i = i64 ((x i).tdiv d)) := by
  intro k
  induction k with
  | zero =>
    intro j f h1 h2
    obtain rfl : j = 9 := by omega
    refine x_iload dX11_findFactors_303 rfl ?_
    refine x_bi _ bi_9 dX11_findFactors_305 ?_
    refine x_icmp_geN 328 dX11_findFactors_307 rfl (by omega) (by omega) (fun c307 => ?_) (fun c307 => ?_)
    · refine x_ret dX11_findFactors_328 rfl ?_
      exact ⟨rfl, f, rfl, fun i hi => by rw [h2 i hi, if_pos hi]⟩
    · exact absurd c307 (by omega)
  | succ k ih =>
    intro j f h1 h2
    have hj : j < 9 := by omega
    have e1 := h2 j hj
    rw [if_neg (Nat.lt_irrefl _)] at e1
    have hb := hx j hj
    refine x_iload dX11_findFactors_303 rfl ?_
    refine x_bi _ bi_9 dX11_findFactors_305 ?_
    refine x_icmp_geN 328 dX11_findFactors_307 rfl (by omega) (by omega) (fun c307 => ?_) (fun c307 => ?_)
    · exact absurd c307 (by omega)
    · refine x_aload_n dX11_findFactors_310 rfl ?_
      refine x_getR dX11_findFactors_311 fl_X11_42 rfl ?_
      refine x_iload dX11_findFactors_314 rfl ?_
      refine x_dup2 dX11_findFactors_316 rfl rfl ?_
      refine x_laldN dX11_findFactors_317 rfl rfl (by omega) (e1) ?_
      refine x_lload dX11_findFactors_318 rfl ?_
      refine x_ldivI dX11_findFactors_320 (⟨by omega, by omega⟩) (⟨by omega, by omega⟩) (hd) ?_
      refine x_lastN dX11_findFactors_321 rfl rfl (by omega) ?_
      refine x_iincN dX11_findFactors_322 rfl rfl ?_
      refine x_goto 303 dX11_findFactors_325 rfl ?_
      rw [sL_sL, sL_at]
      refine ih (j + 1) _ (by omega) (fun i hi => ?_)
      by_cases q : i = j
      · subst q; simp [vp_updL]
      · simp only [vp_updL, q, if_false]
        rw [h2 i hi]
        have : (i < j) = (i < j + 1) := by rw [eq_iff_iff]; omega
        simp only [this]
