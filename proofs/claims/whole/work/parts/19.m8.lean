/-! THE REFERENCE: clearColumn, rows; whole -/
theorem prim_div {w : Nat → Int} {g : Nat} (h : gcdR w 5 = g) (hg : 0 < g) : gcdR (fun e => (w e).tdiv g) 5 = 1 := by
  have h1 : gcdR w 5 = gcdR (fun e => (g : Int) * (w e).tdiv g) 5 := gcdR_ext (fun i hi => (Int.mul_tdiv_cancel' (by rw [← h]; exact gcdR_dvd w 5 i hi)).symm)
  rw [gcdR_mul, h, Int.natAbs_natCast] at h1
  have h2 : g * 1 = g * gcdR (fun e => (w e).tdiv g) 5 := by rw [Nat.mul_one]; exact h1
  exact (Nat.eq_of_mul_eq_mul_left hg h2).symm
set_option maxRecDepth 100000 in
set_option maxHeartbeats 4000000 in
theorem k_cc_4 (S : amS) (c a : Nat) (hc : c < 4) (w : Nat → Nat → Int) (B C : Int) (hB : 0 ≤ B) (hBC : B ≤ C) (hC : C ≤ 4611686018427387904) (hC2 : C = 2 * (B * B)) (hw : ∀ i e, i < 4 → e < 5 → -B ≤ w i e ∧ w i e ≤ B) (Q : Option Value → amS → Prop) (hq : ∀ f u, Mx 5 f 4 u C → (∀ e, e < 5 → u c e = w c e) → (∀ i, i < 4 → i ≠ c → Prim (u i) ∧ ∃ μ : Int, 1 ≤ μ ∧ ∀ e, e < 5 → μ * u i e = w i e * w c c - w c e * w i c) → Q none (sL S 12 f)) : ∀ (k row : Nat) (f : Nat → Int64) (u : Nat → Nat → Int) (z4 z6 z8 z10 : Value), row + k = 4 → Mx 5 f 4 u C → (∀ i e, i < 4 → e < 5 → row ≤ i ∨ i = c → u i e = w i e) → (∀ i, i < row → i ≠ c → Prim (u i) ∧ ∃ μ : Int, 1 ≤ μ ∧ ∀ e, e < 5 → μ * u i e = w i e * w c c - w c e * w i c) → X shM mX11_clearColumn 82 [.ref 0, .int (nI c), .int (nI a), .int (nI row), z4, .null, z6, .null, z8, .null, z10] [] (sL S 12 f) Q := by
  intro k
  induction k with
  | zero =>
    intro row f u z4 z6 z8 z10 h1 h2 h3 h4
    obtain rfl : row = 4 := by omega
    refine x_iload_n dX11_clearColumn_82 rfl ?_
    refine x_ic _ ic_4 dX11_clearColumn_83 ?_
    refine x_icmp_geN 236 dX11_clearColumn_84 rfl (by omega) (by omega) (fun c84 => ?_) (fun c84 => ?_)
    · refine x_ret dX11_clearColumn_236 rfl ?_
      exact hq f u h2 (fun e he => h3 c e hc he (Or.inr rfl)) h4
    · exact absurd c84 (by omega)
  | succ k ih =>
    intro row f u z4 z6 z8 z10 h1 h2 h3 h4
    have hr : row < 4 := by omega
    obtain ⟨q1, -⟩ := h2 row c hr (by omega)
    obtain ⟨q3, -⟩ := h2 c c hc (by omega)
    have p1 := h3 row c hr (by omega) (Or.inl (Nat.le_refl _))
    have p2 := h3 c c hc (by omega) (Or.inr rfl)
    rw [p1] at q1
    rw [p2] at q3
    refine x_iload_n dX11_clearColumn_82 rfl ?_
    refine x_ic _ ic_4 dX11_clearColumn_83 ?_
    refine x_icmp_geN 236 dX11_clearColumn_84 rfl (by omega) (by omega) (fun c84 => ?_) (fun c84 => ?_)
    · exact absurd c84 (by omega)
    · refine x_aload_n dX11_clearColumn_87 rfl ?_
      refine x_getR dX11_clearColumn_88 fl_X11_48 rfl ?_
      refine x_ic _ ic_5 dX11_clearColumn_91 ?_
      refine x_iload_n dX11_clearColumn_92 rfl ?_
      refine x_imulN dX11_clearColumn_93 ?_
      refine x_iload_n dX11_clearColumn_94 rfl ?_
      refine x_iaddN dX11_clearColumn_95 ?_
      refine x_laldN dX11_clearColumn_96 rfl rfl (by omega) (q1) ?_
      refine x_lstore dX11_clearColumn_97 rfl ?_
      refine x_aload_n dX11_clearColumn_99 rfl ?_
      refine x_getR dX11_clearColumn_100 fl_X11_48 rfl ?_
      refine x_ic _ ic_5 dX11_clearColumn_103 ?_
      refine x_iload_n dX11_clearColumn_104 rfl ?_
      refine x_imulN dX11_clearColumn_105 ?_
      refine x_iload_n dX11_clearColumn_106 rfl ?_
      refine x_iaddN dX11_clearColumn_107 ?_
      refine x_laldN dX11_clearColumn_108 rfl rfl (by omega) (q3) ?_
      refine x_lstore dX11_clearColumn_109 rfl ?_
      refine x_lc _ lc_0 dX11_clearColumn_111 ?_
      refine x_lstore dX11_clearColumn_112 rfl ?_
      refine x_ic _ ic_0 dX11_clearColumn_114 ?_
      refine x_istore dX11_clearColumn_115 rfl ?_
      by_cases hrc : row = c
      · refine x_iload dX11_clearColumn_117 rfl ?_
        refine x_ic _ ic_5 dX11_clearColumn_119 ?_
        refine x_icmp_geN 192 dX11_clearColumn_120 rfl (by omega) (by omega) (fun c1 => absurd c1 (by omega)) (fun _ => ?_)
        refine x_iload_n dX11_clearColumn_123 rfl ?_
        refine x_iload_n dX11_clearColumn_124 rfl ?_
        refine x_icmp_eqN 192 dX11_clearColumn_125 rfl (by omega) (by omega) (fun _ => ?_) (fun c1 => absurd hrc c1)
        refine x_ic _ ic_0 dX11_clearColumn_192 ?_
        refine x_istore dX11_clearColumn_193 rfl ?_
        refine x_iload dX11_clearColumn_195 rfl ?_
        refine x_ic _ ic_5 dX11_clearColumn_197 ?_
        refine x_icmp_geN 230 dX11_clearColumn_198 rfl (by omega) (by omega) (fun c1 => absurd c1 (by omega)) (fun _ => ?_)
        refine x_lload dX11_clearColumn_201 rfl ?_
        refine x_lc _ lc_1 dX11_clearColumn_203 ?_
        refine x_lcmp_le 230 dX11_clearColumn_204 dX11_clearColumn_205 rfl (by omega) (by omega) (fun _ => ?_) (fun c1 => absurd c1 (by omega))
        refine x_iincN dX11_clearColumn_230 rfl rfl ?_
        refine x_goto 82 dX11_clearColumn_233 rfl ?_
        refine ih (row + 1) f u _ _ _ _ (by omega) h2 (fun i e hi he z => h3 i e hi he (by omega)) (fun i hi hic => h4 i (by omega) hic)
      · have main := k_cc_2 S c a row hc hr hrc u B C hB hBC hC hC2 (fun e he => ⟨by rw [h3 row e hr he (Or.inl (Nat.le_refl _))]; exact hw row e hr he, by rw [h3 c e hc he (Or.inr rfl)]; exact hw c e hc he⟩) Q ?_ 5 0 f u (by omega) h2 (fun i e _ _ => by rw [if_neg (fun z => Nat.not_lt_zero e z.2)])
        · rw [p1, p2] at main; exact main
        · intro f1 u1 g1 g2
          rw [p1, p2] at g2 ⊢
          have hN : ∀ e, e < 5 → u1 row e = u row e * w c c - u c e * w row c := fun e he => by rw [g2 row e hr he, if_pos rfl]
          have hgle := gcdR_le (fun e => u row e * w c c - u c e * w row c) (show 0 ≤ C by omega) 5 (fun e he => by rw [← hN e he]; exact (g1 row e hr he).2)
          have hfin : ∀ (f2 : Nat → Int64) (u2 : Nat → Nat → Int) (y4 y6 y8 y10 : Value), Mx 5 f2 4 u2 C → (∀ i e, i < 4 → e < 5 → i ≠ row → u2 i e = u i e) → (Prim (u2 row) ∧ ∃ μ : Int, 1 ≤ μ ∧ ∀ e, e < 5 → μ * u2 row e = u row e * w c c - u c e * w row c) → X shM mX11_clearColumn 230 [.ref 0, .int (nI c), .int (nI a), .int (nI row), y4, .null, y6, .null, y8, .null, y10] [] (sL S 12 f2) Q := by
            intro f2 u2 y4 y6 y8 y10 i1 i2 i3
            refine x_iincN dX11_clearColumn_230 rfl rfl ?_
            refine x_goto 82 dX11_clearColumn_233 rfl ?_
            refine ih (row + 1) f2 u2 _ _ _ _ (by omega) i1 (fun i e hi he z => ?_) (fun i hi hic => ?_)
            · rw [i2 i e hi he (by omega)]; exact h3 i e hi he (by omega)
            · by_cases er : i = row
              · subst er
                obtain ⟨i4, μ, i5, i6⟩ := i3
                exact ⟨i4, μ, i5, fun e he => by rw [i6 e he, h3 i e hr he (Or.inl (Nat.le_refl _)), h3 c e hc he (Or.inr rfl)]⟩
              · obtain ⟨i4, μ, i5, i6⟩ := h4 i (by omega) hic
                exact ⟨i4.ext (fun e he => i2 i e (by omega) he er), μ, i5, fun e he => by rw [i2 i e (by omega) he er]; exact i6 e he⟩
          generalize hgg : gcdR (fun e => u row e * w c c - u c e * w row c) 5 = g at hgle ⊢
          refine x_ic _ ic_0 dX11_clearColumn_192 ?_
          refine x_istore dX11_clearColumn_193 rfl ?_
          by_cases h1g : 1 < g
          · refine k_cc_3 S c a row hr u1 C ⟨by omega, hC⟩ g h1g hgle (fun e he => (g1 row e hr he).2) _ _ Q ?_ 5 0 f1 u1 (by omega) g1 (fun i e _ _ => by rw [if_neg (fun z => Nat.not_lt_zero e z.2)])
            intro f2 u2 i1 i2
            refine hfin f2 u2 _ _ _ _ i1 (fun i e hi he er => by rw [i2 i e hi he, if_neg er, g2 i e hi he, if_neg er]) ⟨Or.inl ?_, (g : Int), by omega, fun e he => ?_⟩
            · rw [gcdR_ext (u := fun e => (u row e * w c c - u c e * w row c).tdiv g) (fun e he => by rw [i2 row e hr he, if_pos rfl, hN e he])]
              exact prim_div hgg (by omega)
            · rw [i2 row e hr he, if_pos rfl, hN e he]
              exact Int.mul_tdiv_cancel' (by rw [← hgg]; exact gcdR_dvd _ 5 e he)
          · refine x_iload dX11_clearColumn_195 rfl ?_
            refine x_ic _ ic_5 dX11_clearColumn_197 ?_
            refine x_icmp_geN 230 dX11_clearColumn_198 rfl (by omega) (by omega) (fun c1 => absurd c1 (by omega)) (fun _ => ?_)
            refine x_lload dX11_clearColumn_201 rfl ?_
            refine x_lc _ lc_1 dX11_clearColumn_203 ?_
            refine x_lcmp_le 230 dX11_clearColumn_204 dX11_clearColumn_205 rfl (by omega) (by omega) (fun _ => ?_) (fun c1 => absurd c1 (by omega))
            refine hfin f1 u1 _ _ _ _ g1 (fun i e hi he er => by rw [g2 i e hi he, if_neg er]) ⟨?_, 1, Int.le_refl 1, fun e he => by rw [hN e he]; omega⟩
            rcases (show g = 0 ∨ g = 1 by omega) with rfl | rfl
            · exact Or.inr (fun e he => by rw [hN e he]; exact gcdR_zero _ 5 hgg e he)
            · exact Or.inl (by rw [gcdR_ext hN]; exact hgg)
set_option maxRecDepth 100000 in
set_option maxHeartbeats 4000000 in
theorem k_clearColumn (S : amS) (c : Nat) (hc : c < 4) (G : Nat → Nat → Int) (B C : Int) (hB : 0 ≤ B) (hBC : B ≤ C) (hC : C ≤ 4611686018427387904) (hC2 : C = 2 * (B * B)) (hm : Mx 5 (S.2.2.2 12) 4 G B) (e0 : Nat) (he0 : c ≤ e0 ∧ e0 < 4) (hg : G e0 c ≠ 0) : X shM mX11_clearColumn 0 [.ref 0, .int (nI c), .null, .null, .null, .null, .null, .null, .null, .null, .null] [] S (fun r S' => r = none ∧ ∃ f' G' a, S' = sL S 12 f' ∧ c ≤ a ∧ a < 4 ∧ G a c ≠ 0 ∧ Mx 5 f' 4 G' C ∧ (∀ e, e < 5 → G' c e = G a e) ∧ ∀ i, i < 4 → i ≠ c → Prim (G' i) ∧ ∃ μ : Int, 1 ≤ μ ∧ ∀ e, e < 5 → μ * G' i e = (if i = a then G c e else G i e) * G a c - G a e * (if i = a then G c c else G i c)) := by
  refine x_iload_n dX11_clearColumn_0 rfl ?_
  refine x_istore_n dX11_clearColumn_1 rfl ?_
  refine k_cc_0 S c hc G B (by omega) hm e0 he0 hg _ ?_ (e0 - c) c (by omega) (Nat.le_refl _)
  intro a a1 a2 a3
  refine x_ic _ ic_0 dX11_clearColumn_23 ?_
  refine x_istore_n dX11_clearColumn_24 rfl ?_
  refine x_st (sL_self S 12) ?_
  refine k_cc_1 S c a hc a2 G B _ ?_ 5 0 (S.2.2.2 12) G .null (by omega) hm (fun i e _ _ => by rw [if_neg (Nat.not_lt_zero e)])
  intro f z4 m1
  refine x_ic _ ic_0 dX11_clearColumn_80 ?_
  refine x_istore_n dX11_clearColumn_81 rfl ?_
  have ecc : ∀ e, (if c = a then G c else if c = c then G a else G c) e = G a e := by
    intro e
    by_cases q : c = a
    · rw [if_pos q, q]
    · rw [if_neg q, if_pos rfl]
  refine k_cc_4 S c a hc (fun i => if i = a then G c else if i = c then G a else G i) B C hB hBC hC hC2 (fun i e hi he => (m1 i e hi he).2) _ ?_ 4 0 f _ _ _ _ _ (by omega) (m1.mono hBC) (fun i e _ _ _ => rfl) (fun i hi => absurd hi (Nat.not_lt_zero i))
  intro f2 u2 i1 i2 i3
  refine ⟨rfl, f2, u2, a, rfl, a1, a2, a3, i1, fun e he => by rw [i2 e he]; exact ecc e, fun i hi hic => ?_⟩
  obtain ⟨i4, μ, i5, i6⟩ := i3 i hi hic
  refine ⟨i4, μ, i5, fun e he => ?_⟩
  have i7 := i6 e he
  have es : (if i = a then G c else if i = c then G a else G i) = (if i = a then G c else G i) := by rw [if_neg hic]
  have e1 := ecc e
  have e2 := ecc c
  grind
