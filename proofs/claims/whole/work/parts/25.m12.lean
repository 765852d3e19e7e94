/-! THE REFERENCE: findFactors, whole; aboveOf -/
theorem circ_y {v : Nat → Row} {s : Nat} (hC : Circ v 9 s) (hb : ∀ i j, i < 9 → -3 ≤ v i j ∧ v i j ≤ 3) (hm : pcb s 9 ≤ 5) : ∀ r, r < 4 → dt (gr0 v s 9) (fun k => facB v s (colB s 9 k)) r = 0 := by
  intro r hr
  have hf := (facB_ok hC hb).1
  rw [dt_gr0 hm]
  rw [sm_ext (g := fun i => facB v s i * v i r) (fun i hi => by
    by_cases e : s.testBit i = true
    · rw [if_pos e, colB_at hi e]
    · rw [if_neg e, hf.1.1 i (by simpa using e)])]
  exact hf.1.2 r (by rcases (show r = 0 ∨ r = 1 ∨ r = 2 ∨ r = 3 by omega) with rfl | rfl | rfl | rfl <;> simp [cf])
theorem circ_I {v : Nat → Row} {s : Nat} (hC : Circ v 9 s) (hm : pcb s 9 ≤ 5) : ∀ c, c + 1 < pcb s 9 → ∀ z : Nat → Int, (∀ k, c < k → z k = 0) → (∀ r, r < 4 → dt (gr0 v s 9) z r = 0) → z c = 0 := by
  intro c hc z hz hd
  by_cases e : z c = 0
  · exact e
  · exfalso
    obtain ⟨o1, o2, o3⟩ := colB_ok (s := s) (N := 9) (k := c) (by omega)
    obtain ⟨p1, p2, p3⟩ := colB_ok (s := s) (N := 9) (k := c + 1) hc
    have hD : Dp (cf 4) 9 s v (fun i => if s.testBit i then z (pcb s i) else 0) := ⟨fun i hi => by simp [hi], fun j hj => by
      rw [← dt_gr0 hm]
      exact hd j (cf_mem 4 (by omega) j hj)⟩
    refine hC.all hD o1 (by simp only [o2, if_true, o3]; exact e) _ p1 p2 ?_
    simp only [p2, if_true, p3]
    exact hz (c + 1) (by omega)
/-- the numbers found, made primitive, are the factors -/
theorem fac_fin {v : Nat → Row} {s last : Nat} (hC : Circ v 9 s) (hb : ∀ i j, i < 9 → -3 ≤ v i j ∧ v i j ≤ 3) (hsl : pcb s 9 = last + 1) (h1l : 1 ≤ last) (hl4 : last ≤ 4) {G : Nat → Nat → Int} (hJ : JI (gr0 v s 9) G last (last + 1)) {wh : Int} (hw0 : wh ≠ 0) (hwd : wh ∣ facB v s (colB s 9 last)) (hdd : ∀ e, e < last → G e e ∣ wh) :
    (∀ i, i < 9 → -192805230237696 ≤ fxB s last G wh last i ∧ fxB s last G wh last i ≤ 192805230237696) ∧ (fxB s last G wh last (colB s 9 0) ≠ 0) ∧ (∀ k, k < last → -192805230237696 ≤ fzB G last wh k ∧ fzB G last wh k ≤ 192805230237696) ∧
    ∀ b d : Int, (∀ t : Int, t ∣ b ↔ t ∣ wh ∧ ∀ e, e < last → t ∣ fzB G last wh e) → 0 ≤ b → d = (if fxB s last G wh last (colB s 9 0) < 0 then -b else b) → d ≠ 0 ∧ ∀ i, i < 9 → (fxB s last G wh last i).tdiv d = facB v s i := by
  obtain ⟨hf, hfb⟩ := facB_ok hC hb
  have hy := JI_end hJ hl4 (circ_y hC hb (by omega))
  obtain ⟨l1, l2, l3⟩ := colB_ok (s := s) (N := 9) (k := last) (by omega)
  have hyl : facB v s (colB s 9 last) ≠ 0 := facB_ne hC hb _ l1 l2
  have hxi : ∀ i, i < 9 → s.testBit i = true → fxB s last G wh last i = fzB G last wh (pcb s i) := fun i hi hs => by
    have h9 : pcb s i < pcb s 9 := by
      have h1 := colsB_at s 9 i hi hs
      have := (List.getElem?_eq_some_iff.mp h1).1
      rw [colsB_len] at this
      exact this
    rw [fxB, if_pos ⟨hs, by omega⟩]
  have hzy : ∀ k, k ≤ last → fzB G last wh k * facB v s (colB s 9 last) = wh * facB v s (colB s 9 k) := by
    intro k hk
    by_cases e : k = last
    · rw [fzB, if_pos e, e]
    · rw [fzB, if_neg e]
      have h1 := hy k (by omega)
      have h2 := Int.mul_tdiv_cancel' (hdd k (by omega))
      generalize wh.tdiv (G k k) = q at h2 ⊢
      rw [← h2]
      grind
  have hxg : ∀ i, i < 9 → fxB s last G wh last i * facB v s (colB s 9 last) = wh * facB v s i := by
    intro i hi
    by_cases hs : s.testBit i = true
    · have h9 : pcb s i < pcb s 9 := by
        have h1 := colsB_at s 9 i hi hs
        have := (List.getElem?_eq_some_iff.mp h1).1
        rw [colsB_len] at this
        exact this
      rw [hxi i hi hs, hzy _ (by omega), colB_at hi hs]
    · rw [hf.1.1 i (by simpa using hs), fxB, if_neg (fun z => hs z.1), Int.zero_mul, Int.mul_zero]
  obtain ⟨o1, o2, o3⟩ := colB_ok (s := s) (N := 9) (k := 0) (by omega)
  have hx0 : fxB s last G wh last (colB s 9 0) ≠ 0 := by
    intro e
    have h1 := hxg _ o1
    rw [e, Int.zero_mul] at h1
    rcases Int.mul_eq_zero.mp h1.symm with q | q
    · exact hw0 q
    · exact facB_ne hC hb _ o1 o2 q
  refine ⟨fun i hi => abs_le_of (hxg i hi) hwd hyl (hfb i), hx0, fun k hk => abs_le_of (hzy k (by omega)) hwd hyl (hfb _), fun b d hbd hb0 hd => ?_⟩
  have hD : Dp (cf 4) 9 s v (fun i => fxB s last G wh last i) := ⟨fun i hi => by simp [fxB, hi], fun j hj => by
    have h1 : facB v s (colB s 9 last) * sm (fun i => fxB s last G wh last i * v i j) 9 = wh * sm (fun i => facB v s i * v i j) 9 := by
      rw [← sm_smul, ← sm_smul]
      exact sm_ext (fun i hi => by have := hxg i hi; grind)
    rw [hf.1.2 j hj, Int.mul_zero] at h1
    exact (Int.mul_eq_zero.mp h1).resolve_left hyl⟩
  have hlow : ∀ k, k < colB s 9 0 → s.testBit k = false := by
    intro k hk
    cases e : s.testBit k with
    | false => rfl
    | true =>
      have h1 : ∀ n, k < n → 1 ≤ pcb s n := by
        intro n
        induction n with
        | zero => intro h; omega
        | succ n ih =>
          intro h
          simp only [pcb]
          by_cases q : k = n
          · subst q; rw [e]; simp
          · have := ih (by omega); omega
      have := h1 _ hk
      omega
  have hgb : b = (gcdR (fun i => fxB s last G wh last i) 9 : Int) := by
    have a1 : b ∣ (gcdR (fun i => fxB s last G wh last i) 9 : Int) := dvd_gcdR _ b 9 (fun i hi => by
      obtain ⟨b1, b2⟩ := (hbd b).mp (Int.dvd_refl b)
      by_cases hs : s.testBit i = true
      · rw [hxi i hi hs]
        by_cases q : pcb s i = last
        · rw [fzB, if_pos q]; exact b1
        · have h9 : pcb s i < pcb s 9 := by
            have h1 := colsB_at s 9 i hi hs
            have := (List.getElem?_eq_some_iff.mp h1).1
            rw [colsB_len] at this
            exact this
          exact b2 _ (by omega)
      · rw [fxB, if_neg (fun z => hs z.1)]; exact Int.dvd_zero b)
    have a2 : (gcdR (fun i => fxB s last G wh last i) 9 : Int) ∣ b := (hbd _).mpr ⟨by
      have := gcdR_dvd (fun i => fxB s last G wh last i) 9 _ l1
      rwa [hxi _ l1 l2, l3, fzB, if_pos rfl] at this, fun e he => by
      obtain ⟨p1, p2, p3⟩ := colB_ok (s := s) (N := 9) (k := e) (by omega)
      have := gcdR_dvd (fun i => fxB s last G wh last i) 9 _ p1
      rwa [hxi _ p1 p2, p3] at this⟩
    exact Int.dvd_antisymm hb0 (by omega) a1 a2
  obtain ⟨f1, f2, f3⟩ := fac_of hC hD o1 o2 hlow hx0 (d := d) (by rw [hd, hgb])
  refine ⟨f1, fun i hi => ?_⟩
  have h5 := fac_uni hC f3 hf i hi
  simp only [hi, if_true] at h5
  rw [Int.tdiv_eq_ediv_of_dvd (f2 i hi)]
  exact h5
set_option maxRecDepth 100000 in
set_option maxHeartbeats 4000000 in
theorem k_findFactors (S : amS) (s : Nat) (v : Nat → Row) (hs : s < 512) (hC : Circ v 9 s) (h3 : 3 ≤ pcb s 9 ∧ pcb s 9 ≤ 5) (hv : ∀ i j, s.testBit i = true → i < 9 → j < 4 → S.2.1 1 (4 * i + j) = i32 (v i j)) (hb : ∀ i j, i < 9 → -3 ≤ v i j ∧ v i j ≤ 3) : X shM mX11_findFactors 0 [.ref 0, .int (nI s), .null, .null, .null, .null, .null, .null] [] S (fun r S' => r = none ∧ ∃ f g m h f', S' = sL (sL (ffS S f g m) 12 h) 10 f' ∧ ∀ i, i < 9 → f' i = i64 (facB v s i)) := by
  refine x_aload_n dX11_findFactors_0 rfl ?_
  refine x_ic _ ic_0 dX11_findFactors_1 ?_
  refine x_put dX11_findFactors_2 fp_X11_136 rfl rfl rfl ?_
  refine x_ic _ ic_0 dX11_findFactors_5 ?_
  refine x_istore_n dX11_findFactors_6 rfl ?_
  rw [ffS_0]
  refine k_ff_a S s hs _ ?_ 9 0 _ _ (by omega) (fun e he => absurd he (Nat.not_lt_zero e)) (fun e he => absurd he (Nat.not_lt_zero e))
  intro f g hf0 hg
  refine x_ic _ ic_0 dX11_findFactors_54 ?_
  refine x_istore_n dX11_findFactors_55 rfl ?_
  refine x_st (sL_self _ 12) ?_
  refine k_ff_b1 S s v f g hg hv hb h3.2 _ ?_ 4 0 _ .null (by omega) (fun r e _ _ z => by omega)
  intro h z3 hMx
  obtain ⟨last, hl⟩ : ∃ last, pcb s 9 = last + 1 := ⟨pcb s 9 - 1, by omega⟩
  refine x_aload_n dX11_findFactors_118 rfl ?_
  refine x_getIV dX11_findFactors_119 fl_X11_136 rfl (y := nI (pcb s 9)) rfl ?_
  refine x_ic _ ic_1 dX11_findFactors_122 ?_
  refine x_isubN dX11_findFactors_123 (by omega) ?_
  rw [show pcb s 9 - 1 = last by omega]
  refine x_istore_n dX11_findFactors_124 rfl ?_
  refine x_ic _ ic_0 dX11_findFactors_125 ?_
  refine x_istore_n dX11_findFactors_126 rfl ?_
  refine k_ff_c (ffS S f g (pcb s 9)) s last (by omega) (gr0 v s 9) (fun c hc => circ_I hC h3.2 c (by omega)) _ ?_ last 0 h (gr0 v s 9) (by omega) hMx ⟨fun _ => Iff.rfl, fun e he => absurd he (Nat.not_lt_zero e), fun r _ k hk _ => by rw [gr0, if_neg (by omega)], fun z => absurd z (by omega), fun z => absurd z (by omega)⟩
  intro h2 G hMG hJ
  have hbl : bnd last ≤ 4611686018427387904 := by
    rcases (show last = 2 ∨ last = 3 ∨ last = 4 by omega) with rfl | rfl | rfl <;> decide
  obtain ⟨l1, l2, l3⟩ := colB_ok (s := s) (N := 9) (k := last) (by omega)
  obtain ⟨hf, hfb⟩ := facB_ok hC hb
  have hyl : facB v s (colB s 9 last) ≠ 0 := facB_ne hC hb _ l1 l2
  have hy := JI_end hJ (by omega) (circ_y hC hb h3.2)
  have hdiag : ∀ c, c < last → G c c ≠ 0 ∧ G c c ∣ facB v s (colB s 9 last) := by
    intro c hc
    refine ⟨(hJ.2.1 c hc).1, diag_dvd (hy c hc) (fun t t1 t2 => ?_)⟩
    rcases hJ.2.2.2.2 (by omega) c (by omega) with q | q
    · refine gcdR_two (c := c) (l := last) (by omega) (by omega) (fun k hk e1 e2 => ?_) q t t1 t2
      by_cases q2 : k < last
      · exact (hJ.2.1 k q2).2 c (by omega) (fun z => e1 z.symm)
      · exact hJ.2.2.1 c (by omega) k (by omega) hk
    · exact absurd (q c (by omega)) (hJ.2.1 c hc).1
  refine x_lc _ lc_1 dX11_findFactors_143 ?_
  refine x_lstore_n dX11_findFactors_144 rfl ?_
  refine x_ic _ ic_0 dX11_findFactors_145 ?_
  refine x_istore dX11_findFactors_146 rfl ?_
  refine k_ff_d (sL (ffS S f g (pcb s 9)) 12 h2) s last (by omega) G hMG _ hyl (hfb _) hdiag _ ?_ last 0 1 .null (by omega) (by omega) (Int.one_dvd _) (fun e he => absurd he (Nat.not_lt_zero e))
  intro wh z6 w1 w2 w3
  obtain ⟨y1, y2, y3, y4⟩ := fac_fin hC hb hl (by omega) (by omega) hJ w1 w2 w3
  have hwb := natAbs_le_dvd w2 hyl
  have hfbl := hfb (colB s 9 last)
  have hcol : ∀ k, k < pcb s 9 → (sL (ffS S f g (pcb s 9)) 12 h2).2.1 11 k = nI (colB s 9 k) := hg
  refine x_aload_n dX11_findFactors_186 rfl ?_
  refine x_getR dX11_findFactors_187 fl_X11_42 rfl ?_
  refine x_aload_n dX11_findFactors_190 rfl ?_
  refine x_getR dX11_findFactors_191 fl_X11_45 rfl ?_
  refine x_iload_n dX11_findFactors_194 rfl ?_
  refine x_ialdN dX11_findFactors_195 rfl rfl (by omega) (hcol last (by omega)) ?_
  refine x_lload_n dX11_findFactors_196 rfl ?_
  refine x_lastN dX11_findFactors_197 rfl rfl (by omega) ?_
  refine x_lload_n dX11_findFactors_198 rfl ?_
  refine x_lstore dX11_findFactors_199 rfl ?_
  refine x_ic _ ic_0 dX11_findFactors_201 ?_
  refine x_istore dX11_findFactors_202 rfl ?_
  refine k_ff_e (sL (ffS S f g (pcb s 9)) 12 h2) s last (by omega) hl G hMG hcol wh w1 ⟨by omega, by omega⟩ (fun c hc => (hdiag c hc).1) y3 _ ?_ last 0 _ wh (by omega) (fun i hi => ?_) (fun d => ⟨fun z => ⟨z, fun e he => absurd he (Nat.not_lt_zero e)⟩, fun z => z.1⟩) (fun z => absurd z (by omega)) ⟨by omega, by omega⟩
  · intro f3 b i1 i2 i3 i4
    obtain ⟨o1, o2, o3⟩ := colB_ok (s := s) (N := 9) (k := 0) (by omega)
    have hb0 := i3 (by omega)
    have hxl := y1 _ o1
    have hend : ∀ d, d = (if fxB s last G wh last (colB s 9 0) < 0 then -b else b) → X shM mX11_findFactors 298 [.ref 0, .int (nI s), .int (nI last), .long (i64 wh), .null, .long (i64 b), .null, .int (nI last)] [.long (i64 d)] (sL (sL (ffS S f g (pcb s 9)) 12 h2) 10 f3) (fun r S' => r = none ∧ ∃ f g m h f', S' = sL (sL (ffS S f g m) 12 h) 10 f' ∧ ∀ i, i < 9 → f' i = i64 (facB v s i)) := by
      intro d hd
      obtain ⟨d0, d1⟩ := y4 b d i2 hb0 hd
      have hdb : d = -b ∨ d = b := by rw [hd]; split <;> simp
      refine x_lstore dX11_findFactors_298 rfl ?_
      refine x_ic _ ic_0 dX11_findFactors_300 ?_
      refine x_istore dX11_findFactors_301 rfl ?_
      refine x_mono ?_ (k_ff_f (sL (ffS S f g (pcb s 9)) 12 h2) s last (fun i => fxB s last G wh last i) d wh d0 (by omega) y1 9 0 f3 (by omega) (fun i hi => by rw [if_neg (Nat.not_lt_zero i)]; exact i1 i hi))
      rintro _ _ ⟨rfl, f', rfl, j1⟩
      exact ⟨rfl, f, g, pcb s 9, h2, f', rfl, fun i hi => by rw [j1 i hi, d1 i hi]⟩
    refine x_aload_n dX11_findFactors_274 rfl ?_
    refine x_getR dX11_findFactors_275 fl_X11_42 rfl ?_
    refine x_aload_n dX11_findFactors_278 rfl ?_
    refine x_getR dX11_findFactors_279 fl_X11_45 rfl ?_
    refine x_ic _ ic_0 dX11_findFactors_282 ?_
    refine x_ialdN dX11_findFactors_283 rfl rfl (by omega) (hcol 0 (by omega)) ?_
    refine x_laldN dX11_findFactors_284 rfl rfl (by omega) (i1 _ o1) ?_
    refine x_lc _ lc_0 dX11_findFactors_285 ?_
    refine x_lcmp_ge 296 dX11_findFactors_286 dX11_findFactors_287 rfl (by omega) (by omega) (fun c287 => ?_) (fun c287 => ?_)
    · refine x_lload dX11_findFactors_296 rfl ?_
      exact hend _ (by first | rw [if_pos (by omega)] | rw [if_neg (by omega)])
    · refine x_lload dX11_findFactors_290 rfl ?_
      refine x_lnegI dX11_findFactors_292 ?_
      refine x_goto 298 dX11_findFactors_293 rfl ?_
      exact hend _ (by first | rw [if_pos (by omega)] | rw [if_neg (by omega)])
  · by_cases q : i = colB s 9 last
    · simp only [vp_updL, q, if_true]
      rw [fxB, if_pos ⟨l2, Or.inr l3⟩, l3, fzB, if_pos rfl]
    · simp only [vp_updL, q, if_false]
      show f i = _
      rw [hf0 i hi, fxB, if_neg]
      rintro ⟨z1, z2⟩
      rcases z2 with z2 | z2
      · exact absurd z2 (Nat.not_lt_zero _)
      · exact q (by rw [← z2, colB_at hi z1])
