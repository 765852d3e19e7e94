/-! THE REFERENCE: form -/
theorem dn_0 (j : Nat) : i32 (((j + 1 : Nat) : Int) - 1) = nI j := by rw [nI_i32]; congr 1; omega
theorem dn_1 (j : Nat) : nI j + Int32.ofInt (-1) = i32 ((j : Int) - 1) := by rw [show Int32.ofInt (-1) = i32 (-1) from rfl, nI_i32, i32_add]; congr 1
def fmS (r : Nat → Nat) (L : List Nat) (g : Nat → Int32) (k : Nat) : Nat → Int32 :=
  if g k = 0 then g else if bdB r k = true then upd g k (nI 0) else match brL L k with
    | none => g
    | some q => spR g k (L.getD q 0)
def fmR (r : Nat → Nat) (L : List Nat) : Nat → (Nat → Int32) → (Nat → Int32)
  | 0, g => g
  | j + 1, g => fmR r L j (fmS r L g j)
set_option maxRecDepth 100000 in
set_option maxHeartbeats 4000000 in
theorem k_fm_1 (S : amS) (s b : Nat) (x : Int32) (hs : s < 512) (Q : Option Value → amS → Prop) (hq : ∀ g, (∀ k, k < 512 → g k = if k = s then nI 1 else nI 0) → X shM mX11_form 85 [.ref 0, .int (nI s), .int x, .int (nI b), .int (nI 512), .null] [] (sA S 20 g) Q) : ∀ (e k : Nat) (g : Nat → Int32), k + e = 512 → (∀ u, u < k → g u = if u = s then nI 1 else nI 0) → X shM mX11_form 53 [.ref 0, .int (nI s), .int x, .int (nI b), .int (nI k), .null] [] (sA S 20 g) Q := by
  intro e
  induction e with
  | zero =>
    intro k g h1 h2
    obtain rfl : k = 512 := by omega
    refine x_iload dX11_form_53 rfl ?_
    refine x_si _ si_512 dX11_form_55 ?_
    refine x_icmp_geN 85 dX11_form_58 rfl (by omega) (by omega) (fun c58 => ?_) (fun c58 => ?_)
    · exact hq g h2
    · exact absurd c58 (by omega)
  | succ e ih =>
    intro k g h1 h2
    refine x_iload dX11_form_53 rfl ?_
    refine x_si _ si_512 dX11_form_55 ?_
    refine x_icmp_geN 85 dX11_form_58 rfl (by omega) (by omega) (fun c58 => ?_) (fun c58 => ?_)
    · exact absurd c58 (by omega)
    · refine x_aload_n dX11_form_61 rfl ?_
      refine x_getR dX11_form_62 fl_X11_73 rfl ?_
      refine x_iload dX11_form_65 rfl ?_
      refine x_iload dX11_form_67 rfl ?_
      refine x_iload_n dX11_form_69 rfl ?_
      refine x_icmp_neN 77 dX11_form_70 rfl (by omega) (by omega) (fun c70 => ?_) (fun c70 => ?_)
      · refine x_ic _ ic_0 dX11_form_77 ?_
        refine x_iastN dX11_form_78 rfl rfl (by omega) ?_
        refine x_iincN dX11_form_79 rfl rfl ?_
        refine x_goto 53 dX11_form_82 rfl ?_
        rw [sA_sA, sA_at]
        refine ih (k + 1) _ (by omega) (fun u hu => ?_)
        by_cases q : u = k
        · subst q
          rw [upd_s]
          first | rw [if_pos c70] | rw [if_neg c70]
        · rw [upd_n _ _ q]; exact h2 u (by omega)
      · refine x_ic _ ic_1 dX11_form_73 ?_
        refine x_goto 78 dX11_form_74 rfl ?_
        refine x_iastN dX11_form_78 rfl rfl (by omega) ?_
        refine x_iincN dX11_form_79 rfl rfl ?_
        refine x_goto 53 dX11_form_82 rfl ?_
        rw [sA_sA, sA_at]
        refine ih (k + 1) _ (by omega) (fun u hu => ?_)
        by_cases q : u = k
        · subst q
          rw [upd_s]
          first | rw [if_pos c70] | rw [if_neg c70]
        · rw [upd_n _ _ q]; exact h2 u (by omega)
set_option maxRecDepth 100000 in
set_option maxHeartbeats 4000000 in
theorem k_fm_2 (S : amS) (N : Nat) (r : Nat → Nat) (L : List Nat) (hN : N ≤ 9) (hM : S.2.1 1 37 = nI N) (hr : ∀ s, s < 2 ^ N → S.2.1 6 s = nI (r s)) (hr9 : ∀ s, s < 2 ^ N → r s ≤ 9) (hn : S.1 0 12 = nI L.length) (hL : L.length ≤ 381) (hk : ∀ (k c : Nat), L[k]? = some c → S.2.1 8 k = nI c ∧ 1 ≤ c ∧ c < 512) (s b : Nat) (x : Int32) (hs : s < 2 ^ N) (hb0 : b < 512) : ∀ (j : Nat) (g : Nat → Int32) (z : Value), j ≤ s + 1 → X shM mX11_form 88 [.ref 0, .int (nI s), .int x, .int (nI b), .int (i32 ((j : Int) - 1)), z] [] (sA S 20 g) (fun q S' => q = some (.int (fmR r L j g b + nI 1000)) ∧ ∃ g', S' = sA S 20 g') := by
  have h512 := pow9 hN
  intro j
  induction j with
  | zero =>
    intro g z h1
    refine x_iload dX11_form_88 rfl ?_
    refine x_if_ltI 167 dX11_form_90 rfl (by omega) (fun c90 => ?_) (fun c90 => ?_)
    · refine x_aload_n dX11_form_167 rfl ?_
      refine x_getR dX11_form_168 fl_X11_73 rfl ?_
      refine x_iload_n dX11_form_171 rfl ?_
      refine x_ialdN dX11_form_172 rfl rfl (by omega) ((show (sA S 20 g).2.1 20 b = g b from rfl)) ?_
      refine x_si _ si_1000 dX11_form_173 ?_
      refine x_iadd dX11_form_176 ?_
      refine x_iretI dX11_form_177 rfl ?_
      exact ⟨rfl, g, rfl⟩
    · exact absurd c90 (by omega)
  | succ j ih =>
    intro g z h1
    have hj : j < 2 ^ N := by omega
    rw [dn_0, show fmR r L (j + 1) g b = fmR r L j (fmS r L g j) b from rfl]
    refine x_iload dX11_form_88 rfl ?_
    refine x_topI ?_
    refine x_if_ltI 167 dX11_form_90 rfl (by omega) (fun c90 => ?_) (fun c90 => ?_)
    · exact absurd c90 (by omega)
    · refine x_aload_n dX11_form_93 rfl ?_
      refine x_getR dX11_form_94 fl_X11_73 rfl ?_
      refine x_iload dX11_form_97 rfl ?_
      refine x_ialdN dX11_form_99 rfl rfl (by omega) ((show (sA S 20 g).2.1 20 j = g j from rfl)) ?_
      refine x_if_eq 120 dX11_form_100 rfl (fun c100 => ?_) (fun c100 => ?_)
      · refine x_aload_n dX11_form_120 rfl ?_
        refine x_getR dX11_form_121 fl_X11_73 rfl ?_
        refine x_iload dX11_form_124 rfl ?_
        refine x_ialdN dX11_form_126 rfl rfl (by omega) (c100) ?_
        refine x_if_ne 134 dX11_form_127 rfl (fun c127 => ?_) (fun c127 => ?_)
        · exact absurd rfl c127
        · refine x_ic _ ic_m1 dX11_form_130 ?_
          refine x_goto 140 dX11_form_131 rfl ?_
          refine x_istore dX11_form_140 rfl ?_
          refine x_iload dX11_form_142 rfl ?_
          refine x_ic _ ic_m1 dX11_form_144 ?_
          refine x_icmp_eqI 161 dX11_form_145 rfl (by omega) (by omega) (fun c145 => ?_) (fun c145 => ?_)
          · refine x_iinc dX11_form_161 rfl rfl ?_
            refine x_goto 88 dX11_form_164 rfl ?_
            rw [dn_1, show fmS r L g j = g from by rw [fmS, if_pos c100]]
            exact ih _ _ (by omega)
          · exact absurd rfl c145
      · refine x_aload_n dX11_form_103 rfl ?_
        refine x_iload dX11_form_104 rfl ?_
        refine x_v1d (N := mX11_isBound) dX11_form_106 ml_X11_133 nv_X11_isBound rfl rfl (k_isBound (sA S 20 g) N r hN hM hr hr9 j hj) ?_
        refine x_if_eqB 120 dX11_form_109 rfl (fun c109 => ?_) (fun c109 => ?_)
        · refine x_aload_n dX11_form_120 rfl ?_
          refine x_getR dX11_form_121 fl_X11_73 rfl ?_
          refine x_iload dX11_form_124 rfl ?_
          refine x_ialdN dX11_form_126 rfl rfl (by omega) ((show (sA S 20 g).2.1 20 j = g j from rfl)) ?_
          refine x_if_ne 134 dX11_form_127 rfl (fun c127 => ?_) (fun c127 => ?_)
          · refine x_aload_n dX11_form_134 rfl ?_
            refine x_iload dX11_form_135 rfl ?_
            refine x_v1d (N := mX11_broken) dX11_form_137 ml_X11_231 nv_X11_broken rfl rfl (k_broken (sA S 20 g) N r L hN hM hr hr9 hn hL hk j (by omega)) ?_
            rcases hb : brL L j with _ | q
            · rw [show ixA none = i32 (-1) from rfl]
              refine x_istore dX11_form_140 rfl ?_
              refine x_iload dX11_form_142 rfl ?_
              refine x_ic _ ic_m1 dX11_form_144 ?_
              refine x_icmp_eqI 161 dX11_form_145 rfl (by omega) (by omega) (fun c145 => ?_) (fun c145 => ?_)
              · refine x_iinc dX11_form_161 rfl rfl ?_
                refine x_goto 88 dX11_form_164 rfl ?_
                rw [dn_1, show fmS r L g j = g from by rw [fmS, if_neg c100, if_neg (by rw [c109]; decide), hb]]
                exact ih _ _ (by omega)
              · exact absurd rfl c145
            · rw [show ixA (some q) = nI q from rfl]
              have hq := brL_lt hb
              obtain ⟨c, hc⟩ : ∃ c, L[q]? = some c := ⟨_, List.getElem?_eq_getElem hq⟩
              obtain ⟨hc1, hc2, hc3⟩ := hk q c hc
              refine x_istore dX11_form_140 rfl ?_
              refine x_iload dX11_form_142 rfl ?_
              refine x_ic _ ic_m1 dX11_form_144 ?_
              refine x_topI2 ?_
              refine x_icmp_eqI 161 dX11_form_145 rfl (by omega) (by omega) (fun c145 => ?_) (fun c145 => ?_)
              · omega
              · refine x_aload_n dX11_form_148 rfl ?_
                refine x_iload dX11_form_149 rfl ?_
                refine x_aload_n dX11_form_151 rfl ?_
                refine x_getR dX11_form_152 fl_X11_36 rfl ?_
                refine x_iload dX11_form_155 rfl ?_
                refine x_ialdN dX11_form_157 rfl rfl (by omega) (hc1) ?_
                refine x_v2n (N := mX11_spread) dX11_form_158 ml_X11_240 nv_X11_spread rfl rfl (k_spread (sA S 20 g) j c (by omega) hc3 hc2) ?_
                rw [sA_sA, sA_at]
                refine x_iinc dX11_form_161 rfl rfl ?_
                refine x_goto 88 dX11_form_164 rfl ?_
                rw [dn_1, show fmS r L g j = spR g j c from by rw [fmS, if_neg c100, if_neg (by rw [c109]; decide), hb]; show spR g j (L.getD q 0) = _; rw [List.getD_eq_getElem?_getD, hc]; rfl]
                exact ih _ _ (by omega)
          · exact absurd c127 c100
        · refine x_aload_n dX11_form_112 rfl ?_
          refine x_getR dX11_form_113 fl_X11_73 rfl ?_
          refine x_iload dX11_form_116 rfl ?_
          refine x_ic _ ic_0 dX11_form_118 ?_
          refine x_iastN dX11_form_119 rfl rfl (by omega) ?_
          rw [sA_sA, sA_at]
          refine x_aload_n dX11_form_120 rfl ?_
          refine x_getR dX11_form_121 fl_X11_73 rfl ?_
          refine x_iload dX11_form_124 rfl ?_
          refine x_ialdN dX11_form_126 rfl rfl (by omega) (upd_s _ _ _) ?_
          refine x_if_neN 134 dX11_form_127 rfl (by omega) (fun c127 => ?_) (fun c127 => ?_)
          · exact absurd rfl c127
          · refine x_ic _ ic_m1 dX11_form_130 ?_
            refine x_goto 140 dX11_form_131 rfl ?_
            refine x_istore dX11_form_140 rfl ?_
            refine x_iload dX11_form_142 rfl ?_
            refine x_ic _ ic_m1 dX11_form_144 ?_
            refine x_icmp_eqI 161 dX11_form_145 rfl (by omega) (by omega) (fun c145 => ?_) (fun c145 => ?_)
            · refine x_iinc dX11_form_161 rfl rfl ?_
              refine x_goto 88 dX11_form_164 rfl ?_
              rw [dn_1, show fmS r L g j = upd g j (nI 0) from by rw [fmS, if_neg c100, if_pos c109]]
              exact ih _ _ (by omega)
            · exact absurd rfl c145
set_option maxRecDepth 100000 in
set_option maxHeartbeats 4000000 in
theorem k_form_bad (S : amS) (a : Ar) (hs : List Ar) (tx : List Nat) (u0 u1 u2 ck co : Int32) (hc : mCore S a hs tx u0 u1 u2 ck co) (x y : Int32) (hxy : ¬ ∃ s, s < 2 ^ a.2.1 ∧ x = nI s ∧ pc9 s ≤ 4 ∧ 0 ≤ y) : X shM mX11_form 0 [.ref 0, .int x, .int y, .null, .null, .null] [] S (fun r S' => r = some (.int (i32 (-2))) ∧ mCore S' a hs tx (u0 + nI 1) u1 u2 ck co) := by
  have hA := hc.1.1
  have hm := hc.1.2
  obtain ⟨a1, a2, a3, a4, a5, a6, a7⟩ := id hA
  have h512 := pow9 a3
  have hr9 : ∀ t, t < 2 ^ a.2.1 → rkV a.2.2 t ≤ 9 := fun t ht => Nat.le_trans (rkV_le (by omega)) (pc9_le t (by omega))
  refine x_aload_n dX11_form_0 rfl ?_
  refine x_iload_n dX11_form_1 rfl ?_
  refine x_v1d (N := mX11_isSet) dX11_form_2 ml_X11_193 nv_X11_isSet rfl rfl (k_isSet S a.2.1 a3 hm.2.1 _) ?_
  refine x_if_eqB 20 dX11_form_5 rfl (fun c5 => ?_) (fun c5 => ?_)
  · refine x_aload_n dX11_form_20 rfl ?_
    refine x_bi _ bi_m2 dX11_form_21 ?_
    refine x_v1 (N := mX11_refuses) dX11_form_23 ml_X11_89 nv_X11_refuses rfl rfl (k_bad S a hs tx u0 u1 u2 ck co hc) ?_
    rintro _ S' ⟨rfl, hc'⟩
    refine x_iretI dX11_form_26 rfl ?_
    exact ⟨rfl, hc'⟩
  · have hp := Nat.two_pow_pos a.2.1
    rw [in_R _ (by omega), show 2 ^ a.2.1 - 1 + 1 = 2 ^ a.2.1 by omega] at c5
    obtain ⟨s, hs0, rfl⟩ := c5
    have hp9 := pc9_le s (by omega)
    refine x_iload_n dX11_form_8 rfl ?_
    refine x_s1d (N := mX11_bits) dX11_form_9 ml_X11_123 ns_X11_bits rfl (k_bits S s (by omega)) ?_
    refine x_ic _ ic_4 dX11_form_12 ?_
    refine x_icmp_gtN 20 dX11_form_13 rfl (by omega) (by omega) (fun c13 => ?_) (fun c13 => ?_)
    · refine x_aload_n dX11_form_20 rfl ?_
      refine x_bi _ bi_m2 dX11_form_21 ?_
      refine x_v1 (N := mX11_refuses) dX11_form_23 ml_X11_89 nv_X11_refuses rfl rfl (k_bad S a hs tx u0 u1 u2 ck co hc) ?_
      rintro _ S' ⟨rfl, hc'⟩
      refine x_iretI dX11_form_26 rfl ?_
      exact ⟨rfl, hc'⟩
    · refine x_iload_n dX11_form_16 rfl ?_
      refine x_if_ge 27 dX11_form_17 rfl (fun c17 => ?_) (fun c17 => ?_)
      · exact absurd ⟨s, hs0, rfl, c13, c17⟩ hxy
      · refine x_aload_n dX11_form_20 rfl ?_
        refine x_bi _ bi_m2 dX11_form_21 ?_
        refine x_v1 (N := mX11_refuses) dX11_form_23 ml_X11_89 nv_X11_refuses rfl rfl (k_bad S a hs tx u0 u1 u2 ck co hc) ?_
        rintro _ S' ⟨rfl, hc'⟩
        refine x_iretI dX11_form_26 rfl ?_
        exact ⟨rfl, hc'⟩
set_option maxRecDepth 100000 in
set_option maxHeartbeats 4000000 in
theorem k_form_no (S : amS) (a : Ar) (hs : List Ar) (tx : List Nat) (u0 u1 u2 ck co : Int32) (hc : mCore S a hs tx u0 u1 u2 ck co) (s i : Nat) (hs0 : s < 2 ^ a.2.1) (hp4 : pc9 s ≤ 4) (hi : i < 2 ^ 31) (hno : (baL (rkV a.2.2) (ringsB a.2.2 a.2.1 5) a.2.1 (pc9 s))[i]? = none) : X shM mX11_form 0 [.ref 0, .int (nI s), .int (nI i), .null, .null, .null] [] S (fun r S' => r = some (.int (i32 (-3))) ∧ mCore S' a hs tx u0 (u1 + nI 1) u2 ck co) := by
  have hA := hc.1.1
  have hm := hc.1.2
  obtain ⟨a1, a2, a3, a4, a5, a6, a7⟩ := id hA
  have h512 := pow9 a3
  have hr9 : ∀ t, t < 2 ^ a.2.1 → rkV a.2.2 t ≤ 9 := fun t ht => Nat.le_trans (rkV_le (by omega)) (pc9_le t (by omega))
  refine x_aload_n dX11_form_0 rfl ?_
  refine x_iload_n dX11_form_1 rfl ?_
  refine x_v1d (N := mX11_isSet) dX11_form_2 ml_X11_193 nv_X11_isSet rfl rfl (k_isSet S a.2.1 a3 hm.2.1 _) ?_
  refine x_if_eqB 20 dX11_form_5 rfl (fun c5 => ?_) (fun c5 => ?_)
  · have hp := Nat.two_pow_pos a.2.1
    rw [Bool.eq_false_iff, ne_eq, in_R _ (by omega), show 2 ^ a.2.1 - 1 + 1 = 2 ^ a.2.1 by omega] at c5
    exact absurd (InR_in hs0) c5
  · refine x_iload_n dX11_form_8 rfl ?_
    refine x_s1d (N := mX11_bits) dX11_form_9 ml_X11_123 ns_X11_bits rfl (k_bits S s (by omega)) ?_
    refine x_ic _ ic_4 dX11_form_12 ?_
    refine x_icmp_gtN 20 dX11_form_13 rfl (by omega) (by omega) (fun c13 => ?_) (fun c13 => ?_)
    · omega
    · refine x_iload_n dX11_form_16 rfl ?_
      refine x_topI ?_
      refine x_if_geI 27 dX11_form_17 rfl (by omega) (fun c17 => ?_) (fun c17 => ?_)
      · refine x_aload_n dX11_form_27 rfl ?_
        refine x_iload_n dX11_form_28 rfl ?_
        refine x_s1d (N := mX11_bits) dX11_form_29 ml_X11_123 ns_X11_bits rfl (k_bits S s (by omega)) ?_
        refine x_iload_n dX11_form_32 rfl ?_
        refine x_v2 (N := mX11_baseOf) dX11_form_33 ml_X11_237 nv_X11_baseOf rfl rfl (k_baseOf S a hs tx u0 u1 u2 ck co hc (pc9 s) hp4 (nI i) (by rw [nI_i32, i32_lt (by omega) (by omega)]; omega)) ?_
        rintro _ S' ⟨rfl, hc', hl⟩
        rw [show lAns (baL (rkV a.2.2) (ringsB a.2.2 a.2.1 5) a.2.1 (pc9 s)) (nI i) = i32 (-5) from by rw [lAns, if_neg (nI_m1 hi), nI_toInt hi, Int.toNat_natCast, hno]]
        refine x_istore_n dX11_form_36 rfl ?_
        refine x_iload_n dX11_form_37 rfl ?_
        refine x_bi _ bi_m5 dX11_form_38 ?_
        refine x_icmp_neI 50 dX11_form_40 rfl (by omega) (by omega) (fun c40 => ?_) (fun c40 => ?_)
        · exact absurd rfl c40
        · refine x_aload_n dX11_form_43 rfl ?_
          refine x_bi _ bi_m3 dX11_form_44 ?_
          refine x_v1 (N := mX11_refuses) dX11_form_46 ml_X11_89 nv_X11_refuses rfl rfl (k_no S' a hs tx u0 u1 u2 ck co hc') ?_
          rintro _ S'' ⟨rfl, hc''⟩
          refine x_iretI dX11_form_49 rfl ?_
          exact ⟨rfl, hc''⟩
      · omega
set_option maxRecDepth 100000 in
set_option maxHeartbeats 4000000 in
theorem k_form_ok0 (S : amS) (a : Ar) (hs : List Ar) (tx : List Nat) (u0 u1 u2 ck co : Int32) (hc : mCore S a hs tx u0 u1 u2 ck co) (s i : Nat) (hs0 : s < 2 ^ a.2.1) (hp4 : pc9 s ≤ 4) (hi : i < 2 ^ 31) (b : Nat) (hb : (baL (rkV a.2.2) (ringsB a.2.2 a.2.1 5) a.2.1 (pc9 s))[i]? = some b) : X shM mX11_form 0 [.ref 0, .int (nI s), .int (nI i), .null, .null, .null] [] S (fun r S' => ∃ g : Nat → Int32, r = some (.int (fmR (rkV a.2.2) (ringsB a.2.2 a.2.1 5) (s + 1) g b + nI 1000)) ∧ mCore S' a hs tx u0 u1 u2 ck co ∧ ∀ k, k < 512 → g k = if k = s then nI 1 else nI 0) := by
  have hA := hc.1.1
  have hm := hc.1.2
  obtain ⟨a1, a2, a3, a4, a5, a6, a7⟩ := id hA
  have h512 := pow9 a3
  have hr9 : ∀ t, t < 2 ^ a.2.1 → rkV a.2.2 t ≤ 9 := fun t ht => Nat.le_trans (rkV_le (by omega)) (pc9_le t (by omega))
  refine x_aload_n dX11_form_0 rfl ?_
  refine x_iload_n dX11_form_1 rfl ?_
  refine x_v1d (N := mX11_isSet) dX11_form_2 ml_X11_193 nv_X11_isSet rfl rfl (k_isSet S a.2.1 a3 hm.2.1 _) ?_
  refine x_if_eqB 20 dX11_form_5 rfl (fun c5 => ?_) (fun c5 => ?_)
  · have hp := Nat.two_pow_pos a.2.1
    rw [Bool.eq_false_iff, ne_eq, in_R _ (by omega), show 2 ^ a.2.1 - 1 + 1 = 2 ^ a.2.1 by omega] at c5
    exact absurd (InR_in hs0) c5
  · refine x_iload_n dX11_form_8 rfl ?_
    refine x_s1d (N := mX11_bits) dX11_form_9 ml_X11_123 ns_X11_bits rfl (k_bits S s (by omega)) ?_
    refine x_ic _ ic_4 dX11_form_12 ?_
    refine x_icmp_gtN 20 dX11_form_13 rfl (by omega) (by omega) (fun c13 => ?_) (fun c13 => ?_)
    · omega
    · refine x_iload_n dX11_form_16 rfl ?_
      refine x_topI ?_
      refine x_if_geI 27 dX11_form_17 rfl (by omega) (fun c17 => ?_) (fun c17 => ?_)
      · refine x_aload_n dX11_form_27 rfl ?_
        refine x_iload_n dX11_form_28 rfl ?_
        refine x_s1d (N := mX11_bits) dX11_form_29 ml_X11_123 ns_X11_bits rfl (k_bits S s (by omega)) ?_
        refine x_iload_n dX11_form_32 rfl ?_
        refine x_v2 (N := mX11_baseOf) dX11_form_33 ml_X11_237 nv_X11_baseOf rfl rfl (k_baseOf S a hs tx u0 u1 u2 ck co hc (pc9 s) hp4 (nI i) (by rw [nI_i32, i32_lt (by omega) (by omega)]; omega)) ?_
        rintro _ S' ⟨rfl, hc', hl⟩
        rw [show lAns (baL (rkV a.2.2) (ringsB a.2.2 a.2.1 5) a.2.1 (pc9 s)) (nI i) = nI b from lAns_at hb hi]
        have hbm := List.mem_of_getElem? hb
        rw [baL, List.mem_filter, List.mem_range] at hbm
        have hb1 := hbm.1
        refine x_istore_n dX11_form_36 rfl ?_
        refine x_iload_n dX11_form_37 rfl ?_
        refine x_bi _ bi_m5 dX11_form_38 ?_
        refine x_topI2 ?_
        refine x_icmp_neI 50 dX11_form_40 rfl (by omega) (by omega) (fun c40 => ?_) (fun c40 => ?_)
        · refine x_ic _ ic_0 dX11_form_50 ?_
          refine x_istore dX11_form_51 rfl ?_
          refine x_st (sA_self S' 20) ?_
          refine k_fm_1 S' s b (nI i) (by omega) _ (fun g hg => ?_) 512 0 _ (by omega) (fun u hu => absurd hu (Nat.not_lt_zero u))
          refine x_iload_n dX11_form_85 rfl ?_
          refine x_istore dX11_form_86 rfl ?_
          have hlen := ringsB_le a.2.2 a3 4 (2 ^ a.2.1) (by omega) (Nat.le_refl _)
          have := k_fm_2 S' a.2.1 (rkV a.2.2) (ringsB a.2.2 a.2.1 5) a3 hc'.1.2.2.1 hl.1 hr9 hl.2.1 hlen (fun k c hk => by
            obtain ⟨r1, r2, r3, r4⟩ := rings_mem 5 k c hk
            refine ⟨(hl.2.2 k c hk).1, ?_, by omega⟩
            by_cases q : c = 0
            · subst q; exact absurd r3 (by decide)
            · omega) s b (nI i) hs0 (by omega) (s + 1) g .null (Nat.le_refl _)
          rw [dn_0] at this
          refine x_mono ?_ this
          rintro _ _ ⟨rfl, g', rfl⟩
          exact ⟨g, rfl, hc'.keep (fun i hi => by show va_up S'.2.1 20 g' i = _; rw [va_up_n _ _ (by omega)]) (fun k hk => rfl), hg⟩
        · omega
      · omega
