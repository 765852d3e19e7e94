/-! THE REFERENCE: sign, form -/
def sgS (g : Nat → Int32) (s : Nat) : Nat → Int32
  | 0 => if s = 0 then nI 1 else nI 0
  | l + 1 => sgS g s l - (if l ^^^ (l &&& s) = 0 then g l else nI 0)
def sgV (r : Nat → Nat) (N fl : Nat) (g : Nat → Int32) (s : Nat) : Int32 := if s ^^^ (s &&& fl) = 0 ∧ flB r N s = true then sgS g s s else nI 0
theorem sgS_ext {g g' : Nat → Int32} {s : Nat} : ∀ n, (∀ l, l < n → g l = g' l) → sgS g s n = sgS g' s n := by
  intro n
  induction n with
  | zero => intro _; rfl
  | succ n ih => intro h; simp only [sgS]; rw [ih (fun l hl => h l (by omega)), h n (by omega)]
theorem sgV_ext {r : Nat → Nat} {N fl : Nat} {g g' : Nat → Int32} {s : Nat} (h : ∀ l, l < s → g l = g' l) : sgV r N fl g s = sgV r N fl g' s := by
  unfold sgV
  rw [sgS_ext s h]
theorem sg_step {r : Nat → Nat} {N fl t : Nat} {g g' : Nat → Int32} (h : ∀ s, s < t → g s = sgV r N fl g s) (he : ∀ s, s < t → g' s = g s) (ht : g' t = sgV r N fl g' t) : ∀ s, s < t + 1 → g' s = sgV r N fl g' s := by
  intro s hs
  by_cases q : s = t
  · subst q; exact ht
  · rw [he s (by omega), h s (by omega)]
    exact sgV_ext (fun l hl => (he l (by omega)).symm)
set_option maxRecDepth 100000 in
set_option maxHeartbeats 4000000 in
theorem k_sg_2 (S : amS) (fl t : Nat) (ht : t < 512) (g0 : Nat → Int32) (Q : Option Value → amS → Prop) (hq : ∀ g, (∀ s, s ≠ t → g s = g0 s) → g t = sgS g0 t t → X shM mX11_sign 119 [.ref 0, .int (nI fl), .int (nI t), .int (nI t)] [] (sA S 14 g) Q) : ∀ (e l : Nat) (g : Nat → Int32), l + e = t → (∀ s, s ≠ t → g s = g0 s) → g t = sgS g0 t l → X shM mX11_sign 81 [.ref 0, .int (nI fl), .int (nI t), .int (nI l)] [] (sA S 14 g) Q := by
  intro e
  induction e with
  | zero =>
    intro l g h1 h2 h3
    obtain rfl : l = t := by omega
    refine x_iload_n dX11_sign_81 rfl ?_
    refine x_iload_n dX11_sign_82 rfl ?_
    refine x_icmp_geN 119 dX11_sign_83 rfl (by omega) (by omega) (fun c83 => ?_) (fun c83 => ?_)
    · exact hq g h2 h3
    · exact absurd c83 (by omega)
  | succ e ih =>
    intro l g h1 h2 h3
    have hx := xor_and_le l t
    refine x_iload_n dX11_sign_81 rfl ?_
    refine x_iload_n dX11_sign_82 rfl ?_
    refine x_icmp_geN 119 dX11_sign_83 rfl (by omega) (by omega) (fun c83 => ?_) (fun c83 => ?_)
    · exact absurd c83 (by omega)
    · refine x_aload_n dX11_sign_86 rfl ?_
      refine x_getR dX11_sign_87 fl_X11_54 rfl ?_
      refine x_iload_n dX11_sign_90 rfl ?_
      refine x_dup2 dX11_sign_91 rfl rfl ?_
      refine x_ialdN dX11_sign_92 rfl rfl (by omega) (h3) ?_
      refine x_iload_n dX11_sign_93 rfl ?_
      refine x_iload_n dX11_sign_94 rfl ?_
      refine x_ic _ ic_m1 dX11_sign_95 ?_
      refine x_ixor dX11_sign_96 ?_
      refine x_iandNX dX11_sign_97 ?_
      refine x_if_neN 110 dX11_sign_98 rfl (by omega) (fun c98 => ?_) (fun c98 => ?_)
      · refine x_ic _ ic_0 dX11_sign_110 ?_
        refine x_isub dX11_sign_111 ?_
        refine x_iastN dX11_sign_112 rfl rfl (by omega) ?_
        refine x_iincN dX11_sign_113 rfl rfl ?_
        refine x_goto 81 dX11_sign_116 rfl ?_
        rw [sA_sA, sA_at]
        refine ih (l + 1) _ (by omega) (fun s hs => by rw [upd_n _ _ hs]; exact h2 s hs) ?_
        rw [upd_s, sgS]
        first | rw [if_pos c98] | rw [if_neg c98]
      · refine x_aload_n dX11_sign_101 rfl ?_
        refine x_getR dX11_sign_102 fl_X11_54 rfl ?_
        refine x_iload_n dX11_sign_105 rfl ?_
        refine x_ialdN dX11_sign_106 rfl rfl (by omega) (h2 l (by omega)) ?_
        refine x_goto 111 dX11_sign_107 rfl ?_
        refine x_isub dX11_sign_111 ?_
        refine x_iastN dX11_sign_112 rfl rfl (by omega) ?_
        refine x_iincN dX11_sign_113 rfl rfl ?_
        refine x_goto 81 dX11_sign_116 rfl ?_
        rw [sA_sA, sA_at]
        refine ih (l + 1) _ (by omega) (fun s hs => by rw [upd_n _ _ hs]; exact h2 s hs) ?_
        rw [upd_s, sgS]
        first | rw [if_pos c98] | rw [if_neg c98]
set_option maxRecDepth 100000 in
set_option maxHeartbeats 4000000 in
theorem k_sg_1 (S : amS) (N : Nat) (r : Nat → Nat) (hN : N ≤ 9) (hM : S.2.1 1 37 = nI N) (hr : ∀ s, s < 2 ^ N → S.2.1 6 s = nI (r s)) (hr9 : ∀ s, s < 2 ^ N → r s ≤ 9) (fl : Nat) (hfl : fl < 2 ^ N) : ∀ (e t : Nat) (g : Nat → Int32) (z : Value), t + e = fl + 1 → (∀ s, s < t → g s = sgV r N fl g s) → X shM mX11_sign 36 [.ref 0, .int (nI fl), .int (nI t), z] [] (sA S 14 g) (fun q S' => ∃ g', q = some (.int (g' fl + nI 1000)) ∧ S' = sA S 14 g' ∧ ∀ s, s < fl + 1 → g' s = sgV r N fl g' s) := by
  have h512 := pow9 hN
  intro e
  induction e with
  | zero =>
    intro t g z h1 h2
    obtain rfl : t = fl + 1 := by omega
    refine x_iload_n dX11_sign_36 rfl ?_
    refine x_iload_n dX11_sign_37 rfl ?_
    refine x_icmp_gtN 125 dX11_sign_38 rfl (by omega) (by omega) (fun c38 => ?_) (fun c38 => ?_)
    · refine x_aload_n dX11_sign_125 rfl ?_
      refine x_getR dX11_sign_126 fl_X11_54 rfl ?_
      refine x_iload_n dX11_sign_129 rfl ?_
      refine x_ialdN dX11_sign_130 rfl rfl (by omega) (rfl) ?_
      refine x_si _ si_1000 dX11_sign_131 ?_
      refine x_iadd dX11_sign_134 ?_
      refine x_iretI dX11_sign_135 rfl ?_
      exact ⟨g, rfl, rfl, h2⟩
    · exact absurd c38 (by omega)
  | succ e ih =>
    intro t g z h1 h2
    have ht : t < 2 ^ N := by omega
    have hx := xor_and_le t fl
    refine x_iload_n dX11_sign_36 rfl ?_
    refine x_iload_n dX11_sign_37 rfl ?_
    refine x_icmp_gtN 125 dX11_sign_38 rfl (by omega) (by omega) (fun c38 => ?_) (fun c38 => ?_)
    · exact absurd c38 (by omega)
    · refine x_aload_n dX11_sign_41 rfl ?_
      refine x_getR dX11_sign_42 fl_X11_54 rfl ?_
      refine x_iload_n dX11_sign_45 rfl ?_
      refine x_ic _ ic_0 dX11_sign_46 ?_
      refine x_iastN dX11_sign_47 rfl rfl (by omega) ?_
      rw [sA_sA, sA_at]
      refine x_iload_n dX11_sign_48 rfl ?_
      refine x_iload_n dX11_sign_49 rfl ?_
      refine x_ic _ ic_m1 dX11_sign_50 ?_
      refine x_ixor dX11_sign_51 ?_
      refine x_iandNX dX11_sign_52 ?_
      refine x_if_neN 119 dX11_sign_53 rfl (by omega) (fun c53 => ?_) (fun c53 => ?_)
      · refine x_iincN dX11_sign_119 rfl rfl ?_
        refine x_goto 36 dX11_sign_122 rfl ?_
        refine ih (t + 1) _ _ (by omega) (sg_step h2 (fun s hs => upd_n _ _ (by omega)) ?_)
        rw [upd_s, sgV, if_neg (fun z => c53 z.1)]
      · refine x_aload_n dX11_sign_56 rfl ?_
        refine x_iload_n dX11_sign_57 rfl ?_
        refine x_v1d (N := mX11_isFlat) dX11_sign_58 ml_X11_199 nv_X11_isFlat rfl rfl (k_isFlat (sA S 14 (upd g t (nI 0))) N r hN hM hr hr9 t ht) ?_
        refine x_if_eqB 119 dX11_sign_61 rfl (fun c61 => ?_) (fun c61 => ?_)
        · refine x_iincN dX11_sign_119 rfl rfl ?_
          refine x_goto 36 dX11_sign_122 rfl ?_
          refine ih (t + 1) _ _ (by omega) (sg_step h2 (fun s hs => upd_n _ _ (by omega)) ?_)
          rw [upd_s, sgV, if_neg (fun z => by rw [c61] at z; cases z.2)]
        · refine x_aload_n dX11_sign_64 rfl ?_
          refine x_getR dX11_sign_65 fl_X11_54 rfl ?_
          refine x_iload_n dX11_sign_68 rfl ?_
          refine x_iload_n dX11_sign_69 rfl ?_
          refine x_if_neN 77 dX11_sign_70 rfl (by omega) (fun c70 => ?_) (fun c70 => ?_)
          · refine x_ic _ ic_0 dX11_sign_77 ?_
            refine x_iastN dX11_sign_78 rfl rfl (by omega) ?_
            refine x_ic _ ic_0 dX11_sign_79 ?_
            refine x_istore_n dX11_sign_80 rfl ?_
            rw [sA_sA, sA_at]
            refine k_sg_2 S fl t (by omega) _ _ (fun g3 e1 e2 => ?_) t 0 _ (by omega) (fun s hs => rfl) ?_
            · refine x_iincN dX11_sign_119 rfl rfl ?_
              refine x_goto 36 dX11_sign_122 rfl ?_
              refine ih (t + 1) _ _ (by omega) (sg_step h2 (fun s hs => by rw [e1 s (by omega), upd_n _ _ (by omega), upd_n _ _ (by omega)]) ?_)
              rw [e2, sgV, if_pos ⟨c53, c61⟩]
              exact sgS_ext t (fun l hl => (e1 l (by omega)).symm)
            · rw [upd_s, sgS]
              first | rw [if_pos c70] | rw [if_neg c70]
          · refine x_ic _ ic_1 dX11_sign_73 ?_
            refine x_goto 78 dX11_sign_74 rfl ?_
            refine x_iastN dX11_sign_78 rfl rfl (by omega) ?_
            refine x_ic _ ic_0 dX11_sign_79 ?_
            refine x_istore_n dX11_sign_80 rfl ?_
            rw [sA_sA, sA_at]
            refine k_sg_2 S fl t (by omega) _ _ (fun g3 e1 e2 => ?_) t 0 _ (by omega) (fun s hs => rfl) ?_
            · refine x_iincN dX11_sign_119 rfl rfl ?_
              refine x_goto 36 dX11_sign_122 rfl ?_
              refine ih (t + 1) _ _ (by omega) (sg_step h2 (fun s hs => by rw [e1 s (by omega), upd_n _ _ (by omega), upd_n _ _ (by omega)]) ?_)
              rw [e2, sgV, if_pos ⟨c53, c61⟩]
              exact sgS_ext t (fun l hl => (e1 l (by omega)).symm)
            · rw [upd_s, sgS]
              first | rw [if_pos c70] | rw [if_neg c70]
set_option maxRecDepth 100000 in
set_option maxHeartbeats 4000000 in
theorem k_sign_bad (S : amS) (a : Ar) (hs : List Ar) (tx : List Nat) (u0 u1 u2 ck co : Int32) (hc : mCore S a hs tx u0 u1 u2 ck co) (x : Int32) (hx : ¬ InR x (2 ^ a.2.1)) : X shM mX11_sign 0 [.ref 0, .int x, .null, .null] [] S (fun r S' => r = some (.int (i32 (-2))) ∧ mCore S' a hs tx (u0 + nI 1) u1 u2 ck co) := by
  have hA := hc.1.1
  have hm := hc.1.2
  obtain ⟨a1, a2, a3, a4, a5, a6, a7⟩ := id hA
  have h512 := pow9 a3
  refine x_aload_n dX11_sign_0 rfl ?_
  refine x_iload_n dX11_sign_1 rfl ?_
  refine x_v1d (N := mX11_isSet) dX11_sign_2 ml_X11_193 nv_X11_isSet rfl rfl (k_isSet S a.2.1 a3 hm.2.1 _) ?_
  refine x_if_neB 15 dX11_sign_5 rfl (fun c5 => ?_) (fun c5 => ?_)
  · have hp := Nat.two_pow_pos a.2.1
    rw [in_R _ (by omega), show 2 ^ a.2.1 - 1 + 1 = 2 ^ a.2.1 by omega] at c5
    exact absurd c5 hx
  · refine x_aload_n dX11_sign_8 rfl ?_
    refine x_bi _ bi_m2 dX11_sign_9 ?_
    refine x_v1 (N := mX11_refuses) dX11_sign_11 ml_X11_89 nv_X11_refuses rfl rfl (k_bad S a hs tx u0 u1 u2 ck co hc) ?_
    rintro _ S' ⟨rfl, hc'⟩
    refine x_iretI dX11_sign_14 rfl ?_
    exact ⟨rfl, hc'⟩
set_option maxRecDepth 100000 in
set_option maxHeartbeats 4000000 in
theorem k_sign_no (S : amS) (a : Ar) (hs : List Ar) (tx : List Nat) (u0 u1 u2 ck co : Int32) (hc : mCore S a hs tx u0 u1 u2 ck co) (s : Nat) (hs0 : s < 2 ^ a.2.1) (hfl : flB (rkV a.2.2) a.2.1 s = false) : X shM mX11_sign 0 [.ref 0, .int (nI s), .null, .null] [] S (fun r S' => r = some (.int (i32 (-3))) ∧ mCore S' a hs tx u0 (u1 + nI 1) u2 ck co) := by
  have hA := hc.1.1
  have hm := hc.1.2
  obtain ⟨a1, a2, a3, a4, a5, a6, a7⟩ := id hA
  have h512 := pow9 a3
  have hr9 : ∀ t, t < 2 ^ a.2.1 → rkV a.2.2 t ≤ 9 := fun t ht => Nat.le_trans (rkV_le (by omega)) (pc9_le t (by omega))
  refine x_aload_n dX11_sign_0 rfl ?_
  refine x_iload_n dX11_sign_1 rfl ?_
  refine x_v1d (N := mX11_isSet) dX11_sign_2 ml_X11_193 nv_X11_isSet rfl rfl (k_isSet S a.2.1 a3 hm.2.1 _) ?_
  refine x_if_neB 15 dX11_sign_5 rfl (fun c5 => ?_) (fun c5 => ?_)
  · refine x_aload_n dX11_sign_15 rfl ?_
    refine x_v0 (N := mX11_lay) dX11_sign_16 ml_X11_187 nv_X11_lay rfl rfl (k_layq S a hs tx u0 u1 u2 ck co hc) ?_
    rintro _ S' ⟨rfl, hc', hl, hf⟩
    refine x_aload_n dX11_sign_19 rfl ?_
    refine x_iload_n dX11_sign_20 rfl ?_
    refine x_v1d (N := mX11_isFlat) dX11_sign_21 ml_X11_199 nv_X11_isFlat rfl rfl (k_isFlat S' a.2.1 (rkV a.2.2) a3 hc'.1.2.2.1 hl.1 hr9 s hs0) ?_
    refine x_if_neB 34 dX11_sign_24 rfl (fun c24 => ?_) (fun c24 => ?_)
    · rw [hfl] at c24; cases c24
    · refine x_aload_n dX11_sign_27 rfl ?_
      refine x_bi _ bi_m3 dX11_sign_28 ?_
      refine x_v1 (N := mX11_refuses) dX11_sign_30 ml_X11_89 nv_X11_refuses rfl rfl (k_no S' a hs tx u0 u1 u2 ck co hc') ?_
      rintro _ S'' ⟨rfl, hc''⟩
      refine x_iretI dX11_sign_33 rfl ?_
      exact ⟨rfl, hc''⟩
  · have hp := Nat.two_pow_pos a.2.1
    rw [Bool.eq_false_iff, ne_eq, in_R _ (by omega), show 2 ^ a.2.1 - 1 + 1 = 2 ^ a.2.1 by omega] at c5
    exact absurd (InR_in hs0) c5
set_option maxRecDepth 100000 in
set_option maxHeartbeats 4000000 in
theorem k_sign_ok0 (S : amS) (a : Ar) (hs : List Ar) (tx : List Nat) (u0 u1 u2 ck co : Int32) (hc : mCore S a hs tx u0 u1 u2 ck co) (s : Nat) (hs0 : s < 2 ^ a.2.1) (hfl : flB (rkV a.2.2) a.2.1 s = true) : X shM mX11_sign 0 [.ref 0, .int (nI s), .null, .null] [] S (fun r S' => ∃ g : Nat → Int32, r = some (.int (g s + nI 1000)) ∧ mCore S' a hs tx u0 u1 u2 ck co ∧ ∀ t, t < s + 1 → g t = sgV (rkV a.2.2) a.2.1 s g t) := by
  have hA := hc.1.1
  have hm := hc.1.2
  obtain ⟨a1, a2, a3, a4, a5, a6, a7⟩ := id hA
  have h512 := pow9 a3
  have hr9 : ∀ t, t < 2 ^ a.2.1 → rkV a.2.2 t ≤ 9 := fun t ht => Nat.le_trans (rkV_le (by omega)) (pc9_le t (by omega))
  refine x_aload_n dX11_sign_0 rfl ?_
  refine x_iload_n dX11_sign_1 rfl ?_
  refine x_v1d (N := mX11_isSet) dX11_sign_2 ml_X11_193 nv_X11_isSet rfl rfl (k_isSet S a.2.1 a3 hm.2.1 _) ?_
  refine x_if_neB 15 dX11_sign_5 rfl (fun c5 => ?_) (fun c5 => ?_)
  · refine x_aload_n dX11_sign_15 rfl ?_
    refine x_v0 (N := mX11_lay) dX11_sign_16 ml_X11_187 nv_X11_lay rfl rfl (k_layq S a hs tx u0 u1 u2 ck co hc) ?_
    rintro _ S' ⟨rfl, hc', hl, hf⟩
    refine x_aload_n dX11_sign_19 rfl ?_
    refine x_iload_n dX11_sign_20 rfl ?_
    refine x_v1d (N := mX11_isFlat) dX11_sign_21 ml_X11_199 nv_X11_isFlat rfl rfl (k_isFlat S' a.2.1 (rkV a.2.2) a3 hc'.1.2.2.1 hl.1 hr9 s hs0) ?_
    refine x_if_neB 34 dX11_sign_24 rfl (fun c24 => ?_) (fun c24 => ?_)
    · refine x_ic _ ic_0 dX11_sign_34 ?_
      refine x_istore_n dX11_sign_35 rfl ?_
      refine x_st (sA_self S' 14) ?_
      refine x_mono ?_ (k_sg_1 S' a.2.1 (rkV a.2.2) a3 hc'.1.2.2.1 hl.1 hr9 s hs0 (s + 1) 0 _ .null (by omega) (fun t ht => absurd ht (Nat.not_lt_zero t)))
      rintro _ _ ⟨g, rfl, rfl, hg⟩
      exact ⟨g, rfl, hc'.keep (fun i hi => by show va_up S'.2.1 14 g i = _; rw [va_up_n _ _ (by omega)]) (fun k hk => rfl), hg⟩
    · rw [hfl] at c24; cases c24
  · have hp := Nat.two_pow_pos a.2.1
    rw [Bool.eq_false_iff, ne_eq, in_R _ (by omega), show 2 ^ a.2.1 - 1 + 1 = 2 ^ a.2.1 by omega] at c5
    exact absurd (InR_in hs0) c5
/-- how many of a set are below members of another one -/
def tuN (f s : Nat) : Nat → Nat
  | 0 => 0
  | i + 1 => tuN f s i + (if f.testBit i = true then pc9 (s &&& (2 ^ i - 1)) else 0)
def tuB (f s : Nat) : Int := if tuN f s 9 % 2 = 0 then 1 else -1
theorem tuN_le (f s : Nat) (hs : s < 512) : ∀ i, tuN f s i ≤ 9 * i := by
  intro i
  induction i with
  | zero => exact Nat.le_refl _
  | succ i ih =>
    simp only [tuN]
    have h1 : s &&& (2 ^ i - 1) ≤ s := Nat.and_le_left
    have h2 := pc9_le (s &&& (2 ^ i - 1)) (by omega)
    split <;> omega
set_option maxRecDepth 100000 in
set_option maxHeartbeats 4000000 in
theorem k_tu_l (S : amS) (f s : Nat) (hf : f < 512) (hs : s < 512) : ∀ (e i : Nat), i + e = 9 → X shM mX11_turned 4 [.int (nI f), .int (nI s), .int (nI (tuN f s i)), .int (nI i)] [] S (fun q S' => q = some (.int (i32 (tuB f s))) ∧ S' = S) := by
  intro e
  induction e with
  | zero =>
    intro i h1
    obtain rfl : i = 9 := by omega
    have hle := tuN_le f s hs 9
    refine x_iload_n dX11_turned_4 rfl ?_
    refine x_bi _ bi_9 dX11_turned_5 ?_
    refine x_icmp_geN 41 dX11_turned_7 rfl (by omega) (by omega) (fun c7 => ?_) (fun c7 => ?_)
    · refine x_iload_n dX11_turned_41 rfl ?_
      refine x_ic _ ic_2 dX11_turned_42 ?_
      refine x_iremN dX11_turned_43 (by omega) (by omega) (by omega) ?_
      refine x_if_neN 51 dX11_turned_44 rfl (by omega) (fun c44 => ?_) (fun c44 => ?_)
      · refine x_ic _ ic_m1 dX11_turned_51 ?_
        refine x_iretI dX11_turned_52 rfl ?_
        exact ⟨by rw [tuB, if_neg c44], rfl⟩
      · refine x_ic _ ic_1 dX11_turned_47 ?_
        refine x_goto 52 dX11_turned_48 rfl ?_
        refine x_iretI dX11_turned_52 rfl ?_
        exact ⟨by rw [tuB, if_pos c44, nI_i32]; rfl, rfl⟩
    · exact absurd c7 (by omega)
  | succ e ih =>
    intro i h1
    have hle := tuN_le f s hs i
    have hp := Nat.two_pow_pos i
    have h1' : s &&& (2 ^ i - 1) ≤ s := Nat.and_le_left
    refine x_iload_n dX11_turned_4 rfl ?_
    refine x_bi _ bi_9 dX11_turned_5 ?_
    refine x_icmp_geN 41 dX11_turned_7 rfl (by omega) (by omega) (fun c7 => ?_) (fun c7 => ?_)
    · exact absurd c7 (by omega)
    · refine x_iload_n dX11_turned_10 rfl ?_
      refine x_iload_n dX11_turned_11 rfl ?_
      refine x_iload_n dX11_turned_12 rfl ?_
      refine x_s2d (N := mX11_has) dX11_turned_13 ml_X11_97 ns_X11_has rfl (k_has S f i hf (by omega)) ?_
      refine x_if_eqB 32 dX11_turned_16 rfl (fun c16 => ?_) (fun c16 => ?_)
      · refine x_ic _ ic_0 dX11_turned_32 ?_
        refine x_iaddN dX11_turned_33 ?_
        refine x_istore_n dX11_turned_34 rfl ?_
        refine x_iincN dX11_turned_35 rfl rfl ?_
        refine x_goto 4 dX11_turned_38 rfl ?_
        have := ih (i + 1) (by omega)
        rw [tuN, if_neg (by rw [c16]; decide)] at this
        exact this
      · refine x_iload_n dX11_turned_19 rfl ?_
        refine x_ic _ ic_1 dX11_turned_20 ?_
        refine x_iload_n dX11_turned_21 rfl ?_
        refine x_ishl1 dX11_turned_22 (by omega) ?_
        refine x_ic _ ic_1 dX11_turned_23 ?_
        refine x_isubN dX11_turned_24 (by omega) ?_
        refine x_iandN dX11_turned_25 ?_
        refine x_s1d (N := mX11_bits) dX11_turned_26 ml_X11_123 ns_X11_bits rfl (k_bits S (s &&& (2 ^ i - 1)) (by omega)) ?_
        refine x_goto 33 dX11_turned_29 rfl ?_
        refine x_iaddN dX11_turned_33 ?_
        refine x_istore_n dX11_turned_34 rfl ?_
        refine x_iincN dX11_turned_35 rfl rfl ?_
        refine x_goto 4 dX11_turned_38 rfl ?_
        have := ih (i + 1) (by omega)
        rw [tuN, if_pos c16] at this
        exact this
set_option maxRecDepth 100000 in
set_option maxHeartbeats 4000000 in
theorem k_turned (S : amS) (f s : Nat) (hf : f < 512) (hs : s < 512) : X shM mX11_turned 0 [.int (nI f), .int (nI s), .null, .null] [] S (fun q S' => q = some (.int (i32 (tuB f s))) ∧ S' = S) := by
  refine x_ic _ ic_0 dX11_turned_0 ?_
  refine x_istore_n dX11_turned_1 rfl ?_
  refine x_ic _ ic_0 dX11_turned_2 ?_
  refine x_istore_n dX11_turned_3 rfl ?_
  exact k_tu_l S f s hf hs 9 0 (by omega)
/-- the relation of a ring put in: as far as plane i -/
def spG (g0 : Nat → Int32) (by0 : Int32) (its wh ot : Nat) : Nat → Nat → Int32
  | 0 => g0
  | i + 1 => if wh.testBit i = true then upd (spG g0 by0 its wh ot i) (less its i ||| ot) (spG g0 by0 its wh ot i (less its i ||| ot) + by0 * i32 (if pcb wh i % 2 = 0 then 1 else -1) * i32 (tuB (less its i) ot)) else spG g0 by0 its wh ot i
def spR (g : Nat → Int32) (s its : Nat) : Nat → Int32 := spG (upd g s (nI 0)) (g s * i32 (tuB (its &&& (its - 1)) (s ^^^ (s &&& (its &&& (its - 1)))))) its (its &&& (its - 1)) (s ^^^ (s &&& (its &&& (its - 1)))) 9
set_option maxRecDepth 100000 in
set_option maxHeartbeats 4000000 in
theorem k_sp_l (S : amS) (s its wh le ot : Nat) (g0 : Nat → Int32) (by0 : Int32) (hi : its < 512) (hw : wh < 512) (ho : ot < 512) : ∀ (e i : Nat) (z : Value), i + e = 9 → X shM mX11_spread 46 [.ref 0, .int (nI s), .int (nI its), .int (nI wh), .int (nI le), .int (nI ot), .int by0, .int (i32 (if pcb wh i % 2 = 0 then 1 else -1)), .int (nI i), z] [] (sA S 20 (spG g0 by0 its wh ot i)) (fun q S' => q = none ∧ S' = sA S 20 (spG g0 by0 its wh ot 9)) := by
  intro e
  induction e with
  | zero =>
    intro i z h1
    obtain rfl : i = 9 := by omega
    refine x_iload dX11_spread_46 rfl ?_
    refine x_bi _ bi_9 dX11_spread_48 ?_
    refine x_icmp_geN 109 dX11_spread_50 rfl (by omega) (by omega) (fun c50 => ?_) (fun c50 => ?_)
    · refine x_ret dX11_spread_109 rfl ?_
      exact ⟨rfl, rfl⟩
    · exact absurd c50 (by omega)
  | succ e ih =>
    intro i z h1
    have hp := pow9' (b := i) (by omega)
    have hx := xor_and_le its (2 ^ i)
    have ho2 : less its i ||| ot < 512 := or_lt9 (N := 9) (less_lt (N := 9) hi) ho
    have ih' := ih (i + 1)
    have hpc : pcb wh (i + 1) = pcb wh i + (wh.testBit i).toNat := rfl
    refine x_iload dX11_spread_46 rfl ?_
    refine x_bi _ bi_9 dX11_spread_48 ?_
    refine x_icmp_geN 109 dX11_spread_50 rfl (by omega) (by omega) (fun c50 => ?_) (fun c50 => ?_)
    · exact absurd c50 (by omega)
    · refine x_iload_n dX11_spread_53 rfl ?_
      refine x_iload dX11_spread_54 rfl ?_
      refine x_s2d (N := mX11_has) dX11_spread_56 ml_X11_97 ns_X11_has rfl (k_has _ wh i hw (by omega)) ?_
      refine x_if_eqB 103 dX11_spread_59 rfl (fun c59 => ?_) (fun c59 => ?_)
      · have hp0 : pcb wh (i + 1) = pcb wh i := by rw [hpc, c59]; rfl
        rw [show spG g0 by0 its wh ot i = spG g0 by0 its wh ot (i + 1) from by rw [spG, if_neg (by rw [c59]; decide)], ← hp0]
        refine x_iincN dX11_spread_103 rfl rfl ?_
        refine x_goto 46 dX11_spread_106 rfl ?_
        exact ih (i + 1) _ (by omega)
      · refine x_iload_n dX11_spread_62 rfl ?_
        refine x_ic _ ic_1 dX11_spread_63 ?_
        refine x_iload dX11_spread_64 rfl ?_
        refine x_ishl1 dX11_spread_66 (by omega) ?_
        refine x_ic _ ic_m1 dX11_spread_67 ?_
        refine x_ixor dX11_spread_68 ?_
        refine x_iandNX dX11_spread_69 ?_
        refine x_istore dX11_spread_70 rfl ?_
        refine x_aload_n dX11_spread_72 rfl ?_
        refine x_getR dX11_spread_73 fl_X11_73 rfl ?_
        refine x_iload dX11_spread_76 rfl ?_
        refine x_iload dX11_spread_78 rfl ?_
        refine x_iorN dX11_spread_80 ?_
        refine x_dup2 dX11_spread_81 rfl rfl ?_
        refine x_ialdN dX11_spread_82 rfl rfl (ho2) (rfl) ?_
        refine x_iload dX11_spread_83 rfl ?_
        refine x_iload dX11_spread_85 rfl ?_
        refine x_imul dX11_spread_87 ?_
        refine x_iload dX11_spread_88 rfl ?_
        refine x_iload dX11_spread_90 rfl ?_
        refine x_s2d (N := mX11_turned) dX11_spread_92 ml_X11_243 ns_X11_turned rfl (k_turned _ (less its i) ot (less_lt (N := 9) hi) ho) ?_
        refine x_imul dX11_spread_95 ?_
        refine x_iadd dX11_spread_96 ?_
        refine x_iastN dX11_spread_97 rfl rfl (ho2) ?_
        refine x_iload dX11_spread_98 rfl ?_
        refine x_inegI dX11_spread_100 ?_
        refine x_istore dX11_spread_101 rfl ?_
        refine x_iincN dX11_spread_103 rfl rfl ?_
        refine x_goto 46 dX11_spread_106 rfl ?_
        rw [sA_sA, sA_at]
        rw [c59, Bool.toNat_true] at hpc
        have e1 : i32 (-(if pcb wh i % 2 = 0 then 1 else -1)) = i32 (if pcb wh (i + 1) % 2 = 0 then 1 else -1) := by
          rw [hpc]
          by_cases q : pcb wh i % 2 = 0
          · rw [if_pos q, if_neg (by omega)]
          · rw [if_neg q, if_pos (by omega)]; rfl
        rw [e1]
        have := fun z => ih (i + 1) z (by omega)
        rw [spG, if_pos c59] at this
        exact this _
set_option maxRecDepth 100000 in
set_option maxHeartbeats 4000000 in
theorem k_spread (S : amS) (s its : Nat) (hs : s < 512) (hi : its < 512) (h1 : 1 ≤ its) : X shM mX11_spread 0 [.ref 0, .int (nI s), .int (nI its), .null, .null, .null, .null, .null, .null, .null] [] S (fun q S' => q = none ∧ S' = sA S 20 (spR (S.2.1 20) s its)) := by
  have hw : its &&& (its - 1) < 512 := Nat.lt_of_le_of_lt Nat.and_le_left hi
  have ho : s ^^^ (s &&& (its &&& (its - 1))) < 512 := Nat.lt_of_le_of_lt (xor_and_le _ _) hs
  refine x_iload_n dX11_spread_0 rfl ?_
  refine x_iload_n dX11_spread_1 rfl ?_
  refine x_ic _ ic_1 dX11_spread_2 ?_
  refine x_isubN dX11_spread_3 (h1) ?_
  refine x_iandN dX11_spread_4 ?_
  refine x_istore_n dX11_spread_5 rfl ?_
  refine x_iload_n dX11_spread_6 rfl ?_
  refine x_iload_n dX11_spread_7 rfl ?_
  refine x_ixorN dX11_spread_8 ?_
  refine x_istore dX11_spread_9 rfl ?_
  refine x_iload_n dX11_spread_11 rfl ?_
  refine x_iload_n dX11_spread_12 rfl ?_
  refine x_ic _ ic_m1 dX11_spread_13 ?_
  refine x_ixor dX11_spread_14 ?_
  refine x_iandNX dX11_spread_15 ?_
  refine x_istore dX11_spread_16 rfl ?_
  refine x_aload_n dX11_spread_18 rfl ?_
  refine x_getR dX11_spread_19 fl_X11_73 rfl ?_
  refine x_iload_n dX11_spread_22 rfl ?_
  refine x_ialdN dX11_spread_23 rfl rfl (by omega) (rfl) ?_
  refine x_iload_n dX11_spread_24 rfl ?_
  refine x_iload dX11_spread_25 rfl ?_
  refine x_s2d (N := mX11_turned) dX11_spread_27 ml_X11_243 ns_X11_turned rfl (k_turned S _ _ hw ho) ?_
  refine x_imul dX11_spread_30 ?_
  refine x_istore dX11_spread_31 rfl ?_
  refine x_aload_n dX11_spread_33 rfl ?_
  refine x_getR dX11_spread_34 fl_X11_73 rfl ?_
  refine x_iload_n dX11_spread_37 rfl ?_
  refine x_ic _ ic_0 dX11_spread_38 ?_
  refine x_iastN dX11_spread_39 rfl rfl (by omega) ?_
  refine x_ic _ ic_1 dX11_spread_40 ?_
  refine x_topI ?_
  refine x_istore dX11_spread_41 rfl ?_
  refine x_ic _ ic_0 dX11_spread_43 ?_
  refine x_istore dX11_spread_44 rfl ?_
  have := k_sp_l S s its (its &&& (its - 1)) (its ^^^ (its &&& (its - 1))) (s ^^^ (s &&& (its &&& (its - 1)))) (upd (S.2.1 20) s (nI 0)) (S.2.1 20 s * i32 (tuB (its &&& (its - 1)) (s ^^^ (s &&& (its &&& (its - 1)))))) hi hw ho 9 0 .null (by omega)
  exact this
