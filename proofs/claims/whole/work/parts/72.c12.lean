/-! THE CLASS: galleries -/
def gaS (f : Nat → Nat) (c : Nat) : Nat → Nat
  | 0 => 0
  | i + 1 => gaS f c i + (if c.testBit i then f (less c i) else 0)
/-- how many ways lead from fr over the planes of c, all of them through regions -/
def gaN (pt : Nat → Bool) (fr : Nat) : Nat → Nat → Nat
  | 0, _ => 1
  | m + 1, c => if pt (fr ^^^ c) then gaS (gaN pt fr m) c 9 else 0
def ga (pt : Nat → Bool) (fr c : Nat) : Nat := gaN pt fr (pc9 c) c
theorem gaS_ext {f g : Nat → Nat} {c : Nat} : ∀ n, (∀ i, i < n → c.testBit i = true → f (less c i) = g (less c i)) → gaS f c n = gaS g c n := by
  intro n
  induction n with
  | zero => intro _; rfl
  | succ n ih =>
    intro h
    rw [gaS, gaS, ih (fun i hi hb => h i (by omega) hb)]
    cases e : c.testBit n with
    | false => rfl
    | true => rw [if_pos rfl, if_pos rfl, h n (by omega) e]
theorem gaS_hi {f : Nat → Nat} {c N : Nat} (hc : c < 2 ^ N) : ∀ k, gaS f c (N + k) = gaS f c N := by
  intro k
  induction k with
  | zero => rfl
  | succ k ih => rw [show N + (k + 1) = (N + k) + 1 by omega, gaS, ih, tb_hi hc (by omega)]; rfl
theorem ga_step {pt : Nat → Bool} {fr c N : Nat} (hN : N ≤ 9) (hc : c < 2 ^ N) (h0 : c ≠ 0) : ga pt fr c = if pt (fr ^^^ c) then gaS (ga pt fr) c N else 0 := by
  have hp := pow9 hN
  obtain ⟨i, hi, hb⟩ : ∃ i, i < 9 ∧ c.testBit i = true := by
    refine Classical.byContradiction (fun z => h0 ?_)
    apply Nat.eq_of_testBit_eq
    intro i
    rw [Nat.zero_testBit]
    cases e : c.testBit i with
    | false => rfl
    | true => exact absurd ⟨i, tb_lt (N := 9) (by omega) e, e⟩ z
  have hpc := pc9_less c (by omega) i hi hb
  obtain ⟨m, hm⟩ : ∃ m, pc9 c = m + 1 := ⟨pc9 (less c i), hpc.symm⟩
  unfold ga
  rw [hm, gaN]
  obtain ⟨k, hk⟩ : ∃ k, 9 = N + k := ⟨9 - N, by omega⟩
  have e : gaS (gaN pt fr m) c 9 = gaS (fun c => gaN pt fr (pc9 c) c) c N := by
    rw [hk, gaS_hi hc]
    refine gaS_ext N (fun j hj hjb => ?_)
    have := pc9_less c (by omega) j (by omega) hjb
    show gaN pt fr m (less c j) = gaN pt fr (pc9 (less c j)) (less c j)
    rw [show pc9 (less c j) = m by omega]
  rw [e]
theorem sub_xor {c b : Nat} : c ^^^ (c &&& b) = 0 ↔ c &&& b = c := by
  constructor
  · intro h
    apply Nat.eq_of_testBit_eq
    intro i
    have := congrArg (fun z => z.testBit i) h
    simp only [Nat.testBit_xor, Nat.testBit_and, Nat.zero_testBit] at this ⊢
    cases e : c.testBit i <;> cases e2 : b.testBit i <;> simp [e, e2] at this ⊢
  · intro h
    rw [h, Nat.xor_self]
theorem less_and {c b i : Nat} (h : c &&& b = c) : less c i &&& b = less c i := sub_and (fun j hj => and_sub h j (less_sub c i j hj))
set_option maxRecDepth 100000 in
set_option maxHeartbeats 4000000 in
theorem kx_se_l (S : amS) (N c : Nat) (g : Nat → Nat) (hN : N ≤ 9) (hc : c < 2 ^ N) (m2 : S.1 1 2 = nI N) (hg : ∀ i, i < N → c.testBit i = true → S.2.1 31 (less c i) = nI (g (less c i))) : ∀ (e i : Nat), i + e = N → X shX mX8_sumOfEarlier 4 [.ref 29, .int (nI c), .int (nI (gaS g c i)), .int (nI i)] [] S (fun r S' => r = some (.int (nI (gaS g c N))) ∧ S' = S) := by
  have h512 := pow9 hN
  intro e
  induction e with
  | zero =>
    intro i h1
    obtain rfl : i = N := by omega
    refine x_iload_n dX8_sumOfEarlier_4 rfl ?_
    refine x_aload_n dX8_sumOfEarlier_5 rfl ?_
    refine x_getR dX8_sumOfEarlier_6 fl_X8_32 rfl ?_
    refine x_getIV dX8_sumOfEarlier_9 fl_X8_78 rfl (m2) ?_
    refine x_icmp_geN 42 dX8_sumOfEarlier_12 rfl (by omega) (by omega) (fun c12 => ?_) (fun c12 => ?_)
    · refine x_iload_n dX8_sumOfEarlier_42 rfl ?_
      refine x_iretI dX8_sumOfEarlier_43 rfl ?_
      exact ⟨rfl, rfl⟩
    · exact absurd c12 (by omega)
  | succ e ih =>
    intro i h1
    have hle : c / 2 ^ i &&& 1 ≤ 1 := Nat.and_le_right
    have := ih (i + 1) (by omega)
    rw [gaS] at this
    refine x_iload_n dX8_sumOfEarlier_4 rfl ?_
    refine x_aload_n dX8_sumOfEarlier_5 rfl ?_
    refine x_getR dX8_sumOfEarlier_6 fl_X8_32 rfl ?_
    refine x_getIV dX8_sumOfEarlier_9 fl_X8_78 rfl (m2) ?_
    refine x_icmp_geN 42 dX8_sumOfEarlier_12 rfl (by omega) (by omega) (fun c12 => ?_) (fun c12 => ?_)
    · exact absurd c12 (by omega)
    · refine x_iload_n dX8_sumOfEarlier_15 rfl ?_
      refine x_iload_n dX8_sumOfEarlier_16 rfl ?_
      refine x_ishrN dX8_sumOfEarlier_17 (by omega) (by omega) ?_
      refine x_ic _ ic_1 dX8_sumOfEarlier_18 ?_
      refine x_iandN dX8_sumOfEarlier_19 ?_
      refine x_if_eqN 36 dX8_sumOfEarlier_20 rfl (by omega) (fun c20 => ?_) (fun c20 => ?_)
      · have hb := and1_eq c20
        refine x_iincN dX8_sumOfEarlier_36 rfl rfl ?_
        refine x_goto 4 dX8_sumOfEarlier_39 rfl ?_
        rw [hb, if_neg (by decide), Nat.add_zero] at this
        exact this
      · have hb := and1_ne c20
        have hll := less_lt (i := i) hc
        refine x_iload_n dX8_sumOfEarlier_23 rfl ?_
        refine x_aload_n dX8_sumOfEarlier_24 rfl ?_
        refine x_getR dX8_sumOfEarlier_25 fl_X8_15 rfl ?_
        refine x_iload_n dX8_sumOfEarlier_28 rfl ?_
        refine x_ic _ ic_1 dX8_sumOfEarlier_29 ?_
        refine x_iload_n dX8_sumOfEarlier_30 rfl ?_
        refine x_ishl1 dX8_sumOfEarlier_31 (by omega) ?_
        refine x_ixorN dX8_sumOfEarlier_32 ?_
        rw [xor_less hb]
        refine x_ialdN dX8_sumOfEarlier_33 rfl rfl (by omega) (hg i (by omega) hb) ?_
        refine x_iaddN dX8_sumOfEarlier_34 ?_
        refine x_istore_n dX8_sumOfEarlier_35 rfl ?_
        refine x_iincN dX8_sumOfEarlier_36 rfl rfl ?_
        refine x_goto 4 dX8_sumOfEarlier_39 rfl ?_
        rw [if_pos hb] at this
        exact this
set_option maxRecDepth 100000 in
set_option maxHeartbeats 4000000 in
theorem kx_sumOfEarlier (S : amS) (N c : Nat) (g : Nat → Nat) (hN : N ≤ 9) (hc : c < 2 ^ N) (m2 : S.1 1 2 = nI N) (hg : ∀ i, i < N → c.testBit i = true → S.2.1 31 (less c i) = nI (g (less c i))) : X shX mX8_sumOfEarlier 0 [.ref 29, .int (nI c), .null, .null] [] S (fun r S' => r = some (.int (nI (gaS g c N))) ∧ S' = S) := by
  refine x_ic _ ic_0 dX8_sumOfEarlier_0 ?_
  refine x_istore_n dX8_sumOfEarlier_1 rfl ?_
  refine x_ic _ ic_0 dX8_sumOfEarlier_2 ?_
  refine x_istore_n dX8_sumOfEarlier_3 rfl ?_
  exact kx_se_l S N c g hN hc m2 hg N 0 (by omega)
set_option maxRecDepth 100000 in
set_option maxHeartbeats 4000000 in
theorem kx_cg_l (S : amS) (N fr to bt : Nat) (v : Nat → Row) (hN : N ≤ 9) (m2 : S.1 1 2 = nI N) (hr : ∀ t, t < 2 ^ N → S.2.1 30 t = zB (ptB v N t)) (hf : fr < 2 ^ N) (hb : bt < 2 ^ N) : ∀ (e c : Nat) (g : Nat → Int32), c + e = bt + 1 → 0 < c → (∀ u, u < c → u &&& bt = u → g u = nI ((ga (ptB v N) fr) u)) → X shX mX8_countGalleries 18 [.ref 29, .int (nI fr), .int (nI to), .int (nI bt), .int (nI c)] [] (sA S 31 g) (fun r S' => r = some (.int (nI ((ga (ptB v N) fr) bt))) ∧ ∃ g, S' = sA S 31 g) := by
  have h512 := pow9 hN
  intro e
  induction e with
  | zero =>
    intro c g h1 h2 h3
    obtain rfl : c = bt + 1 := by omega
    refine x_iload dX8_countGalleries_18 rfl ?_
    refine x_iload_n dX8_countGalleries_20 rfl ?_
    refine x_icmp_gtN 68 dX8_countGalleries_21 rfl (by omega) (by omega) (fun c21 => ?_) (fun c21 => ?_)
    · refine x_aload_n dX8_countGalleries_68 rfl ?_
      refine x_getR dX8_countGalleries_69 fl_X8_15 rfl ?_
      refine x_iload_n dX8_countGalleries_72 rfl ?_
      refine x_ialdN dX8_countGalleries_73 rfl rfl (by omega) ((show (sA S 31 g).2.1 31 bt = nI (ga (ptB v N) fr bt) by rw [sA_at]; exact h3 bt (by omega) (Nat.and_self bt))) ?_
      refine x_iretI dX8_countGalleries_74 rfl ?_
      exact ⟨rfl, g, rfl⟩
    · exact absurd c21 (by omega)
  | succ e ih =>
    intro c g h1 h2 h3
    have hle := xor_and_le c bt
    have hx : fr ^^^ c < 2 ^ N := Nat.xor_lt_two_pow hf (by omega)
    refine x_iload dX8_countGalleries_18 rfl ?_
    refine x_iload_n dX8_countGalleries_20 rfl ?_
    refine x_icmp_gtN 68 dX8_countGalleries_21 rfl (by omega) (by omega) (fun c21 => ?_) (fun c21 => ?_)
    · exact absurd c21 (by omega)
    · refine x_iload dX8_countGalleries_24 rfl ?_
      refine x_iload_n dX8_countGalleries_26 rfl ?_
      refine x_ic _ ic_m1 dX8_countGalleries_27 ?_
      refine x_ixor dX8_countGalleries_28 ?_
      refine x_iandNX dX8_countGalleries_29 ?_
      refine x_if_neN 62 dX8_countGalleries_30 rfl (by omega) (fun c30 => ?_) (fun c30 => ?_)
      · refine x_iincN dX8_countGalleries_62 rfl rfl ?_
        refine x_goto 18 dX8_countGalleries_65 rfl ?_
        refine ih (c + 1) g (by omega) (by omega) (fun u hu hub => ?_)
        by_cases q : u = c
        · rw [q] at hub; exact absurd (sub_xor.mpr hub) c30
        · exact h3 u (by omega) hub
      · refine x_aload_n dX8_countGalleries_33 rfl ?_
        refine x_getR dX8_countGalleries_34 fl_X8_15 rfl ?_
        refine x_iload dX8_countGalleries_37 rfl ?_
        refine x_aload_n dX8_countGalleries_39 rfl ?_
        refine x_getR dX8_countGalleries_40 fl_X8_9 rfl ?_
        refine x_iload_n dX8_countGalleries_43 rfl ?_
        refine x_iload dX8_countGalleries_44 rfl ?_
        refine x_ixorN dX8_countGalleries_46 ?_
        refine x_zaldN dX8_countGalleries_47 rfl rfl (by omega) (hr _ hx) ?_
        refine x_if_eqB 60 dX8_countGalleries_48 rfl (fun c48 => ?_) (fun c48 => ?_)
        · refine x_ic _ ic_0 dX8_countGalleries_60 ?_
          refine x_iastN dX8_countGalleries_61 rfl rfl (by omega) ?_
          refine x_iincN dX8_countGalleries_62 rfl rfl ?_
          refine x_goto 18 dX8_countGalleries_65 rfl ?_
          rw [sA_sA, sA_at]
          refine ih (c + 1) _ (by omega) (by omega) (fun u hu hub => ?_)
          by_cases q : u = c
          · rw [q, upd_s, ga_step hN (by omega) (by omega), c48]; rfl
          · rw [upd_n _ _ q]; exact h3 u (by omega) hub
        · have hsub := sub_xor.mp c30
          refine x_aload_n dX8_countGalleries_51 rfl ?_
          refine x_iload dX8_countGalleries_52 rfl ?_
          refine x_v1d (N := mX8_sumOfEarlier) dX8_countGalleries_54 ml_X8_87 nv_X8_sumOfEarlier rfl rfl (kx_sumOfEarlier (sA S 31 g) N c (ga (ptB v N) fr) hN (by omega) m2 (fun i hi hbi => by rw [sA_at]; exact h3 _ (less_lt_self hbi) (less_and hsub))) ?_
          refine x_goto 61 dX8_countGalleries_57 rfl ?_
          refine x_iastN dX8_countGalleries_61 rfl rfl (by omega) ?_
          refine x_iincN dX8_countGalleries_62 rfl rfl ?_
          refine x_goto 18 dX8_countGalleries_65 rfl ?_
          rw [sA_sA, sA_at]
          refine ih (c + 1) _ (by omega) (by omega) (fun u hu hub => ?_)
          by_cases q : u = c
          · rw [q, upd_s, ga_step hN (by omega) (by omega), if_pos c48]
          · rw [upd_n _ _ q]; exact h3 u (by omega) hub
set_option maxRecDepth 100000 in
set_option maxHeartbeats 4000000 in
theorem kx_countGalleries (S : amS) (B : Nat) (a : Ar) (hs : List Ar) (tx : List Nat) (u0 u1 u2 ck co : Int32) (hc : xCore S B a hs tx u0 u1 u2 ck co) (hB : B < 2147483648) (f t : Nat) (hf : f < 2 ^ a.2.1) (ht : t < 2 ^ a.2.1) : X shX mX8_countGalleries 0 [.ref 29, .int (nI f), .int (nI t), .null, .null] [] S (fun r S' => r = some (.int (nI (ga (ptB a.2.2 a.2.1) f (f ^^^ t)))) ∧ xCore S' B a hs tx u0 u1 u2 ck co) := by
  obtain ⟨⟨hA, ho⟩, hrest, hV⟩ := id hc
  obtain ⟨a1, a2, a3, a4, a5, a6, a7⟩ := id hA
  obtain ⟨m1, m2, m3⟩ := id ho
  have h512 := pow9 a3
  have hpos := Nat.two_pow_pos a.2.1
  have hr9 : ∀ t, t < 2 ^ a.2.1 → rkV a.2.2 t ≤ 9 := fun t ht => Nat.le_trans (rkV_le (by omega)) (pc9_le t (by omega))
  refine x_aload_n dX8_countGalleries_0 rfl ?_
  refine x_v0 (N := mX8_refresh) dX8_countGalleries_1 ml_X8_86 nv_X8_refresh rfl rfl (kx_rrq S B a hs tx u0 u1 u2 ck co hc hB) ?_
  rintro _ S' ⟨rfl, hc', hr'⟩
  refine x_iload_n dX8_countGalleries_4 rfl ?_
  refine x_iload_n dX8_countGalleries_5 rfl ?_
  refine x_ixorN dX8_countGalleries_6 ?_
  refine x_istore_n dX8_countGalleries_7 rfl ?_
  refine x_aload_n dX8_countGalleries_8 rfl ?_
  refine x_getR dX8_countGalleries_9 fl_X8_15 rfl ?_
  refine x_ic _ ic_0 dX8_countGalleries_12 ?_
  refine x_ic _ ic_1 dX8_countGalleries_13 ?_
  refine x_iastN dX8_countGalleries_14 rfl rfl (by omega) ?_
  refine x_ic _ ic_1 dX8_countGalleries_15 ?_
  refine x_istore dX8_countGalleries_16 rfl ?_
  refine x_mono ?_ (kx_cg_l S' a.2.1 f t (f ^^^ t) a.2.2 a3 hc'.1.2.2.1 hr'.1 hf (Nat.xor_lt_two_pow hf ht) (f ^^^ t) 1 _ (by omega) (by omega) (fun u hu _ => ?_))
  · rintro _ _ ⟨rfl, g, rfl⟩
    exact ⟨rfl, hc'.scr (((FO.rf [] [31] S').sA g (by simp))) (by decide) (by decide)⟩
  · obtain rfl : u = 0 := by omega
    rw [upd_s]; rfl
set_option maxRecDepth 100000 in
set_option maxHeartbeats 4000000 in
theorem kx_way_bad (S : amS) (B : Nat) (a : Ar) (hs : List Ar) (tx : List Nat) (u0 u1 u2 ck co : Int32) (hc : xCore S B a hs tx u0 u1 u2 ck co) (x y z : Int32) (hx : ¬ (InR x (2 ^ a.2.1) ∧ InR y (2 ^ a.2.1) ∧ InR z 2)) : X shX mX10_way 0 [.ref 0, .int x, .int y, .int z] [] S (fun r S' => r = some (.int (i32 (-2))) ∧ xCore S' B a hs tx (u0 + nI 1) u1 u2 ck co) := by
  obtain ⟨⟨hA, ho⟩, hrest, hV⟩ := id hc
  obtain ⟨a1, a2, a3, a4, a5, a6, a7⟩ := id hA
  obtain ⟨m1, m2, m3⟩ := id ho
  have h512 := pow9 a3
  have hpos := Nat.two_pow_pos a.2.1
  have hr9 : ∀ t, t < 2 ^ a.2.1 → rkV a.2.2 t ≤ 9 := fun t ht => Nat.le_trans (rkV_le (by omega)) (pc9_le t (by omega))
  refine x_aload_n dX10_way_0 rfl ?_
  refine x_getR dX10_way_1 fl_X10_17 rfl ?_
  refine x_iload_n dX10_way_4 rfl ?_
  refine x_v1d (N := mX1_hasAll) dX10_way_5 ml_X10_126 nv_X1_hasAll rfl rfl (kx_hasAll S a.2.1 a3 m2 _) ?_
  refine x_if_eqB 31 dX10_way_8 rfl (fun c8 => ?_) (fun c8 => ?_)
  · refine x_aload_n dX10_way_31 rfl ?_
    refine x_bi _ bi_m2 dX10_way_32 ?_
    refine x_v1 (N := mX10_refused) dX10_way_34 ml_X10_120 nv_X10_refused rfl rfl (kx_bad S B a hs tx u0 u1 u2 ck co hc) ?_
    rintro _ S' ⟨rfl, h'⟩
    refine x_iretI dX10_way_37 rfl ?_
    exact ⟨rfl, h'⟩
  · refine x_aload_n dX10_way_11 rfl ?_
    refine x_getR dX10_way_12 fl_X10_17 rfl ?_
    refine x_iload_n dX10_way_15 rfl ?_
    refine x_v1d (N := mX1_hasAll) dX10_way_16 ml_X10_126 nv_X1_hasAll rfl rfl (kx_hasAll S a.2.1 a3 m2 _) ?_
    refine x_if_eqB 31 dX10_way_19 rfl (fun c19 => ?_) (fun c19 => ?_)
    · refine x_aload_n dX10_way_31 rfl ?_
      refine x_bi _ bi_m2 dX10_way_32 ?_
      refine x_v1 (N := mX10_refused) dX10_way_34 ml_X10_120 nv_X10_refused rfl rfl (kx_bad S B a hs tx u0 u1 u2 ck co hc) ?_
      rintro _ S' ⟨rfl, h'⟩
      refine x_iretI dX10_way_37 rfl ?_
      exact ⟨rfl, h'⟩
    · refine x_iload_n dX10_way_22 rfl ?_
      refine x_if_lt 31 dX10_way_23 rfl (fun c23 => ?_) (fun c23 => ?_)
      · refine x_aload_n dX10_way_31 rfl ?_
        refine x_bi _ bi_m2 dX10_way_32 ?_
        refine x_v1 (N := mX10_refused) dX10_way_34 ml_X10_120 nv_X10_refused rfl rfl (kx_bad S B a hs tx u0 u1 u2 ck co hc) ?_
        rintro _ S' ⟨rfl, h'⟩
        refine x_iretI dX10_way_37 rfl ?_
        exact ⟨rfl, h'⟩
      · refine x_iload_n dX10_way_26 rfl ?_
        refine x_ic _ ic_1 dX10_way_27 ?_
        refine x_icmp_le 38 dX10_way_28 rfl (fun c28 => ?_) (fun c28 => ?_)
        · rw [in_R _ (by omega), show 2 ^ a.2.1 - 1 + 1 = 2 ^ a.2.1 by omega] at c8 c19
          exact absurd ⟨c8, c19, (in_R z (n := 1) (by omega)).mp (decide_eq_true ⟨Int32.not_lt.mp c23, c28⟩)⟩ hx
        · refine x_aload_n dX10_way_31 rfl ?_
          refine x_bi _ bi_m2 dX10_way_32 ?_
          refine x_v1 (N := mX10_refused) dX10_way_34 ml_X10_120 nv_X10_refused rfl rfl (kx_bad S B a hs tx u0 u1 u2 ck co hc) ?_
          rintro _ S' ⟨rfl, h'⟩
          refine x_iretI dX10_way_37 rfl ?_
          exact ⟨rfl, h'⟩
set_option maxRecDepth 100000 in
set_option maxHeartbeats 4000000 in
theorem kx_way_no (S : amS) (B : Nat) (a : Ar) (hs : List Ar) (tx : List Nat) (u0 u1 u2 ck co : Int32) (hc : xCore S B a hs tx u0 u1 u2 ck co) (hB : B < 2147483648) (f t k : Nat) (hf : f < 2 ^ a.2.1) (ht : t < 2 ^ a.2.1) (hk : k < 2) (hn : ¬ (ptB a.2.2 a.2.1 f = true ∧ ptB a.2.2 a.2.1 t = true)) : X shX mX10_way 0 [.ref 0, .int (nI f), .int (nI t), .int (nI k)] [] S (fun r S' => r = some (.int (i32 (-3))) ∧ xCore S' B a hs tx u0 (u1 + nI 1) u2 ck co) := by
  obtain ⟨⟨hA, ho⟩, hrest, hV⟩ := id hc
  obtain ⟨a1, a2, a3, a4, a5, a6, a7⟩ := id hA
  obtain ⟨m1, m2, m3⟩ := id ho
  have h512 := pow9 a3
  have hpos := Nat.two_pow_pos a.2.1
  have hr9 : ∀ t, t < 2 ^ a.2.1 → rkV a.2.2 t ≤ 9 := fun t ht => Nat.le_trans (rkV_le (by omega)) (pc9_le t (by omega))
  refine x_aload_n dX10_way_0 rfl ?_
  refine x_getR dX10_way_1 fl_X10_17 rfl ?_
  refine x_iload_n dX10_way_4 rfl ?_
  refine x_v1d (N := mX1_hasAll) dX10_way_5 ml_X10_126 nv_X1_hasAll rfl rfl (kx_hasAll S a.2.1 a3 m2 _) ?_
  refine x_if_eqB 31 dX10_way_8 rfl (fun c8 => ?_) (fun c8 => ?_)
  · rw [Bool.eq_false_iff, ne_eq, in_R _ (by omega), show 2 ^ a.2.1 - 1 + 1 = 2 ^ a.2.1 by omega] at c8
    exact absurd (InR_in hf) c8
  · refine x_aload_n dX10_way_11 rfl ?_
    refine x_getR dX10_way_12 fl_X10_17 rfl ?_
    refine x_iload_n dX10_way_15 rfl ?_
    refine x_v1d (N := mX1_hasAll) dX10_way_16 ml_X10_126 nv_X1_hasAll rfl rfl (kx_hasAll S a.2.1 a3 m2 _) ?_
    refine x_if_eqB 31 dX10_way_19 rfl (fun c19 => ?_) (fun c19 => ?_)
    · rw [Bool.eq_false_iff, ne_eq, in_R _ (by omega), show 2 ^ a.2.1 - 1 + 1 = 2 ^ a.2.1 by omega] at c19
      exact absurd (InR_in ht) c19
    · refine x_iload_n dX10_way_22 rfl ?_
      refine x_topI ?_
      refine x_if_ltI 31 dX10_way_23 rfl (by omega) (fun c23 => ?_) (fun c23 => ?_)
      · exact absurd c23 (by omega)
      · refine x_iload_n dX10_way_26 rfl ?_
        refine x_ic _ ic_1 dX10_way_27 ?_
        refine x_icmp_leN 38 dX10_way_28 rfl (by omega) (by omega) (fun c28 => ?_) (fun c28 => ?_)
        · refine x_aload_n dX10_way_38 rfl ?_
          refine x_getR dX10_way_39 fl_X10_40 rfl ?_
          refine x_iload_n dX10_way_42 rfl ?_
          refine x_v1 (N := mX8_isRegion) dX10_way_43 ml_X10_172 nv_X8_isRegion rfl rfl (kx_isRegion S B a hs tx u0 u1 u2 ck co hc hB f hf) ?_
          rintro _ S1 ⟨rfl, h1, -⟩
          refine x_if_eqB 60 dX10_way_46 rfl (fun c46 => ?_) (fun c46 => ?_)
          · refine x_aload_n dX10_way_60 rfl ?_
            refine x_bi _ bi_m3 dX10_way_61 ?_
            refine x_v1 (N := mX10_refused) dX10_way_63 ml_X10_120 nv_X10_refused rfl rfl (kx_no S1 B a hs tx u0 u1 u2 ck co h1) ?_
            rintro _ S3 ⟨rfl, h3⟩
            refine x_iretI dX10_way_66 rfl ?_
            exact ⟨rfl, h3⟩
          · refine x_aload_n dX10_way_49 rfl ?_
            refine x_getR dX10_way_50 fl_X10_40 rfl ?_
            refine x_iload_n dX10_way_53 rfl ?_
            refine x_v1 (N := mX8_isRegion) dX10_way_54 ml_X10_172 nv_X8_isRegion rfl rfl (kx_isRegion S1 B a hs tx u0 u1 u2 ck co h1 hB t ht) ?_
            rintro _ S2 ⟨rfl, h2, -⟩
            refine x_if_neB 67 dX10_way_57 rfl (fun c57 => ?_) (fun c57 => ?_)
            · exact absurd ⟨c46, c57⟩ hn
            · refine x_aload_n dX10_way_60 rfl ?_
              refine x_bi _ bi_m3 dX10_way_61 ?_
              refine x_v1 (N := mX10_refused) dX10_way_63 ml_X10_120 nv_X10_refused rfl rfl (kx_no S2 B a hs tx u0 u1 u2 ck co h2) ?_
              rintro _ S3 ⟨rfl, h3⟩
              refine x_iretI dX10_way_66 rfl ?_
              exact ⟨rfl, h3⟩
        · exact absurd c28 (by omega)
set_option maxRecDepth 100000 in
set_option maxHeartbeats 4000000 in
theorem kx_way_0 (S : amS) (B : Nat) (a : Ar) (hs : List Ar) (tx : List Nat) (u0 u1 u2 ck co : Int32) (hc : xCore S B a hs tx u0 u1 u2 ck co) (hB : B < 2147483648) (f t : Nat) (hf : f < 2 ^ a.2.1) (ht : t < 2 ^ a.2.1) (h1f : ptB a.2.2 a.2.1 f = true) (h1t : ptB a.2.2 a.2.1 t = true) : X shX mX10_way 0 [.ref 0, .int (nI f), .int (nI t), .int (nI 0)] [] S (fun r S' => r = some (.int (nI (pc9 (f ^^^ t)))) ∧ xCore S' B a hs tx u0 u1 u2 ck co) := by
  obtain ⟨⟨hA, ho⟩, hrest, hV⟩ := id hc
  obtain ⟨a1, a2, a3, a4, a5, a6, a7⟩ := id hA
  obtain ⟨m1, m2, m3⟩ := id ho
  have h512 := pow9 a3
  have hpos := Nat.two_pow_pos a.2.1
  have hr9 : ∀ t, t < 2 ^ a.2.1 → rkV a.2.2 t ≤ 9 := fun t ht => Nat.le_trans (rkV_le (by omega)) (pc9_le t (by omega))
  refine x_aload_n dX10_way_0 rfl ?_
  refine x_getR dX10_way_1 fl_X10_17 rfl ?_
  refine x_iload_n dX10_way_4 rfl ?_
  refine x_v1d (N := mX1_hasAll) dX10_way_5 ml_X10_126 nv_X1_hasAll rfl rfl (kx_hasAll S a.2.1 a3 m2 _) ?_
  refine x_if_eqB 31 dX10_way_8 rfl (fun c8 => ?_) (fun c8 => ?_)
  · rw [Bool.eq_false_iff, ne_eq, in_R _ (by omega), show 2 ^ a.2.1 - 1 + 1 = 2 ^ a.2.1 by omega] at c8
    exact absurd (InR_in hf) c8
  · refine x_aload_n dX10_way_11 rfl ?_
    refine x_getR dX10_way_12 fl_X10_17 rfl ?_
    refine x_iload_n dX10_way_15 rfl ?_
    refine x_v1d (N := mX1_hasAll) dX10_way_16 ml_X10_126 nv_X1_hasAll rfl rfl (kx_hasAll S a.2.1 a3 m2 _) ?_
    refine x_if_eqB 31 dX10_way_19 rfl (fun c19 => ?_) (fun c19 => ?_)
    · rw [Bool.eq_false_iff, ne_eq, in_R _ (by omega), show 2 ^ a.2.1 - 1 + 1 = 2 ^ a.2.1 by omega] at c19
      exact absurd (InR_in ht) c19
    · refine x_iload_n dX10_way_22 rfl ?_
      refine x_topI ?_
      refine x_if_ltI 31 dX10_way_23 rfl (by omega) (fun c23 => ?_) (fun c23 => ?_)
      · exact absurd c23 (by omega)
      · refine x_iload_n dX10_way_26 rfl ?_
        refine x_ic _ ic_1 dX10_way_27 ?_
        refine x_icmp_leN 38 dX10_way_28 rfl (by omega) (by omega) (fun c28 => ?_) (fun c28 => ?_)
        · refine x_aload_n dX10_way_38 rfl ?_
          refine x_getR dX10_way_39 fl_X10_40 rfl ?_
          refine x_iload_n dX10_way_42 rfl ?_
          refine x_v1 (N := mX8_isRegion) dX10_way_43 ml_X10_172 nv_X8_isRegion rfl rfl (kx_isRegion S B a hs tx u0 u1 u2 ck co hc hB f hf) ?_
          rintro _ S1 ⟨rfl, h1, -⟩
          refine x_if_eqB 60 dX10_way_46 rfl (fun c46 => ?_) (fun c46 => ?_)
          · rw [h1f] at c46; cases c46
          · refine x_aload_n dX10_way_49 rfl ?_
            refine x_getR dX10_way_50 fl_X10_40 rfl ?_
            refine x_iload_n dX10_way_53 rfl ?_
            refine x_v1 (N := mX8_isRegion) dX10_way_54 ml_X10_172 nv_X8_isRegion rfl rfl (kx_isRegion S1 B a hs tx u0 u1 u2 ck co h1 hB t ht) ?_
            rintro _ S2 ⟨rfl, h2, -⟩
            refine x_if_neB 67 dX10_way_57 rfl (fun c57 => ?_) (fun c57 => ?_)
            · refine x_iload_n dX10_way_67 rfl ?_
              refine x_if_neN 80 dX10_way_68 rfl (by omega) (fun c68 => ?_) (fun c68 => ?_)
              · exact absurd rfl c68
              · refine x_iload_n dX10_way_71 rfl ?_
                refine x_iload_n dX10_way_72 rfl ?_
                refine x_ixorN dX10_way_73 ?_
                refine x_s1d (N := mJ6_bitCount_0f7a4) dX10_way_74 ml_X10_178 ns_J6_bitCount_0f7a4 rfl (kx_bc S2 _ (by have := Nat.xor_lt_two_pow hf ht; omega)) ?_
                refine x_goto 89 dX10_way_77 rfl ?_
                refine x_iretI dX10_way_89 rfl ?_
                exact ⟨rfl, h2⟩
            · rw [h1t] at c57; cases c57
        · exact absurd c28 (by omega)
set_option maxRecDepth 100000 in
set_option maxHeartbeats 4000000 in
theorem kx_way_1 (S : amS) (B : Nat) (a : Ar) (hs : List Ar) (tx : List Nat) (u0 u1 u2 ck co : Int32) (hc : xCore S B a hs tx u0 u1 u2 ck co) (hB : B < 2147483648) (f t : Nat) (hf : f < 2 ^ a.2.1) (ht : t < 2 ^ a.2.1) (h1f : ptB a.2.2 a.2.1 f = true) (h1t : ptB a.2.2 a.2.1 t = true) : X shX mX10_way 0 [.ref 0, .int (nI f), .int (nI t), .int (nI 1)] [] S (fun r S' => r = some (.int (nI (ga (ptB a.2.2 a.2.1) f (f ^^^ t)))) ∧ xCore S' B a hs tx u0 u1 u2 ck co) := by
  obtain ⟨⟨hA, ho⟩, hrest, hV⟩ := id hc
  obtain ⟨a1, a2, a3, a4, a5, a6, a7⟩ := id hA
  obtain ⟨m1, m2, m3⟩ := id ho
  have h512 := pow9 a3
  have hpos := Nat.two_pow_pos a.2.1
  have hr9 : ∀ t, t < 2 ^ a.2.1 → rkV a.2.2 t ≤ 9 := fun t ht => Nat.le_trans (rkV_le (by omega)) (pc9_le t (by omega))
  refine x_aload_n dX10_way_0 rfl ?_
  refine x_getR dX10_way_1 fl_X10_17 rfl ?_
  refine x_iload_n dX10_way_4 rfl ?_
  refine x_v1d (N := mX1_hasAll) dX10_way_5 ml_X10_126 nv_X1_hasAll rfl rfl (kx_hasAll S a.2.1 a3 m2 _) ?_
  refine x_if_eqB 31 dX10_way_8 rfl (fun c8 => ?_) (fun c8 => ?_)
  · rw [Bool.eq_false_iff, ne_eq, in_R _ (by omega), show 2 ^ a.2.1 - 1 + 1 = 2 ^ a.2.1 by omega] at c8
    exact absurd (InR_in hf) c8
  · refine x_aload_n dX10_way_11 rfl ?_
    refine x_getR dX10_way_12 fl_X10_17 rfl ?_
    refine x_iload_n dX10_way_15 rfl ?_
    refine x_v1d (N := mX1_hasAll) dX10_way_16 ml_X10_126 nv_X1_hasAll rfl rfl (kx_hasAll S a.2.1 a3 m2 _) ?_
    refine x_if_eqB 31 dX10_way_19 rfl (fun c19 => ?_) (fun c19 => ?_)
    · rw [Bool.eq_false_iff, ne_eq, in_R _ (by omega), show 2 ^ a.2.1 - 1 + 1 = 2 ^ a.2.1 by omega] at c19
      exact absurd (InR_in ht) c19
    · refine x_iload_n dX10_way_22 rfl ?_
      refine x_topI ?_
      refine x_if_ltI 31 dX10_way_23 rfl (by omega) (fun c23 => ?_) (fun c23 => ?_)
      · exact absurd c23 (by omega)
      · refine x_iload_n dX10_way_26 rfl ?_
        refine x_ic _ ic_1 dX10_way_27 ?_
        refine x_icmp_leN 38 dX10_way_28 rfl (by omega) (by omega) (fun c28 => ?_) (fun c28 => ?_)
        · refine x_aload_n dX10_way_38 rfl ?_
          refine x_getR dX10_way_39 fl_X10_40 rfl ?_
          refine x_iload_n dX10_way_42 rfl ?_
          refine x_v1 (N := mX8_isRegion) dX10_way_43 ml_X10_172 nv_X8_isRegion rfl rfl (kx_isRegion S B a hs tx u0 u1 u2 ck co hc hB f hf) ?_
          rintro _ S1 ⟨rfl, h1, -⟩
          refine x_if_eqB 60 dX10_way_46 rfl (fun c46 => ?_) (fun c46 => ?_)
          · rw [h1f] at c46; cases c46
          · refine x_aload_n dX10_way_49 rfl ?_
            refine x_getR dX10_way_50 fl_X10_40 rfl ?_
            refine x_iload_n dX10_way_53 rfl ?_
            refine x_v1 (N := mX8_isRegion) dX10_way_54 ml_X10_172 nv_X8_isRegion rfl rfl (kx_isRegion S1 B a hs tx u0 u1 u2 ck co h1 hB t ht) ?_
            rintro _ S2 ⟨rfl, h2, -⟩
            refine x_if_neB 67 dX10_way_57 rfl (fun c57 => ?_) (fun c57 => ?_)
            · refine x_iload_n dX10_way_67 rfl ?_
              refine x_if_neN 80 dX10_way_68 rfl (by omega) (fun c68 => ?_) (fun c68 => ?_)
              · refine x_aload_n dX10_way_80 rfl ?_
                refine x_getR dX10_way_81 fl_X10_40 rfl ?_
                refine x_iload_n dX10_way_84 rfl ?_
                refine x_iload_n dX10_way_85 rfl ?_
                refine x_v2 (N := mX8_countGalleries) dX10_way_86 ml_X10_183 nv_X8_countGalleries rfl rfl (kx_countGalleries S2 B a hs tx u0 u1 u2 ck co h2 hB f t hf ht) ?_
                rintro _ S3 ⟨rfl, h3⟩
                refine x_iretI dX10_way_89 rfl ?_
                exact ⟨rfl, h3⟩
              · exact absurd c68 (by omega)
            · rw [h1t] at c57; cases c57
        · exact absurd c28 (by omega)
