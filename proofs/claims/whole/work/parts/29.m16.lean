/-! THE REFERENCE: lists, polynomials -/
def lAns (l : List Nat) (x : Int32) : Int32 := if x = i32 (-1) then nI l.length else match l[x.toInt.toNat]? with
  | some s => nI s
  | none => i32 (-5)
theorem nI_m1 {n : Nat} (hn : n < 2 ^ 31) : nI n ≠ i32 (-1) := by
  intro e
  rw [nI_i32, i32_eq (by omega) (by omega)] at e
  omega
theorem lAns_at {l : List Nat} {n t : Nat} (h : l[n]? = some t) (hn : n < 2 ^ 31) : lAns l (nI n) = nI t := by
  rw [lAns, if_neg (nI_m1 hn), nI_toInt hn]
  simp [h]
theorem lAns_cnt (l : List Nat) : lAns l (i32 (-1)) = nI l.length := if_pos rfl
theorem lAns_none {l : List Nat} {x : Int32} (h1 : ¬ x < i32 (-1)) (h3 : x ≠ i32 (-1)) (h2 : ∀ m, m < l.length → x ≠ nI m) : lAns l x = i32 (-5) := by
  have hx : x = i32 x.toInt := i32_of x
  have hb := Int32.le_toInt x
  have hb2 := Int32.toInt_lt x
  have h0 : 0 ≤ x.toInt := by
    rw [hx, i32_lt (by omega) (by omega)] at h1
    rw [hx, ne_eq, i32_eq (by omega) (by omega)] at h3
    omega
  have e : x = nI x.toInt.toNat := by
    rw [nI_i32, Int.toNat_of_nonneg h0]
    exact hx
  rw [lAns, if_neg h3]
  have : l[x.toInt.toNat]? = none := by
    rw [List.getElem?_eq_none_iff]
    by_cases q : x.toInt.toNat < l.length
    · exact absurd e (h2 _ q)
    · omega
  rw [this]
theorem filter_nth {p : Nat → Bool} {t T : Nat} (ht : t < T) (hp : p t = true) : ((List.range T).filter p)[((List.range t).filter p).length]? = some t := by
  obtain ⟨k, rfl⟩ := Nat.exists_eq_add_of_lt ht
  rw [show t + k + 1 = (t + 1) + k by omega, List.range_add, List.filter_append, List.range_succ, List.filter_append]
  simp [hp]
theorem filter_succ (p : Nat → Bool) (t : Nat) : ((List.range (t + 1)).filter p).length = ((List.range t).filter p).length + (p t).toNat := by
  rw [List.range_succ, List.filter_append, List.length_append]
  cases h : p t <;> simp [h]
theorem filter_len (p : Nat → Bool) (t : Nat) : ((List.range t).filter p).length ≤ t := by
  have := List.length_filter_le p (List.range t)
  rw [List.length_range] at this
  exact this
/-- the flats of a rank -/
def flL (r : Nat → Nat) (N k : Nat) : List Nat := (List.range (2 ^ N)).filter (fun s => r s == k && flB r N s)
/-- a coefficient, from the sets below t -/
def polB (r : Nat → Nat) (d s j : Nat) : Nat → Int
  | 0 => 0
  | t + 1 => polB r d s j t + (if t ^^^ (t &&& s) = 0 ∧ (r t : Int) = (d : Int) - (j : Int) then (if pc9 t % 2 = 0 then 1 else -1) else 0)
theorem polB_bd (r : Nat → Nat) (d s j : Nat) : ∀ t : Nat, -(t : Int) ≤ polB r d s j t ∧ polB r d s j t ≤ t := by
  intro t
  induction t with
  | zero => simp [polB]
  | succ t ih =>
    simp only [polB]
    split
    · split <;> omega
    · omega
set_option maxRecDepth 100000 in
set_option maxHeartbeats 4000000 in
theorem k_poly_l (S : amS) (N d : Nat) (r : Nat → Nat) (hN : N ≤ 9) (hd : d ≤ 4) (hD : S.2.1 1 36 = nI d) (hr : ∀ s, s < 2 ^ N → S.2.1 6 s = nI (r s)) (hr9 : ∀ s, s < 2 ^ N → r s ≤ 9) (s j : Nat) (hs : s < 2 ^ N) (hj : j ≤ 4) : ∀ (k t : Nat), t + k = s + 1 → X shM mX11_polynomialOf 9 [.ref 0, .int (nI s), .int (nI j), .int (i32 (polB r d s j t)), .int (nI t)] [] S (fun q S' => q = some (.int (i32 (polB r d s j (s + 1)))) ∧ S' = S) := by
  have h512 := pow9 hN
  intro k
  induction k with
  | zero =>
    intro t h1
    obtain rfl : t = s + 1 := by omega
    refine x_iload dX11_polynomialOf_9 rfl ?_
    refine x_iload_n dX11_polynomialOf_11 rfl ?_
    refine x_icmp_gtN 67 dX11_polynomialOf_12 rfl (by omega) (by omega) (fun c12 => ?_) (fun c12 => ?_)
    · refine x_iload_n dX11_polynomialOf_67 rfl ?_
      refine x_iretI dX11_polynomialOf_68 rfl ?_
      exact ⟨rfl, rfl⟩
    · exact absurd c12 (by omega)
  | succ k ih =>
    intro t h1
    have ht : t < 2 ^ N := by omega
    have h9 := hr9 t ht
    have hp := pc9_le t (by omega)
    have hx := xor_and_le t s
    have hpb := polB_bd r d s j t
    refine x_iload dX11_polynomialOf_9 rfl ?_
    refine x_iload_n dX11_polynomialOf_11 rfl ?_
    refine x_icmp_gtN 67 dX11_polynomialOf_12 rfl (by omega) (by omega) (fun c12 => ?_) (fun c12 => ?_)
    · exact absurd c12 (by omega)
    · refine x_iload dX11_polynomialOf_15 rfl ?_
      refine x_iload_n dX11_polynomialOf_17 rfl ?_
      refine x_ic _ ic_m1 dX11_polynomialOf_18 ?_
      refine x_ixor dX11_polynomialOf_19 ?_
      refine x_iandNX dX11_polynomialOf_20 ?_
      refine x_if_neN 61 dX11_polynomialOf_21 rfl (by omega) (fun c21 => ?_) (fun c21 => ?_)
      · rw [show polB r d s j t = polB r d s j (t + 1) from by rw [polB, if_neg (fun z => c21 z.1)]; omega]
        refine x_iincN dX11_polynomialOf_61 rfl rfl ?_
        refine x_goto 9 dX11_polynomialOf_64 rfl ?_
        exact ih (t + 1) (by omega)
      · refine x_aload_n dX11_polynomialOf_24 rfl ?_
        refine x_getR dX11_polynomialOf_25 fl_X11_29 rfl ?_
        refine x_iload dX11_polynomialOf_28 rfl ?_
        refine x_ialdN dX11_polynomialOf_30 rfl rfl (by omega) (hr t ht) ?_
        refine x_aload_n dX11_polynomialOf_31 rfl ?_
        refine x_getR dX11_polynomialOf_32 fl_X11_7 rfl ?_
        refine x_bi _ bi_36 dX11_polynomialOf_35 ?_
        refine x_ialdN dX11_polynomialOf_37 rfl rfl (by omega) (hD) ?_
        refine x_iload_n dX11_polynomialOf_38 rfl ?_
        refine x_isubZ dX11_polynomialOf_39 ?_
        refine x_topI2 ?_
        refine x_icmp_neI 61 dX11_polynomialOf_40 rfl (by omega) (by omega) (fun c40 => ?_) (fun c40 => ?_)
        · rw [show polB r d s j t = polB r d s j (t + 1) from by rw [polB, if_neg (fun z => c40 z.2)]; omega]
          refine x_iincN dX11_polynomialOf_61 rfl rfl ?_
          refine x_goto 9 dX11_polynomialOf_64 rfl ?_
          exact ih (t + 1) (by omega)
        · refine x_iload_n dX11_polynomialOf_43 rfl ?_
          refine x_iload dX11_polynomialOf_44 rfl ?_
          refine x_s1d (N := mX11_bits) dX11_polynomialOf_46 ml_X11_123 ns_X11_bits rfl (k_bits S t (by omega)) ?_
          refine x_ic _ ic_2 dX11_polynomialOf_49 ?_
          refine x_iremN dX11_polynomialOf_50 (by omega) (by omega) (by omega) ?_
          refine x_if_neN 58 dX11_polynomialOf_51 rfl (by omega) (fun c51 => ?_) (fun c51 => ?_)
          · refine x_ic _ ic_m1 dX11_polynomialOf_58 ?_
            refine x_iaddI dX11_polynomialOf_59 ?_
            first | rw [show polB r d s j t + ((1 : Nat) : Int) = polB r d s j (t + 1) from by rw [polB, if_pos ⟨c21, c40⟩, if_pos c51]; rfl] | rw [show polB r d s j t + (-1) = polB r d s j (t + 1) from by rw [polB, if_pos ⟨c21, c40⟩, if_neg c51]]
            refine x_istore_n dX11_polynomialOf_60 rfl ?_
            refine x_iincN dX11_polynomialOf_61 rfl rfl ?_
            refine x_goto 9 dX11_polynomialOf_64 rfl ?_
            exact ih (t + 1) (by omega)
          · refine x_ic _ ic_1 dX11_polynomialOf_54 ?_
            refine x_goto 59 dX11_polynomialOf_55 rfl ?_
            refine x_iaddIN dX11_polynomialOf_59 ?_
            first | rw [show polB r d s j t + ((1 : Nat) : Int) = polB r d s j (t + 1) from by rw [polB, if_pos ⟨c21, c40⟩, if_pos c51]; rfl] | rw [show polB r d s j t + (-1) = polB r d s j (t + 1) from by rw [polB, if_pos ⟨c21, c40⟩, if_neg c51]]
            refine x_istore_n dX11_polynomialOf_60 rfl ?_
            refine x_iincN dX11_polynomialOf_61 rfl rfl ?_
            refine x_goto 9 dX11_polynomialOf_64 rfl ?_
            exact ih (t + 1) (by omega)
set_option maxRecDepth 100000 in
set_option maxHeartbeats 4000000 in
theorem k_polynomialOf (S : amS) (a : Ar) (hs : List Ar) (tx : List Nat) (u0 u1 u2 ck co : Int32) (hc : mCore S a hs tx u0 u1 u2 ck co) (s j : Nat) (hs0 : s < 2 ^ a.2.1) (hj : j ≤ 4) : X shM mX11_polynomialOf 0 [.ref 0, .int (nI s), .int (nI j), .null, .null] [] S (fun r S' => r = some (.int (i32 (polB (rkV a.2.2) a.1 s j (s + 1)))) ∧ mCore S' a hs tx u0 u1 u2 ck co) := by
  have hA := hc.1.1
  have hm := hc.1.2
  obtain ⟨a1, a2, a3, a4, a5, a6, a7⟩ := id hA
  have h512 := pow9 a3
  have hr9 : ∀ t, t < 2 ^ a.2.1 → rkV a.2.2 t ≤ 9 := fun t ht => Nat.le_trans (rkV_le (by omega)) (pc9_le t (by omega))
  refine x_aload_n dX11_polynomialOf_0 rfl ?_
  refine x_v0 (N := mX11_lay) dX11_polynomialOf_1 ml_X11_187 nv_X11_lay rfl rfl (k_layq S a hs tx u0 u1 u2 ck co hc) ?_
  rintro _ S' ⟨rfl, hc', hl, hf⟩
  refine x_ic _ ic_0 dX11_polynomialOf_4 ?_
  refine x_istore_n dX11_polynomialOf_5 rfl ?_
  refine x_ic _ ic_0 dX11_polynomialOf_6 ?_
  refine x_istore dX11_polynomialOf_7 rfl ?_
  refine x_mono ?_ (k_poly_l S' a.2.1 a.1 (rkV a.2.2) a3 a2 hc'.1.2.1 hl.1 hr9 s j hs0 hj (s + 1) 0 (by omega))
  rintro _ _ ⟨rfl, rfl⟩
  exact ⟨rfl, hc'⟩
set_option maxRecDepth 100000 in
set_option maxHeartbeats 4000000 in
theorem k_polynomial_ok (S : amS) (a : Ar) (hs : List Ar) (tx : List Nat) (u0 u1 u2 ck co : Int32) (hc : mCore S a hs tx u0 u1 u2 ck co) (s j : Nat) (hs0 : s < 2 ^ a.2.1) (hj : j < 5) : X shM mX11_polynomial 0 [.ref 0, .int (nI s), .int (nI j)] [] S (fun r S' => r = some (.int (i32 (polB (rkV a.2.2) a.1 s j (s + 1) + (1000 : Nat)))) ∧ mCore S' a hs tx u0 u1 u2 ck co) := by
  have hA := hc.1.1
  have hm := hc.1.2
  obtain ⟨a1, a2, a3, a4, a5, a6, a7⟩ := id hA
  have h512 := pow9 a3
  have hr9 : ∀ t, t < 2 ^ a.2.1 → rkV a.2.2 t ≤ 9 := fun t ht => Nat.le_trans (rkV_le (by omega)) (pc9_le t (by omega))
  refine x_aload_n dX11_polynomial_0 rfl ?_
  refine x_iload_n dX11_polynomial_1 rfl ?_
  refine x_v1d (N := mX11_isSet) dX11_polynomial_2 ml_X11_193 nv_X11_isSet rfl rfl (k_isSet S a.2.1 a3 hm.2.1 _) ?_
  refine x_if_eqB 30 dX11_polynomial_5 rfl (fun c5 => ?_) (fun c5 => ?_)
  · have hp := Nat.two_pow_pos a.2.1
    rw [Bool.eq_false_iff, ne_eq, in_R _ (by omega), show 2 ^ a.2.1 - 1 + 1 = 2 ^ a.2.1 by omega] at c5
    exact absurd (InR_in hs0) c5
  · refine x_iload_n dX11_polynomial_8 rfl ?_
    refine x_ic _ ic_0 dX11_polynomial_9 ?_
    refine x_ic _ ic_4 dX11_polynomial_10 ?_
    refine x_s3d (N := mX11_in) dX11_polynomial_11 ml_X11_113 ns_X11_in rfl (k_in S _ _ _) ?_
    refine x_if_eqB 30 dX11_polynomial_14 rfl (fun c14 => ?_) (fun c14 => ?_)
    · rw [Bool.eq_false_iff, ne_eq, in_R _ (by omega)] at c14
      exact absurd (InR_in hj) c14
    · refine x_aload_n dX11_polynomial_17 rfl ?_
      refine x_iload_n dX11_polynomial_18 rfl ?_
      refine x_iload_n dX11_polynomial_19 rfl ?_
      refine x_v2 (N := mX11_polynomialOf) dX11_polynomial_20 ml_X11_205 nv_X11_polynomialOf rfl rfl (k_polynomialOf S a hs tx u0 u1 u2 ck co hc s j hs0 (by omega)) ?_
      rintro _ S' ⟨rfl, hc'⟩
      refine x_si _ si_1000 dX11_polynomial_23 ?_
      refine x_iaddIN dX11_polynomial_26 ?_
      refine x_goto 36 dX11_polynomial_27 rfl ?_
      refine x_iretI dX11_polynomial_36 rfl ?_
      exact ⟨rfl, hc'⟩
set_option maxRecDepth 100000 in
set_option maxHeartbeats 4000000 in
theorem k_polynomial_bad (S : amS) (a : Ar) (hs : List Ar) (tx : List Nat) (u0 u1 u2 ck co : Int32) (hc : mCore S a hs tx u0 u1 u2 ck co) (x y : Int32) (hxy : ¬ (InR x (2 ^ a.2.1) ∧ InR y 5)) : X shM mX11_polynomial 0 [.ref 0, .int x, .int y] [] S (fun r S' => r = some (.int (i32 (-2))) ∧ mCore S' a hs tx (u0 + nI 1) u1 u2 ck co) := by
  have hA := hc.1.1
  have hm := hc.1.2
  obtain ⟨a1, a2, a3, a4, a5, a6, a7⟩ := id hA
  have h512 := pow9 a3
  have hr9 : ∀ t, t < 2 ^ a.2.1 → rkV a.2.2 t ≤ 9 := fun t ht => Nat.le_trans (rkV_le (by omega)) (pc9_le t (by omega))
  refine x_aload_n dX11_polynomial_0 rfl ?_
  refine x_iload_n dX11_polynomial_1 rfl ?_
  refine x_v1d (N := mX11_isSet) dX11_polynomial_2 ml_X11_193 nv_X11_isSet rfl rfl (k_isSet S a.2.1 a3 hm.2.1 _) ?_
  refine x_if_eqB 30 dX11_polynomial_5 rfl (fun c5 => ?_) (fun c5 => ?_)
  · refine x_aload_n dX11_polynomial_30 rfl ?_
    refine x_bi _ bi_m2 dX11_polynomial_31 ?_
    refine x_v1 (N := mX11_refuses) dX11_polynomial_33 ml_X11_89 nv_X11_refuses rfl rfl (k_bad S a hs tx u0 u1 u2 ck co hc) ?_
    rintro _ S' ⟨rfl, hc'⟩
    refine x_iretI dX11_polynomial_36 rfl ?_
    exact ⟨rfl, hc'⟩
  · refine x_iload_n dX11_polynomial_8 rfl ?_
    refine x_ic _ ic_0 dX11_polynomial_9 ?_
    refine x_ic _ ic_4 dX11_polynomial_10 ?_
    refine x_s3d (N := mX11_in) dX11_polynomial_11 ml_X11_113 ns_X11_in rfl (k_in S _ _ _) ?_
    refine x_if_eqB 30 dX11_polynomial_14 rfl (fun c14 => ?_) (fun c14 => ?_)
    · refine x_aload_n dX11_polynomial_30 rfl ?_
      refine x_bi _ bi_m2 dX11_polynomial_31 ?_
      refine x_v1 (N := mX11_refuses) dX11_polynomial_33 ml_X11_89 nv_X11_refuses rfl rfl (k_bad S a hs tx u0 u1 u2 ck co hc) ?_
      rintro _ S' ⟨rfl, hc'⟩
      refine x_iretI dX11_polynomial_36 rfl ?_
      exact ⟨rfl, hc'⟩
    · have hp := Nat.two_pow_pos a.2.1
      rw [in_R _ (by omega), show 2 ^ a.2.1 - 1 + 1 = 2 ^ a.2.1 by omega] at c5
      rw [in_R _ (by omega)] at c14
      exact absurd ⟨c5, c14⟩ hxy
set_option maxRecDepth 100000 in
set_option maxHeartbeats 4000000 in
theorem k_flatOf_l (S : amS) (N : Nat) (r : Nat → Nat) (hN : N ≤ 9) (hM : S.2.1 1 37 = nI N) (hr : ∀ s, s < 2 ^ N → S.2.1 6 s = nI (r s)) (hr9 : ∀ s, s < 2 ^ N → r s ≤ 9) (k : Nat) (hk : k ≤ 4) (x : Int32) (hx : ¬ x < i32 (-1)) : ∀ (e t : Nat), t + e = 2 ^ N → (∀ m, m < ((List.range t).filter (fun s => r s == k && flB r N s)).length → x ≠ nI m) → X shM mX11_flatOf 9 [.ref 0, .int (nI k), .int x, .int (nI ((List.range t).filter (fun s => r s == k && flB r N s)).length), .int (nI t)] [] S (fun q S' => q = some (.int (lAns (flL r N k) x)) ∧ S' = S) := by
  have h512 := pow9 hN
  have hpos := Nat.two_pow_pos N
  intro e
  induction e with
  | zero =>
    intro t h1 h2
    obtain rfl : t = 2 ^ N := by omega
    refine x_iload dX11_flatOf_9 rfl ?_
    refine x_aload_n dX11_flatOf_11 rfl ?_
    refine x_v0d (N := mX11_all) dX11_flatOf_12 ml_X11_109 nv_X11_all rfl rfl (k_all S N hN hM) ?_
    refine x_icmp_gtN 55 dX11_flatOf_15 rfl (by omega) (by omega) (fun c15 => ?_) (fun c15 => ?_)
    · refine x_iload_n dX11_flatOf_55 rfl ?_
      refine x_ic _ ic_m1 dX11_flatOf_56 ?_
      refine x_icmp_ne 64 dX11_flatOf_57 rfl (fun c57 => ?_) (fun c57 => ?_)
      · refine x_bi _ bi_m5 dX11_flatOf_64 ?_
        refine x_iretI dX11_flatOf_66 rfl ?_
        exact ⟨by rw [lAns_none (l := flL r N k) hx c57 h2], rfl⟩
      · refine x_iload_n dX11_flatOf_60 rfl ?_
        refine x_goto 66 dX11_flatOf_61 rfl ?_
        refine x_iretI dX11_flatOf_66 rfl ?_
        exact ⟨by rw [c57, lAns_cnt]; rfl, rfl⟩
    · exact absurd c15 (by omega)
  | succ e ih =>
    intro t h1 h2
    have ht : t < 2 ^ N := by omega
    have h9 := hr9 t ht
    have hfl := filter_len (fun s => r s == k && flB r N s) t
    have hfs := filter_succ (fun s => r s == k && flB r N s) t
    have hskip : (r t == k && flB r N t) = false → X shM mX11_flatOf 49 [.ref 0, .int (nI k), .int x, .int (nI ((List.range t).filter (fun s => r s == k && flB r N s)).length), .int (nI t)] [] S (fun q S' => q = some (.int (lAns (flL r N k) x)) ∧ S' = S) := by
      intro hz
      rw [hz, Bool.toNat_false, Nat.add_zero] at hfs
      refine x_iincN dX11_flatOf_49 rfl rfl ?_
      refine x_goto 9 dX11_flatOf_52 rfl ?_
      have := ih (t + 1) (by omega) (by rw [hfs]; exact h2)
      rw [hfs] at this
      exact this
    refine x_iload dX11_flatOf_9 rfl ?_
    refine x_aload_n dX11_flatOf_11 rfl ?_
    refine x_v0d (N := mX11_all) dX11_flatOf_12 ml_X11_109 nv_X11_all rfl rfl (k_all S N hN hM) ?_
    refine x_icmp_gtN 55 dX11_flatOf_15 rfl (by omega) (by omega) (fun c15 => ?_) (fun c15 => ?_)
    · exact absurd c15 (by omega)
    · refine x_aload_n dX11_flatOf_18 rfl ?_
      refine x_getR dX11_flatOf_19 fl_X11_29 rfl ?_
      refine x_iload dX11_flatOf_22 rfl ?_
      refine x_ialdN dX11_flatOf_24 rfl rfl (by omega) (hr t ht) ?_
      refine x_iload_n dX11_flatOf_25 rfl ?_
      refine x_icmp_neN 49 dX11_flatOf_26 rfl (by omega) (by omega) (fun c26 => ?_) (fun c26 => ?_)
      · exact hskip (by simp [c26])
      · refine x_aload_n dX11_flatOf_29 rfl ?_
        refine x_iload dX11_flatOf_30 rfl ?_
        refine x_v1d (N := mX11_isFlat) dX11_flatOf_32 ml_X11_199 nv_X11_isFlat rfl rfl (k_isFlat S N r hN hM hr hr9 t ht) ?_
        refine x_if_eqB 49 dX11_flatOf_35 rfl (fun c35 => ?_) (fun c35 => ?_)
        · exact hskip (by simp [c35])
        · refine x_iload_n dX11_flatOf_38 rfl ?_
          refine x_iload_n dX11_flatOf_39 rfl ?_
          refine x_icmp_ne 46 dX11_flatOf_40 rfl (fun c40 => ?_) (fun c40 => ?_)
          · rw [show (r t == k && flB r N t) = true from by simp [c26, c35], Bool.toNat_true] at hfs
            refine x_iincN dX11_flatOf_46 rfl rfl ?_
            refine x_iincN dX11_flatOf_49 rfl rfl ?_
            refine x_goto 9 dX11_flatOf_52 rfl ?_
            have := ih (t + 1) (by omega) (by
              rw [hfs]
              intro m hm
              by_cases q : m = ((List.range t).filter (fun s => r s == k && flB r N s)).length
              · subst q; exact fun z => c40 z.symm
              · exact h2 m (by omega))
            rw [hfs] at this
            exact this
          · refine x_iload dX11_flatOf_43 rfl ?_
            refine x_iretI dX11_flatOf_45 rfl ?_
            exact ⟨by rw [← c40, flL, lAns_at (filter_nth ht (by simp [c26, c35])) (by omega)], rfl⟩
set_option maxRecDepth 100000 in
set_option maxHeartbeats 4000000 in
theorem k_flatOf (S : amS) (a : Ar) (hs : List Ar) (tx : List Nat) (u0 u1 u2 ck co : Int32) (hc : mCore S a hs tx u0 u1 u2 ck co) (k : Nat) (hk : k ≤ 4) (x : Int32) (hx : ¬ x < i32 (-1)) : X shM mX11_flatOf 0 [.ref 0, .int (nI k), .int x, .null, .null] [] S (fun r S' => r = some (.int (lAns (flL (rkV a.2.2) a.2.1 k) x)) ∧ mCore S' a hs tx u0 u1 u2 ck co) := by
  have hA := hc.1.1
  have hm := hc.1.2
  obtain ⟨a1, a2, a3, a4, a5, a6, a7⟩ := id hA
  have h512 := pow9 a3
  have hr9 : ∀ t, t < 2 ^ a.2.1 → rkV a.2.2 t ≤ 9 := fun t ht => Nat.le_trans (rkV_le (by omega)) (pc9_le t (by omega))
  refine x_aload_n dX11_flatOf_0 rfl ?_
  refine x_v0 (N := mX11_lay) dX11_flatOf_1 ml_X11_187 nv_X11_lay rfl rfl (k_layq S a hs tx u0 u1 u2 ck co hc) ?_
  rintro _ S' ⟨rfl, hc', hl, hf⟩
  refine x_ic _ ic_0 dX11_flatOf_4 ?_
  refine x_istore_n dX11_flatOf_5 rfl ?_
  refine x_ic _ ic_0 dX11_flatOf_6 ?_
  refine x_istore dX11_flatOf_7 rfl ?_
  refine x_mono ?_ (k_flatOf_l S' a.2.1 (rkV a.2.2) a3 hc'.1.2.2.1 hl.1 hr9 k hk x hx (2 ^ a.2.1) 0 (by omega) (fun m hm => absurd hm (by simp)))
  rintro _ _ ⟨rfl, rfl⟩
  exact ⟨rfl, hc'⟩
set_option maxRecDepth 100000 in
set_option maxHeartbeats 4000000 in
theorem k_flats_ok (S : amS) (a : Ar) (hs : List Ar) (tx : List Nat) (u0 u1 u2 ck co : Int32) (hc : mCore S a hs tx u0 u1 u2 ck co) (k : Nat) (hk : k < 5) (x : Int32) (hx : ¬ x < i32 (-1)) : X shM mX11_flats 0 [.ref 0, .int (nI k), .int x] [] S (fun r S' => r = some (.int (lAns (flL (rkV a.2.2) a.2.1 k) x)) ∧ mCore S' a hs tx u0 u1 u2 ck co) := by
  have hA := hc.1.1
  have hm := hc.1.2
  obtain ⟨a1, a2, a3, a4, a5, a6, a7⟩ := id hA
  have h512 := pow9 a3
  have hr9 : ∀ t, t < 2 ^ a.2.1 → rkV a.2.2 t ≤ 9 := fun t ht => Nat.le_trans (rkV_le (by omega)) (pc9_le t (by omega))
  refine x_iload_n dX11_flats_0 rfl ?_
  refine x_ic _ ic_0 dX11_flats_1 ?_
  refine x_ic _ ic_4 dX11_flats_2 ?_
  refine x_s3d (N := mX11_in) dX11_flats_3 ml_X11_113 ns_X11_in rfl (k_in S _ _ _) ?_
  refine x_if_eqB 23 dX11_flats_6 rfl (fun c6 => ?_) (fun c6 => ?_)
  · rw [Bool.eq_false_iff, ne_eq, in_R _ (by omega)] at c6
    exact absurd (InR_in hk) c6
  · refine x_iload_n dX11_flats_9 rfl ?_
    refine x_ic _ ic_m1 dX11_flats_10 ?_
    refine x_icmp_lt 23 dX11_flats_11 rfl (fun c11 => ?_) (fun c11 => ?_)
    · exact absurd c11 hx
    · refine x_aload_n dX11_flats_14 rfl ?_
      refine x_iload_n dX11_flats_15 rfl ?_
      refine x_iload_n dX11_flats_16 rfl ?_
      refine x_v2 (N := mX11_flatOf) dX11_flats_17 ml_X11_202 nv_X11_flatOf rfl rfl (k_flatOf S a hs tx u0 u1 u2 ck co hc k (by omega) x hx) ?_
      rintro _ S' ⟨rfl, hc'⟩
      refine x_goto 29 dX11_flats_20 rfl ?_
      refine x_iretI dX11_flats_29 rfl ?_
      exact ⟨rfl, hc'⟩
set_option maxRecDepth 100000 in
set_option maxHeartbeats 4000000 in
theorem k_flats_bad (S : amS) (a : Ar) (hs : List Ar) (tx : List Nat) (u0 u1 u2 ck co : Int32) (hc : mCore S a hs tx u0 u1 u2 ck co) (y x : Int32) (hxy : ¬ (InR y 5 ∧ ¬ x < i32 (-1))) : X shM mX11_flats 0 [.ref 0, .int y, .int x] [] S (fun r S' => r = some (.int (i32 (-2))) ∧ mCore S' a hs tx (u0 + nI 1) u1 u2 ck co) := by
  have hA := hc.1.1
  have hm := hc.1.2
  obtain ⟨a1, a2, a3, a4, a5, a6, a7⟩ := id hA
  have h512 := pow9 a3
  have hr9 : ∀ t, t < 2 ^ a.2.1 → rkV a.2.2 t ≤ 9 := fun t ht => Nat.le_trans (rkV_le (by omega)) (pc9_le t (by omega))
  refine x_iload_n dX11_flats_0 rfl ?_
  refine x_ic _ ic_0 dX11_flats_1 ?_
  refine x_ic _ ic_4 dX11_flats_2 ?_
  refine x_s3d (N := mX11_in) dX11_flats_3 ml_X11_113 ns_X11_in rfl (k_in S _ _ _) ?_
  refine x_if_eqB 23 dX11_flats_6 rfl (fun c6 => ?_) (fun c6 => ?_)
  · refine x_aload_n dX11_flats_23 rfl ?_
    refine x_bi _ bi_m2 dX11_flats_24 ?_
    refine x_v1 (N := mX11_refuses) dX11_flats_26 ml_X11_89 nv_X11_refuses rfl rfl (k_bad S a hs tx u0 u1 u2 ck co hc) ?_
    rintro _ S' ⟨rfl, hc'⟩
    refine x_iretI dX11_flats_29 rfl ?_
    exact ⟨rfl, hc'⟩
  · refine x_iload_n dX11_flats_9 rfl ?_
    refine x_ic _ ic_m1 dX11_flats_10 ?_
    refine x_icmp_lt 23 dX11_flats_11 rfl (fun c11 => ?_) (fun c11 => ?_)
    · refine x_aload_n dX11_flats_23 rfl ?_
      refine x_bi _ bi_m2 dX11_flats_24 ?_
      refine x_v1 (N := mX11_refuses) dX11_flats_26 ml_X11_89 nv_X11_refuses rfl rfl (k_bad S a hs tx u0 u1 u2 ck co hc) ?_
      rintro _ S' ⟨rfl, hc'⟩
      refine x_iretI dX11_flats_29 rfl ?_
      exact ⟨rfl, hc'⟩
    · rw [in_R _ (by omega)] at c6
      exact absurd ⟨c6, c11⟩ hxy
