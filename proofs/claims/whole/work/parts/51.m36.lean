/-! THE REFERENCE: digest; calls that leave all but the tables -/
set_option maxRecDepth 100000 in
set_option maxHeartbeats 4000000 in
theorem kF_poly (S : amS) (a : Ar) (hs : List Ar) (tx : List Nat) (u0 u1 u2 ck co : Int32) (hc : mCore S a hs tx u0 u1 u2 ck co) (s j : Nat) (hs0 : s < 2 ^ a.2.1) (hj : j ≤ 4) : X shM mX11_polynomialOf 0 [.ref 0, .int (nI s), .int (nI j), .null, .null] [] S (fun r S' => r = some (.int (i32 (polB (rkV a.2.2) a.1 s j (s + 1)))) ∧ mCore S' a hs tx u0 u1 u2 ck co ∧ laidM S' a.2.1 a.2.2 ∧ Fr S S') := by
  have hA := hc.1.1
  have hm := hc.1.2
  obtain ⟨a1, a2, a3, a4, a5, a6, a7⟩ := id hA
  have h512 := pow9 a3
  have hr9 : ∀ t, t < 2 ^ a.2.1 → rkV a.2.2 t ≤ 9 := fun t ht => Nat.le_trans (rkV_le (by omega)) (pc9_le t (by omega))
  refine x_aload_n dX11_polynomialOf_0 rfl ?_
  refine x_v0 (N := mX11_lay) dX11_polynomialOf_1 ml_X11_187 nv_X11_lay rfl rfl (k_layq S a hs tx u0 u1 u2 ck co hc) ?_
  rintro _ S' ⟨rfl, hc', hl, hf⟩
  refine x_ic _ ic_0 dX11_polynomialOf_4 ?_
  refine x_istore_n dX11_polynomialOf_5 rfl ?_
  refine x_ic _ ic_0 dX11_polynomialOf_6 ?_
  refine x_istore dX11_polynomialOf_7 rfl ?_
  refine x_mono ?_ (k_poly_l S' a.2.1 a.1 (rkV a.2.2) a3 a2 hc'.1.2.1 hl.1 hr9 s j hs0 hj (s + 1) 0 (by omega))
  rintro _ _ ⟨rfl, rfl⟩
  exact ⟨rfl, hc', hl, hf⟩
set_option maxRecDepth 100000 in
set_option maxHeartbeats 4000000 in
theorem kF_flat (S : amS) (a : Ar) (hs : List Ar) (tx : List Nat) (u0 u1 u2 ck co : Int32) (hc : mCore S a hs tx u0 u1 u2 ck co) (k : Nat) (hk : k ≤ 4) (x : Int32) (hx : ¬ x < i32 (-1)) : X shM mX11_flatOf 0 [.ref 0, .int (nI k), .int x, .null, .null] [] S (fun r S' => r = some (.int (lAns (flL (rkV a.2.2) a.2.1 k) x)) ∧ mCore S' a hs tx u0 u1 u2 ck co ∧ laidM S' a.2.1 a.2.2 ∧ Fr S S') := by
  have hA := hc.1.1
  have hm := hc.1.2
  obtain ⟨a1, a2, a3, a4, a5, a6, a7⟩ := id hA
  have h512 := pow9 a3
  have hr9 : ∀ t, t < 2 ^ a.2.1 → rkV a.2.2 t ≤ 9 := fun t ht => Nat.le_trans (rkV_le (by omega)) (pc9_le t (by omega))
  refine x_aload_n dX11_flatOf_0 rfl ?_
  refine x_v0 (N := mX11_lay) dX11_flatOf_1 ml_X11_187 nv_X11_lay rfl rfl (k_layq S a hs tx u0 u1 u2 ck co hc) ?_
  rintro _ S' ⟨rfl, hc', hl, hf⟩
  refine x_ic _ ic_0 dX11_flatOf_4 ?_
  refine x_istore_n dX11_flatOf_5 rfl ?_
  refine x_ic _ ic_0 dX11_flatOf_6 ?_
  refine x_istore dX11_flatOf_7 rfl ?_
  refine x_mono ?_ (k_flatOf_l S' a.2.1 (rkV a.2.2) a3 hc'.1.2.2.1 hl.1 hr9 k hk x hx (2 ^ a.2.1) 0 (by omega) (fun m hm => absurd hm (by simp)))
  rintro _ _ ⟨rfl, rfl⟩
  exact ⟨rfl, hc', hl, hf⟩
set_option maxRecDepth 100000 in
set_option maxHeartbeats 4000000 in
theorem kF_base (S : amS) (a : Ar) (hs : List Ar) (tx : List Nat) (u0 u1 u2 ck co : Int32) (hc : mCore S a hs tx u0 u1 u2 ck co) (k : Nat) (hk : k ≤ 4) (x : Int32) (hx : ¬ x < i32 (-1)) : X shM mX11_baseOf 0 [.ref 0, .int (nI k), .int x, .null, .null] [] S (fun r S' => r = some (.int (lAns (baL (rkV a.2.2) (ringsB a.2.2 a.2.1 5) a.2.1 k) x)) ∧ mCore S' a hs tx u0 u1 u2 ck co ∧ laidM S' a.2.1 a.2.2 ∧ Fr S S') := by
  have hA := hc.1.1
  have hm := hc.1.2
  obtain ⟨a1, a2, a3, a4, a5, a6, a7⟩ := id hA
  have h512 := pow9 a3
  have hr9 : ∀ t, t < 2 ^ a.2.1 → rkV a.2.2 t ≤ 9 := fun t ht => Nat.le_trans (rkV_le (by omega)) (pc9_le t (by omega))
  have hlen := ringsB_le a.2.2 a3 4 (2 ^ a.2.1) (by omega) (Nat.le_refl _)
  have hlen2 : (ringsB a.2.2 a.2.1 5).length ≤ 381 := hlen
  refine x_aload_n dX11_baseOf_0 rfl ?_
  refine x_v0 (N := mX11_lay) dX11_baseOf_1 ml_X11_187 nv_X11_lay rfl rfl (k_layq S a hs tx u0 u1 u2 ck co hc) ?_
  rintro _ S' ⟨rfl, hc', hl, hf⟩
  refine x_ic _ ic_0 dX11_baseOf_4 ?_
  refine x_istore_n dX11_baseOf_5 rfl ?_
  refine x_ic _ ic_0 dX11_baseOf_6 ?_
  refine x_istore dX11_baseOf_7 rfl ?_
  refine x_mono ?_ (k_baseOf_l S' a.2.1 (rkV a.2.2) (ringsB a.2.2 a.2.1 5) a3 hc'.1.2.2.1 hl.1 hr9 hl.2.1 hlen2 (laid_L a3 hl) k hk x hx (2 ^ a.2.1) 0 (by omega) (fun m hm => absurd hm (by simp)))
  rintro _ _ ⟨rfl, rfl⟩
  exact ⟨rfl, hc', hl, hf⟩
set_option maxRecDepth 100000 in
set_option maxHeartbeats 4000000 in
theorem kF_isPart_l (S : amS) (a : Ar) (hs : List Ar) (tx : List Nat) (u0 u1 u2 ck co : Int32) (hc : mCore S a hs tx u0 u1 u2 ck co) (hl : laidM S a.2.1 a.2.2) (s : Nat) (hs0 : s < 2 ^ a.2.1) : ∀ (e r : Nat) (z : Value), r + e = (ringsB a.2.2 a.2.1 5).length → (∀ (k c : Nat), k < r → (ringsB a.2.2 a.2.1 5)[k]? = some c → hitB a.2.2 s c = false) → X shM mX11_isPart 6 [.ref 0, .int (nI s), .int (nI r), z] [] S (fun r S' => r = some (.int (zB (ptB a.2.2 a.2.1 s))) ∧ S' = S) := by
  have hA := hc.1.1
  have hm := hc.1.2
  obtain ⟨a1, a2, a3, a4, a5, a6, a7⟩ := id hA
  have h512 := pow9 a3
  have hr9 : ∀ t, t < 2 ^ a.2.1 → rkV a.2.2 t ≤ 9 := fun t ht => Nat.le_trans (rkV_le (by omega)) (pc9_le t (by omega))
  have hlen := ringsB_le a.2.2 a3 4 (2 ^ a.2.1) (by omega) (Nat.le_refl _)
  have hlen2 : (ringsB a.2.2 a.2.1 5).length ≤ 381 := hlen
  intro e
  induction e with
  | zero =>
    intro r z h1 h2
    obtain rfl : r = (ringsB a.2.2 a.2.1 5).length := by omega
    refine x_iload_n dX11_isPart_6 rfl ?_
    refine x_aload_n dX11_isPart_7 rfl ?_
    refine x_getIV dX11_isPart_8 fl_X11_120 rfl (hl.2.1) ?_
    refine x_icmp_geN 60 dX11_isPart_11 rfl (by omega) (by omega) (fun c11 => ?_) (fun c11 => ?_)
    · refine x_ic _ ic_1 dX11_isPart_60 ?_
      refine x_zret1 dX11_isPart_61 rfl ?_
      refine ⟨?_, rfl⟩
      rw [zB_t]
      unfold ptB ptL
      rw [List.all_eq_true]
      intro c hcm
      obtain ⟨k, hk⟩ := List.getElem?_of_mem hcm
      rw [h2 k c (List.getElem?_eq_some_iff.mp hk).1 hk]
      rfl
    · exact absurd c11 (by omega)
  | succ e ih =>
    intro r z h1 h2
    have hr : r < (ringsB a.2.2 a.2.1 5).length := by omega
    obtain ⟨c, hkc⟩ : ∃ c, (ringsB a.2.2 a.2.1 5)[r]? = some c := ⟨_, List.getElem?_eq_getElem hr⟩
    obtain ⟨r1, r2, r3, r4⟩ := rings_mem 5 r c hkc
    obtain ⟨q1, q2⟩ := hl.2.2 r c hkc
    have hab := abB_lt a.2.2 c 9
    have hx := xor_and_le c (abB a.2.2 c 9)
    have han : s &&& c ≤ s := Nat.and_le_left
    have hfalse : hitB a.2.2 s c = true → ptB a.2.2 a.2.1 s = false := by
      intro hh
      rw [ptB, ptL, Bool.eq_false_iff, ne_eq, List.all_eq_true]
      intro hz
      have := hz c (List.mem_of_getElem? hkc)
      rw [hh] at this
      cases this
    refine x_iload_n dX11_isPart_6 rfl ?_
    refine x_aload_n dX11_isPart_7 rfl ?_
    refine x_getIV dX11_isPart_8 fl_X11_120 rfl (hl.2.1) ?_
    refine x_icmp_geN 60 dX11_isPart_11 rfl (by omega) (by omega) (fun c11 => ?_) (fun c11 => ?_)
    · exact absurd c11 (by omega)
    · refine x_iload_n dX11_isPart_14 rfl ?_
      refine x_aload_n dX11_isPart_15 rfl ?_
      refine x_getR dX11_isPart_16 fl_X11_36 rfl ?_
      refine x_iload_n dX11_isPart_19 rfl ?_
      refine x_ialdN dX11_isPart_20 rfl rfl (by omega) (q1) ?_
      refine x_iandN dX11_isPart_21 ?_
      refine x_istore_n dX11_isPart_22 rfl ?_
      refine x_iload_n dX11_isPart_23 rfl ?_
      refine x_aload_n dX11_isPart_24 rfl ?_
      refine x_getR dX11_isPart_25 fl_X11_39 rfl ?_
      refine x_iload_n dX11_isPart_28 rfl ?_
      refine x_ialdN dX11_isPart_29 rfl rfl (by omega) (q2) ?_
      refine x_icmp_eqN 52 dX11_isPart_30 rfl (by omega) (by omega) (fun c30 => ?_) (fun c30 => ?_)
      · refine x_ic _ ic_0 dX11_isPart_52 ?_
        refine x_zret0 dX11_isPart_53 rfl ?_
        exact ⟨by rw [zB_f (hfalse (by simp [hitB, c30]))], rfl⟩
      · refine x_iload_n dX11_isPart_33 rfl ?_
        refine x_aload_n dX11_isPart_34 rfl ?_
        refine x_getR dX11_isPart_35 fl_X11_36 rfl ?_
        refine x_iload_n dX11_isPart_38 rfl ?_
        refine x_ialdN dX11_isPart_39 rfl rfl (by omega) (q1) ?_
        refine x_aload_n dX11_isPart_40 rfl ?_
        refine x_getR dX11_isPart_41 fl_X11_39 rfl ?_
        refine x_iload_n dX11_isPart_44 rfl ?_
        refine x_ialdN dX11_isPart_45 rfl rfl (by omega) (q2) ?_
        refine x_ic _ ic_m1 dX11_isPart_46 ?_
        refine x_ixor dX11_isPart_47 ?_
        refine x_iandNX dX11_isPart_48 ?_
        refine x_icmp_neN 54 dX11_isPart_49 rfl (by omega) (by omega) (fun c49 => ?_) (fun c49 => ?_)
        · refine x_iincN dX11_isPart_54 rfl rfl ?_
          refine x_goto 6 dX11_isPart_57 rfl ?_
          refine ih (r + 1) _ (by omega) (fun k d hk hd => ?_)
          by_cases q : k = r
          · subst q
            rw [hkc] at hd
            cases hd
            simp [hitB, c30, c49]
          · exact h2 k d (by omega) hd
        · refine x_ic _ ic_0 dX11_isPart_52 ?_
          refine x_zret0 dX11_isPart_53 rfl ?_
          exact ⟨by rw [zB_f (hfalse (by simp [hitB, c49]))], rfl⟩
set_option maxRecDepth 100000 in
set_option maxHeartbeats 4000000 in
theorem kF_isPart (S : amS) (a : Ar) (hs : List Ar) (tx : List Nat) (u0 u1 u2 ck co : Int32) (hc : mCore S a hs tx u0 u1 u2 ck co) (s : Nat) (hs0 : s < 2 ^ a.2.1) : X shM mX11_isPart 0 [.ref 0, .int (nI s), .null, .null] [] S (fun r S' => r = some (.int (zB (ptB a.2.2 a.2.1 s))) ∧ mCore S' a hs tx u0 u1 u2 ck co ∧ laidM S' a.2.1 a.2.2 ∧ Fr S S') := by
  refine x_aload_n dX11_isPart_0 rfl ?_
  refine x_v0 (N := mX11_lay) dX11_isPart_1 ml_X11_187 nv_X11_lay rfl rfl (k_layq S a hs tx u0 u1 u2 ck co hc) ?_
  rintro _ S' ⟨rfl, hc', hl, hf⟩
  refine x_ic _ ic_0 dX11_isPart_4 ?_
  refine x_istore_n dX11_isPart_5 rfl ?_
  refine x_mono ?_ (kF_isPart_l S' a hs tx u0 u1 u2 ck co hc' hl s hs0 (ringsB a.2.2 a.2.1 5).length 0 .null (by omega) (fun k c hk => absurd hk (Nat.not_lt_zero k)))
  rintro _ _ ⟨rfl, rfl⟩
  exact ⟨rfl, hc', hl, hf⟩
set_option maxRecDepth 100000 in
set_option maxHeartbeats 4000000 in
theorem kF_pm_l (a : Ar) (hs : List Ar) (tx : List Nat) (u0 u1 u2 ck co : Int32) (S : amS) : ∀ (e t : Nat) (S1 : amS), mCore S1 a hs tx u0 u1 u2 ck co → laidM S1 a.2.1 a.2.2 → Fr S S1 → t + e = 2 ^ a.2.1 → X shM mX11_partMany 4 [.ref 0, .int (nI ((List.range t).filter (fun s => ptB a.2.2 a.2.1 s)).length), .int (nI t)] [] S1 (fun r S' => r = some (.int (nI (regL a.2.2 a.2.1).length)) ∧ mCore S' a hs tx u0 u1 u2 ck co ∧ laidM S' a.2.1 a.2.2 ∧ Fr S S') := by
  intro e
  induction e with
  | zero =>
    intro t S1 hc hl0 hF h1
    obtain rfl : t = 2 ^ a.2.1 := by omega
    have hA := hc.1.1
    have hm := hc.1.2
    obtain ⟨a1, a2, a3, a4, a5, a6, a7⟩ := id hA
    have h512 := pow9 a3
    have hr9 : ∀ t, t < 2 ^ a.2.1 → rkV a.2.2 t ≤ 9 := fun t ht => Nat.le_trans (rkV_le (by omega)) (pc9_le t (by omega))
    have hpos := Nat.two_pow_pos a.2.1
    refine x_iload_n dX11_partMany_4 rfl ?_
    refine x_aload_n dX11_partMany_5 rfl ?_
    refine x_v0d (N := mX11_all) dX11_partMany_6 ml_X11_109 nv_X11_all rfl rfl (k_all S1 a.2.1 a3 hm.2.1) ?_
    refine x_icmp_gtN 34 dX11_partMany_9 rfl (by omega) (by omega) (fun c9 => ?_) (fun c9 => ?_)
    · refine x_iload_n dX11_partMany_34 rfl ?_
      refine x_iretI dX11_partMany_35 rfl ?_
      exact ⟨rfl, hc, hl0, hF⟩
    · exact absurd c9 (by omega)
  | succ e ih =>
    intro t S1 hc hl0 hF h1
    have hA := hc.1.1
    have hm := hc.1.2
    obtain ⟨a1, a2, a3, a4, a5, a6, a7⟩ := id hA
    have h512 := pow9 a3
    have hr9 : ∀ t, t < 2 ^ a.2.1 → rkV a.2.2 t ≤ 9 := fun t ht => Nat.le_trans (rkV_le (by omega)) (pc9_le t (by omega))
    have hpos := Nat.two_pow_pos a.2.1
    have hfs := filter_succ (fun s => ptB a.2.2 a.2.1 s) t
    have hfl := filter_len (fun s => ptB a.2.2 a.2.1 s) t
    refine x_iload_n dX11_partMany_4 rfl ?_
    refine x_aload_n dX11_partMany_5 rfl ?_
    refine x_v0d (N := mX11_all) dX11_partMany_6 ml_X11_109 nv_X11_all rfl rfl (k_all S1 a.2.1 a3 hm.2.1) ?_
    refine x_icmp_gtN 34 dX11_partMany_9 rfl (by omega) (by omega) (fun c9 => ?_) (fun c9 => ?_)
    · exact absurd c9 (by omega)
    · refine x_iload_n dX11_partMany_12 rfl ?_
      refine x_aload_n dX11_partMany_13 rfl ?_
      refine x_iload_n dX11_partMany_14 rfl ?_
      refine x_v1 (N := mX11_isPart) dX11_partMany_15 ml_X11_209 nv_X11_isPart rfl rfl (kF_isPart S1 a hs tx u0 u1 u2 ck co hc t (by omega)) ?_
      rintro _ S' ⟨rfl, hc', hl, hf⟩
      refine x_if_eqB 25 dX11_partMany_18 rfl (fun c18 => ?_) (fun c18 => ?_)
      · rw [c18, Bool.toNat_false] at hfs
        refine x_ic _ ic_0 dX11_partMany_25 ?_
        refine x_iaddN dX11_partMany_26 ?_
        rw [← hfs]
        refine x_istore_n dX11_partMany_27 rfl ?_
        refine x_iincN dX11_partMany_28 rfl rfl ?_
        refine x_goto 4 dX11_partMany_31 rfl ?_
        exact ih (t + 1) S' hc' hl (hF.tr hf) (by omega)
      · rw [c18, Bool.toNat_true] at hfs
        refine x_ic _ ic_1 dX11_partMany_21 ?_
        refine x_goto 26 dX11_partMany_22 rfl ?_
        refine x_iaddN dX11_partMany_26 ?_
        rw [← hfs]
        refine x_istore_n dX11_partMany_27 rfl ?_
        refine x_iincN dX11_partMany_28 rfl rfl ?_
        refine x_goto 4 dX11_partMany_31 rfl ?_
        exact ih (t + 1) S' hc' hl (hF.tr hf) (by omega)
set_option maxRecDepth 100000 in
set_option maxHeartbeats 4000000 in
theorem kF_partMany (S : amS) (a : Ar) (hs : List Ar) (tx : List Nat) (u0 u1 u2 ck co : Int32) (hc : mCore S a hs tx u0 u1 u2 ck co) (hl : laidM S a.2.1 a.2.2) : X shM mX11_partMany 0 [.ref 0, .null, .null] [] S (fun r S' => r = some (.int (nI (regL a.2.2 a.2.1).length)) ∧ mCore S' a hs tx u0 u1 u2 ck co ∧ laidM S' a.2.1 a.2.2 ∧ Fr S S') := by
  refine x_ic _ ic_0 dX11_partMany_0 ?_
  refine x_istore_n dX11_partMany_1 rfl ?_
  refine x_ic _ ic_0 dX11_partMany_2 ?_
  refine x_istore_n dX11_partMany_3 rfl ?_
  exact kF_pm_l a hs tx u0 u1 u2 ck co S (2 ^ a.2.1) 0 S hc hl (Fr.rf S) (by omega)
