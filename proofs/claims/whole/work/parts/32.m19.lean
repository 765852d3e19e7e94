/-! THE REFERENCE: modular flats counted, base sets -/
def evL (r : Nat → Nat) (N k : Nat) : List Nat := (List.range (2 ^ N)).filter (fun s => (r s == k && flB r N s) && evB r N s (2 ^ N))
/-- the first ring whose planes but the lowest are in the set -/
def brL (L : List Nat) (s : Nat) : Option Nat := L.findIdx? (fun c => ((c &&& (c - 1)) ^^^ ((c &&& (c - 1)) &&& s)) == 0)
def bsB (r : Nat → Nat) (L : List Nat) (s : Nat) : Bool := !bdB r s && (brL L s).isNone
def baL (r : Nat → Nat) (L : List Nat) (N k : Nat) : List Nat := (List.range (2 ^ N)).filter (fun s => pc9 s == k && bsB r L s)
set_option maxRecDepth 100000 in
set_option maxHeartbeats 4000000 in
theorem k_even_l (S : amS) (N : Nat) (r : Nat → Nat) (hN : N ≤ 9) (hM : S.2.1 1 37 = nI N) (hr : ∀ s, s < 2 ^ N → S.2.1 6 s = nI (r s)) (hr9 : ∀ s, s < 2 ^ N → r s ≤ 9) (k : Nat) (hk : k ≤ 4) : ∀ (e t : Nat), t + e = 2 ^ N → X shM mX11_even 24 [.ref 0, .int (nI k), .int (nI ((List.range t).filter (fun s => (r s == k && flB r N s) && evB r N s (2 ^ N))).length), .int (nI t)] [] S (fun q S' => q = some (.int (nI (evL r N k).length)) ∧ S' = S) := by
  have h512 := pow9 hN
  have hpos := Nat.two_pow_pos N
  intro e
  induction e with
  | zero =>
    intro t h1
    obtain rfl : t = 2 ^ N := by omega
    refine x_iload_n dX11_even_24 rfl ?_
    refine x_aload_n dX11_even_25 rfl ?_
    refine x_v0d (N := mX11_all) dX11_even_26 ml_X11_109 nv_X11_all rfl rfl (k_all S N hN hM) ?_
    refine x_icmp_gtN 72 dX11_even_29 rfl (by omega) (by omega) (fun c29 => ?_) (fun c29 => ?_)
    · refine x_iload_n dX11_even_72 rfl ?_
      refine x_iretI dX11_even_73 rfl ?_
      exact ⟨rfl, rfl⟩
    · exact absurd c29 (by omega)
  | succ e ih =>
    intro t h1
    have ht : t < 2 ^ N := by omega
    have h9 := hr9 t ht
    have hfs := filter_succ (fun s => (r s == k && flB r N s) && evB r N s (2 ^ N)) t
    refine x_iload_n dX11_even_24 rfl ?_
    refine x_aload_n dX11_even_25 rfl ?_
    refine x_v0d (N := mX11_all) dX11_even_26 ml_X11_109 nv_X11_all rfl rfl (k_all S N hN hM) ?_
    refine x_icmp_gtN 72 dX11_even_29 rfl (by omega) (by omega) (fun c29 => ?_) (fun c29 => ?_)
    · exact absurd c29 (by omega)
    · refine x_iload_n dX11_even_32 rfl ?_
      refine x_aload_n dX11_even_33 rfl ?_
      refine x_getR dX11_even_34 fl_X11_29 rfl ?_
      refine x_iload_n dX11_even_37 rfl ?_
      refine x_ialdN dX11_even_38 rfl rfl (by omega) (hr t ht) ?_
      refine x_iload_n dX11_even_39 rfl ?_
      refine x_icmp_neN 63 dX11_even_40 rfl (by omega) (by omega) (fun c40 => ?_) (fun c40 => ?_)
      · rw [show ((r t == k && flB r N t) && evB r N t (2 ^ N)) = false from by simp [c40], Bool.toNat_false] at hfs
        refine x_ic _ ic_0 dX11_even_63 ?_
        refine x_iaddN dX11_even_64 ?_
        rw [← hfs]
        refine x_istore_n dX11_even_65 rfl ?_
        refine x_iincN dX11_even_66 rfl rfl ?_
        refine x_goto 24 dX11_even_69 rfl ?_
        exact ih (t + 1) (by omega)
      · refine x_aload_n dX11_even_43 rfl ?_
        refine x_iload_n dX11_even_44 rfl ?_
        refine x_v1d (N := mX11_isFlat) dX11_even_45 ml_X11_199 nv_X11_isFlat rfl rfl (k_isFlat S N r hN hM hr hr9 t ht) ?_
        refine x_if_eqB 63 dX11_even_48 rfl (fun c48 => ?_) (fun c48 => ?_)
        · rw [show ((r t == k && flB r N t) && evB r N t (2 ^ N)) = false from by simp [c48], Bool.toNat_false] at hfs
          refine x_ic _ ic_0 dX11_even_63 ?_
          refine x_iaddN dX11_even_64 ?_
          rw [← hfs]
          refine x_istore_n dX11_even_65 rfl ?_
          refine x_iincN dX11_even_66 rfl rfl ?_
          refine x_goto 24 dX11_even_69 rfl ?_
          exact ih (t + 1) (by omega)
        · refine x_aload_n dX11_even_51 rfl ?_
          refine x_iload_n dX11_even_52 rfl ?_
          refine x_v1d (N := mX11_isEven) dX11_even_53 ml_X11_215 nv_X11_isEven rfl rfl (k_isEven S N r hN hM hr hr9 t ht) ?_
          refine x_if_eqB 63 dX11_even_56 rfl (fun c56 => ?_) (fun c56 => ?_)
          · rw [show ((r t == k && flB r N t) && evB r N t (2 ^ N)) = false from by simp [c56], Bool.toNat_false] at hfs
            refine x_ic _ ic_0 dX11_even_63 ?_
            refine x_iaddN dX11_even_64 ?_
            rw [← hfs]
            refine x_istore_n dX11_even_65 rfl ?_
            refine x_iincN dX11_even_66 rfl rfl ?_
            refine x_goto 24 dX11_even_69 rfl ?_
            exact ih (t + 1) (by omega)
          · rw [show ((r t == k && flB r N t) && evB r N t (2 ^ N)) = true from by simp [c40, c48, c56], Bool.toNat_true] at hfs
            refine x_ic _ ic_1 dX11_even_59 ?_
            refine x_goto 64 dX11_even_60 rfl ?_
            refine x_iaddN dX11_even_64 ?_
            rw [← hfs]
            refine x_istore_n dX11_even_65 rfl ?_
            refine x_iincN dX11_even_66 rfl rfl ?_
            refine x_goto 24 dX11_even_69 rfl ?_
            exact ih (t + 1) (by omega)
set_option maxRecDepth 100000 in
set_option maxHeartbeats 4000000 in
theorem k_even_ok (S : amS) (a : Ar) (hs : List Ar) (tx : List Nat) (u0 u1 u2 ck co : Int32) (hc : mCore S a hs tx u0 u1 u2 ck co) (k : Nat) (hk : k < 5) : X shM mX11_even 0 [.ref 0, .int (nI k), .null, .null] [] S (fun r S' => r = some (.int (nI (evL (rkV a.2.2) a.2.1 k).length)) ∧ mCore S' a hs tx u0 u1 u2 ck co) := by
  have hA := hc.1.1
  have hm := hc.1.2
  obtain ⟨a1, a2, a3, a4, a5, a6, a7⟩ := id hA
  have h512 := pow9 a3
  have hr9 : ∀ t, t < 2 ^ a.2.1 → rkV a.2.2 t ≤ 9 := fun t ht => Nat.le_trans (rkV_le (by omega)) (pc9_le t (by omega))
  refine x_iload_n dX11_even_0 rfl ?_
  refine x_ic _ ic_0 dX11_even_1 ?_
  refine x_ic _ ic_4 dX11_even_2 ?_
  refine x_s3d (N := mX11_in) dX11_even_3 ml_X11_113 ns_X11_in rfl (k_in S _ _ _) ?_
  refine x_if_neB 16 dX11_even_6 rfl (fun c6 => ?_) (fun c6 => ?_)
  · refine x_aload_n dX11_even_16 rfl ?_
    refine x_v0 (N := mX11_lay) dX11_even_17 ml_X11_187 nv_X11_lay rfl rfl (k_layq S a hs tx u0 u1 u2 ck co hc) ?_
    rintro _ S' ⟨rfl, hc', hl, hf⟩
    refine x_ic _ ic_0 dX11_even_20 ?_
    refine x_istore_n dX11_even_21 rfl ?_
    refine x_ic _ ic_0 dX11_even_22 ?_
    refine x_istore_n dX11_even_23 rfl ?_
    refine x_mono ?_ (k_even_l S' a.2.1 (rkV a.2.2) a3 hc'.1.2.2.1 hl.1 hr9 k (by omega) (2 ^ a.2.1) 0 (by omega))
    rintro _ _ ⟨rfl, rfl⟩
    exact ⟨rfl, hc'⟩
  · rw [Bool.eq_false_iff, ne_eq, in_R _ (by omega)] at c6
    exact absurd (InR_in hk) c6
set_option maxRecDepth 100000 in
set_option maxHeartbeats 4000000 in
theorem k_even_bad (S : amS) (a : Ar) (hs : List Ar) (tx : List Nat) (u0 u1 u2 ck co : Int32) (hc : mCore S a hs tx u0 u1 u2 ck co) (x : Int32) (hx : ¬ InR x 5) : X shM mX11_even 0 [.ref 0, .int x, .null, .null] [] S (fun r S' => r = some (.int (i32 (-2))) ∧ mCore S' a hs tx (u0 + nI 1) u1 u2 ck co) := by
  have hA := hc.1.1
  have hm := hc.1.2
  obtain ⟨a1, a2, a3, a4, a5, a6, a7⟩ := id hA
  have h512 := pow9 a3
  have hr9 : ∀ t, t < 2 ^ a.2.1 → rkV a.2.2 t ≤ 9 := fun t ht => Nat.le_trans (rkV_le (by omega)) (pc9_le t (by omega))
  refine x_iload_n dX11_even_0 rfl ?_
  refine x_ic _ ic_0 dX11_even_1 ?_
  refine x_ic _ ic_4 dX11_even_2 ?_
  refine x_s3d (N := mX11_in) dX11_even_3 ml_X11_113 ns_X11_in rfl (k_in S _ _ _) ?_
  refine x_if_neB 16 dX11_even_6 rfl (fun c6 => ?_) (fun c6 => ?_)
  · rw [in_R _ (by omega)] at c6
    exact absurd c6 hx
  · refine x_aload_n dX11_even_9 rfl ?_
    refine x_bi _ bi_m2 dX11_even_10 ?_
    refine x_v1 (N := mX11_refuses) dX11_even_12 ml_X11_89 nv_X11_refuses rfl rfl (k_bad S a hs tx u0 u1 u2 ck co hc) ?_
    rintro _ S' ⟨rfl, hc'⟩
    refine x_iretI dX11_even_15 rfl ?_
    exact ⟨rfl, hc'⟩
def ixA : Option Nat → Int32
  | some k => nI k
  | none => i32 (-1)
set_option maxRecDepth 100000 in
set_option maxHeartbeats 4000000 in
theorem k_broken_l (S : amS) (N : Nat) (r : Nat → Nat) (L : List Nat) (hN : N ≤ 9) (hM : S.2.1 1 37 = nI N) (hr : ∀ s, s < 2 ^ N → S.2.1 6 s = nI (r s)) (hr9 : ∀ s, s < 2 ^ N → r s ≤ 9) (hn : S.1 0 12 = nI L.length) (hL : L.length ≤ 381) (hk : ∀ (k c : Nat), L[k]? = some c → S.2.1 8 k = nI c ∧ 1 ≤ c ∧ c < 512) (s : Nat) (hs : s < 512) : ∀ (e j : Nat) (z : Value), j + e = L.length → (∀ (k c : Nat), k < j → L[k]? = some c → ((c &&& (c - 1)) ^^^ ((c &&& (c - 1)) &&& s)) ≠ 0) → X shM mX11_broken 2 [.ref 0, .int (nI s), .int (nI j), z] [] S (fun q S' => q = some (.int (ixA (brL L s))) ∧ S' = S) := by
  intro e
  induction e with
  | zero =>
    intro j z h1 h2
    obtain rfl : j = L.length := by omega
    refine x_iload_n dX11_broken_2 rfl ?_
    refine x_aload_n dX11_broken_3 rfl ?_
    refine x_getIV dX11_broken_4 fl_X11_120 rfl (hn) ?_
    refine x_icmp_geN 42 dX11_broken_7 rfl (by omega) (by omega) (fun c7 => ?_) (fun c7 => ?_)
    · refine x_ic _ ic_m1 dX11_broken_42 ?_
      refine x_iretI dX11_broken_43 rfl ?_
      have hz : brL L s = none := by
        rw [brL, List.findIdx?_eq_none_iff]
        intro c hc
        obtain ⟨k, hk2⟩ := List.getElem?_of_mem hc
        exact beq_eq_false_iff_ne.mpr (h2 k c (List.getElem?_eq_some_iff.mp hk2).1 hk2)
      exact ⟨by rw [hz]; rfl, rfl⟩
    · exact absurd c7 (by omega)
  | succ e ih =>
    intro j z h1 h2
    have hj : j < L.length := by omega
    obtain ⟨c, hkc⟩ : ∃ c, L[j]? = some c := ⟨_, List.getElem?_eq_getElem hj⟩
    obtain ⟨q1, q2, q3⟩ := hk j c hkc
    have hx := xor_and_le (c &&& (c - 1)) s
    have han : c &&& (c - 1) ≤ c := Nat.and_le_left
    refine x_iload_n dX11_broken_2 rfl ?_
    refine x_aload_n dX11_broken_3 rfl ?_
    refine x_getIV dX11_broken_4 fl_X11_120 rfl (hn) ?_
    refine x_icmp_geN 42 dX11_broken_7 rfl (by omega) (by omega) (fun c7 => ?_) (fun c7 => ?_)
    · exact absurd c7 (by omega)
    · refine x_aload_n dX11_broken_10 rfl ?_
      refine x_getR dX11_broken_11 fl_X11_36 rfl ?_
      refine x_iload_n dX11_broken_14 rfl ?_
      refine x_ialdN dX11_broken_15 rfl rfl (by omega) (q1) ?_
      refine x_aload_n dX11_broken_16 rfl ?_
      refine x_getR dX11_broken_17 fl_X11_36 rfl ?_
      refine x_iload_n dX11_broken_20 rfl ?_
      refine x_ialdN dX11_broken_21 rfl rfl (by omega) (q1) ?_
      refine x_ic _ ic_1 dX11_broken_22 ?_
      refine x_isubN dX11_broken_23 (by omega) ?_
      refine x_iandN dX11_broken_24 ?_
      refine x_istore_n dX11_broken_25 rfl ?_
      refine x_iload_n dX11_broken_26 rfl ?_
      refine x_iload_n dX11_broken_27 rfl ?_
      refine x_ic _ ic_m1 dX11_broken_28 ?_
      refine x_ixor dX11_broken_29 ?_
      refine x_iandNX dX11_broken_30 ?_
      refine x_if_neN 36 dX11_broken_31 rfl (by omega) (fun c31 => ?_) (fun c31 => ?_)
      · refine x_iincN dX11_broken_36 rfl rfl ?_
        refine x_goto 2 dX11_broken_39 rfl ?_
        refine ih (j + 1) _ (by omega) (fun k d hk2 hd => ?_)
        by_cases q : k = j
        · subst q
          rw [hkc] at hd
          cases hd
          exact c31
        · exact h2 k d (by omega) hd
      · refine x_iload_n dX11_broken_34 rfl ?_
        refine x_iretI dX11_broken_35 rfl ?_
        have hz : brL L s = some j := by
          rw [brL, List.findIdx?_eq_some_iff_getElem]
          refine ⟨hj, ?_, fun k hk2 => ?_⟩
          · have := List.getElem?_eq_some_iff.mp hkc
            obtain ⟨w1, w2⟩ := this
            rw [w2]; exact beq_iff_eq.mpr c31
          · have hkl : k < L.length := by omega
            rw [beq_eq_false_iff_ne.mpr (h2 k _ hk2 (List.getElem?_eq_getElem hkl))]
            decide
        exact ⟨by rw [hz]; rfl, rfl⟩
set_option maxRecDepth 100000 in
set_option maxHeartbeats 4000000 in
theorem k_broken (S : amS) (N : Nat) (r : Nat → Nat) (L : List Nat) (hN : N ≤ 9) (hM : S.2.1 1 37 = nI N) (hr : ∀ s, s < 2 ^ N → S.2.1 6 s = nI (r s)) (hr9 : ∀ s, s < 2 ^ N → r s ≤ 9) (hn : S.1 0 12 = nI L.length) (hL : L.length ≤ 381) (hk : ∀ (k c : Nat), L[k]? = some c → S.2.1 8 k = nI c ∧ 1 ≤ c ∧ c < 512) (s : Nat) (hs : s < 512) : X shM mX11_broken 0 [.ref 0, .int (nI s), .null, .null] [] S (fun q S' => q = some (.int (ixA (brL L s))) ∧ S' = S) := by
  refine x_ic _ ic_0 dX11_broken_0 ?_
  refine x_istore_n dX11_broken_1 rfl ?_
  exact k_broken_l S N r L hN hM hr hr9 hn hL hk s hs L.length 0 .null (by omega) (fun k c hk => absurd hk (Nat.not_lt_zero k))
theorem brL_lt {L : List Nat} {s j : Nat} (h : brL L s = some j) : j < L.length := by
  rw [brL, List.findIdx?_eq_some_iff_getElem] at h
  exact h.1
set_option maxRecDepth 100000 in
set_option maxHeartbeats 4000000 in
theorem k_isBase (S : amS) (N : Nat) (r : Nat → Nat) (L : List Nat) (hN : N ≤ 9) (hM : S.2.1 1 37 = nI N) (hr : ∀ s, s < 2 ^ N → S.2.1 6 s = nI (r s)) (hr9 : ∀ s, s < 2 ^ N → r s ≤ 9) (hn : S.1 0 12 = nI L.length) (hL : L.length ≤ 381) (hk : ∀ (k c : Nat), L[k]? = some c → S.2.1 8 k = nI c ∧ 1 ≤ c ∧ c < 512) (s : Nat) (hs : s < 2 ^ N) : X shM mX11_isBase 0 [.ref 0, .int (nI s)] [] S (fun q S' => q = some (.int (zB (bsB r L s))) ∧ S' = S) := by
  have h512 := pow9 hN
  refine x_aload_n dX11_isBase_0 rfl ?_
  refine x_iload_n dX11_isBase_1 rfl ?_
  refine x_v1d (N := mX11_isBound) dX11_isBase_2 ml_X11_133 nv_X11_isBound rfl rfl (k_isBound S N r hN hM hr hr9 s hs) ?_
  refine x_if_neB 21 dX11_isBase_5 rfl (fun c5 => ?_) (fun c5 => ?_)
  · refine x_ic _ ic_0 dX11_isBase_21 ?_
    refine x_zret0 dX11_isBase_22 rfl ?_
    exact ⟨by rw [zB_f (by simp [bsB, c5])], rfl⟩
  · refine x_aload_n dX11_isBase_8 rfl ?_
    refine x_iload_n dX11_isBase_9 rfl ?_
    refine x_v1d (N := mX11_broken) dX11_isBase_10 ml_X11_231 nv_X11_broken rfl rfl (k_broken S N r L hN hM hr hr9 hn hL hk s (by omega)) ?_
    refine x_ic _ ic_m1 dX11_isBase_13 ?_
    refine x_icmp_ne 21 dX11_isBase_14 rfl (fun c14 => ?_) (fun c14 => ?_)
    · refine x_ic _ ic_0 dX11_isBase_21 ?_
      refine x_zret0 dX11_isBase_22 rfl ?_
      cases e : brL L s with
      | none => rw [e] at c14; exact absurd rfl c14
      | some j => exact ⟨by rw [zB_f (by simp [bsB, e])], rfl⟩
    · refine x_ic _ ic_1 dX11_isBase_17 ?_
      refine x_goto 22 dX11_isBase_18 rfl ?_
      refine x_zret1 dX11_isBase_22 rfl ?_
      cases e : brL L s with
      | none => exact ⟨by rw [zB_t (by simp [bsB, c5, e])], rfl⟩
      | some j =>
        rw [e] at c14
        exact absurd c14 (nI_m1 (by have := brL_lt e; omega))
set_option maxRecDepth 100000 in
set_option maxHeartbeats 4000000 in
theorem k_baseOf_l (S : amS) (N : Nat) (r : Nat → Nat) (L : List Nat) (hN : N ≤ 9) (hM : S.2.1 1 37 = nI N) (hr : ∀ s, s < 2 ^ N → S.2.1 6 s = nI (r s)) (hr9 : ∀ s, s < 2 ^ N → r s ≤ 9) (hn : S.1 0 12 = nI L.length) (hL : L.length ≤ 381) (hk : ∀ (k c : Nat), L[k]? = some c → S.2.1 8 k = nI c ∧ 1 ≤ c ∧ c < 512) (k : Nat) (hk4 : k ≤ 4) (x : Int32) (hx : ¬ x < i32 (-1)) : ∀ (e t : Nat), t + e = 2 ^ N → (∀ m, m < ((List.range t).filter (fun s => pc9 s == k && bsB r L s)).length → x ≠ nI m) → X shM mX11_baseOf 9 [.ref 0, .int (nI k), .int x, .int (nI ((List.range t).filter (fun s => pc9 s == k && bsB r L s)).length), .int (nI t)] [] S (fun q S' => q = some (.int (lAns (baL r L N k) x)) ∧ S' = S) := by
  have h512 := pow9 hN
  have hpos := Nat.two_pow_pos N
  intro e
  induction e with
  | zero =>
    intro t h1 h2
    obtain rfl : t = 2 ^ N := by omega
    refine x_iload dX11_baseOf_9 rfl ?_
    refine x_aload_n dX11_baseOf_11 rfl ?_
    refine x_v0d (N := mX11_all) dX11_baseOf_12 ml_X11_109 nv_X11_all rfl rfl (k_all S N hN hM) ?_
    refine x_icmp_gtN 53 dX11_baseOf_15 rfl (by omega) (by omega) (fun c15 => ?_) (fun c15 => ?_)
    · refine x_iload_n dX11_baseOf_53 rfl ?_
      refine x_ic _ ic_m1 dX11_baseOf_54 ?_
      refine x_icmp_ne 62 dX11_baseOf_55 rfl (fun c55 => ?_) (fun c55 => ?_)
      · refine x_bi _ bi_m5 dX11_baseOf_62 ?_
        refine x_iretI dX11_baseOf_64 rfl ?_
        exact ⟨by rw [lAns_none (l := baL r L N k) hx c55 h2], rfl⟩
      · refine x_iload_n dX11_baseOf_58 rfl ?_
        refine x_goto 64 dX11_baseOf_59 rfl ?_
        refine x_iretI dX11_baseOf_64 rfl ?_
        exact ⟨by rw [c55, lAns_cnt]; rfl, rfl⟩
    · exact absurd c15 (by omega)
  | succ e ih =>
    intro t h1 h2
    have ht : t < 2 ^ N := by omega
    have h9 := pc9_le t (by omega)
    have hfl := filter_len (fun s => pc9 s == k && bsB r L s) t
    have hfs := filter_succ (fun s => pc9 s == k && bsB r L s) t
    have hskip : (pc9 t == k && bsB r L t) = false → X shM mX11_baseOf 47 [.ref 0, .int (nI k), .int x, .int (nI ((List.range t).filter (fun s => pc9 s == k && bsB r L s)).length), .int (nI t)] [] S (fun q S' => q = some (.int (lAns (baL r L N k) x)) ∧ S' = S) := by
      intro hz
      rw [hz, Bool.toNat_false, Nat.add_zero] at hfs
      refine x_iincN dX11_baseOf_47 rfl rfl ?_
      refine x_goto 9 dX11_baseOf_50 rfl ?_
      have := ih (t + 1) (by omega) (by rw [hfs]; exact h2)
      rw [hfs] at this
      exact this
    refine x_iload dX11_baseOf_9 rfl ?_
    refine x_aload_n dX11_baseOf_11 rfl ?_
    refine x_v0d (N := mX11_all) dX11_baseOf_12 ml_X11_109 nv_X11_all rfl rfl (k_all S N hN hM) ?_
    refine x_icmp_gtN 53 dX11_baseOf_15 rfl (by omega) (by omega) (fun c15 => ?_) (fun c15 => ?_)
    · exact absurd c15 (by omega)
    · refine x_iload dX11_baseOf_18 rfl ?_
      refine x_s1d (N := mX11_bits) dX11_baseOf_20 ml_X11_123 ns_X11_bits rfl (k_bits S t (by omega)) ?_
      refine x_iload_n dX11_baseOf_23 rfl ?_
      refine x_icmp_neN 47 dX11_baseOf_24 rfl (by omega) (by omega) (fun c24 => ?_) (fun c24 => ?_)
      · exact hskip (by simp [c24])
      · refine x_aload_n dX11_baseOf_27 rfl ?_
        refine x_iload dX11_baseOf_28 rfl ?_
        refine x_v1d (N := mX11_isBase) dX11_baseOf_30 ml_X11_234 nv_X11_isBase rfl rfl (k_isBase S N r L hN hM hr hr9 hn hL hk t ht) ?_
        refine x_if_eqB 47 dX11_baseOf_33 rfl (fun c33 => ?_) (fun c33 => ?_)
        · exact hskip (by simp [c33])
        · refine x_iload_n dX11_baseOf_36 rfl ?_
          refine x_iload_n dX11_baseOf_37 rfl ?_
          refine x_icmp_ne 44 dX11_baseOf_38 rfl (fun c38 => ?_) (fun c38 => ?_)
          · rw [show (pc9 t == k && bsB r L t) = true from by simp [c24, c33], Bool.toNat_true] at hfs
            refine x_iincN dX11_baseOf_44 rfl rfl ?_
            refine x_iincN dX11_baseOf_47 rfl rfl ?_
            refine x_goto 9 dX11_baseOf_50 rfl ?_
            have := ih (t + 1) (by omega) (by
              rw [hfs]
              intro m hm
              by_cases q : m = ((List.range t).filter (fun s => pc9 s == k && bsB r L s)).length
              · subst q; exact fun z => c38 z.symm
              · exact h2 m (by omega))
            rw [hfs] at this
            exact this
          · refine x_iload dX11_baseOf_41 rfl ?_
            refine x_iretI dX11_baseOf_43 rfl ?_
            exact ⟨by rw [← c38, baL, lAns_at (filter_nth ht (by simp [c24, c33])) (by omega)], rfl⟩
theorem laid_L {S : amS} {N : Nat} {v : Nat → Row} (hN : N ≤ 9) (hl : laidM S N v) : ∀ (k c : Nat), (ringsB v N 5)[k]? = some c → S.2.1 8 k = nI c ∧ 1 ≤ c ∧ c < 512 := by
  intro k c h
  have h512 := pow9 hN
  obtain ⟨r1, r2, r3, r4⟩ := rings_mem 5 k c h
  refine ⟨(hl.2.2 k c h).1, ?_, by omega⟩
  by_cases q : c = 0
  · subst q; exact absurd r3 (by decide)
  · omega
set_option maxRecDepth 100000 in
set_option maxHeartbeats 4000000 in
theorem k_baseOf (S : amS) (a : Ar) (hs : List Ar) (tx : List Nat) (u0 u1 u2 ck co : Int32) (hc : mCore S a hs tx u0 u1 u2 ck co) (k : Nat) (hk : k ≤ 4) (x : Int32) (hx : ¬ x < i32 (-1)) : X shM mX11_baseOf 0 [.ref 0, .int (nI k), .int x, .null, .null] [] S (fun r S' => r = some (.int (lAns (baL (rkV a.2.2) (ringsB a.2.2 a.2.1 5) a.2.1 k) x)) ∧ mCore S' a hs tx u0 u1 u2 ck co ∧ laidM S' a.2.1 a.2.2) := by
  have hA := hc.1.1
  have hm := hc.1.2
  obtain ⟨a1, a2, a3, a4, a5, a6, a7⟩ := id hA
  have h512 := pow9 a3
  have hr9 : ∀ t, t < 2 ^ a.2.1 → rkV a.2.2 t ≤ 9 := fun t ht => Nat.le_trans (rkV_le (by omega)) (pc9_le t (by omega))
  have hlen := ringsB_le a.2.2 a3 4 (2 ^ a.2.1) (by omega) (Nat.le_refl _)
  have hlen2 : (ringsB a.2.2 a.2.1 5).length ≤ 381 := hlen
  refine x_aload_n dX11_baseOf_0 rfl ?_
  refine x_v0 (N := mX11_lay) dX11_baseOf_1 ml_X11_187 nv_X11_lay rfl rfl (k_layq S a hs tx u0 u1 u2 ck co hc) ?_
  rintro _ S' ⟨rfl, hc', hl, hf⟩
  refine x_ic _ ic_0 dX11_baseOf_4 ?_
  refine x_istore_n dX11_baseOf_5 rfl ?_
  refine x_ic _ ic_0 dX11_baseOf_6 ?_
  refine x_istore dX11_baseOf_7 rfl ?_
  refine x_mono ?_ (k_baseOf_l S' a.2.1 (rkV a.2.2) (ringsB a.2.2 a.2.1 5) a3 hc'.1.2.2.1 hl.1 hr9 hl.2.1 hlen2 (laid_L a3 hl) k hk x hx (2 ^ a.2.1) 0 (by omega) (fun m hm => absurd hm (by simp)))
  rintro _ _ ⟨rfl, rfl⟩
  exact ⟨rfl, hc', hl⟩
set_option maxRecDepth 100000 in
set_option maxHeartbeats 4000000 in
theorem k_base_ok (S : amS) (a : Ar) (hs : List Ar) (tx : List Nat) (u0 u1 u2 ck co : Int32) (hc : mCore S a hs tx u0 u1 u2 ck co) (k : Nat) (hk : k < 5) (x : Int32) (hx : ¬ x < i32 (-1)) : X shM mX11_base 0 [.ref 0, .int (nI k), .int x] [] S (fun r S' => r = some (.int (lAns (baL (rkV a.2.2) (ringsB a.2.2 a.2.1 5) a.2.1 k) x)) ∧ mCore S' a hs tx u0 u1 u2 ck co) := by
  have hA := hc.1.1
  have hm := hc.1.2
  obtain ⟨a1, a2, a3, a4, a5, a6, a7⟩ := id hA
  have h512 := pow9 a3
  have hr9 : ∀ t, t < 2 ^ a.2.1 → rkV a.2.2 t ≤ 9 := fun t ht => Nat.le_trans (rkV_le (by omega)) (pc9_le t (by omega))
  refine x_iload_n dX11_base_0 rfl ?_
  refine x_ic _ ic_0 dX11_base_1 ?_
  refine x_ic _ ic_4 dX11_base_2 ?_
  refine x_s3d (N := mX11_in) dX11_base_3 ml_X11_113 ns_X11_in rfl (k_in S _ _ _) ?_
  refine x_if_eqB 23 dX11_base_6 rfl (fun c6 => ?_) (fun c6 => ?_)
  · rw [Bool.eq_false_iff, ne_eq, in_R _ (by omega)] at c6
    exact absurd (InR_in hk) c6
  · refine x_iload_n dX11_base_9 rfl ?_
    refine x_ic _ ic_m1 dX11_base_10 ?_
    refine x_icmp_lt 23 dX11_base_11 rfl (fun c11 => ?_) (fun c11 => ?_)
    · exact absurd c11 hx
    · refine x_aload_n dX11_base_14 rfl ?_
      refine x_iload_n dX11_base_15 rfl ?_
      refine x_iload_n dX11_base_16 rfl ?_
      refine x_v2 (N := mX11_baseOf) dX11_base_17 ml_X11_237 nv_X11_baseOf rfl rfl (k_baseOf S a hs tx u0 u1 u2 ck co hc k (by omega) x hx) ?_
      rintro _ S' ⟨rfl, hc', hl⟩
      refine x_goto 29 dX11_base_20 rfl ?_
      refine x_iretI dX11_base_29 rfl ?_
      exact ⟨rfl, hc'⟩
set_option maxRecDepth 100000 in
set_option maxHeartbeats 4000000 in
theorem k_base_bad (S : amS) (a : Ar) (hs : List Ar) (tx : List Nat) (u0 u1 u2 ck co : Int32) (hc : mCore S a hs tx u0 u1 u2 ck co) (y x : Int32) (hxy : ¬ (InR y 5 ∧ ¬ x < i32 (-1))) : X shM mX11_base 0 [.ref 0, .int y, .int x] [] S (fun r S' => r = some (.int (i32 (-2))) ∧ mCore S' a hs tx (u0 + nI 1) u1 u2 ck co) := by
  have hA := hc.1.1
  have hm := hc.1.2
  obtain ⟨a1, a2, a3, a4, a5, a6, a7⟩ := id hA
  have h512 := pow9 a3
  have hr9 : ∀ t, t < 2 ^ a.2.1 → rkV a.2.2 t ≤ 9 := fun t ht => Nat.le_trans (rkV_le (by omega)) (pc9_le t (by omega))
  refine x_iload_n dX11_base_0 rfl ?_
  refine x_ic _ ic_0 dX11_base_1 ?_
  refine x_ic _ ic_4 dX11_base_2 ?_
  refine x_s3d (N := mX11_in) dX11_base_3 ml_X11_113 ns_X11_in rfl (k_in S _ _ _) ?_
  refine x_if_eqB 23 dX11_base_6 rfl (fun c6 => ?_) (fun c6 => ?_)
  · refine x_aload_n dX11_base_23 rfl ?_
    refine x_bi _ bi_m2 dX11_base_24 ?_
    refine x_v1 (N := mX11_refuses) dX11_base_26 ml_X11_89 nv_X11_refuses rfl rfl (k_bad S a hs tx u0 u1 u2 ck co hc) ?_
    rintro _ S' ⟨rfl, hc'⟩
    refine x_iretI dX11_base_29 rfl ?_
    exact ⟨rfl, hc'⟩
  · refine x_iload_n dX11_base_9 rfl ?_
    refine x_ic _ ic_m1 dX11_base_10 ?_
    refine x_icmp_lt 23 dX11_base_11 rfl (fun c11 => ?_) (fun c11 => ?_)
    · refine x_aload_n dX11_base_23 rfl ?_
      refine x_bi _ bi_m2 dX11_base_24 ?_
      refine x_v1 (N := mX11_refuses) dX11_base_26 ml_X11_89 nv_X11_refuses rfl rfl (k_bad S a hs tx u0 u1 u2 ck co hc) ?_
      rintro _ S' ⟨rfl, hc'⟩
      refine x_iretI dX11_base_29 rfl ?_
      exact ⟨rfl, hc'⟩
    · rw [in_R _ (by omega)] at c6
      exact absurd ⟨c6, c11⟩ hxy
