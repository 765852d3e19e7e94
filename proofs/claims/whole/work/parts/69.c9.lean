/-! THE CLASS: calls that ask the matroid -/
theorem xCore.mt {S S' : amS} {B : Nat} {a : Ar} {hs : List Ar} {tx : List Nat} {u0 u1 u2 ck co : Int32} {V : Nat} (h : xCore S B a hs tx u0 u1 u2 ck co) (hV : S.1 1 3 = nI V) (hVB : V ≤ B) (ht : tabsX S V a) (f : FO [19, 20, 24] [22, 23, 25] S S') (h7 : S'.1 19 7 = nI V) (hl : laidX S' a.2.1 a.2.2) : xCore S' B a hs tx u0 u1 u2 ck co := by
  obtain ⟨h1, h2, -⟩ := h
  obtain ⟨t1, t2, t3, t4⟩ := ht
  refine ⟨⟨h1.1, h1.2.fo f (by decide) (by decide)⟩, h2.fo f (by decide) (by decide) (by decide), V, hVB, by rw [f.1 1 (by decide)]; exact hV, ⟨V, by omega, by omega, by rw [h7, nI_i32], fun _ => hl⟩, t2.fo (f.1 _ (by decide)) (fun z => z.fo f (by decide) (by decide)), t3.fo (f.1 _ (by decide)) (fun z => z.mt f (by decide) hl), t4.fo (f.1 _ (by decide)) (fun z => z.fo f (by decide))⟩
/-- scratch alone has changed -/
theorem xCore.scr {os rs : List Nat} {S S' : amS} {B : Nat} {a : Ar} {hs : List Ar} {tx : List Nat} {u0 u1 u2 ck co : Int32} (h : xCore S B a hs tx u0 u1 u2 ck co) (f : FO os rs S S') (ho : ∀ o ∈ os, o ∈ [20, 26, 38, 39, 41, 45]) (hr : ∀ o ∈ rs, o ∈ [27, 28, 31, 41, 44, 46]) : xCore S' B a hs tx u0 u1 u2 ck co := by
  have f' := f.mono ho hr
  obtain ⟨h1, h2, V, h3, h4, h5⟩ := h
  exact ⟨⟨h1.1, h1.2.fo f' (by decide) (by decide)⟩, h2.fo f' (by decide) (by decide) (by decide), V, h3, by rw [f'.1 1 (by decide)]; exact h4, h5.fo f' (by decide) (by decide)⟩
theorem kx_mrq (S : amS) (B : Nat) (a : Ar) (hs : List Ar) (tx : List Nat) (u0 u1 u2 ck co : Int32) (hc : xCore S B a hs tx u0 u1 u2 ck co) (hB : B < 2147483648) : X shX mX6_refresh 0 [.ref 19, .null, .null, .null] [] S (fun r S' => r = none ∧ xCore S' B a hs tx u0 u1 u2 ck co ∧ laidX S' a.2.1 a.2.2 ∧ FO [19, 20, 24] [22, 23, 25] S S') := by
  obtain ⟨⟨h1, h2⟩, h3, V, h4, h5, h6⟩ := id hc
  refine x_mono ?_ (kx_mrefresh S a h1 h2 V h5 (by omega) h6.1)
  rintro _ S' ⟨rfl, f1, f2, f3⟩
  exact ⟨rfl, hc.mt h5 h4 h6 f1 f2 f3, f3, f1⟩
set_option maxRecDepth 100000 in
set_option maxHeartbeats 4000000 in
theorem kx_rankOf (S : amS) (B : Nat) (a : Ar) (hs : List Ar) (tx : List Nat) (u0 u1 u2 ck co : Int32) (hc : xCore S B a hs tx u0 u1 u2 ck co) (hB : B < 2147483648) (s : Nat) (hs0 : s < 2 ^ a.2.1) : X shX mX6_rankOf 0 [.ref 19, .int (nI s)] [] S (fun r S' => r = some (.int (nI (rkV a.2.2 s))) ∧ xCore S' B a hs tx u0 u1 u2 ck co ∧ laidX S' a.2.1 a.2.2) := by
  obtain ⟨⟨hA, ho⟩, hrest, hV⟩ := id hc
  obtain ⟨a1, a2, a3, a4, a5, a6, a7⟩ := id hA
  obtain ⟨m1, m2, m3⟩ := id ho
  have h512 := pow9 a3
  have hpos := Nat.two_pow_pos a.2.1
  have hr9 : ∀ t, t < 2 ^ a.2.1 → rkV a.2.2 t ≤ 9 := fun t ht => Nat.le_trans (rkV_le (by omega)) (pc9_le t (by omega))
  refine x_aload_n dX6_rankOf_0 rfl ?_
  refine x_v0 (N := mX6_refresh) dX6_rankOf_1 ml_X6_99 nv_X6_refresh rfl rfl (kx_mrq S B a hs tx u0 u1 u2 ck co hc hB) ?_
  rintro _ S' ⟨rfl, hc', hl, hf⟩
  refine x_aload_n dX6_rankOf_4 rfl ?_
  refine x_getR dX6_rankOf_5 fl_X6_18 rfl ?_
  refine x_iload_n dX6_rankOf_8 rfl ?_
  refine x_ialdN dX6_rankOf_9 rfl rfl (by omega) (hl.1 s hs0) ?_
  refine x_iretI dX6_rankOf_10 rfl ?_
  exact ⟨rfl, hc', hl⟩
set_option maxRecDepth 100000 in
set_option maxHeartbeats 4000000 in
theorem kx_closureOf (S : amS) (B : Nat) (a : Ar) (hs : List Ar) (tx : List Nat) (u0 u1 u2 ck co : Int32) (hc : xCore S B a hs tx u0 u1 u2 ck co) (hB : B < 2147483648) (s : Nat) (hs0 : s < 2 ^ a.2.1) : X shX mX6_closureOf 0 [.ref 19, .int (nI s)] [] S (fun r S' => r = some (.int (nI (clB (rkV a.2.2) s a.2.1))) ∧ xCore S' B a hs tx u0 u1 u2 ck co ∧ laidX S' a.2.1 a.2.2) := by
  obtain ⟨⟨hA, ho⟩, hrest, hV⟩ := id hc
  obtain ⟨a1, a2, a3, a4, a5, a6, a7⟩ := id hA
  obtain ⟨m1, m2, m3⟩ := id ho
  have h512 := pow9 a3
  have hpos := Nat.two_pow_pos a.2.1
  have hr9 : ∀ t, t < 2 ^ a.2.1 → rkV a.2.2 t ≤ 9 := fun t ht => Nat.le_trans (rkV_le (by omega)) (pc9_le t (by omega))
  refine x_aload_n dX6_closureOf_0 rfl ?_
  refine x_v0 (N := mX6_refresh) dX6_closureOf_1 ml_X6_99 nv_X6_refresh rfl rfl (kx_mrq S B a hs tx u0 u1 u2 ck co hc hB) ?_
  rintro _ S' ⟨rfl, hc', hl, hf⟩
  refine x_aload_n dX6_closureOf_4 rfl ?_
  refine x_iload_n dX6_closureOf_5 rfl ?_
  refine x_v1d (N := mX6_closureFromRanks) dX6_closureOf_6 ml_X6_62 nv_X6_closureFromRanks rfl rfl (kx_cfr S' a.2.1 (rkV a.2.2) a3 hc'.1.2.2.1 hl.1 hr9 s hs0) ?_
  refine x_iretI dX6_closureOf_9 rfl ?_
  exact ⟨rfl, hc', hl⟩
set_option maxRecDepth 100000 in
set_option maxHeartbeats 4000000 in
theorem kx_isFlat (S : amS) (B : Nat) (a : Ar) (hs : List Ar) (tx : List Nat) (u0 u1 u2 ck co : Int32) (hc : xCore S B a hs tx u0 u1 u2 ck co) (hB : B < 2147483648) (s : Nat) (hs0 : s < 2 ^ a.2.1) : X shX mX6_isFlat 0 [.ref 19, .int (nI s)] [] S (fun r S' => r = some (.int (zB (flB (rkV a.2.2) a.2.1 s))) ∧ xCore S' B a hs tx u0 u1 u2 ck co ∧ laidX S' a.2.1 a.2.2) := by
  obtain ⟨⟨hA, ho⟩, hrest, hV⟩ := id hc
  obtain ⟨a1, a2, a3, a4, a5, a6, a7⟩ := id hA
  obtain ⟨m1, m2, m3⟩ := id ho
  have h512 := pow9 a3
  have hpos := Nat.two_pow_pos a.2.1
  have hr9 : ∀ t, t < 2 ^ a.2.1 → rkV a.2.2 t ≤ 9 := fun t ht => Nat.le_trans (rkV_le (by omega)) (pc9_le t (by omega))
  refine x_aload_n dX6_isFlat_0 rfl ?_
  refine x_v0 (N := mX6_refresh) dX6_isFlat_1 ml_X6_99 nv_X6_refresh rfl rfl (kx_mrq S B a hs tx u0 u1 u2 ck co hc hB) ?_
  rintro _ S' ⟨rfl, hc', hl, hf⟩
  refine x_aload_n dX6_isFlat_4 rfl ?_
  refine x_getR dX6_isFlat_5 fl_X6_22 rfl ?_
  refine x_iload_n dX6_isFlat_8 rfl ?_
  refine x_zaldN dX6_isFlat_9 rfl rfl (by omega) (hl.2.1 s hs0) ?_
  refine x_zretB dX6_isFlat_10 rfl ?_
  exact ⟨rfl, hc', hl⟩
set_option maxRecDepth 100000 in
set_option maxHeartbeats 4000000 in
theorem kx_isInd (S : amS) (B : Nat) (a : Ar) (hs : List Ar) (tx : List Nat) (u0 u1 u2 ck co : Int32) (hc : xCore S B a hs tx u0 u1 u2 ck co) (hB : B < 2147483648) (s : Nat) (hs0 : s < 2 ^ a.2.1) : X shX mX6_isIndependent 0 [.ref 19, .int (nI s)] [] S (fun r S' => r = some (.int (zB (!bdB (rkV a.2.2) s))) ∧ xCore S' B a hs tx u0 u1 u2 ck co ∧ laidX S' a.2.1 a.2.2) := by
  obtain ⟨⟨hA, ho⟩, hrest, hV⟩ := id hc
  obtain ⟨a1, a2, a3, a4, a5, a6, a7⟩ := id hA
  obtain ⟨m1, m2, m3⟩ := id ho
  have h512 := pow9 a3
  have hpos := Nat.two_pow_pos a.2.1
  have hr9 : ∀ t, t < 2 ^ a.2.1 → rkV a.2.2 t ≤ 9 := fun t ht => Nat.le_trans (rkV_le (by omega)) (pc9_le t (by omega))
  have hle := rkV_le (v := a.2.2) (s := s) (by omega)
  have hpc := pc9_le s (by omega)
  refine x_aload_n dX6_isIndependent_0 rfl ?_
  refine x_v0 (N := mX6_refresh) dX6_isIndependent_1 ml_X6_99 nv_X6_refresh rfl rfl (kx_mrq S B a hs tx u0 u1 u2 ck co hc hB) ?_
  rintro _ S' ⟨rfl, hc', hl, hf⟩
  refine x_aload_n dX6_isIndependent_4 rfl ?_
  refine x_getR dX6_isIndependent_5 fl_X6_18 rfl ?_
  refine x_iload_n dX6_isIndependent_8 rfl ?_
  refine x_ialdN dX6_isIndependent_9 rfl rfl (by omega) (hl.1 s hs0) ?_
  refine x_iload_n dX6_isIndependent_10 rfl ?_
  refine x_s1d (N := mJ6_bitCount_0f7a4) dX6_isIndependent_11 ml_X6_71 ns_J6_bitCount_0f7a4 rfl (kx_bc S' s (by omega)) ?_
  refine x_icmp_neN 21 dX6_isIndependent_14 rfl (by omega) (by omega) (fun c14 => ?_) (fun c14 => ?_)
  · refine x_ic _ ic_0 dX6_isIndependent_21 ?_
    refine x_zret0 dX6_isIndependent_22 rfl ?_
    exact ⟨by rw [zB_f]; rw [bdB, decide_eq_true (by omega)]; rfl, hc', hl⟩
  · refine x_ic _ ic_1 dX6_isIndependent_17 ?_
    refine x_goto 22 dX6_isIndependent_18 rfl ?_
    refine x_zret1 dX6_isIndependent_22 rfl ?_
    exact ⟨by rw [zB_t]; rw [bdB, decide_eq_false (by omega)]; rfl, hc', hl⟩
set_option maxRecDepth 100000 in
set_option maxHeartbeats 4000000 in
theorem kx_circuits (S : amS) (B : Nat) (a : Ar) (hs : List Ar) (tx : List Nat) (u0 u1 u2 ck co : Int32) (hc : xCore S B a hs tx u0 u1 u2 ck co) (hB : B < 2147483648) : X shX mX6_circuits 0 [.ref 19] [] S (fun r S' => r = some (.ref 24) ∧ xCore S' B a hs tx u0 u1 u2 ck co ∧ laidX S' a.2.1 a.2.2) := by
  obtain ⟨⟨hA, ho⟩, hrest, hV⟩ := id hc
  obtain ⟨a1, a2, a3, a4, a5, a6, a7⟩ := id hA
  obtain ⟨m1, m2, m3⟩ := id ho
  have h512 := pow9 a3
  have hpos := Nat.two_pow_pos a.2.1
  have hr9 : ∀ t, t < 2 ^ a.2.1 → rkV a.2.2 t ≤ 9 := fun t ht => Nat.le_trans (rkV_le (by omega)) (pc9_le t (by omega))
  refine x_aload_n dX6_circuits_0 rfl ?_
  refine x_v0 (N := mX6_refresh) dX6_circuits_1 ml_X6_99 nv_X6_refresh rfl rfl (kx_mrq S B a hs tx u0 u1 u2 ck co hc hB) ?_
  rintro _ S' ⟨rfl, hc', hl, hf⟩
  refine x_aload_n dX6_circuits_4 rfl ?_
  refine x_getR dX6_circuits_5 fl_X6_31 rfl ?_
  refine x_aret dX6_circuits_8 rfl (by simp) ?_
  exact ⟨rfl, hc', hl⟩
theorem fl_anti {r : Nat → Nat} {N : Nat} (hm : ∀ x y, x < 2 ^ N → y < 2 ^ N → x &&& y = x → r x ≤ r y) (k : Nat) (hN : N ≤ 9) {L : List Nat} (hn : L.Nodup) (h : ∀ x ∈ L, x < 2 ^ N ∧ r x = k ∧ flB r N x = true) : L.length ≤ 126 := by
  have hp := pow9 hN
  refine anti126 ⟨hn, fun x hx y hy hxy => ?_⟩ (fun x hx => by have := (h x hx).1; omega)
  obtain ⟨x1, x2, x3⟩ := h x hx
  obtain ⟨y1, y2, y3⟩ := h y hy
  apply Nat.eq_of_testBit_eq
  intro i
  cases e1 : x.testBit i with
  | true => rw [and_sub hxy i e1]
  | false =>
    cases e2 : y.testBit i with
    | false => rfl
    | true =>
      exfalso
      have hi := tb_lt y1 e2
      have ho := or_lt9 x1 (pow_ltN hi)
      have h1 := hm x (x ||| 2 ^ i) x1 ho (sub_and (fun j hj => by rw [Nat.testBit_or, hj]; rfl))
      have h2 := hm (x ||| 2 ^ i) y ho y1 (sub_and (fun j hj => by
        rw [tb_or, Bool.or_eq_true] at hj
        rcases hj with z | z
        · exact and_sub hxy j z
        · rw [decide_eq_true_eq] at z; rw [← z]; exact e2))
      have h3 : r (x ||| 2 ^ i) = r x := by omega
      have key : ∀ n, i < n → (clB r x n).testBit i = true := by
        intro n
        induction n with
        | zero => intro z; omega
        | succ n ih =>
          intro z
          rw [clB, Nat.testBit_or, Bool.or_eq_true]
          by_cases q : i = n
          · subst q
            right
            rw [if_pos h3]
            simp
          · left
            exact ih (by omega)
      have h4 := key N hi
      unfold flB at x3
      rw [beq_iff_eq] at x3
      rw [x3, e1] at h4
      cases h4
theorem flL_pf {d N : Nat} {v : Nat → Row} (hA : Arr d N v) (k t : Nat) (ht : t ≤ 2 ^ N) : ((List.range t).filter (fun s => rkV v s == k && flB (rkV v) N s)).length ≤ 126 := by
  refine fl_anti (r := rkV v) (fun x y _ _ h => rkV_mono (fun i _ hi => and_sub h i hi)) k hA.2.2.1 (List.nodup_range.filter _) (fun x hx => ?_)
  rw [List.mem_filter, List.mem_range, Bool.and_eq_true, beq_iff_eq] at hx
  exact ⟨by omega, hx.2.1, hx.2.2⟩
theorem filter_snoc (p : Nat → Bool) (t : Nat) : (List.range (t + 1)).filter p = if p t = true then (List.range t).filter p ++ [t] else (List.range t).filter p := by
  rw [List.range_succ, List.filter_append]
  simp only [List.filter_cons, List.filter_nil]
  split
  · rfl
  · simp
set_option maxRecDepth 100000 in
set_option maxHeartbeats 4000000 in
theorem kx_flr_l (S0 : amS) (a : Ar) (hA : Arr a.1 a.2.1 a.2.2) (ho0 : aObj S0 1 2 a) (hl0 : laidX S0 a.2.1 a.2.2) (k : Nat) (hk : k < 5) : ∀ (e t : Nat) (S : amS), t + e = 2 ^ a.2.1 → FO [26] [27] S0 S → LsX S 26 27 ((List.range t).filter (fun s => rkV a.2.2 s == k && flB (rkV a.2.2) a.2.1 s)) → X shX mX6_flatsOfRank 14 [.ref 19, .int (nI k), .int (nI t)] [] S (fun r S' => r = some (.ref 26) ∧ FO [26] [27] S0 S' ∧ LsX S' 26 27 (flL (rkV a.2.2) a.2.1 k)) := by
  have h512 := pow9 hA.2.2.1
  have hpos := Nat.two_pow_pos a.2.1
  have a3 := hA.2.2.1
  have hr9 : ∀ t, t < 2 ^ a.2.1 → rkV a.2.2 t ≤ 9 := fun t ht => Nat.le_trans (rkV_le (by omega)) (pc9_le t (by omega))
  intro e
  induction e with
  | zero =>
    intro t S h1 h2 h3
    obtain rfl : t = 2 ^ a.2.1 := by omega
    have ho := ho0.fo h2 (by decide) (by decide)
    refine x_iload_n dX6_flatsOfRank_14 rfl ?_
    refine x_aload_n dX6_flatsOfRank_15 rfl ?_
    refine x_getR dX6_flatsOfRank_16 fl_X6_45 rfl ?_
    refine x_v0d (N := mX1_all) dX6_flatsOfRank_19 ml_X6_54 nv_X1_all rfl rfl (kx_all S a.2.1 a3 ho.2.1) ?_
    refine x_icmp_gtN 58 dX6_flatsOfRank_22 rfl (by omega) (by omega) (fun c22 => ?_) (fun c22 => ?_)
    · refine x_aload_n dX6_flatsOfRank_58 rfl ?_
      refine x_getR dX6_flatsOfRank_59 fl_X6_35 rfl ?_
      refine x_aret dX6_flatsOfRank_62 rfl (by simp) ?_
      exact ⟨rfl, h2, h3⟩
    · exact absurd c22 (by omega)
  | succ e ih =>
    intro t S h1 h2 h3
    have ho := ho0.fo h2 (by decide) (by decide)
    have hl := hl0.fo h2 (by decide) (by decide)
    have h9 := hr9 t (by omega)
    have hsn := filter_snoc (fun s => rkV a.2.2 s == k && flB (rkV a.2.2) a.2.1 s) t
    refine x_iload_n dX6_flatsOfRank_14 rfl ?_
    refine x_aload_n dX6_flatsOfRank_15 rfl ?_
    refine x_getR dX6_flatsOfRank_16 fl_X6_45 rfl ?_
    refine x_v0d (N := mX1_all) dX6_flatsOfRank_19 ml_X6_54 nv_X1_all rfl rfl (kx_all S a.2.1 a3 ho.2.1) ?_
    refine x_icmp_gtN 58 dX6_flatsOfRank_22 rfl (by omega) (by omega) (fun c22 => ?_) (fun c22 => ?_)
    · exact absurd c22 (by omega)
    · refine x_aload_n dX6_flatsOfRank_25 rfl ?_
      refine x_getR dX6_flatsOfRank_26 fl_X6_22 rfl ?_
      refine x_iload_n dX6_flatsOfRank_29 rfl ?_
      refine x_zaldN dX6_flatsOfRank_30 rfl rfl (by omega) (hl.2.1 t (by omega)) ?_
      refine x_if_eqB 52 dX6_flatsOfRank_31 rfl (fun c31 => ?_) (fun c31 => ?_)
      · refine x_iincN dX6_flatsOfRank_52 rfl rfl ?_
        refine x_goto 14 dX6_flatsOfRank_55 rfl ?_
        refine ih (t + 1) S (by omega) h2 ?_
        rw [hsn, if_neg (by rw [c31]; simp)]
        exact h3
      · refine x_aload_n dX6_flatsOfRank_34 rfl ?_
        refine x_getR dX6_flatsOfRank_35 fl_X6_18 rfl ?_
        refine x_iload_n dX6_flatsOfRank_38 rfl ?_
        refine x_ialdN dX6_flatsOfRank_39 rfl rfl (by omega) (hl.1 t (by omega)) ?_
        refine x_iload_n dX6_flatsOfRank_40 rfl ?_
        refine x_icmp_neN 52 dX6_flatsOfRank_41 rfl (by omega) (by omega) (fun c41 => ?_) (fun c41 => ?_)
        · refine x_iincN dX6_flatsOfRank_52 rfl rfl ?_
          refine x_goto 14 dX6_flatsOfRank_55 rfl ?_
          refine ih (t + 1) S (by omega) h2 ?_
          rw [hsn, if_neg (by simp; intro z; exact absurd z c41)]
          exact h3
        · refine x_aload_n dX6_flatsOfRank_44 rfl ?_
          refine x_getR dX6_flatsOfRank_45 fl_X6_35 rfl ?_
          refine x_iload_n dX6_flatsOfRank_48 rfl ?_
          rw [if_pos (by rw [c31, c41]; simp)] at hsn
          have hlt : ((List.range t).filter (fun s => rkV a.2.2 s == k && flB (rkV a.2.2) a.2.1 s)).length < 126 := by
            have := flL_pf hA k (t + 1) (by omega)
            rw [hsn, List.length_append] at this
            simp only [List.length_singleton] at this
            omega
          refine x_v1 (N := mX4_append) dX6_flatsOfRank_49 ml_X6_80 nv_X4_append rfl rfl (kx_app_26 S _ h3 hlt t) ?_
          rintro _ S' ⟨rfl, h4, f1⟩
          refine x_iincN dX6_flatsOfRank_52 rfl rfl ?_
          refine x_goto 14 dX6_flatsOfRank_55 rfl ?_
          refine ih (t + 1) S' (by omega) (h2.tr f1) ?_
          rw [hsn]
          exact h4
set_option maxRecDepth 100000 in
set_option maxHeartbeats 4000000 in
theorem kx_flatsOfRank (S : amS) (B : Nat) (a : Ar) (hs : List Ar) (tx : List Nat) (u0 u1 u2 ck co : Int32) (hc : xCore S B a hs tx u0 u1 u2 ck co) (hB : B < 2147483648) (k : Nat) (hk : k < 5) : X shX mX6_flatsOfRank 0 [.ref 19, .int (nI k), .null] [] S (fun r S' => r = some (.ref 26) ∧ xCore S' B a hs tx u0 u1 u2 ck co ∧ LsX S' 26 27 (flL (rkV a.2.2) a.2.1 k)) := by
  obtain ⟨⟨hA, ho⟩, hrest, hV⟩ := id hc
  obtain ⟨a1, a2, a3, a4, a5, a6, a7⟩ := id hA
  obtain ⟨m1, m2, m3⟩ := id ho
  have h512 := pow9 a3
  have hpos := Nat.two_pow_pos a.2.1
  have hr9 : ∀ t, t < 2 ^ a.2.1 → rkV a.2.2 t ≤ 9 := fun t ht => Nat.le_trans (rkV_le (by omega)) (pc9_le t (by omega))
  refine x_aload_n dX6_flatsOfRank_0 rfl ?_
  refine x_v0 (N := mX6_refresh) dX6_flatsOfRank_1 ml_X6_99 nv_X6_refresh rfl rfl (kx_mrq S B a hs tx u0 u1 u2 ck co hc hB) ?_
  rintro _ S' ⟨rfl, hc', hl, hf⟩
  refine x_aload_n dX6_flatsOfRank_4 rfl ?_
  refine x_getR dX6_flatsOfRank_5 fl_X6_35 rfl ?_
  refine x_ic _ ic_0 dX6_flatsOfRank_8 ?_
  refine x_put dX6_flatsOfRank_9 fp_X6_65 rfl rfl rfl ?_
  refine x_ic _ ic_0 dX6_flatsOfRank_12 ?_
  refine x_istore_n dX6_flatsOfRank_13 rfl ?_
  have f0 : FO [26] [27] S' (sF S' 26 (upd (S'.1 26) 1 (nI 0))) := (FO.rf _ _ S').sF _ (by simp)
  refine x_mono ?_ (kx_flr_l _ a hA (hc'.1.2.fo f0 (by decide) (by decide)) (hl.fo f0 (by decide) (by decide)) k hk (2 ^ a.2.1) 0 _ (by omega) (FO.rf _ _ _) ⟨?_, fun k c hk => by simp at hk⟩)
  · rintro _ S2 ⟨rfl, f1, h3⟩
    exact ⟨rfl, hc'.scr (f0.tr f1) (by decide) (by decide), h3⟩
  · rw [sF_at, upd_s]; rfl
set_option maxRecDepth 100000 in
set_option maxHeartbeats 4000000 in
theorem kx_cfk_l (S : amS) (d N : Nat) (r : Nat → Nat) (hd : d ≤ 4) (hN : N ≤ 9) (m1 : S.1 1 1 = nI d) (hr : ∀ s, s < 2 ^ N → S.2.1 22 s = nI (r s)) (hr9 : ∀ s, s < 2 ^ N → r s ≤ 9) (s j : Nat) (hs : s < 2 ^ N) (hj : j ≤ 4) : ∀ (e t : Nat), t + e = s + 1 → X shX mX6_coefficientFromRanks 16 [.ref 19, .int (nI s), .int (nI j), .int (i32 ((d : Int) - (j : Int))), .int (i32 (polB r d s j t)), .int (nI t)] [] S (fun q S' => q = some (.int (i32 (polB r d s j (s + 1)))) ∧ S' = S) := by
  have h512 := pow9 hN
  intro e
  induction e with
  | zero =>
    intro t h1
    obtain rfl : t = s + 1 := by omega
    refine x_iload dX6_coefficientFromRanks_16 rfl ?_
    refine x_iload_n dX6_coefficientFromRanks_18 rfl ?_
    refine x_icmp_gtN 68 dX6_coefficientFromRanks_19 rfl (by omega) (by omega) (fun c19 => ?_) (fun c19 => ?_)
    · refine x_iload dX6_coefficientFromRanks_68 rfl ?_
      refine x_iretI dX6_coefficientFromRanks_70 rfl ?_
      exact ⟨rfl, rfl⟩
    · exact absurd c19 (by omega)
  | succ e ih =>
    intro t h1
    have hle := xor_and_le t s
    have h9 := hr9 t (by omega)
    have hpc := pc9_le t (by omega)
    have hpl : pc9 t &&& 1 = pc9 t % 2 := Nat.and_one_is_mod _
    have := ih (t + 1) (by omega)
    rw [polB] at this
    refine x_iload dX6_coefficientFromRanks_16 rfl ?_
    refine x_iload_n dX6_coefficientFromRanks_18 rfl ?_
    refine x_icmp_gtN 68 dX6_coefficientFromRanks_19 rfl (by omega) (by omega) (fun c19 => ?_) (fun c19 => ?_)
    · exact absurd c19 (by omega)
    · refine x_iload dX6_coefficientFromRanks_22 rfl ?_
      refine x_iload_n dX6_coefficientFromRanks_24 rfl ?_
      refine x_ic _ ic_m1 dX6_coefficientFromRanks_25 ?_
      refine x_ixor dX6_coefficientFromRanks_26 ?_
      refine x_iandNX dX6_coefficientFromRanks_27 ?_
      refine x_if_neN 62 dX6_coefficientFromRanks_28 rfl (by omega) (fun c28 => ?_) (fun c28 => ?_)
      · refine x_iincN dX6_coefficientFromRanks_62 rfl rfl ?_
        refine x_goto 16 dX6_coefficientFromRanks_65 rfl ?_
        rw [if_neg (fun z => c28 z.1), Int.add_zero] at this
        exact this
      · refine x_aload_n dX6_coefficientFromRanks_31 rfl ?_
        refine x_getR dX6_coefficientFromRanks_32 fl_X6_18 rfl ?_
        refine x_iload dX6_coefficientFromRanks_35 rfl ?_
        refine x_ialdN dX6_coefficientFromRanks_37 rfl rfl (by omega) (hr t (by omega)) ?_
        refine x_iload_n dX6_coefficientFromRanks_38 rfl ?_
        refine x_topI2 ?_
        refine x_icmp_neI 62 dX6_coefficientFromRanks_39 rfl (by omega) (by omega) (fun c39 => ?_) (fun c39 => ?_)
        · refine x_iincN dX6_coefficientFromRanks_62 rfl rfl ?_
          refine x_goto 16 dX6_coefficientFromRanks_65 rfl ?_
          rw [if_neg (fun z => c39 z.2), Int.add_zero] at this
          exact this
        · refine x_iload dX6_coefficientFromRanks_42 rfl ?_
          refine x_iload dX6_coefficientFromRanks_44 rfl ?_
          refine x_s1d (N := mJ6_bitCount_0f7a4) dX6_coefficientFromRanks_46 ml_X6_71 ns_J6_bitCount_0f7a4 rfl (kx_bc S t (by omega)) ?_
          refine x_ic _ ic_1 dX6_coefficientFromRanks_49 ?_
          refine x_iandN dX6_coefficientFromRanks_50 ?_
          refine x_if_neN 58 dX6_coefficientFromRanks_51 rfl (by omega) (fun c51 => ?_) (fun c51 => ?_)
          · refine x_ic _ ic_m1 dX6_coefficientFromRanks_58 ?_
            refine x_iaddI dX6_coefficientFromRanks_59 ?_
            refine x_istore dX6_coefficientFromRanks_60 rfl ?_
            refine x_iincN dX6_coefficientFromRanks_62 rfl rfl ?_
            refine x_goto 16 dX6_coefficientFromRanks_65 rfl ?_
            rw [if_pos ⟨c28, c39⟩, if_neg (by omega)] at this
            exact this
          · refine x_ic _ ic_1 dX6_coefficientFromRanks_54 ?_
            refine x_goto 59 dX6_coefficientFromRanks_55 rfl ?_
            refine x_iaddIN dX6_coefficientFromRanks_59 ?_
            refine x_istore dX6_coefficientFromRanks_60 rfl ?_
            refine x_iincN dX6_coefficientFromRanks_62 rfl rfl ?_
            refine x_goto 16 dX6_coefficientFromRanks_65 rfl ?_
            rw [if_pos ⟨c28, c39⟩, if_pos (by omega)] at this
            exact this
set_option maxRecDepth 100000 in
set_option maxHeartbeats 4000000 in
theorem kx_cfk (S : amS) (d N : Nat) (r : Nat → Nat) (hd : d ≤ 4) (hN : N ≤ 9) (m1 : S.1 1 1 = nI d) (hr : ∀ s, s < 2 ^ N → S.2.1 22 s = nI (r s)) (hr9 : ∀ s, s < 2 ^ N → r s ≤ 9) (s j : Nat) (hs : s < 2 ^ N) (hj : j ≤ 4) : X shX mX6_coefficientFromRanks 0 [.ref 19, .int (nI s), .int (nI j), .null, .null, .null] [] S (fun q S' => q = some (.int (i32 (polB r d s j (s + 1)))) ∧ S' = S) := by
  refine x_aload_n dX6_coefficientFromRanks_0 rfl ?_
  refine x_getR dX6_coefficientFromRanks_1 fl_X6_45 rfl ?_
  refine x_getIV dX6_coefficientFromRanks_4 fl_X6_68 rfl (m1) ?_
  refine x_iload_n dX6_coefficientFromRanks_7 rfl ?_
  refine x_isubZ dX6_coefficientFromRanks_8 ?_
  refine x_istore_n dX6_coefficientFromRanks_9 rfl ?_
  refine x_ic _ ic_0 dX6_coefficientFromRanks_10 ?_
  refine x_istore dX6_coefficientFromRanks_11 rfl ?_
  refine x_ic _ ic_0 dX6_coefficientFromRanks_13 ?_
  refine x_istore dX6_coefficientFromRanks_14 rfl ?_
  exact kx_cfk_l S d N r hd hN m1 hr hr9 s j hs hj (s + 1) 0 (by omega)
set_option maxRecDepth 100000 in
set_option maxHeartbeats 4000000 in
theorem kx_coefficient (S : amS) (B : Nat) (a : Ar) (hs : List Ar) (tx : List Nat) (u0 u1 u2 ck co : Int32) (hc : xCore S B a hs tx u0 u1 u2 ck co) (hB : B < 2147483648) (s : Nat) (hs0 : s < 2 ^ a.2.1) (j : Nat) (hj : j ≤ 4) : X shX mX6_coefficient 0 [.ref 19, .int (nI s), .int (nI j)] [] S (fun r S' => r = some (.int (i32 (polB (rkV a.2.2) a.1 s j (s + 1)))) ∧ xCore S' B a hs tx u0 u1 u2 ck co ∧ laidX S' a.2.1 a.2.2) := by
  obtain ⟨⟨hA, ho⟩, hrest, hV⟩ := id hc
  obtain ⟨a1, a2, a3, a4, a5, a6, a7⟩ := id hA
  obtain ⟨m1, m2, m3⟩ := id ho
  have h512 := pow9 a3
  have hpos := Nat.two_pow_pos a.2.1
  have hr9 : ∀ t, t < 2 ^ a.2.1 → rkV a.2.2 t ≤ 9 := fun t ht => Nat.le_trans (rkV_le (by omega)) (pc9_le t (by omega))
  refine x_aload_n dX6_coefficient_0 rfl ?_
  refine x_v0 (N := mX6_refresh) dX6_coefficient_1 ml_X6_99 nv_X6_refresh rfl rfl (kx_mrq S B a hs tx u0 u1 u2 ck co hc hB) ?_
  rintro _ S' ⟨rfl, hc', hl, hf⟩
  refine x_aload_n dX6_coefficient_4 rfl ?_
  refine x_iload_n dX6_coefficient_5 rfl ?_
  refine x_iload_n dX6_coefficient_6 rfl ?_
  refine x_v2d (N := mX6_coefficientFromRanks) dX6_coefficient_7 ml_X6_123 nv_X6_coefficientFromRanks rfl rfl (kx_cfk S' a.1 a.2.1 (rkV a.2.2) a2 a3 hc'.1.2.1 hl.1 hr9 s j hs0 hj) ?_
  refine x_iretI dX6_coefficient_10 rfl ?_
  exact ⟨rfl, hc', hl⟩
set_option maxRecDepth 100000 in
set_option maxHeartbeats 4000000 in
theorem kx_moebius (S : amS) (B : Nat) (a : Ar) (hs : List Ar) (tx : List Nat) (u0 u1 u2 ck co : Int32) (hc : xCore S B a hs tx u0 u1 u2 ck co) (hB : B < 2147483648) (s : Nat) (hs0 : s < 2 ^ a.2.1) : X shX mX6_moebius 0 [.ref 19, .int (nI s)] [] S (fun r S' => r = some (.int (i32 (polB (rkV a.2.2) a.1 s (a.1 - rkV a.2.2 s) (s + 1)))) ∧ xCore S' B a hs tx u0 u1 u2 ck co ∧ laidX S' a.2.1 a.2.2) := by
  obtain ⟨⟨hA, ho⟩, hrest, hV⟩ := id hc
  obtain ⟨a1, a2, a3, a4, a5, a6, a7⟩ := id hA
  obtain ⟨m1, m2, m3⟩ := id ho
  have h512 := pow9 a3
  have hpos := Nat.two_pow_pos a.2.1
  have hr9 : ∀ t, t < 2 ^ a.2.1 → rkV a.2.2 t ≤ 9 := fun t ht => Nat.le_trans (rkV_le (by omega)) (pc9_le t (by omega))
  have hrd := rkV_d hA s
  refine x_aload_n dX6_moebius_0 rfl ?_
  refine x_v0 (N := mX6_refresh) dX6_moebius_1 ml_X6_99 nv_X6_refresh rfl rfl (kx_mrq S B a hs tx u0 u1 u2 ck co hc hB) ?_
  rintro _ S' ⟨rfl, hc', hl, hf⟩
  refine x_aload_n dX6_moebius_4 rfl ?_
  refine x_iload_n dX6_moebius_5 rfl ?_
  refine x_aload_n dX6_moebius_6 rfl ?_
  refine x_getR dX6_moebius_7 fl_X6_45 rfl ?_
  refine x_getIV dX6_moebius_10 fl_X6_68 rfl (hc'.1.2.1) ?_
  refine x_aload_n dX6_moebius_13 rfl ?_
  refine x_getR dX6_moebius_14 fl_X6_18 rfl ?_
  refine x_iload_n dX6_moebius_17 rfl ?_
  refine x_ialdN dX6_moebius_18 rfl rfl (by omega) (hl.1 s hs0) ?_
  refine x_isubN dX6_moebius_19 (by omega) ?_
  refine x_v2d (N := mX6_coefficientFromRanks) dX6_moebius_20 ml_X6_123 nv_X6_coefficientFromRanks rfl rfl (kx_cfk S' a.1 a.2.1 (rkV a.2.2) a2 a3 hc'.1.2.1 hl.1 hr9 s (a.1 - rkV a.2.2 s) hs0 (by omega)) ?_
  refine x_iretI dX6_moebius_23 rfl ?_
  exact ⟨rfl, hc', hl⟩
set_option maxRecDepth 100000 in
set_option maxHeartbeats 4000000 in
theorem kx_val_l (S : amS) (a : Ar) (hA : Arr a.1 a.2.1 a.2.2) (ho : aObj S 1 2 a) (hl : laidX S a.2.1 a.2.2) (t : Int32) : ∀ (k : Nat), k ≤ 5 → X shX mX6_valueAt 8 [.ref 19, .int t, .int (valB (rkV a.2.2) a.1 a.2.1 t (5 - k)), .int (i32 ((k : Int) - 1))] [] S (fun q S' => q = some (.int (valB (rkV a.2.2) a.1 a.2.1 t 5)) ∧ S' = S) := by
  obtain ⟨a1, a2, a3, a4, a5, a6, a7⟩ := id hA
  have h512 := pow9 a3
  have hpos := Nat.two_pow_pos a.2.1
  have hr9 : ∀ t, t < 2 ^ a.2.1 → rkV a.2.2 t ≤ 9 := fun t ht => Nat.le_trans (rkV_le (by omega)) (pc9_le t (by omega))
  intro k
  induction k with
  | zero =>
    intro _
    refine x_iload_n dX6_valueAt_8 rfl ?_
    refine x_if_ltI 35 dX6_valueAt_9 rfl (by omega) (fun c9 => ?_) (fun c9 => ?_)
    · refine x_iload_n dX6_valueAt_35 rfl ?_
      refine x_iretI dX6_valueAt_36 rfl ?_
      exact ⟨rfl, rfl⟩
    · exact absurd c9 (by omega)
  | succ k ih =>
    intro hk
    refine x_iload_n dX6_valueAt_8 rfl ?_
    refine x_if_ltI 35 dX6_valueAt_9 rfl (by omega) (fun c9 => ?_) (fun c9 => ?_)
    · exact absurd c9 (by omega)
    · refine x_iload_n dX6_valueAt_12 rfl ?_
      refine x_iload_n dX6_valueAt_13 rfl ?_
      refine x_imul dX6_valueAt_14 ?_
      refine x_aload_n dX6_valueAt_15 rfl ?_
      refine x_aload_n dX6_valueAt_16 rfl ?_
      refine x_getR dX6_valueAt_17 fl_X6_45 rfl ?_
      refine x_v0d (N := mX1_all) dX6_valueAt_20 ml_X6_54 nv_X1_all rfl rfl (kx_all S a.2.1 a3 ho.2.1) ?_
      refine x_iload_n dX6_valueAt_23 rfl ?_
      refine x_top (b := nI k) (by rw [nI_i32]; congr 1; omega) ?_
      refine x_v2d (N := mX6_coefficientFromRanks) dX6_valueAt_24 ml_X6_123 nv_X6_coefficientFromRanks rfl rfl (kx_cfk S a.1 a.2.1 (rkV a.2.2) a2 a3 ho.1 hl.1 hr9 (2 ^ a.2.1 - 1) k (by omega) (by omega)) ?_
      refine x_iadd dX6_valueAt_27 ?_
      refine x_istore_n dX6_valueAt_28 rfl ?_
      refine x_iinc dX6_valueAt_29 rfl rfl ?_
      refine x_goto 8 dX6_valueAt_32 rfl ?_
      have h := ih (by omega)
      rw [show 5 - k = (5 - (k + 1)) + 1 by omega, valB] at h
      rw [show 4 - (5 - (k + 1)) = k by omega] at h
      rw [show 2 ^ a.2.1 - 1 + 1 = 2 ^ a.2.1 by omega]
      rw [show i32 (((k + 1 : Nat) : Int) - 1) + Int32.ofInt (-1) = i32 ((k : Int) - 1) by rw [show Int32.ofInt (-1) = i32 (-1) from rfl, i32_add]; congr 1; omega]
      exact h
set_option maxRecDepth 100000 in
set_option maxHeartbeats 4000000 in
theorem kx_valueAt (S : amS) (B : Nat) (a : Ar) (hs : List Ar) (tx : List Nat) (u0 u1 u2 ck co : Int32) (hc : xCore S B a hs tx u0 u1 u2 ck co) (hB : B < 2147483648) (t : Int32) : X shX mX6_valueAt 0 [.ref 19, .int t, .null, .null] [] S (fun r S' => r = some (.int (valB (rkV a.2.2) a.1 a.2.1 t 5)) ∧ xCore S' B a hs tx u0 u1 u2 ck co ∧ laidX S' a.2.1 a.2.2) := by
  obtain ⟨⟨hA, ho⟩, hrest, hV⟩ := id hc
  obtain ⟨a1, a2, a3, a4, a5, a6, a7⟩ := id hA
  obtain ⟨m1, m2, m3⟩ := id ho
  have h512 := pow9 a3
  have hpos := Nat.two_pow_pos a.2.1
  have hr9 : ∀ t, t < 2 ^ a.2.1 → rkV a.2.2 t ≤ 9 := fun t ht => Nat.le_trans (rkV_le (by omega)) (pc9_le t (by omega))
  refine x_aload_n dX6_valueAt_0 rfl ?_
  refine x_v0 (N := mX6_refresh) dX6_valueAt_1 ml_X6_99 nv_X6_refresh rfl rfl (kx_mrq S B a hs tx u0 u1 u2 ck co hc hB) ?_
  rintro _ S' ⟨rfl, hc', hl, hf⟩
  refine x_ic _ ic_0 dX6_valueAt_4 ?_
  refine x_istore_n dX6_valueAt_5 rfl ?_
  refine x_ic _ ic_4 dX6_valueAt_6 ?_
  refine x_istore_n dX6_valueAt_7 rfl ?_
  refine x_mono ?_ (kx_val_l S' a hA hc'.1.2 hl t 5 (by omega))
  rintro _ _ ⟨rfl, rfl⟩
  exact ⟨rfl, hc', hl⟩
def absX (x : Int32) : Int32 := if 0 ≤ x then x else 0 - x
set_option maxRecDepth 100000 in
set_option maxHeartbeats 4000000 in
theorem kx_countRegions (S : amS) (B : Nat) (a : Ar) (hs : List Ar) (tx : List Nat) (u0 u1 u2 ck co : Int32) (hc : xCore S B a hs tx u0 u1 u2 ck co) (hB : B < 2147483648) : X shX mX6_countRegions 0 [.ref 19] [] S (fun r S' => r = some (.int (absX (valB (rkV a.2.2) a.1 a.2.1 (i32 (-1)) 5))) ∧ xCore S' B a hs tx u0 u1 u2 ck co ∧ laidX S' a.2.1 a.2.2) := by
  obtain ⟨⟨hA, ho⟩, hrest, hV⟩ := id hc
  obtain ⟨a1, a2, a3, a4, a5, a6, a7⟩ := id hA
  obtain ⟨m1, m2, m3⟩ := id ho
  have h512 := pow9 a3
  have hpos := Nat.two_pow_pos a.2.1
  have hr9 : ∀ t, t < 2 ^ a.2.1 → rkV a.2.2 t ≤ 9 := fun t ht => Nat.le_trans (rkV_le (by omega)) (pc9_le t (by omega))
  refine x_aload_n dX6_countRegions_0 rfl ?_
  refine x_ic _ ic_m1 dX6_countRegions_1 ?_
  refine x_v1 (N := mX6_valueAt) dX6_countRegions_2 ml_X6_126 nv_X6_valueAt rfl rfl (kx_valueAt S B a hs tx u0 u1 u2 ck co hc hB _) ?_
  rintro _ S' ⟨rfl, hc', hl⟩
  refine x_mabs dX6_countRegions_5 ml_X6_129 rfl rfl ?_
  refine x_iretI dX6_countRegions_8 rfl ?_
  exact ⟨rfl, hc', hl⟩
set_option maxRecDepth 100000 in
set_option maxHeartbeats 4000000 in
theorem kx_rank_ok (S : amS) (B : Nat) (a : Ar) (hs : List Ar) (tx : List Nat) (u0 u1 u2 ck co : Int32) (hc : xCore S B a hs tx u0 u1 u2 ck co) (hB : B < 2147483648) (s : Nat) (hs0 : s < 2 ^ a.2.1) : X shX mX10_rank 0 [.ref 0, .int (nI s)] [] S (fun r S' => r = some (.int (nI (rkV a.2.2 s))) ∧ xCore S' B a hs tx u0 u1 u2 ck co) := by
  obtain ⟨⟨hA, ho⟩, hrest, hV⟩ := id hc
  obtain ⟨a1, a2, a3, a4, a5, a6, a7⟩ := id hA
  obtain ⟨m1, m2, m3⟩ := id ho
  have h512 := pow9 a3
  have hpos := Nat.two_pow_pos a.2.1
  have hr9 : ∀ t, t < 2 ^ a.2.1 → rkV a.2.2 t ≤ 9 := fun t ht => Nat.le_trans (rkV_le (by omega)) (pc9_le t (by omega))
  refine x_aload_n dX10_rank_0 rfl ?_
  refine x_getR dX10_rank_1 fl_X10_17 rfl ?_
  refine x_iload_n dX10_rank_4 rfl ?_
  refine x_v1d (N := mX1_hasAll) dX10_rank_5 ml_X10_126 nv_X1_hasAll rfl rfl (kx_hasAll S a.2.1 a3 m2 _) ?_
  refine x_if_eqB 22 dX10_rank_8 rfl (fun c8 => ?_) (fun c8 => ?_)
  · rw [Bool.eq_false_iff, ne_eq, in_R _ (by omega), show 2 ^ a.2.1 - 1 + 1 = 2 ^ a.2.1 by omega] at c8
    exact absurd (InR_in hs0) c8
  · refine x_aload_n dX10_rank_11 rfl ?_
    refine x_getR dX10_rank_12 fl_X10_21 rfl ?_
    refine x_iload_n dX10_rank_15 rfl ?_
    refine x_v1 (N := mX6_rankOf) dX10_rank_16 ml_X10_107 nv_X6_rankOf rfl rfl (kx_rankOf S B a hs tx u0 u1 u2 ck co hc hB s hs0) ?_
    rintro _ S' ⟨rfl, hc', hl⟩
    refine x_goto 28 dX10_rank_19 rfl ?_
    refine x_iretI dX10_rank_28 rfl ?_
    exact ⟨rfl, hc'⟩
set_option maxRecDepth 100000 in
set_option maxHeartbeats 4000000 in
theorem kx_rank_bad (S : amS) (B : Nat) (a : Ar) (hs : List Ar) (tx : List Nat) (u0 u1 u2 ck co : Int32) (hc : xCore S B a hs tx u0 u1 u2 ck co) (x : Int32) (hx : ¬ InR x (2 ^ a.2.1)) : X shX mX10_rank 0 [.ref 0, .int x] [] S (fun r S' => r = some (.int (i32 (-2))) ∧ xCore S' B a hs tx (u0 + nI 1) u1 u2 ck co) := by
  obtain ⟨⟨hA, ho⟩, hrest, hV⟩ := id hc
  obtain ⟨a1, a2, a3, a4, a5, a6, a7⟩ := id hA
  obtain ⟨m1, m2, m3⟩ := id ho
  have h512 := pow9 a3
  have hpos := Nat.two_pow_pos a.2.1
  have hr9 : ∀ t, t < 2 ^ a.2.1 → rkV a.2.2 t ≤ 9 := fun t ht => Nat.le_trans (rkV_le (by omega)) (pc9_le t (by omega))
  refine x_aload_n dX10_rank_0 rfl ?_
  refine x_getR dX10_rank_1 fl_X10_17 rfl ?_
  refine x_iload_n dX10_rank_4 rfl ?_
  refine x_v1d (N := mX1_hasAll) dX10_rank_5 ml_X10_126 nv_X1_hasAll rfl rfl (kx_hasAll S a.2.1 a3 m2 _) ?_
  refine x_if_eqB 22 dX10_rank_8 rfl (fun c8 => ?_) (fun c8 => ?_)
  · refine x_aload_n dX10_rank_22 rfl ?_
    refine x_bi _ bi_m2 dX10_rank_23 ?_
    refine x_v1 (N := mX10_refused) dX10_rank_25 ml_X10_120 nv_X10_refused rfl rfl (kx_bad S B a hs tx u0 u1 u2 ck co hc) ?_
    rintro _ S' ⟨rfl, h'⟩
    refine x_iretI dX10_rank_28 rfl ?_
    exact ⟨rfl, h'⟩
  · rw [in_R _ (by omega), show 2 ^ a.2.1 - 1 + 1 = 2 ^ a.2.1 by omega] at c8
    exact absurd c8 hx
set_option maxRecDepth 100000 in
set_option maxHeartbeats 4000000 in
theorem kx_closed_ok (S : amS) (B : Nat) (a : Ar) (hs : List Ar) (tx : List Nat) (u0 u1 u2 ck co : Int32) (hc : xCore S B a hs tx u0 u1 u2 ck co) (hB : B < 2147483648) (s : Nat) (hs0 : s < 2 ^ a.2.1) : X shX mX10_closed 0 [.ref 0, .int (nI s)] [] S (fun r S' => r = some (.int (nI (clB (rkV a.2.2) s a.2.1))) ∧ xCore S' B a hs tx u0 u1 u2 ck co) := by
  obtain ⟨⟨hA, ho⟩, hrest, hV⟩ := id hc
  obtain ⟨a1, a2, a3, a4, a5, a6, a7⟩ := id hA
  obtain ⟨m1, m2, m3⟩ := id ho
  have h512 := pow9 a3
  have hpos := Nat.two_pow_pos a.2.1
  have hr9 : ∀ t, t < 2 ^ a.2.1 → rkV a.2.2 t ≤ 9 := fun t ht => Nat.le_trans (rkV_le (by omega)) (pc9_le t (by omega))
  refine x_aload_n dX10_closed_0 rfl ?_
  refine x_getR dX10_closed_1 fl_X10_17 rfl ?_
  refine x_iload_n dX10_closed_4 rfl ?_
  refine x_v1d (N := mX1_hasAll) dX10_closed_5 ml_X10_126 nv_X1_hasAll rfl rfl (kx_hasAll S a.2.1 a3 m2 _) ?_
  refine x_if_eqB 22 dX10_closed_8 rfl (fun c8 => ?_) (fun c8 => ?_)
  · rw [Bool.eq_false_iff, ne_eq, in_R _ (by omega), show 2 ^ a.2.1 - 1 + 1 = 2 ^ a.2.1 by omega] at c8
    exact absurd (InR_in hs0) c8
  · refine x_aload_n dX10_closed_11 rfl ?_
    refine x_getR dX10_closed_12 fl_X10_21 rfl ?_
    refine x_iload_n dX10_closed_15 rfl ?_
    refine x_v1 (N := mX6_closureOf) dX10_closed_16 ml_X10_129 nv_X6_closureOf rfl rfl (kx_closureOf S B a hs tx u0 u1 u2 ck co hc hB s hs0) ?_
    rintro _ S' ⟨rfl, hc', hl⟩
    refine x_goto 28 dX10_closed_19 rfl ?_
    refine x_iretI dX10_closed_28 rfl ?_
    exact ⟨rfl, hc'⟩
set_option maxRecDepth 100000 in
set_option maxHeartbeats 4000000 in
theorem kx_closed_bad (S : amS) (B : Nat) (a : Ar) (hs : List Ar) (tx : List Nat) (u0 u1 u2 ck co : Int32) (hc : xCore S B a hs tx u0 u1 u2 ck co) (x : Int32) (hx : ¬ InR x (2 ^ a.2.1)) : X shX mX10_closed 0 [.ref 0, .int x] [] S (fun r S' => r = some (.int (i32 (-2))) ∧ xCore S' B a hs tx (u0 + nI 1) u1 u2 ck co) := by
  obtain ⟨⟨hA, ho⟩, hrest, hV⟩ := id hc
  obtain ⟨a1, a2, a3, a4, a5, a6, a7⟩ := id hA
  obtain ⟨m1, m2, m3⟩ := id ho
  have h512 := pow9 a3
  have hpos := Nat.two_pow_pos a.2.1
  have hr9 : ∀ t, t < 2 ^ a.2.1 → rkV a.2.2 t ≤ 9 := fun t ht => Nat.le_trans (rkV_le (by omega)) (pc9_le t (by omega))
  refine x_aload_n dX10_closed_0 rfl ?_
  refine x_getR dX10_closed_1 fl_X10_17 rfl ?_
  refine x_iload_n dX10_closed_4 rfl ?_
  refine x_v1d (N := mX1_hasAll) dX10_closed_5 ml_X10_126 nv_X1_hasAll rfl rfl (kx_hasAll S a.2.1 a3 m2 _) ?_
  refine x_if_eqB 22 dX10_closed_8 rfl (fun c8 => ?_) (fun c8 => ?_)
  · refine x_aload_n dX10_closed_22 rfl ?_
    refine x_bi _ bi_m2 dX10_closed_23 ?_
    refine x_v1 (N := mX10_refused) dX10_closed_25 ml_X10_120 nv_X10_refused rfl rfl (kx_bad S B a hs tx u0 u1 u2 ck co hc) ?_
    rintro _ S' ⟨rfl, h'⟩
    refine x_iretI dX10_closed_28 rfl ?_
    exact ⟨rfl, h'⟩
  · rw [in_R _ (by omega), show 2 ^ a.2.1 - 1 + 1 = 2 ^ a.2.1 by omega] at c8
    exact absurd c8 hx
set_option maxRecDepth 100000 in
set_option maxHeartbeats 4000000 in
theorem kx_flats_ok (S : amS) (B : Nat) (a : Ar) (hs : List Ar) (tx : List Nat) (u0 u1 u2 ck co : Int32) (hc : xCore S B a hs tx u0 u1 u2 ck co) (hB : B < 2147483648) (k : Nat) (hk : k < 5) (x : Int32) (hx : ¬ x < i32 (-1)) : X shX mX10_flats 0 [.ref 0, .int (nI k), .int x] [] S (fun r S' => r = some (.int (lAns (flL (rkV a.2.2) a.2.1 k) x)) ∧ xCore S' B a hs tx u0 u1 u2 ck co) := by
  obtain ⟨⟨hA, ho⟩, hrest, hV⟩ := id hc
  obtain ⟨a1, a2, a3, a4, a5, a6, a7⟩ := id hA
  obtain ⟨m1, m2, m3⟩ := id ho
  have h512 := pow9 a3
  have hpos := Nat.two_pow_pos a.2.1
  have hr9 : ∀ t, t < 2 ^ a.2.1 → rkV a.2.2 t ≤ 9 := fun t ht => Nat.le_trans (rkV_le (by omega)) (pc9_le t (by omega))
  refine x_iload_n dX10_flats_0 rfl ?_
  refine x_topI ?_
  refine x_if_ltI 14 dX10_flats_1 rfl (by omega) (fun c1 => ?_) (fun c1 => ?_)
  · exact absurd c1 (by omega)
  · refine x_iload_n dX10_flats_4 rfl ?_
    refine x_ic _ ic_4 dX10_flats_5 ?_
    refine x_icmp_gtN 14 dX10_flats_6 rfl (by omega) (by omega) (fun c6 => ?_) (fun c6 => ?_)
    · exact absurd c6 (by omega)
    · refine x_iload_n dX10_flats_9 rfl ?_
      refine x_ic _ ic_m1 dX10_flats_10 ?_
      refine x_icmp_ge 21 dX10_flats_11 rfl (fun c11 => ?_) (fun c11 => ?_)
      · refine x_aload_n dX10_flats_21 rfl ?_
        refine x_getR dX10_flats_22 fl_X10_21 rfl ?_
        refine x_iload_n dX10_flats_25 rfl ?_
        refine x_v1 (N := mX6_flatsOfRank) dX10_flats_26 ml_X10_132 nv_X6_flatsOfRank rfl rfl (kx_flatsOfRank S B a hs tx u0 u1 u2 ck co hc hB k hk) ?_
        rintro _ S' ⟨rfl, hc', hls⟩
        refine x_iload_n dX10_flats_29 rfl ?_
        refine x_v1d (N := mX4_answer) dX10_flats_30 ml_X10_136 nv_X4_answer rfl rfl (kx_ans_26 S' _ hls (flL_pf hA k (2 ^ a.2.1) (Nat.le_refl _)) x hx) ?_
        refine x_iretI dX10_flats_33 rfl ?_
        exact ⟨rfl, hc'⟩
      · exact absurd (Int32.not_le.mp c11) hx
set_option maxRecDepth 100000 in
set_option maxHeartbeats 4000000 in
theorem kx_flats_bad (S : amS) (B : Nat) (a : Ar) (hs : List Ar) (tx : List Nat) (u0 u1 u2 ck co : Int32) (hc : xCore S B a hs tx u0 u1 u2 ck co) (y x : Int32) (hxy : ¬ (InR y 5 ∧ ¬ x < i32 (-1))) : X shX mX10_flats 0 [.ref 0, .int y, .int x] [] S (fun r S' => r = some (.int (i32 (-2))) ∧ xCore S' B a hs tx (u0 + nI 1) u1 u2 ck co) := by
  obtain ⟨⟨hA, ho⟩, hrest, hV⟩ := id hc
  obtain ⟨a1, a2, a3, a4, a5, a6, a7⟩ := id hA
  obtain ⟨m1, m2, m3⟩ := id ho
  have h512 := pow9 a3
  have hpos := Nat.two_pow_pos a.2.1
  have hr9 : ∀ t, t < 2 ^ a.2.1 → rkV a.2.2 t ≤ 9 := fun t ht => Nat.le_trans (rkV_le (by omega)) (pc9_le t (by omega))
  refine x_iload_n dX10_flats_0 rfl ?_
  refine x_if_lt 14 dX10_flats_1 rfl (fun c1 => ?_) (fun c1 => ?_)
  · refine x_aload_n dX10_flats_14 rfl ?_
    refine x_bi _ bi_m2 dX10_flats_15 ?_
    refine x_v1 (N := mX10_refused) dX10_flats_17 ml_X10_120 nv_X10_refused rfl rfl (kx_bad S B a hs tx u0 u1 u2 ck co hc) ?_
    rintro _ S' ⟨rfl, h'⟩
    refine x_iretI dX10_flats_20 rfl ?_
    exact ⟨rfl, h'⟩
  · refine x_iload_n dX10_flats_4 rfl ?_
    refine x_ic _ ic_4 dX10_flats_5 ?_
    refine x_icmp_gt 14 dX10_flats_6 rfl (fun c6 => ?_) (fun c6 => ?_)
    · refine x_aload_n dX10_flats_14 rfl ?_
      refine x_bi _ bi_m2 dX10_flats_15 ?_
      refine x_v1 (N := mX10_refused) dX10_flats_17 ml_X10_120 nv_X10_refused rfl rfl (kx_bad S B a hs tx u0 u1 u2 ck co hc) ?_
      rintro _ S' ⟨rfl, h'⟩
      refine x_iretI dX10_flats_20 rfl ?_
      exact ⟨rfl, h'⟩
    · refine x_iload_n dX10_flats_9 rfl ?_
      refine x_ic _ ic_m1 dX10_flats_10 ?_
      refine x_icmp_ge 21 dX10_flats_11 rfl (fun c11 => ?_) (fun c11 => ?_)
      · exact absurd ⟨(in_R y (n := 4) (by omega)).mp (decide_eq_true ⟨Int32.not_lt.mp c1, Int32.not_lt.mp c6⟩), Int32.not_lt.mpr c11⟩ hxy
      · refine x_aload_n dX10_flats_14 rfl ?_
        refine x_bi _ bi_m2 dX10_flats_15 ?_
        refine x_v1 (N := mX10_refused) dX10_flats_17 ml_X10_120 nv_X10_refused rfl rfl (kx_bad S B a hs tx u0 u1 u2 ck co hc) ?_
        rintro _ S' ⟨rfl, h'⟩
        refine x_iretI dX10_flats_20 rfl ?_
        exact ⟨rfl, h'⟩
set_option maxRecDepth 100000 in
set_option maxHeartbeats 4000000 in
theorem kx_sign_bad (S : amS) (B : Nat) (a : Ar) (hs : List Ar) (tx : List Nat) (u0 u1 u2 ck co : Int32) (hc : xCore S B a hs tx u0 u1 u2 ck co) (x : Int32) (hx : ¬ InR x (2 ^ a.2.1)) : X shX mX10_sign 0 [.ref 0, .int x] [] S (fun r S' => r = some (.int (i32 (-2))) ∧ xCore S' B a hs tx (u0 + nI 1) u1 u2 ck co) := by
  obtain ⟨⟨hA, ho⟩, hrest, hV⟩ := id hc
  obtain ⟨a1, a2, a3, a4, a5, a6, a7⟩ := id hA
  obtain ⟨m1, m2, m3⟩ := id ho
  have h512 := pow9 a3
  have hpos := Nat.two_pow_pos a.2.1
  have hr9 : ∀ t, t < 2 ^ a.2.1 → rkV a.2.2 t ≤ 9 := fun t ht => Nat.le_trans (rkV_le (by omega)) (pc9_le t (by omega))
  refine x_aload_n dX10_sign_0 rfl ?_
  refine x_getR dX10_sign_1 fl_X10_17 rfl ?_
  refine x_iload_n dX10_sign_4 rfl ?_
  refine x_v1d (N := mX1_hasAll) dX10_sign_5 ml_X10_126 nv_X1_hasAll rfl rfl (kx_hasAll S a.2.1 a3 m2 _) ?_
  refine x_if_neB 18 dX10_sign_8 rfl (fun c8 => ?_) (fun c8 => ?_)
  · rw [in_R _ (by omega), show 2 ^ a.2.1 - 1 + 1 = 2 ^ a.2.1 by omega] at c8
    exact absurd c8 hx
  · refine x_aload_n dX10_sign_11 rfl ?_
    refine x_bi _ bi_m2 dX10_sign_12 ?_
    refine x_v1 (N := mX10_refused) dX10_sign_14 ml_X10_120 nv_X10_refused rfl rfl (kx_bad S B a hs tx u0 u1 u2 ck co hc) ?_
    rintro _ S' ⟨rfl, h'⟩
    refine x_iretI dX10_sign_17 rfl ?_
    exact ⟨rfl, h'⟩
set_option maxRecDepth 100000 in
set_option maxHeartbeats 4000000 in
theorem kx_sign_no (S : amS) (B : Nat) (a : Ar) (hs : List Ar) (tx : List Nat) (u0 u1 u2 ck co : Int32) (hc : xCore S B a hs tx u0 u1 u2 ck co) (hB : B < 2147483648) (s : Nat) (hs0 : s < 2 ^ a.2.1) (hfl : flB (rkV a.2.2) a.2.1 s = false) : X shX mX10_sign 0 [.ref 0, .int (nI s)] [] S (fun r S' => r = some (.int (i32 (-3))) ∧ xCore S' B a hs tx u0 (u1 + nI 1) u2 ck co) := by
  obtain ⟨⟨hA, ho⟩, hrest, hV⟩ := id hc
  obtain ⟨a1, a2, a3, a4, a5, a6, a7⟩ := id hA
  obtain ⟨m1, m2, m3⟩ := id ho
  have h512 := pow9 a3
  have hpos := Nat.two_pow_pos a.2.1
  have hr9 : ∀ t, t < 2 ^ a.2.1 → rkV a.2.2 t ≤ 9 := fun t ht => Nat.le_trans (rkV_le (by omega)) (pc9_le t (by omega))
  refine x_aload_n dX10_sign_0 rfl ?_
  refine x_getR dX10_sign_1 fl_X10_17 rfl ?_
  refine x_iload_n dX10_sign_4 rfl ?_
  refine x_v1d (N := mX1_hasAll) dX10_sign_5 ml_X10_126 nv_X1_hasAll rfl rfl (kx_hasAll S a.2.1 a3 m2 _) ?_
  refine x_if_neB 18 dX10_sign_8 rfl (fun c8 => ?_) (fun c8 => ?_)
  · refine x_aload_n dX10_sign_18 rfl ?_
    refine x_getR dX10_sign_19 fl_X10_21 rfl ?_
    refine x_iload_n dX10_sign_22 rfl ?_
    refine x_v1 (N := mX6_isFlat) dX10_sign_23 ml_X10_141 nv_X6_isFlat rfl rfl (kx_isFlat S B a hs tx u0 u1 u2 ck co hc hB s hs0) ?_
    rintro _ S' ⟨rfl, hc', hl⟩
    refine x_if_neB 36 dX10_sign_26 rfl (fun c26 => ?_) (fun c26 => ?_)
    · rw [hfl] at c26; cases c26
    · refine x_aload_n dX10_sign_29 rfl ?_
      refine x_bi _ bi_m3 dX10_sign_30 ?_
      refine x_v1 (N := mX10_refused) dX10_sign_32 ml_X10_120 nv_X10_refused rfl rfl (kx_no S' B a hs tx u0 u1 u2 ck co hc') ?_
      rintro _ S2 ⟨rfl, h2⟩
      refine x_iretI dX10_sign_35 rfl ?_
      exact ⟨rfl, h2⟩
  · rw [Bool.eq_false_iff, ne_eq, in_R _ (by omega), show 2 ^ a.2.1 - 1 + 1 = 2 ^ a.2.1 by omega] at c8
    exact absurd (InR_in hs0) c8
set_option maxRecDepth 100000 in
set_option maxHeartbeats 4000000 in
theorem kx_sign_ok (S : amS) (B : Nat) (a : Ar) (hs : List Ar) (tx : List Nat) (u0 u1 u2 ck co : Int32) (hc : xCore S B a hs tx u0 u1 u2 ck co) (hB : B < 2147483648) (s : Nat) (hs0 : s < 2 ^ a.2.1) (hfl : flB (rkV a.2.2) a.2.1 s = true) : X shX mX10_sign 0 [.ref 0, .int (nI s)] [] S (fun r S' => r = some (.int (i32 (polB (rkV a.2.2) a.1 s (a.1 - rkV a.2.2 s) (s + 1) + (1000 : Nat)))) ∧ xCore S' B a hs tx u0 u1 u2 ck co) := by
  obtain ⟨⟨hA, ho⟩, hrest, hV⟩ := id hc
  obtain ⟨a1, a2, a3, a4, a5, a6, a7⟩ := id hA
  obtain ⟨m1, m2, m3⟩ := id ho
  have h512 := pow9 a3
  have hpos := Nat.two_pow_pos a.2.1
  have hr9 : ∀ t, t < 2 ^ a.2.1 → rkV a.2.2 t ≤ 9 := fun t ht => Nat.le_trans (rkV_le (by omega)) (pc9_le t (by omega))
  refine x_aload_n dX10_sign_0 rfl ?_
  refine x_getR dX10_sign_1 fl_X10_17 rfl ?_
  refine x_iload_n dX10_sign_4 rfl ?_
  refine x_v1d (N := mX1_hasAll) dX10_sign_5 ml_X10_126 nv_X1_hasAll rfl rfl (kx_hasAll S a.2.1 a3 m2 _) ?_
  refine x_if_neB 18 dX10_sign_8 rfl (fun c8 => ?_) (fun c8 => ?_)
  · refine x_aload_n dX10_sign_18 rfl ?_
    refine x_getR dX10_sign_19 fl_X10_21 rfl ?_
    refine x_iload_n dX10_sign_22 rfl ?_
    refine x_v1 (N := mX6_isFlat) dX10_sign_23 ml_X10_141 nv_X6_isFlat rfl rfl (kx_isFlat S B a hs tx u0 u1 u2 ck co hc hB s hs0) ?_
    rintro _ S' ⟨rfl, hc', hl⟩
    refine x_if_neB 36 dX10_sign_26 rfl (fun c26 => ?_) (fun c26 => ?_)
    · refine x_aload_n dX10_sign_36 rfl ?_
      refine x_getR dX10_sign_37 fl_X10_21 rfl ?_
      refine x_iload_n dX10_sign_40 rfl ?_
      refine x_v1 (N := mX6_moebius) dX10_sign_41 ml_X10_144 nv_X6_moebius rfl rfl (kx_moebius S' B a hs tx u0 u1 u2 ck co hc' hB s hs0) ?_
      rintro _ S2 ⟨rfl, h2, hl2⟩
      refine x_si _ si_1000 dX10_sign_44 ?_
      refine x_iaddIN dX10_sign_47 ?_
      refine x_iretI dX10_sign_48 rfl ?_
      exact ⟨rfl, h2⟩
    · rw [hfl] at c26; cases c26
  · rw [Bool.eq_false_iff, ne_eq, in_R _ (by omega), show 2 ^ a.2.1 - 1 + 1 = 2 ^ a.2.1 by omega] at c8
    exact absurd (InR_in hs0) c8
set_option maxRecDepth 100000 in
set_option maxHeartbeats 4000000 in
theorem kx_rings_bad (S : amS) (B : Nat) (a : Ar) (hs : List Ar) (tx : List Nat) (u0 u1 u2 ck co : Int32) (hc : xCore S B a hs tx u0 u1 u2 ck co) (x : Int32) (hx : x < i32 (-1)) : X shX mX10_rings 0 [.ref 0, .int x] [] S (fun r S' => r = some (.int (i32 (-2))) ∧ xCore S' B a hs tx (u0 + nI 1) u1 u2 ck co) := by
  obtain ⟨⟨hA, ho⟩, hrest, hV⟩ := id hc
  obtain ⟨a1, a2, a3, a4, a5, a6, a7⟩ := id hA
  obtain ⟨m1, m2, m3⟩ := id ho
  have h512 := pow9 a3
  have hpos := Nat.two_pow_pos a.2.1
  have hr9 : ∀ t, t < 2 ^ a.2.1 → rkV a.2.2 t ≤ 9 := fun t ht => Nat.le_trans (rkV_le (by omega)) (pc9_le t (by omega))
  refine x_iload_n dX10_rings_0 rfl ?_
  refine x_ic _ ic_m1 dX10_rings_1 ?_
  refine x_icmp_ge 14 dX10_rings_2 rfl (fun c2 => ?_) (fun c2 => ?_)
  · exact absurd hx (Int32.not_lt.mpr c2)
  · refine x_aload_n dX10_rings_5 rfl ?_
    refine x_bi _ bi_m2 dX10_rings_6 ?_
    refine x_v1 (N := mX10_refused) dX10_rings_8 ml_X10_120 nv_X10_refused rfl rfl (kx_bad S B a hs tx u0 u1 u2 ck co hc) ?_
    rintro _ S' ⟨rfl, h'⟩
    refine x_goto 25 dX10_rings_11 rfl ?_
    refine x_iretI dX10_rings_25 rfl ?_
    exact ⟨rfl, h'⟩
set_option maxRecDepth 100000 in
set_option maxHeartbeats 4000000 in
theorem kx_rings_ok (S : amS) (B : Nat) (a : Ar) (hs : List Ar) (tx : List Nat) (u0 u1 u2 ck co : Int32) (hc : xCore S B a hs tx u0 u1 u2 ck co) (hB : B < 2147483648) (x : Int32) (hx : ¬ x < i32 (-1)) : X shX mX10_rings 0 [.ref 0, .int x] [] S (fun r S' => r = some (.int (lAns (ringsB a.2.2 a.2.1 5) x)) ∧ xCore S' B a hs tx u0 u1 u2 ck co) := by
  obtain ⟨⟨hA, ho⟩, hrest, hV⟩ := id hc
  obtain ⟨a1, a2, a3, a4, a5, a6, a7⟩ := id hA
  obtain ⟨m1, m2, m3⟩ := id ho
  have h512 := pow9 a3
  have hpos := Nat.two_pow_pos a.2.1
  have hr9 : ∀ t, t < 2 ^ a.2.1 → rkV a.2.2 t ≤ 9 := fun t ht => Nat.le_trans (rkV_le (by omega)) (pc9_le t (by omega))
  refine x_iload_n dX10_rings_0 rfl ?_
  refine x_ic _ ic_m1 dX10_rings_1 ?_
  refine x_icmp_ge 14 dX10_rings_2 rfl (fun c2 => ?_) (fun c2 => ?_)
  · refine x_aload_n dX10_rings_14 rfl ?_
    refine x_getR dX10_rings_15 fl_X10_21 rfl ?_
    refine x_v0 (N := mX6_circuits) dX10_rings_18 ml_X10_147 nv_X6_circuits rfl rfl (kx_circuits S B a hs tx u0 u1 u2 ck co hc hB) ?_
    rintro _ S' ⟨rfl, hc', hl⟩
    refine x_iload_n dX10_rings_21 rfl ?_
    refine x_v1d (N := mX4_answer) dX10_rings_22 ml_X10_136 nv_X4_answer rfl rfl (kx_ans_24 S' _ hl.2.2 (rings_126 hA 5) x hx) ?_
    refine x_iretI dX10_rings_25 rfl ?_
    exact ⟨rfl, hc'⟩
  · exact absurd (Int32.not_le.mp c2) hx
set_option maxRecDepth 100000 in
set_option maxHeartbeats 4000000 in
theorem kx_polynomial_ok (S : amS) (B : Nat) (a : Ar) (hs : List Ar) (tx : List Nat) (u0 u1 u2 ck co : Int32) (hc : xCore S B a hs tx u0 u1 u2 ck co) (hB : B < 2147483648) (s : Nat) (hs0 : s < 2 ^ a.2.1) (j : Nat) (hj : j < 5) : X shX mX10_polynomial 0 [.ref 0, .int (nI s), .int (nI j)] [] S (fun r S' => r = some (.int (i32 (polB (rkV a.2.2) a.1 s j (s + 1) + (1000 : Nat)))) ∧ xCore S' B a hs tx u0 u1 u2 ck co) := by
  obtain ⟨⟨hA, ho⟩, hrest, hV⟩ := id hc
  obtain ⟨a1, a2, a3, a4, a5, a6, a7⟩ := id hA
  obtain ⟨m1, m2, m3⟩ := id ho
  have h512 := pow9 a3
  have hpos := Nat.two_pow_pos a.2.1
  have hr9 : ∀ t, t < 2 ^ a.2.1 → rkV a.2.2 t ≤ 9 := fun t ht => Nat.le_trans (rkV_le (by omega)) (pc9_le t (by omega))
  refine x_aload_n dX10_polynomial_0 rfl ?_
  refine x_getR dX10_polynomial_1 fl_X10_17 rfl ?_
  refine x_iload_n dX10_polynomial_4 rfl ?_
  refine x_v1d (N := mX1_hasAll) dX10_polynomial_5 ml_X10_126 nv_X1_hasAll rfl rfl (kx_hasAll S a.2.1 a3 m2 _) ?_
  refine x_if_eqB 20 dX10_polynomial_8 rfl (fun c8 => ?_) (fun c8 => ?_)
  · rw [Bool.eq_false_iff, ne_eq, in_R _ (by omega), show 2 ^ a.2.1 - 1 + 1 = 2 ^ a.2.1 by omega] at c8
    exact absurd (InR_in hs0) c8
  · refine x_iload_n dX10_polynomial_11 rfl ?_
    refine x_topI ?_
    refine x_if_ltI 20 dX10_polynomial_12 rfl (by omega) (fun c12 => ?_) (fun c12 => ?_)
    · exact absurd c12 (by omega)
    · refine x_iload_n dX10_polynomial_15 rfl ?_
      refine x_ic _ ic_4 dX10_polynomial_16 ?_
      refine x_icmp_leN 27 dX10_polynomial_17 rfl (by omega) (by omega) (fun c17 => ?_) (fun c17 => ?_)
      · refine x_aload_n dX10_polynomial_27 rfl ?_
        refine x_getR dX10_polynomial_28 fl_X10_21 rfl ?_
        refine x_iload_n dX10_polynomial_31 rfl ?_
        refine x_iload_n dX10_polynomial_32 rfl ?_
        refine x_v2 (N := mX6_coefficient) dX10_polynomial_33 ml_X10_162 nv_X6_coefficient rfl rfl (kx_coefficient S B a hs tx u0 u1 u2 ck co hc hB s hs0 j (by omega)) ?_
        rintro _ S' ⟨rfl, hc', hl⟩
        refine x_si _ si_1000 dX10_polynomial_36 ?_
        refine x_iaddIN dX10_polynomial_39 ?_
        refine x_iretI dX10_polynomial_40 rfl ?_
        exact ⟨rfl, hc'⟩
      · exact absurd c17 (by omega)
set_option maxRecDepth 100000 in
set_option maxHeartbeats 4000000 in
theorem kx_polynomial_bad (S : amS) (B : Nat) (a : Ar) (hs : List Ar) (tx : List Nat) (u0 u1 u2 ck co : Int32) (hc : xCore S B a hs tx u0 u1 u2 ck co) (x y : Int32) (hxy : ¬ (InR x (2 ^ a.2.1) ∧ InR y 5)) : X shX mX10_polynomial 0 [.ref 0, .int x, .int y] [] S (fun r S' => r = some (.int (i32 (-2))) ∧ xCore S' B a hs tx (u0 + nI 1) u1 u2 ck co) := by
  obtain ⟨⟨hA, ho⟩, hrest, hV⟩ := id hc
  obtain ⟨a1, a2, a3, a4, a5, a6, a7⟩ := id hA
  obtain ⟨m1, m2, m3⟩ := id ho
  have h512 := pow9 a3
  have hpos := Nat.two_pow_pos a.2.1
  have hr9 : ∀ t, t < 2 ^ a.2.1 → rkV a.2.2 t ≤ 9 := fun t ht => Nat.le_trans (rkV_le (by omega)) (pc9_le t (by omega))
  refine x_aload_n dX10_polynomial_0 rfl ?_
  refine x_getR dX10_polynomial_1 fl_X10_17 rfl ?_
  refine x_iload_n dX10_polynomial_4 rfl ?_
  refine x_v1d (N := mX1_hasAll) dX10_polynomial_5 ml_X10_126 nv_X1_hasAll rfl rfl (kx_hasAll S a.2.1 a3 m2 _) ?_
  refine x_if_eqB 20 dX10_polynomial_8 rfl (fun c8 => ?_) (fun c8 => ?_)
  · refine x_aload_n dX10_polynomial_20 rfl ?_
    refine x_bi _ bi_m2 dX10_polynomial_21 ?_
    refine x_v1 (N := mX10_refused) dX10_polynomial_23 ml_X10_120 nv_X10_refused rfl rfl (kx_bad S B a hs tx u0 u1 u2 ck co hc) ?_
    rintro _ S' ⟨rfl, h'⟩
    refine x_iretI dX10_polynomial_26 rfl ?_
    exact ⟨rfl, h'⟩
  · refine x_iload_n dX10_polynomial_11 rfl ?_
    refine x_if_lt 20 dX10_polynomial_12 rfl (fun c12 => ?_) (fun c12 => ?_)
    · refine x_aload_n dX10_polynomial_20 rfl ?_
      refine x_bi _ bi_m2 dX10_polynomial_21 ?_
      refine x_v1 (N := mX10_refused) dX10_polynomial_23 ml_X10_120 nv_X10_refused rfl rfl (kx_bad S B a hs tx u0 u1 u2 ck co hc) ?_
      rintro _ S' ⟨rfl, h'⟩
      refine x_iretI dX10_polynomial_26 rfl ?_
      exact ⟨rfl, h'⟩
    · refine x_iload_n dX10_polynomial_15 rfl ?_
      refine x_ic _ ic_4 dX10_polynomial_16 ?_
      refine x_icmp_le 27 dX10_polynomial_17 rfl (fun c17 => ?_) (fun c17 => ?_)
      · rw [in_R _ (by omega), show 2 ^ a.2.1 - 1 + 1 = 2 ^ a.2.1 by omega] at c8
        exact absurd ⟨c8, (in_R y (n := 4) (by omega)).mp (decide_eq_true ⟨Int32.not_lt.mp c12, c17⟩)⟩ hxy
      · refine x_aload_n dX10_polynomial_20 rfl ?_
        refine x_bi _ bi_m2 dX10_polynomial_21 ?_
        refine x_v1 (N := mX10_refused) dX10_polynomial_23 ml_X10_120 nv_X10_refused rfl rfl (kx_bad S B a hs tx u0 u1 u2 ck co hc) ?_
        rintro _ S' ⟨rfl, h'⟩
        refine x_iretI dX10_polynomial_26 rfl ?_
        exact ⟨rfl, h'⟩
set_option maxRecDepth 100000 in
set_option maxHeartbeats 4000000 in
theorem kx_value_ok (S : amS) (B : Nat) (a : Ar) (hs : List Ar) (tx : List Nat) (u0 u1 u2 ck co : Int32) (hc : xCore S B a hs tx u0 u1 u2 ck co) (hB : B < 2147483648) (x : Int32) (hx : decide (i32 (-9) ≤ x ∧ x ≤ nI 9) = true) : X shX mX10_value 0 [.ref 0, .int x] [] S (fun r S' => r = some (.int (valB (rkV a.2.2) a.1 a.2.1 x 5 + 100000)) ∧ xCore S' B a hs tx u0 u1 u2 ck co) := by
  obtain ⟨⟨hA, ho⟩, hrest, hV⟩ := id hc
  obtain ⟨a1, a2, a3, a4, a5, a6, a7⟩ := id hA
  obtain ⟨m1, m2, m3⟩ := id ho
  have h512 := pow9 a3
  have hpos := Nat.two_pow_pos a.2.1
  have hr9 : ∀ t, t < 2 ^ a.2.1 → rkV a.2.2 t ≤ 9 := fun t ht => Nat.le_trans (rkV_le (by omega)) (pc9_le t (by omega))
  refine x_iload_n dX10_value_0 rfl ?_
  refine x_bi _ bi_m9 dX10_value_1 ?_
  refine x_icmp_lt 12 dX10_value_3 rfl (fun c3 => ?_) (fun c3 => ?_)
  · exact absurd c3 (Int32.not_lt.mpr (of_decide_eq_true hx).1)
  · refine x_iload_n dX10_value_6 rfl ?_
    refine x_bi _ bi_9 dX10_value_7 ?_
    refine x_icmp_le 21 dX10_value_9 rfl (fun c9 => ?_) (fun c9 => ?_)
    · refine x_aload_n dX10_value_21 rfl ?_
      refine x_getR dX10_value_22 fl_X10_21 rfl ?_
      refine x_iload_n dX10_value_25 rfl ?_
      refine x_v1 (N := mX6_valueAt) dX10_value_26 ml_X10_165 nv_X6_valueAt rfl rfl (kx_valueAt S B a hs tx u0 u1 u2 ck co hc hB x) ?_
      rintro _ S' ⟨rfl, hc', hl⟩
      refine x_ldc cn_X10_168 dX10_value_29 ?_
      refine x_iadd dX10_value_31 ?_
      refine x_iretI dX10_value_32 rfl ?_
      exact ⟨rfl, hc'⟩
    · exact absurd (of_decide_eq_true hx).2 c9
set_option maxRecDepth 100000 in
set_option maxHeartbeats 4000000 in
theorem kx_value_bad (S : amS) (B : Nat) (a : Ar) (hs : List Ar) (tx : List Nat) (u0 u1 u2 ck co : Int32) (hc : xCore S B a hs tx u0 u1 u2 ck co) (x : Int32) (hx : ¬ decide (i32 (-9) ≤ x ∧ x ≤ nI 9) = true) : X shX mX10_value 0 [.ref 0, .int x] [] S (fun r S' => r = some (.int (i32 (-2))) ∧ xCore S' B a hs tx (u0 + nI 1) u1 u2 ck co) := by
  obtain ⟨⟨hA, ho⟩, hrest, hV⟩ := id hc
  obtain ⟨a1, a2, a3, a4, a5, a6, a7⟩ := id hA
  obtain ⟨m1, m2, m3⟩ := id ho
  have h512 := pow9 a3
  have hpos := Nat.two_pow_pos a.2.1
  have hr9 : ∀ t, t < 2 ^ a.2.1 → rkV a.2.2 t ≤ 9 := fun t ht => Nat.le_trans (rkV_le (by omega)) (pc9_le t (by omega))
  refine x_iload_n dX10_value_0 rfl ?_
  refine x_bi _ bi_m9 dX10_value_1 ?_
  refine x_icmp_lt 12 dX10_value_3 rfl (fun c3 => ?_) (fun c3 => ?_)
  · refine x_aload_n dX10_value_12 rfl ?_
    refine x_bi _ bi_m2 dX10_value_13 ?_
    refine x_v1 (N := mX10_refused) dX10_value_15 ml_X10_120 nv_X10_refused rfl rfl (kx_bad S B a hs tx u0 u1 u2 ck co hc) ?_
    rintro _ S' ⟨rfl, h'⟩
    refine x_goto 32 dX10_value_18 rfl ?_
    refine x_iretI dX10_value_32 rfl ?_
    exact ⟨rfl, h'⟩
  · refine x_iload_n dX10_value_6 rfl ?_
    refine x_bi _ bi_9 dX10_value_7 ?_
    refine x_icmp_le 21 dX10_value_9 rfl (fun c9 => ?_) (fun c9 => ?_)
    · exact absurd (decide_eq_true ⟨Int32.not_lt.mp c3, c9⟩) hx
    · refine x_aload_n dX10_value_12 rfl ?_
      refine x_bi _ bi_m2 dX10_value_13 ?_
      refine x_v1 (N := mX10_refused) dX10_value_15 ml_X10_120 nv_X10_refused rfl rfl (kx_bad S B a hs tx u0 u1 u2 ck co hc) ?_
      rintro _ S' ⟨rfl, h'⟩
      refine x_goto 32 dX10_value_18 rfl ?_
      refine x_iretI dX10_value_32 rfl ?_
      exact ⟨rfl, h'⟩
theorem xor_all {N i : Nat} (hi : i < N) : (2 ^ N - 1) ^^^ 2 ^ i = less (2 ^ N - 1) i := xor_less (by rw [Nat.testBit_two_pow_sub_one]; exact decide_eq_true hi)
set_option maxRecDepth 100000 in
set_option maxHeartbeats 4000000 in
theorem kx_within_ok (S : amS) (B : Nat) (a : Ar) (hs : List Ar) (tx : List Nat) (u0 u1 u2 ck co : Int32) (hc : xCore S B a hs tx u0 u1 u2 ck co) (hB : B < 2147483648) (i j : Nat) (hi : i < a.2.1) (hj : j < 4) : X shX mX10_within 0 [.ref 0, .int (nI i), .int (nI j), .null] [] S (fun r S' => r = some (.int (i32 (polB (rkV a.2.2) a.1 (less (2 ^ a.2.1 - 1) i) j (less (2 ^ a.2.1 - 1) i + 1) - polB (rkV a.2.2) a.1 (2 ^ a.2.1 - 1) j (2 ^ a.2.1) + (1000 : Nat)))) ∧ xCore S' B a hs tx u0 u1 u2 ck co) := by
  obtain ⟨⟨hA, ho⟩, hrest, hV⟩ := id hc
  obtain ⟨a1, a2, a3, a4, a5, a6, a7⟩ := id hA
  obtain ⟨m1, m2, m3⟩ := id ho
  have h512 := pow9 a3
  have hpos := Nat.two_pow_pos a.2.1
  have hr9 : ∀ t, t < 2 ^ a.2.1 → rkV a.2.2 t ≤ 9 := fun t ht => Nat.le_trans (rkV_le (by omega)) (pc9_le t (by omega))
  refine x_aload_n dX10_within_0 rfl ?_
  refine x_getR dX10_within_1 fl_X10_17 rfl ?_
  refine x_iload_n dX10_within_4 rfl ?_
  refine x_v1d (N := mX1_has) dX10_within_5 ml_X10_113 nv_X1_has rfl rfl (kx_has S a.2.1 a3 m2 _) ?_
  refine x_if_eqB 20 dX10_within_8 rfl (fun c8 => ?_) (fun c8 => ?_)
  · rw [(in_L _ (by omega)).mpr (InR_in hi)] at c8; cases c8
  · refine x_iload_n dX10_within_11 rfl ?_
    refine x_topI ?_
    refine x_if_ltI 20 dX10_within_12 rfl (by omega) (fun c12 => ?_) (fun c12 => ?_)
    · exact absurd c12 (by omega)
    · refine x_iload_n dX10_within_15 rfl ?_
      refine x_ic _ ic_4 dX10_within_16 ?_
      refine x_icmp_ltN 27 dX10_within_17 rfl (by omega) (by omega) (fun c17 => ?_) (fun c17 => ?_)
      · refine x_aload_n dX10_within_27 rfl ?_
        refine x_getR dX10_within_28 fl_X10_17 rfl ?_
        refine x_v0d (N := mX1_all) dX10_within_31 ml_X10_104 nv_X1_all rfl rfl (kx_all S a.2.1 a3 m2) ?_
        refine x_istore_n dX10_within_34 rfl ?_
        refine x_aload_n dX10_within_35 rfl ?_
        refine x_getR dX10_within_36 fl_X10_21 rfl ?_
        refine x_iload_n dX10_within_39 rfl ?_
        refine x_ic _ ic_1 dX10_within_40 ?_
        refine x_iload_n dX10_within_41 rfl ?_
        refine x_ishl1 dX10_within_42 (by omega) ?_
        refine x_ixorN dX10_within_43 ?_
        rw [xor_all hi]
        refine x_iload_n dX10_within_44 rfl ?_
        refine x_v2 (N := mX6_coefficient) dX10_within_45 ml_X10_162 nv_X6_coefficient rfl rfl (kx_coefficient S B a hs tx u0 u1 u2 ck co hc hB (less (2 ^ a.2.1 - 1) i) (less_lt (by omega)) j (by omega)) ?_
        rintro _ S' ⟨rfl, hc', hl⟩
        refine x_aload_n dX10_within_48 rfl ?_
        refine x_getR dX10_within_49 fl_X10_21 rfl ?_
        refine x_iload_n dX10_within_52 rfl ?_
        refine x_iload_n dX10_within_53 rfl ?_
        refine x_v2 (N := mX6_coefficient) dX10_within_54 ml_X10_162 nv_X6_coefficient rfl rfl (kx_coefficient S' B a hs tx u0 u1 u2 ck co hc' hB (2 ^ a.2.1 - 1) (by omega) j (by omega)) ?_
        rintro _ S2 ⟨rfl, h2, hl2⟩
        rw [show 2 ^ a.2.1 - 1 + 1 = 2 ^ a.2.1 by omega]
        refine x_isubI dX10_within_57 ?_
        refine x_si _ si_1000 dX10_within_58 ?_
        refine x_iaddIN dX10_within_61 ?_
        refine x_iretI dX10_within_62 rfl ?_
        exact ⟨rfl, h2⟩
      · exact absurd c17 (by omega)
set_option maxRecDepth 100000 in
set_option maxHeartbeats 4000000 in
theorem kx_within_bad (S : amS) (B : Nat) (a : Ar) (hs : List Ar) (tx : List Nat) (u0 u1 u2 ck co : Int32) (hc : xCore S B a hs tx u0 u1 u2 ck co) (x y : Int32) (hxy : ¬ (InR x a.2.1 ∧ InR y 4)) : X shX mX10_within 0 [.ref 0, .int x, .int y, .null] [] S (fun r S' => r = some (.int (i32 (-2))) ∧ xCore S' B a hs tx (u0 + nI 1) u1 u2 ck co) := by
  obtain ⟨⟨hA, ho⟩, hrest, hV⟩ := id hc
  obtain ⟨a1, a2, a3, a4, a5, a6, a7⟩ := id hA
  obtain ⟨m1, m2, m3⟩ := id ho
  have h512 := pow9 a3
  have hpos := Nat.two_pow_pos a.2.1
  have hr9 : ∀ t, t < 2 ^ a.2.1 → rkV a.2.2 t ≤ 9 := fun t ht => Nat.le_trans (rkV_le (by omega)) (pc9_le t (by omega))
  refine x_aload_n dX10_within_0 rfl ?_
  refine x_getR dX10_within_1 fl_X10_17 rfl ?_
  refine x_iload_n dX10_within_4 rfl ?_
  refine x_v1d (N := mX1_has) dX10_within_5 ml_X10_113 nv_X1_has rfl rfl (kx_has S a.2.1 a3 m2 _) ?_
  refine x_if_eqB 20 dX10_within_8 rfl (fun c8 => ?_) (fun c8 => ?_)
  · refine x_aload_n dX10_within_20 rfl ?_
    refine x_bi _ bi_m2 dX10_within_21 ?_
    refine x_v1 (N := mX10_refused) dX10_within_23 ml_X10_120 nv_X10_refused rfl rfl (kx_bad S B a hs tx u0 u1 u2 ck co hc) ?_
    rintro _ S' ⟨rfl, h'⟩
    refine x_iretI dX10_within_26 rfl ?_
    exact ⟨rfl, h'⟩
  · refine x_iload_n dX10_within_11 rfl ?_
    refine x_if_lt 20 dX10_within_12 rfl (fun c12 => ?_) (fun c12 => ?_)
    · refine x_aload_n dX10_within_20 rfl ?_
      refine x_bi _ bi_m2 dX10_within_21 ?_
      refine x_v1 (N := mX10_refused) dX10_within_23 ml_X10_120 nv_X10_refused rfl rfl (kx_bad S B a hs tx u0 u1 u2 ck co hc) ?_
      rintro _ S' ⟨rfl, h'⟩
      refine x_iretI dX10_within_26 rfl ?_
      exact ⟨rfl, h'⟩
    · refine x_iload_n dX10_within_15 rfl ?_
      refine x_ic _ ic_4 dX10_within_16 ?_
      refine x_icmp_lt 27 dX10_within_17 rfl (fun c17 => ?_) (fun c17 => ?_)
      · exact absurd ⟨(in_L _ (by omega)).mp c8, (in_L _ (by omega)).mp (decide_eq_true ⟨Int32.not_lt.mp c12, c17⟩)⟩ hxy
      · refine x_aload_n dX10_within_20 rfl ?_
        refine x_bi _ bi_m2 dX10_within_21 ?_
        refine x_v1 (N := mX10_refused) dX10_within_23 ml_X10_120 nv_X10_refused rfl rfl (kx_bad S B a hs tx u0 u1 u2 ck co hc) ?_
        rintro _ S' ⟨rfl, h'⟩
        refine x_iretI dX10_within_26 rfl ?_
        exact ⟨rfl, h'⟩
set_option maxRecDepth 100000 in
set_option maxHeartbeats 4000000 in
theorem kx_turns_ok0 (S : amS) (B : Nat) (a : Ar) (hs : List Ar) (tx : List Nat) (u0 u1 u2 ck co : Int32) (hc : xCore S B a hs tx u0 u1 u2 ck co) (hB : B + 1 < 2147483648) (i : Nat) (hi : i < a.2.1) : X shX mX10_turns 0 [.ref 0, .int (nI i), .null] [] S (fun r S' => r = some (.int (absX (valB (rkV (aTurn a i).2.2) (aTurn a i).1 (aTurn a i).2.1 (i32 (-1)) 5))) ∧ xCore S' (B + 3000) (aTurn a i) (pushH hs a) tx u0 u1 u2 ck co) := by
  refine kx_turns_1 S B a hs tx u0 u1 u2 ck co hc i hi _ (fun S3 h3 => ?_)
  refine x_aload_n dX10_turns_32 rfl ?_
  refine x_getR dX10_turns_33 fl_X10_21 rfl ?_
  refine x_v0 (N := mX6_countRegions) dX10_turns_36 ml_X10_93 nv_X6_countRegions rfl rfl (kx_countRegions S3 (B + 1) (aTurn a i) (pushH hs a) tx u0 u1 u2 ck co h3 hB) ?_
  rintro _ S4 ⟨rfl, h4, -⟩
  refine x_iretI dX10_turns_39 rfl ?_
  exact ⟨rfl, h4.mono (by omega)⟩
set_option maxRecDepth 100000 in
set_option maxHeartbeats 4000000 in
theorem kx_swaps_ok (S : amS) (B : Nat) (a : Ar) (hs : List Ar) (tx : List Nat) (u0 u1 u2 ck co : Int32) (hc : xCore S B a hs tx u0 u1 u2 ck co) (hB : B + 1 < 2147483648) (i l : Nat) (hi : i < a.2.1) (hl : l < a.2.1) (hil : i ≠ l) : X shX mX10_swaps 0 [.ref 0, .int (nI i), .int (nI l), .null] [] S (fun r S' => r = some (.int (nI (rkV (aSwap a i l).2.2 (2 ^ (aSwap a i l).2.1 - 1)))) ∧ xCore S' (B + 3000) (aSwap a i l) (pushH hs a) tx u0 u1 u2 ck co) := by
  have hpos := Nat.two_pow_pos (aSwap a i l).2.1
  refine kx_swaps_1 S B a hs tx u0 u1 u2 ck co hc i l hi hl hil _ (fun S3 h3 => ?_)
  refine x_aload_n dX10_swaps_33 rfl ?_
  refine x_getR dX10_swaps_34 fl_X10_21 rfl ?_
  refine x_aload_n dX10_swaps_37 rfl ?_
  refine x_getR dX10_swaps_38 fl_X10_17 rfl ?_
  refine x_v0d (N := mX1_all) dX10_swaps_41 ml_X10_104 nv_X1_all rfl rfl (kx_all S3 (aSwap a i l).2.1 h3.1.1.2.2.1 h3.1.2.2.1) ?_
  refine x_v1 (N := mX6_rankOf) dX10_swaps_44 ml_X10_107 nv_X6_rankOf rfl rfl (kx_rankOf S3 (B + 1) (aSwap a i l) (pushH hs a) tx u0 u1 u2 ck co h3 hB (2 ^ (aSwap a i l).2.1 - 1) (by omega)) ?_
  rintro _ S4 ⟨rfl, h4, -⟩
  refine x_iretI dX10_swaps_47 rfl ?_
  exact ⟨rfl, h4.mono (by omega)⟩
set_option maxRecDepth 100000 in
set_option maxHeartbeats 4000000 in
theorem kx_told_6 (S : amS) (B : Nat) (a : Ar) (hs : List Ar) (tx : List Nat) (u0 u1 u2 ck co : Int32) (hc : xCore S B a hs tx u0 u1 u2 ck co) (hB : B < 2147483648) : X shX mX10_told 0 [.ref 0, .int (nI 6)] [] S (fun r S' => r = some (.int (nI (rkV a.2.2 (2 ^ a.2.1 - 1)))) ∧ xCore S' B a hs tx u0 u1 u2 ck co) := by
  obtain ⟨⟨hA, ho⟩, hrest, hV⟩ := id hc
  obtain ⟨a1, a2, a3, a4, a5, a6, a7⟩ := id hA
  obtain ⟨m1, m2, m3⟩ := id ho
  have h512 := pow9 a3
  have hpos := Nat.two_pow_pos a.2.1
  have hr9 : ∀ t, t < 2 ^ a.2.1 → rkV a.2.2 t ≤ 9 := fun t ht => Nat.le_trans (rkV_le (by omega)) (pc9_le t (by omega))
  refine x_iload_n dX10_told_0 rfl ?_
  refine x_tableIn 87 dX10_told_1 (by decide) (by decide) (off := 86) (by decide) rfl ?_
  refine x_aload_n dX10_told_87 rfl ?_
  refine x_getR dX10_told_88 fl_X10_21 rfl ?_
  refine x_aload_n dX10_told_91 rfl ?_
  refine x_getR dX10_told_92 fl_X10_17 rfl ?_
  refine x_v0d (N := mX1_all) dX10_told_95 ml_X10_104 nv_X1_all rfl rfl (kx_all S a.2.1 a3 m2) ?_
  refine x_v1 (N := mX6_rankOf) dX10_told_98 ml_X10_107 nv_X6_rankOf rfl rfl (kx_rankOf S B a hs tx u0 u1 u2 ck co hc hB (2 ^ a.2.1 - 1) (by omega)) ?_
  rintro _ S' ⟨rfl, hc', hl⟩
  refine x_iretI dX10_told_101 rfl ?_
  exact ⟨rfl, hc'⟩
set_option maxRecDepth 100000 in
set_option maxHeartbeats 4000000 in
theorem kx_parts_bad (S : amS) (B : Nat) (a : Ar) (hs : List Ar) (tx : List Nat) (u0 u1 u2 ck co : Int32) (hc : xCore S B a hs tx u0 u1 u2 ck co) (x : Int32) (hx : x < i32 (-1)) : X shX mX10_parts 0 [.ref 0, .int x] [] S (fun r S' => r = some (.int (i32 (-2))) ∧ xCore S' B a hs tx (u0 + nI 1) u1 u2 ck co) := by
  obtain ⟨⟨hA, ho⟩, hrest, hV⟩ := id hc
  obtain ⟨a1, a2, a3, a4, a5, a6, a7⟩ := id hA
  obtain ⟨m1, m2, m3⟩ := id ho
  have h512 := pow9 a3
  have hpos := Nat.two_pow_pos a.2.1
  have hr9 : ∀ t, t < 2 ^ a.2.1 → rkV a.2.2 t ≤ 9 := fun t ht => Nat.le_trans (rkV_le (by omega)) (pc9_le t (by omega))
  refine x_iload_n dX10_parts_0 rfl ?_
  refine x_ic _ ic_m1 dX10_parts_1 ?_
  refine x_icmp_ge 12 dX10_parts_2 rfl (fun c2 => ?_) (fun c2 => ?_)
  · exact absurd hx (Int32.not_lt.mpr c2)
  · refine x_aload_n dX10_parts_5 rfl ?_
    refine x_bi _ bi_m2 dX10_parts_6 ?_
    refine x_v1 (N := mX10_refused) dX10_parts_8 ml_X10_120 nv_X10_refused rfl rfl (kx_bad S B a hs tx u0 u1 u2 ck co hc) ?_
    rintro _ S' ⟨rfl, h'⟩
    refine x_iretI dX10_parts_11 rfl ?_
    exact ⟨rfl, h'⟩
set_option maxRecDepth 100000 in
set_option maxHeartbeats 4000000 in
theorem kx_parts_cnt0 (S : amS) (B : Nat) (a : Ar) (hs : List Ar) (tx : List Nat) (u0 u1 u2 ck co : Int32) (hc : xCore S B a hs tx u0 u1 u2 ck co) (hB : B < 2147483648) : X shX mX10_parts 0 [.ref 0, .int (i32 (-1))] [] S (fun r S' => r = some (.int (absX (valB (rkV a.2.2) a.1 a.2.1 (i32 (-1)) 5))) ∧ xCore S' B a hs tx u0 u1 u2 ck co) := by
  obtain ⟨⟨hA, ho⟩, hrest, hV⟩ := id hc
  obtain ⟨a1, a2, a3, a4, a5, a6, a7⟩ := id hA
  obtain ⟨m1, m2, m3⟩ := id ho
  have h512 := pow9 a3
  have hpos := Nat.two_pow_pos a.2.1
  have hr9 : ∀ t, t < 2 ^ a.2.1 → rkV a.2.2 t ≤ 9 := fun t ht => Nat.le_trans (rkV_le (by omega)) (pc9_le t (by omega))
  refine x_iload_n dX10_parts_0 rfl ?_
  refine x_ic _ ic_m1 dX10_parts_1 ?_
  refine x_icmp_geI 12 dX10_parts_2 rfl (by omega) (by omega) (fun c2 => ?_) (fun c2 => ?_)
  · refine x_iload_n dX10_parts_12 rfl ?_
    refine x_ic _ ic_m1 dX10_parts_13 ?_
    refine x_icmp_neI 27 dX10_parts_14 rfl (by omega) (by omega) (fun c14 => ?_) (fun c14 => ?_)
    · exact absurd rfl c14
    · refine x_aload_n dX10_parts_17 rfl ?_
      refine x_getR dX10_parts_18 fl_X10_21 rfl ?_
      refine x_v0 (N := mX6_countRegions) dX10_parts_21 ml_X10_93 nv_X6_countRegions rfl rfl (kx_countRegions S B a hs tx u0 u1 u2 ck co hc hB) ?_
      rintro _ S' ⟨rfl, hc', hl⟩
      refine x_goto 38 dX10_parts_24 rfl ?_
      refine x_iretI dX10_parts_38 rfl ?_
      exact ⟨rfl, hc'⟩
  · exact absurd c2 (by omega)
