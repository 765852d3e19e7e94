/-! THE REFERENCE: regions, modular flats, base sets -/
/-- a circuit tells that a choice of sides has no point -/
noncomputable def hitB (v : Nat → Row) (s c : Nat) : Bool := s &&& c == abB v c 9 || s &&& c == c ^^^ (c &&& abB v c 9)
noncomputable def ptL (v : Nat → Row) (L : List Nat) (s : Nat) : Bool := L.all (fun c => !hitB v s c)
noncomputable def ptB (v : Nat → Row) (N s : Nat) : Bool := ptL v (ringsB v N 5) s
noncomputable def regL (v : Nat → Row) (N : Nat) : List Nat := (List.range (2 ^ N)).filter (fun s => ptB v N s)
noncomputable def waB (v : Nat → Row) (N s : Nat) : Nat → Nat
  | 0 => 0
  | i + 1 => waB v N s i ||| (if ptB v N (s ^^^ 2 ^ i) = true then 2 ^ i else 0)
theorem abB_lt (v : Nat → Row) (c : Nat) : ∀ i, abB v c i < 2 ^ i := by
  intro i
  induction i with
  | zero => exact Nat.one_pos
  | succ i ih =>
    rw [abB]
    have h1 : 2 ^ i < 2 ^ (i + 1) := pow_ltN (by omega)
    refine or_lt9 (by omega) ?_
    split <;> omega
theorem xor_lt9 {a b N : Nat} (ha : a < 2 ^ N) (hb : b < 2 ^ N) : a ^^^ b < 2 ^ N := Nat.xor_lt_two_pow ha hb
set_option maxRecDepth 100000 in
set_option maxHeartbeats 4000000 in
theorem k_isPart_l (S : amS) (a : Ar) (hs : List Ar) (tx : List Nat) (u0 u1 u2 ck co : Int32) (hc : mCore S a hs tx u0 u1 u2 ck co) (hl : laidM S a.2.1 a.2.2) (s : Nat) (hs0 : s < 2 ^ a.2.1) : ∀ (e r : Nat) (z : Value), r + e = (ringsB a.2.2 a.2.1 5).length → (∀ (k c : Nat), k < r → (ringsB a.2.2 a.2.1 5)[k]? = some c → hitB a.2.2 s c = false) → X shM mX11_isPart 6 [.ref 0, .int (nI s), .int (nI r), z] [] S (fun r S' => r = some (.int (zB (ptB a.2.2 a.2.1 s))) ∧ mCore S' a hs tx u0 u1 u2 ck co) := by
  have hA := hc.1.1
  have hm := hc.1.2
  obtain ⟨a1, a2, a3, a4, a5, a6, a7⟩ := id hA
  have h512 := pow9 a3
  have hr9 : ∀ t, t < 2 ^ a.2.1 → rkV a.2.2 t ≤ 9 := fun t ht => Nat.le_trans (rkV_le (by omega)) (pc9_le t (by omega))
  have hlen := ringsB_le a.2.2 a3 4 (2 ^ a.2.1) (by omega) (Nat.le_refl _)
  have hlen2 : (ringsB a.2.2 a.2.1 5).length ≤ 381 := hlen
  intro e
  induction e with
  | zero =>
    intro r z h1 h2
    obtain rfl : r = (ringsB a.2.2 a.2.1 5).length := by omega
    refine x_iload_n dX11_isPart_6 rfl ?_
    refine x_aload_n dX11_isPart_7 rfl ?_
    refine x_getIV dX11_isPart_8 fl_X11_120 rfl (hl.2.1) ?_
    refine x_icmp_geN 60 dX11_isPart_11 rfl (by omega) (by omega) (fun c11 => ?_) (fun c11 => ?_)
    · refine x_ic _ ic_1 dX11_isPart_60 ?_
      refine x_zret1 dX11_isPart_61 rfl ?_
      refine ⟨?_, hc⟩
      rw [zB_t]
      unfold ptB ptL
      rw [List.all_eq_true]
      intro c hcm
      obtain ⟨k, hk⟩ := List.getElem?_of_mem hcm
      rw [h2 k c (List.getElem?_eq_some_iff.mp hk).1 hk]
      rfl
    · exact absurd c11 (by omega)
  | succ e ih =>
    intro r z h1 h2
    have hr : r < (ringsB a.2.2 a.2.1 5).length := by omega
    obtain ⟨c, hkc⟩ : ∃ c, (ringsB a.2.2 a.2.1 5)[r]? = some c := ⟨_, List.getElem?_eq_getElem hr⟩
    obtain ⟨r1, r2, r3, r4⟩ := rings_mem 5 r c hkc
    obtain ⟨q1, q2⟩ := hl.2.2 r c hkc
    have hab := abB_lt a.2.2 c 9
    have hx := xor_and_le c (abB a.2.2 c 9)
    have han : s &&& c ≤ s := Nat.and_le_left
    have hfalse : hitB a.2.2 s c = true → ptB a.2.2 a.2.1 s = false := by
      intro hh
      rw [ptB, ptL, Bool.eq_false_iff, ne_eq, List.all_eq_true]
      intro hz
      have := hz c (List.mem_of_getElem? hkc)
      rw [hh] at this
      cases this
    refine x_iload_n dX11_isPart_6 rfl ?_
    refine x_aload_n dX11_isPart_7 rfl ?_
    refine x_getIV dX11_isPart_8 fl_X11_120 rfl (hl.2.1) ?_
    refine x_icmp_geN 60 dX11_isPart_11 rfl (by omega) (by omega) (fun c11 => ?_) (fun c11 => ?_)
    · exact absurd c11 (by omega)
    · refine x_iload_n dX11_isPart_14 rfl ?_
      refine x_aload_n dX11_isPart_15 rfl ?_
      refine x_getR dX11_isPart_16 fl_X11_36 rfl ?_
      refine x_iload_n dX11_isPart_19 rfl ?_
      refine x_ialdN dX11_isPart_20 rfl rfl (by omega) (q1) ?_
      refine x_iandN dX11_isPart_21 ?_
      refine x_istore_n dX11_isPart_22 rfl ?_
      refine x_iload_n dX11_isPart_23 rfl ?_
      refine x_aload_n dX11_isPart_24 rfl ?_
      refine x_getR dX11_isPart_25 fl_X11_39 rfl ?_
      refine x_iload_n dX11_isPart_28 rfl ?_
      refine x_ialdN dX11_isPart_29 rfl rfl (by omega) (q2) ?_
      refine x_icmp_eqN 52 dX11_isPart_30 rfl (by omega) (by omega) (fun c30 => ?_) (fun c30 => ?_)
      · refine x_ic _ ic_0 dX11_isPart_52 ?_
        refine x_zret0 dX11_isPart_53 rfl ?_
        exact ⟨by rw [zB_f (hfalse (by simp [hitB, c30]))], hc⟩
      · refine x_iload_n dX11_isPart_33 rfl ?_
        refine x_aload_n dX11_isPart_34 rfl ?_
        refine x_getR dX11_isPart_35 fl_X11_36 rfl ?_
        refine x_iload_n dX11_isPart_38 rfl ?_
        refine x_ialdN dX11_isPart_39 rfl rfl (by omega) (q1) ?_
        refine x_aload_n dX11_isPart_40 rfl ?_
        refine x_getR dX11_isPart_41 fl_X11_39 rfl ?_
        refine x_iload_n dX11_isPart_44 rfl ?_
        refine x_ialdN dX11_isPart_45 rfl rfl (by omega) (q2) ?_
        refine x_ic _ ic_m1 dX11_isPart_46 ?_
        refine x_ixor dX11_isPart_47 ?_
        refine x_iandNX dX11_isPart_48 ?_
        refine x_icmp_neN 54 dX11_isPart_49 rfl (by omega) (by omega) (fun c49 => ?_) (fun c49 => ?_)
        · refine x_iincN dX11_isPart_54 rfl rfl ?_
          refine x_goto 6 dX11_isPart_57 rfl ?_
          refine ih (r + 1) _ (by omega) (fun k d hk hd => ?_)
          by_cases q : k = r
          · subst q
            rw [hkc] at hd
            cases hd
            simp [hitB, c30, c49]
          · exact h2 k d (by omega) hd
        · refine x_ic _ ic_0 dX11_isPart_52 ?_
          refine x_zret0 dX11_isPart_53 rfl ?_
          exact ⟨by rw [zB_f (hfalse (by simp [hitB, c49]))], hc⟩
set_option maxRecDepth 100000 in
set_option maxHeartbeats 4000000 in
theorem k_isPart (S : amS) (a : Ar) (hs : List Ar) (tx : List Nat) (u0 u1 u2 ck co : Int32) (hc : mCore S a hs tx u0 u1 u2 ck co) (s : Nat) (hs0 : s < 2 ^ a.2.1) : X shM mX11_isPart 0 [.ref 0, .int (nI s), .null, .null] [] S (fun r S' => r = some (.int (zB (ptB a.2.2 a.2.1 s))) ∧ mCore S' a hs tx u0 u1 u2 ck co) := by
  refine x_aload_n dX11_isPart_0 rfl ?_
  refine x_v0 (N := mX11_lay) dX11_isPart_1 ml_X11_187 nv_X11_lay rfl rfl (k_layq S a hs tx u0 u1 u2 ck co hc) ?_
  rintro _ S' ⟨rfl, hc', hl, hf⟩
  refine x_ic _ ic_0 dX11_isPart_4 ?_
  refine x_istore_n dX11_isPart_5 rfl ?_
  exact k_isPart_l S' a hs tx u0 u1 u2 ck co hc' hl s hs0 (ringsB a.2.2 a.2.1 5).length 0 .null (by omega) (fun k c hk => absurd hk (Nat.not_lt_zero k))
set_option maxRecDepth 100000 in
set_option maxHeartbeats 4000000 in
theorem k_pm_l (a : Ar) (hs : List Ar) (tx : List Nat) (u0 u1 u2 ck co : Int32) : ∀ (e t : Nat) (S : amS), mCore S a hs tx u0 u1 u2 ck co → t + e = 2 ^ a.2.1 → X shM mX11_partMany 4 [.ref 0, .int (nI ((List.range t).filter (fun s => ptB a.2.2 a.2.1 s)).length), .int (nI t)] [] S (fun r S' => r = some (.int (nI (regL a.2.2 a.2.1).length)) ∧ mCore S' a hs tx u0 u1 u2 ck co) := by
  intro e
  induction e with
  | zero =>
    intro t S hc h1
    obtain rfl : t = 2 ^ a.2.1 := by omega
    have hA := hc.1.1
    have hm := hc.1.2
    obtain ⟨a1, a2, a3, a4, a5, a6, a7⟩ := id hA
    have h512 := pow9 a3
    have hr9 : ∀ t, t < 2 ^ a.2.1 → rkV a.2.2 t ≤ 9 := fun t ht => Nat.le_trans (rkV_le (by omega)) (pc9_le t (by omega))
    have hpos := Nat.two_pow_pos a.2.1
    refine x_iload_n dX11_partMany_4 rfl ?_
    refine x_aload_n dX11_partMany_5 rfl ?_
    refine x_v0d (N := mX11_all) dX11_partMany_6 ml_X11_109 nv_X11_all rfl rfl (k_all S a.2.1 a3 hm.2.1) ?_
    refine x_icmp_gtN 34 dX11_partMany_9 rfl (by omega) (by omega) (fun c9 => ?_) (fun c9 => ?_)
    · refine x_iload_n dX11_partMany_34 rfl ?_
      refine x_iretI dX11_partMany_35 rfl ?_
      exact ⟨rfl, hc⟩
    · exact absurd c9 (by omega)
  | succ e ih =>
    intro t S hc h1
    have hA := hc.1.1
    have hm := hc.1.2
    obtain ⟨a1, a2, a3, a4, a5, a6, a7⟩ := id hA
    have h512 := pow9 a3
    have hr9 : ∀ t, t < 2 ^ a.2.1 → rkV a.2.2 t ≤ 9 := fun t ht => Nat.le_trans (rkV_le (by omega)) (pc9_le t (by omega))
    have hpos := Nat.two_pow_pos a.2.1
    have hfs := filter_succ (fun s => ptB a.2.2 a.2.1 s) t
    have hfl := filter_len (fun s => ptB a.2.2 a.2.1 s) t
    refine x_iload_n dX11_partMany_4 rfl ?_
    refine x_aload_n dX11_partMany_5 rfl ?_
    refine x_v0d (N := mX11_all) dX11_partMany_6 ml_X11_109 nv_X11_all rfl rfl (k_all S a.2.1 a3 hm.2.1) ?_
    refine x_icmp_gtN 34 dX11_partMany_9 rfl (by omega) (by omega) (fun c9 => ?_) (fun c9 => ?_)
    · exact absurd c9 (by omega)
    · refine x_iload_n dX11_partMany_12 rfl ?_
      refine x_aload_n dX11_partMany_13 rfl ?_
      refine x_iload_n dX11_partMany_14 rfl ?_
      refine x_v1 (N := mX11_isPart) dX11_partMany_15 ml_X11_209 nv_X11_isPart rfl rfl (k_isPart S a hs tx u0 u1 u2 ck co hc t (by omega)) ?_
      rintro _ S' ⟨rfl, hc'⟩
      refine x_if_eqB 25 dX11_partMany_18 rfl (fun c18 => ?_) (fun c18 => ?_)
      · rw [c18, Bool.toNat_false] at hfs
        refine x_ic _ ic_0 dX11_partMany_25 ?_
        refine x_iaddN dX11_partMany_26 ?_
        rw [← hfs]
        refine x_istore_n dX11_partMany_27 rfl ?_
        refine x_iincN dX11_partMany_28 rfl rfl ?_
        refine x_goto 4 dX11_partMany_31 rfl ?_
        exact ih (t + 1) S' hc' (by omega)
      · rw [c18, Bool.toNat_true] at hfs
        refine x_ic _ ic_1 dX11_partMany_21 ?_
        refine x_goto 26 dX11_partMany_22 rfl ?_
        refine x_iaddN dX11_partMany_26 ?_
        rw [← hfs]
        refine x_istore_n dX11_partMany_27 rfl ?_
        refine x_iincN dX11_partMany_28 rfl rfl ?_
        refine x_goto 4 dX11_partMany_31 rfl ?_
        exact ih (t + 1) S' hc' (by omega)
set_option maxRecDepth 100000 in
set_option maxHeartbeats 4000000 in
theorem k_partMany (S : amS) (a : Ar) (hs : List Ar) (tx : List Nat) (u0 u1 u2 ck co : Int32) (hc : mCore S a hs tx u0 u1 u2 ck co) : X shM mX11_partMany 0 [.ref 0, .null, .null] [] S (fun r S' => r = some (.int (nI (regL a.2.2 a.2.1).length)) ∧ mCore S' a hs tx u0 u1 u2 ck co) := by
  refine x_ic _ ic_0 dX11_partMany_0 ?_
  refine x_istore_n dX11_partMany_1 rfl ?_
  refine x_ic _ ic_0 dX11_partMany_2 ?_
  refine x_istore_n dX11_partMany_3 rfl ?_
  exact k_pm_l a hs tx u0 u1 u2 ck co (2 ^ a.2.1) 0 S hc (by omega)
set_option maxRecDepth 100000 in
set_option maxHeartbeats 4000000 in
theorem k_parts_bad (S : amS) (a : Ar) (hs : List Ar) (tx : List Nat) (u0 u1 u2 ck co : Int32) (hc : mCore S a hs tx u0 u1 u2 ck co) (x : Int32) (hx : x < i32 (-1)) : X shM mX11_parts 0 [.ref 0, .int x, .null, .null] [] S (fun r S' => r = some (.int (i32 (-2))) ∧ mCore S' a hs tx (u0 + nI 1) u1 u2 ck co) := by
  refine x_iload_n dX11_parts_0 rfl ?_
  refine x_ic _ ic_m1 dX11_parts_1 ?_
  refine x_icmp_ge 12 dX11_parts_2 rfl (fun c2 => ?_) (fun c2 => ?_)
  · exact absurd hx (Int32.not_lt.mpr c2)
  · refine x_aload_n dX11_parts_5 rfl ?_
    refine x_bi _ bi_m2 dX11_parts_6 ?_
    refine x_v1 (N := mX11_refuses) dX11_parts_8 ml_X11_89 nv_X11_refuses rfl rfl (k_bad S a hs tx u0 u1 u2 ck co hc) ?_
    rintro _ S' ⟨rfl, hc'⟩
    refine x_iretI dX11_parts_11 rfl ?_
    exact ⟨rfl, hc'⟩
set_option maxRecDepth 100000 in
set_option maxHeartbeats 4000000 in
theorem k_parts_cnt (S : amS) (a : Ar) (hs : List Ar) (tx : List Nat) (u0 u1 u2 ck co : Int32) (hc : mCore S a hs tx u0 u1 u2 ck co) : X shM mX11_parts 0 [.ref 0, .int (i32 (-1)), .null, .null] [] S (fun r S' => r = some (.int (lAns (regL a.2.2 a.2.1) (i32 (-1)))) ∧ mCore S' a hs tx u0 u1 u2 ck co) := by
  refine x_iload_n dX11_parts_0 rfl ?_
  refine x_ic _ ic_m1 dX11_parts_1 ?_
  refine x_icmp_geI 12 dX11_parts_2 rfl (by omega) (by omega) (fun c2 => ?_) (fun c2 => ?_)
  · refine x_iload_n dX11_parts_12 rfl ?_
    refine x_ic _ ic_m1 dX11_parts_13 ?_
    refine x_icmp_neI 22 dX11_parts_14 rfl (by omega) (by omega) (fun c14 => ?_) (fun c14 => ?_)
    · exact absurd rfl c14
    · refine x_aload_n dX11_parts_17 rfl ?_
      refine x_v0 (N := mX11_partMany) dX11_parts_18 ml_X11_177 nv_X11_partMany rfl rfl (k_partMany S a hs tx u0 u1 u2 ck co hc) ?_
      rintro _ S' ⟨rfl, hc'⟩
      refine x_iretI dX11_parts_21 rfl ?_
      exact ⟨by rw [lAns_cnt], hc'⟩
  · omega
set_option maxRecDepth 100000 in
set_option maxHeartbeats 4000000 in
theorem k_parts_l (a : Ar) (hs : List Ar) (tx : List Nat) (u0 u1 u2 ck co : Int32) (k : Nat) (hk : k < 2 ^ 31) : ∀ (e t m : Nat) (S : amS), mCore S a hs tx u0 u1 u2 ck co → t + e = 2 ^ a.2.1 → m + ((List.range t).filter (fun s => ptB a.2.2 a.2.1 s)).length = k → X shM mX11_parts 26 [.ref 0, .int (nI k), .int (nI m), .int (nI t)] [] S (fun r S' => r = some (.int (lAns (regL a.2.2 a.2.1) (nI k))) ∧ mCore S' a hs tx u0 u1 u2 ck co) := by
  intro e
  induction e with
  | zero =>
    intro t m S hc h1 h2
    obtain rfl : t = 2 ^ a.2.1 := by omega
    have hA := hc.1.1
    have hm := hc.1.2
    obtain ⟨a1, a2, a3, a4, a5, a6, a7⟩ := id hA
    have h512 := pow9 a3
    have hr9 : ∀ t, t < 2 ^ a.2.1 → rkV a.2.2 t ≤ 9 := fun t ht => Nat.le_trans (rkV_le (by omega)) (pc9_le t (by omega))
    have hpos := Nat.two_pow_pos a.2.1
    refine x_iload_n dX11_parts_26 rfl ?_
    refine x_aload_n dX11_parts_27 rfl ?_
    refine x_v0d (N := mX11_all) dX11_parts_28 ml_X11_109 nv_X11_all rfl rfl (k_all S a.2.1 a3 hm.2.1) ?_
    refine x_icmp_gtN 57 dX11_parts_31 rfl (by omega) (by omega) (fun c31 => ?_) (fun c31 => ?_)
    · refine x_bi _ bi_m5 dX11_parts_57 ?_
      refine x_iretI dX11_parts_59 rfl ?_
      refine ⟨?_, hc⟩
      have hge : (regL a.2.2 a.2.1).length ≤ k := by
        show ((List.range (2 ^ a.2.1)).filter (fun s => ptB a.2.2 a.2.1 s)).length ≤ k
        omega
      rw [lAns, if_neg (nI_m1 hk), nI_toInt hk, Int.toNat_natCast, List.getElem?_eq_none hge]
    · exact absurd c31 (by omega)
  | succ e ih =>
    intro t m S hc h1 h2
    have hA := hc.1.1
    have hm := hc.1.2
    obtain ⟨a1, a2, a3, a4, a5, a6, a7⟩ := id hA
    have h512 := pow9 a3
    have hr9 : ∀ t, t < 2 ^ a.2.1 → rkV a.2.2 t ≤ 9 := fun t ht => Nat.le_trans (rkV_le (by omega)) (pc9_le t (by omega))
    have hpos := Nat.two_pow_pos a.2.1
    have hfs := filter_succ (fun s => ptB a.2.2 a.2.1 s) t
    have hfl := filter_len (fun s => ptB a.2.2 a.2.1 s) t
    refine x_iload_n dX11_parts_26 rfl ?_
    refine x_aload_n dX11_parts_27 rfl ?_
    refine x_v0d (N := mX11_all) dX11_parts_28 ml_X11_109 nv_X11_all rfl rfl (k_all S a.2.1 a3 hm.2.1) ?_
    refine x_icmp_gtN 57 dX11_parts_31 rfl (by omega) (by omega) (fun c31 => ?_) (fun c31 => ?_)
    · exact absurd c31 (by omega)
    · refine x_aload_n dX11_parts_34 rfl ?_
      refine x_iload_n dX11_parts_35 rfl ?_
      refine x_v1 (N := mX11_isPart) dX11_parts_36 ml_X11_209 nv_X11_isPart rfl rfl (k_isPart S a hs tx u0 u1 u2 ck co hc t (by omega)) ?_
      rintro _ S' ⟨rfl, hc'⟩
      refine x_if_eqB 51 dX11_parts_39 rfl (fun c39 => ?_) (fun c39 => ?_)
      · rw [c39, Bool.toNat_false] at hfs
        refine x_iincN dX11_parts_51 rfl rfl ?_
        refine x_goto 26 dX11_parts_54 rfl ?_
        exact ih (t + 1) m S' hc' (by omega) (by omega)
      · rw [c39, Bool.toNat_true] at hfs
        refine x_iload_n dX11_parts_42 rfl ?_
        refine x_if_neN 48 dX11_parts_43 rfl (by omega) (fun c43 => ?_) (fun c43 => ?_)
        · obtain ⟨m1, rfl⟩ : ∃ m1, m = m1 + 1 := ⟨m - 1, by omega⟩
          refine x_iincD dX11_parts_48 rfl rfl ?_
          refine x_iincN dX11_parts_51 rfl rfl ?_
          refine x_goto 26 dX11_parts_54 rfl ?_
          exact ih (t + 1) m1 S' hc' (by omega) (by omega)
        · subst c43
          refine x_iload_n dX11_parts_46 rfl ?_
          refine x_iretI dX11_parts_47 rfl ?_
          have hnth := filter_nth (p := fun s => ptB a.2.2 a.2.1 s) (T := 2 ^ a.2.1) (t := t) (by omega) c39
          have hk2 : ((List.range t).filter (fun s => ptB a.2.2 a.2.1 s)).length = k := by omega
          rw [hk2] at hnth
          exact ⟨congrArg (fun z => some (Value.int z)) (lAns_at hnth hk).symm, hc'⟩
set_option maxRecDepth 100000 in
set_option maxHeartbeats 4000000 in
theorem k_parts_at (S : amS) (a : Ar) (hs : List Ar) (tx : List Nat) (u0 u1 u2 ck co : Int32) (hc : mCore S a hs tx u0 u1 u2 ck co) (k : Nat) (hk : k < 2 ^ 31) : X shM mX11_parts 0 [.ref 0, .int (nI k), .null, .null] [] S (fun r S' => r = some (.int (lAns (regL a.2.2 a.2.1) (nI k))) ∧ mCore S' a hs tx u0 u1 u2 ck co) := by
  refine x_iload_n dX11_parts_0 rfl ?_
  refine x_ic _ ic_m1 dX11_parts_1 ?_
  refine x_topI2 ?_
  refine x_icmp_geI 12 dX11_parts_2 rfl (by omega) (by omega) (fun c2 => ?_) (fun c2 => ?_)
  · refine x_iload_n dX11_parts_12 rfl ?_
    refine x_ic _ ic_m1 dX11_parts_13 ?_
    refine x_topI2 ?_
    refine x_icmp_neI 22 dX11_parts_14 rfl (by omega) (by omega) (fun c14 => ?_) (fun c14 => ?_)
    · refine x_iload_n dX11_parts_22 rfl ?_
      refine x_istore_n dX11_parts_23 rfl ?_
      refine x_ic _ ic_0 dX11_parts_24 ?_
      refine x_istore_n dX11_parts_25 rfl ?_
      exact k_parts_l a hs tx u0 u1 u2 ck co k hk (2 ^ a.2.1) 0 k S hc (by omega) (by simp)
    · omega
  · omega
set_option maxRecDepth 100000 in
set_option maxHeartbeats 4000000 in
theorem k_wallsOf_l (a : Ar) (hs : List Ar) (tx : List Nat) (u0 u1 u2 ck co : Int32) (s : Nat) (hs0 : s < 2 ^ a.2.1) : ∀ (e i : Nat) (S : amS), mCore S a hs tx u0 u1 u2 ck co → i + e = a.2.1 → X shM mX11_wallsOf 4 [.ref 0, .int (nI s), .int (nI (waB a.2.2 a.2.1 s i)), .int (nI i)] [] S (fun r S' => r = some (.int (nI (waB a.2.2 a.2.1 s a.2.1))) ∧ mCore S' a hs tx u0 u1 u2 ck co) := by
  intro e
  induction e with
  | zero =>
    intro i S hc h1
    obtain rfl : i = a.2.1 := by omega
    have hA := hc.1.1
    have hm := hc.1.2
    obtain ⟨a1, a2, a3, a4, a5, a6, a7⟩ := id hA
    have h512 := pow9 a3
    have hr9 : ∀ t, t < 2 ^ a.2.1 → rkV a.2.2 t ≤ 9 := fun t ht => Nat.le_trans (rkV_le (by omega)) (pc9_le t (by omega))
    refine x_iload_n dX11_wallsOf_4 rfl ?_
    refine x_aload_n dX11_wallsOf_5 rfl ?_
    refine x_getR dX11_wallsOf_6 fl_X11_7 rfl ?_
    refine x_bi _ bi_37 dX11_wallsOf_9 ?_
    refine x_ialdN dX11_wallsOf_11 rfl rfl (by omega) (hm.2.1) ?_
    refine x_icmp_geN 43 dX11_wallsOf_12 rfl (by omega) (by omega) (fun c12 => ?_) (fun c12 => ?_)
    · refine x_iload_n dX11_wallsOf_43 rfl ?_
      refine x_iretI dX11_wallsOf_44 rfl ?_
      exact ⟨rfl, hc⟩
    · exact absurd c12 (by omega)
  | succ e ih =>
    intro i S hc h1
    have hA := hc.1.1
    have hm := hc.1.2
    obtain ⟨a1, a2, a3, a4, a5, a6, a7⟩ := id hA
    have h512 := pow9 a3
    have hr9 : ∀ t, t < 2 ^ a.2.1 → rkV a.2.2 t ≤ 9 := fun t ht => Nat.le_trans (rkV_le (by omega)) (pc9_le t (by omega))
    have hi : i < a.2.1 := by omega
    refine x_iload_n dX11_wallsOf_4 rfl ?_
    refine x_aload_n dX11_wallsOf_5 rfl ?_
    refine x_getR dX11_wallsOf_6 fl_X11_7 rfl ?_
    refine x_bi _ bi_37 dX11_wallsOf_9 ?_
    refine x_ialdN dX11_wallsOf_11 rfl rfl (by omega) (hm.2.1) ?_
    refine x_icmp_geN 43 dX11_wallsOf_12 rfl (by omega) (by omega) (fun c12 => ?_) (fun c12 => ?_)
    · exact absurd c12 (by omega)
    · refine x_iload_n dX11_wallsOf_15 rfl ?_
      refine x_aload_n dX11_wallsOf_16 rfl ?_
      refine x_iload_n dX11_wallsOf_17 rfl ?_
      refine x_ic _ ic_1 dX11_wallsOf_18 ?_
      refine x_iload_n dX11_wallsOf_19 rfl ?_
      refine x_ishl1 dX11_wallsOf_20 (by omega) ?_
      refine x_ixorN dX11_wallsOf_21 ?_
      refine x_v1 (N := mX11_isPart) dX11_wallsOf_22 ml_X11_209 nv_X11_isPart rfl rfl (k_isPart S a hs tx u0 u1 u2 ck co hc (s ^^^ 2 ^ i) (xor_lt9 hs0 (pow_ltN hi))) ?_
      rintro _ S' ⟨rfl, hc'⟩
      refine x_if_eqB 34 dX11_wallsOf_25 rfl (fun c25 => ?_) (fun c25 => ?_)
      · refine x_ic _ ic_0 dX11_wallsOf_34 ?_
        refine x_iorN dX11_wallsOf_35 ?_
        refine x_istore_n dX11_wallsOf_36 rfl ?_
        refine x_iincN dX11_wallsOf_37 rfl rfl ?_
        refine x_goto 4 dX11_wallsOf_40 rfl ?_
        first | (rw [show waB a.2.2 a.2.1 s i ||| 2 ^ i = waB a.2.2 a.2.1 s (i + 1) from by rw [waB, if_pos c25]]; exact ih (i + 1) S' hc' (by omega)) | (rw [show waB a.2.2 a.2.1 s i ||| 0 = waB a.2.2 a.2.1 s (i + 1) from by rw [waB, if_neg (by rw [c25]; decide)]]; exact ih (i + 1) S' hc' (by omega))
      · refine x_ic _ ic_1 dX11_wallsOf_28 ?_
        refine x_iload_n dX11_wallsOf_29 rfl ?_
        refine x_ishl1 dX11_wallsOf_30 (by omega) ?_
        refine x_goto 35 dX11_wallsOf_31 rfl ?_
        refine x_iorN dX11_wallsOf_35 ?_
        refine x_istore_n dX11_wallsOf_36 rfl ?_
        refine x_iincN dX11_wallsOf_37 rfl rfl ?_
        refine x_goto 4 dX11_wallsOf_40 rfl ?_
        first | (rw [show waB a.2.2 a.2.1 s i ||| 2 ^ i = waB a.2.2 a.2.1 s (i + 1) from by rw [waB, if_pos c25]]; exact ih (i + 1) S' hc' (by omega)) | (rw [show waB a.2.2 a.2.1 s i ||| 0 = waB a.2.2 a.2.1 s (i + 1) from by rw [waB, if_neg (by rw [c25]; decide)]]; exact ih (i + 1) S' hc' (by omega))
set_option maxRecDepth 100000 in
set_option maxHeartbeats 4000000 in
theorem k_wallsOf (S : amS) (a : Ar) (hs : List Ar) (tx : List Nat) (u0 u1 u2 ck co : Int32) (hc : mCore S a hs tx u0 u1 u2 ck co) (s : Nat) (hs0 : s < 2 ^ a.2.1) : X shM mX11_wallsOf 0 [.ref 0, .int (nI s), .null, .null] [] S (fun r S' => r = some (.int (nI (waB a.2.2 a.2.1 s a.2.1))) ∧ mCore S' a hs tx u0 u1 u2 ck co) := by
  refine x_ic _ ic_0 dX11_wallsOf_0 ?_
  refine x_istore_n dX11_wallsOf_1 rfl ?_
  refine x_ic _ ic_0 dX11_wallsOf_2 ?_
  refine x_istore_n dX11_wallsOf_3 rfl ?_
  exact k_wallsOf_l a hs tx u0 u1 u2 ck co s hs0 a.2.1 0 S hc (by omega)
set_option maxRecDepth 100000 in
set_option maxHeartbeats 4000000 in
theorem k_walls_bad (S : amS) (a : Ar) (hs : List Ar) (tx : List Nat) (u0 u1 u2 ck co : Int32) (hc : mCore S a hs tx u0 u1 u2 ck co) (x : Int32) (hx : ¬ InR x (2 ^ a.2.1)) : X shM mX11_walls 0 [.ref 0, .int x] [] S (fun r S' => r = some (.int (i32 (-2))) ∧ mCore S' a hs tx (u0 + nI 1) u1 u2 ck co) := by
  have hA := hc.1.1
  have hm := hc.1.2
  obtain ⟨a1, a2, a3, a4, a5, a6, a7⟩ := id hA
  have h512 := pow9 a3
  have hr9 : ∀ t, t < 2 ^ a.2.1 → rkV a.2.2 t ≤ 9 := fun t ht => Nat.le_trans (rkV_le (by omega)) (pc9_le t (by omega))
  refine x_aload_n dX11_walls_0 rfl ?_
  refine x_iload_n dX11_walls_1 rfl ?_
  refine x_v1d (N := mX11_isSet) dX11_walls_2 ml_X11_193 nv_X11_isSet rfl rfl (k_isSet S a.2.1 a3 hm.2.1 _) ?_
  refine x_if_neB 15 dX11_walls_5 rfl (fun c5 => ?_) (fun c5 => ?_)
  · have hp := Nat.two_pow_pos a.2.1
    rw [in_R _ (by omega), show 2 ^ a.2.1 - 1 + 1 = 2 ^ a.2.1 by omega] at c5
    exact absurd c5 hx
  · refine x_aload_n dX11_walls_8 rfl ?_
    refine x_bi _ bi_m2 dX11_walls_9 ?_
    refine x_v1 (N := mX11_refuses) dX11_walls_11 ml_X11_89 nv_X11_refuses rfl rfl (k_bad S a hs tx u0 u1 u2 ck co hc) ?_
    rintro _ S' ⟨rfl, hc'⟩
    refine x_iretI dX11_walls_14 rfl ?_
    exact ⟨rfl, hc'⟩
set_option maxRecDepth 100000 in
set_option maxHeartbeats 4000000 in
theorem k_walls_no (S : amS) (a : Ar) (hs : List Ar) (tx : List Nat) (u0 u1 u2 ck co : Int32) (hc : mCore S a hs tx u0 u1 u2 ck co) (s : Nat) (hs0 : s < 2 ^ a.2.1) (hp0 : ptB a.2.2 a.2.1 s = false) : X shM mX11_walls 0 [.ref 0, .int (nI s)] [] S (fun r S' => r = some (.int (i32 (-3))) ∧ mCore S' a hs tx u0 (u1 + nI 1) u2 ck co) := by
  have hA := hc.1.1
  have hm := hc.1.2
  obtain ⟨a1, a2, a3, a4, a5, a6, a7⟩ := id hA
  have h512 := pow9 a3
  have hr9 : ∀ t, t < 2 ^ a.2.1 → rkV a.2.2 t ≤ 9 := fun t ht => Nat.le_trans (rkV_le (by omega)) (pc9_le t (by omega))
  refine x_aload_n dX11_walls_0 rfl ?_
  refine x_iload_n dX11_walls_1 rfl ?_
  refine x_v1d (N := mX11_isSet) dX11_walls_2 ml_X11_193 nv_X11_isSet rfl rfl (k_isSet S a.2.1 a3 hm.2.1 _) ?_
  refine x_if_neB 15 dX11_walls_5 rfl (fun c5 => ?_) (fun c5 => ?_)
  · refine x_aload_n dX11_walls_15 rfl ?_
    refine x_iload_n dX11_walls_16 rfl ?_
    refine x_v1 (N := mX11_isPart) dX11_walls_17 ml_X11_209 nv_X11_isPart rfl rfl (k_isPart S a hs tx u0 u1 u2 ck co hc s hs0) ?_
    rintro _ S' ⟨rfl, hc'⟩
    refine x_if_eqB 31 dX11_walls_20 rfl (fun c20 => ?_) (fun c20 => ?_)
    · refine x_aload_n dX11_walls_31 rfl ?_
      refine x_bi _ bi_m3 dX11_walls_32 ?_
      refine x_v1 (N := mX11_refuses) dX11_walls_34 ml_X11_89 nv_X11_refuses rfl rfl (k_no S' a hs tx u0 u1 u2 ck co hc') ?_
      rintro _ S'' ⟨rfl, hc''⟩
      refine x_iretI dX11_walls_37 rfl ?_
      exact ⟨rfl, hc''⟩
    · rw [hp0] at c20; cases c20
  · have hp := Nat.two_pow_pos a.2.1
    rw [Bool.eq_false_iff, ne_eq, in_R _ (by omega), show 2 ^ a.2.1 - 1 + 1 = 2 ^ a.2.1 by omega] at c5
    exact absurd (InR_in hs0) c5
set_option maxRecDepth 100000 in
set_option maxHeartbeats 4000000 in
theorem k_walls_ok (S : amS) (a : Ar) (hs : List Ar) (tx : List Nat) (u0 u1 u2 ck co : Int32) (hc : mCore S a hs tx u0 u1 u2 ck co) (s : Nat) (hs0 : s < 2 ^ a.2.1) (hp0 : ptB a.2.2 a.2.1 s = true) : X shM mX11_walls 0 [.ref 0, .int (nI s)] [] S (fun r S' => r = some (.int (nI (waB a.2.2 a.2.1 s a.2.1))) ∧ mCore S' a hs tx u0 u1 u2 ck co) := by
  have hA := hc.1.1
  have hm := hc.1.2
  obtain ⟨a1, a2, a3, a4, a5, a6, a7⟩ := id hA
  have h512 := pow9 a3
  have hr9 : ∀ t, t < 2 ^ a.2.1 → rkV a.2.2 t ≤ 9 := fun t ht => Nat.le_trans (rkV_le (by omega)) (pc9_le t (by omega))
  refine x_aload_n dX11_walls_0 rfl ?_
  refine x_iload_n dX11_walls_1 rfl ?_
  refine x_v1d (N := mX11_isSet) dX11_walls_2 ml_X11_193 nv_X11_isSet rfl rfl (k_isSet S a.2.1 a3 hm.2.1 _) ?_
  refine x_if_neB 15 dX11_walls_5 rfl (fun c5 => ?_) (fun c5 => ?_)
  · refine x_aload_n dX11_walls_15 rfl ?_
    refine x_iload_n dX11_walls_16 rfl ?_
    refine x_v1 (N := mX11_isPart) dX11_walls_17 ml_X11_209 nv_X11_isPart rfl rfl (k_isPart S a hs tx u0 u1 u2 ck co hc s hs0) ?_
    rintro _ S' ⟨rfl, hc'⟩
    refine x_if_eqB 31 dX11_walls_20 rfl (fun c20 => ?_) (fun c20 => ?_)
    · rw [hp0] at c20; cases c20
    · refine x_aload_n dX11_walls_23 rfl ?_
      refine x_iload_n dX11_walls_24 rfl ?_
      refine x_v1 (N := mX11_wallsOf) dX11_walls_25 ml_X11_212 nv_X11_wallsOf rfl rfl (k_wallsOf S' a hs tx u0 u1 u2 ck co hc' s hs0) ?_
      rintro _ S'' ⟨rfl, hc''⟩
      refine x_goto 37 dX11_walls_28 rfl ?_
      refine x_iretI dX11_walls_37 rfl ?_
      exact ⟨rfl, hc''⟩
  · have hp := Nat.two_pow_pos a.2.1
    rw [Bool.eq_false_iff, ne_eq, in_R _ (by omega), show 2 ^ a.2.1 - 1 + 1 = 2 ^ a.2.1 by omega] at c5
    exact absurd (InR_in hs0) c5
