/-! THE CLASS: regions -/
def nxt (o p : Nat) : Nat := (p + 4294967296 - o) &&& o
def subs (o : Nat) : List Nat := (List.range 512).filter (fun p => p &&& o == p)
def chn (o : Nat) : Nat → List Nat → Bool
  | _, [] => true
  | p, q :: l => Nat.beq p q && chn o (nxt o p) l
theorem subs_ok : ∀ o, o < 512 → (chn o 0 (subs o) && Nat.beq (subs o).length (2 ^ pc9 o)) = true := by decide +kernel
theorem nxt_eq {o p : Nat} (ho : o ≤ 4294967296) : (nI p - nI o) &&& nI o = nI (nxt o p) := by
  unfold nxt
  rw [← nI_and]
  congr 1
  rw [nI_i32, nI_i32, nI_i32, i32_sub, show ((p + 4294967296 - o : Nat) : Int) = ((p : Int) - (o : Int)) + 4294967296 by omega, ← i32_add, show i32 4294967296 = 0 by decide, Int32.add_zero]
theorem subs_mem {o q : Nat} (ho : o < 512) : q ∈ subs o ↔ q &&& o = q := by
  unfold subs
  rw [List.mem_filter, List.mem_range, beq_iff_eq]
  constructor
  · exact fun h => h.2
  · intro h
    refine ⟨?_, h⟩
    have := @Nat.and_le_right q o
    omega
theorem side_iff {N c o s t : Nat} (hc : c < 2 ^ N) (ho : o = (2 ^ N - 1) ^^^ ((2 ^ N - 1) &&& c)) (hN : N ≤ 9) (hs : s &&& c = s) (ht : t < 2 ^ N) : (∃ q ∈ subs o, t = s ||| q) ↔ t &&& c = s := by
  have hp := pow9 hN
  have ob : ∀ i, o.testBit i = (decide (i < N) && !c.testBit i) := by
    intro i
    rw [ho, Nat.testBit_xor, Nat.testBit_and, Nat.testBit_two_pow_sub_one]
    by_cases q : i < N
    · simp [q]
    · simp [q]
  have ho5 : o < 512 := by
    rw [ho]
    have := xor_and_le (2 ^ N - 1) c
    have := Nat.two_pow_pos N
    omega
  have tb : ∀ i, t.testBit i = true → i < N := fun i hi => tb_lt ht hi
  constructor
  · rintro ⟨q, hq, rfl⟩
    rw [subs_mem ho5] at hq
    apply Nat.eq_of_testBit_eq
    intro i
    rw [Nat.testBit_and, Nat.testBit_or]
    cases e : c.testBit i with
    | false =>
      rw [Bool.and_false]
      cases e2 : s.testBit i with
      | false => rfl
      | true => rw [and_sub hs i e2] at e; cases e
    | true =>
      rw [Bool.and_true]
      cases e2 : q.testBit i with
      | false => simp
      | true =>
        have := and_sub hq i e2
        rw [ob, e] at this
        simp at this
  · intro h
    refine ⟨t &&& o, (subs_mem ho5).mpr (by rw [Nat.and_assoc, Nat.and_self]), ?_⟩
    apply Nat.eq_of_testBit_eq
    intro i
    rw [Nat.testBit_or, Nat.testBit_and, ob, ← h, Nat.testBit_and]
    cases e : t.testBit i with
    | false => simp
    | true => simp [tb i e]
theorem or_ltN {s q N : Nat} (hs : s < 2 ^ N) (hq : q < 2 ^ N) : s ||| q < 2 ^ N := Nat.or_lt_two_pow hs hq
set_option maxRecDepth 100000 in
set_option maxHeartbeats 4000000 in
theorem kx_str_l (S : amS) (c sd o M N : Nat) (hN : N ≤ 9) (hsd : sd < 512) (ho : o < 512) (hM : M ≤ 512) (Q : Option Value → amS → Prop) : ∀ (l : List Nat) (k p : Nat) (g : Nat → Int32), k + l.length = M → chn o p l = true → (∀ q ∈ l, q < 512) → (∀ g', (∀ t, (∃ q ∈ l, t = sd ||| q) → g' t = nI 0) → (∀ t, (¬ ∃ q ∈ l, t = sd ||| q) → g' t = g t) → Q none (sA S 30 g')) → X shX mX8_strike 26 [.ref 29, .int (nI c), .int (nI sd), .int (nI o), .int (nI M), .int (nI p), .int (nI k)] [] (sA S 30 g) Q := by
  intro l
  induction l with
  | nil =>
    intro k p g h1 h2 h3 h4
    obtain rfl : k = M := by simpa using h1
    refine x_iload dX8_strike_26 rfl ?_
    refine x_iload dX8_strike_28 rfl ?_
    refine x_icmp_geN 57 dX8_strike_30 rfl (by omega) (by omega) (fun c30 => ?_) (fun c30 => ?_)
    · refine x_ret dX8_strike_57 rfl ?_
      exact h4 g (fun t ⟨q, hq, _⟩ => by simp at hq) (fun t _ => rfl)
    · exact absurd c30 (by omega)
  | cons q l ih =>
    intro k p g h1 h2 h3 h4
    rw [List.length_cons] at h1
    rw [chn, Bool.and_eq_true] at h2
    obtain rfl : p = q := Nat.eq_of_beq_eq_true h2.1
    have hp5 := h3 p (by simp)
    have hor : sd ||| p < 512 := Nat.or_lt_two_pow (n := 9) hsd hp5
    refine x_iload dX8_strike_26 rfl ?_
    refine x_iload dX8_strike_28 rfl ?_
    refine x_icmp_geN 57 dX8_strike_30 rfl (by omega) (by omega) (fun c30 => ?_) (fun c30 => ?_)
    · exact absurd c30 (by omega)
    · refine x_aload_n dX8_strike_33 rfl ?_
      refine x_getR dX8_strike_34 fl_X8_9 rfl ?_
      refine x_iload_n dX8_strike_37 rfl ?_
      refine x_iload dX8_strike_38 rfl ?_
      refine x_iorN dX8_strike_40 ?_
      refine x_ic _ ic_0 dX8_strike_41 ?_
      refine x_zastN dX8_strike_42 rfl rfl (by omega) ((show vp_nar .boolean (nI 0) = nI 0 by decide)) ?_
      refine x_iload dX8_strike_43 rfl ?_
      refine x_iload_n dX8_strike_45 rfl ?_
      refine x_isub dX8_strike_46 ?_
      refine x_iload_n dX8_strike_47 rfl ?_
      refine x_iand dX8_strike_48 ?_
      refine x_top (nxt_eq (by omega)) ?_
      refine x_istore dX8_strike_49 rfl ?_
      refine x_iincN dX8_strike_51 rfl rfl ?_
      refine x_goto 26 dX8_strike_54 rfl ?_
      rw [sA_sA, sA_at]
      refine ih (k + 1) (nxt o p) _ (by omega) h2.2 (fun q hq => h3 q (by simp [hq])) (fun g' e1 e2 => h4 g' (fun t ht => ?_) (fun t ht => ?_))
      · by_cases z : ∃ q ∈ l, t = sd ||| q
        · exact e1 t z
        · rw [e2 t z]
          obtain ⟨q, hq, hqt⟩ := ht
          rcases List.mem_cons.mp hq with rfl | hq
          · rw [hqt, upd_s]
          · exact absurd ⟨q, hq, hqt⟩ z
      · rw [e2 t (fun ⟨q, hq, hqt⟩ => ht ⟨q, by simp [hq], hqt⟩), upd_n _ _ (fun z => ht ⟨p, by simp, z⟩)]
set_option maxRecDepth 100000 in
set_option maxHeartbeats 4000000 in
theorem kx_strike (S : amS) (N c sd : Nat) (hN : N ≤ 9) (m2 : S.1 1 2 = nI N) (hc : c < 2 ^ N) (hsd : sd &&& c = sd) : X shX mX8_strike 0 [.ref 29, .int (nI c), .int (nI sd), .null, .null, .null, .null] [] S (fun r S' => r = none ∧ ∃ g, S' = sA S 30 g ∧ ∀ t, t < 2 ^ N → g t = if t &&& c = sd then nI 0 else S.2.1 30 t) := by
  have h512 := pow9 hN
  have hpos := Nat.two_pow_pos N
  have hsdl : sd ≤ c := by rw [← hsd]; exact Nat.and_le_right
  have ho5 : (2 ^ N - 1) ^^^ ((2 ^ N - 1) &&& c) < 512 := by have := xor_and_le (2 ^ N - 1) c; omega
  refine x_aload_n dX8_strike_0 rfl ?_
  refine x_getR dX8_strike_1 fl_X8_32 rfl ?_
  refine x_v0d (N := mX1_all) dX8_strike_4 ml_X8_45 nv_X1_all rfl rfl (kx_all S N hN m2) ?_
  refine x_iload_n dX8_strike_7 rfl ?_
  refine x_ic _ ic_m1 dX8_strike_8 ?_
  refine x_ixor dX8_strike_9 ?_
  refine x_iandNX dX8_strike_10 ?_
  refine x_istore_n dX8_strike_11 rfl ?_
  refine x_ic _ ic_1 dX8_strike_12 ?_
  refine x_iload_n dX8_strike_13 rfl ?_
  refine x_s1d (N := mJ6_bitCount_0f7a4) dX8_strike_14 ml_X8_81 ns_J6_bitCount_0f7a4 rfl (kx_bc S _ ho5) ?_
  have hpc := pc9_le _ ho5
  refine x_ishl1 dX8_strike_17 (by omega) ?_
  refine x_istore dX8_strike_18 rfl ?_
  refine x_ic _ ic_0 dX8_strike_20 ?_
  refine x_istore dX8_strike_21 rfl ?_
  refine x_ic _ ic_0 dX8_strike_23 ?_
  refine x_istore dX8_strike_24 rfl ?_
  have hok := subs_ok _ ho5
  rw [Bool.and_eq_true] at hok
  have hle := Nat.eq_of_beq_eq_true hok.2
  have hM : 2 ^ pc9 ((2 ^ N - 1) ^^^ ((2 ^ N - 1) &&& c)) ≤ 512 := pow9 hpc
  refine x_st (sA_self S 30) ?_
  refine kx_str_l S c sd ((2 ^ N - 1) ^^^ ((2 ^ N - 1) &&& c)) (2 ^ pc9 ((2 ^ N - 1) ^^^ ((2 ^ N - 1) &&& c))) N hN (by omega) ho5 hM _ (subs ((2 ^ N - 1) ^^^ ((2 ^ N - 1) &&& c))) 0 0 _ (by omega) hok.1 (fun q hq => by unfold subs at hq; exact List.mem_range.mp (List.mem_filter.mp hq).1) (fun g' e1 e2 => ⟨rfl, g', rfl, fun t ht => ?_⟩)
  have hiff := side_iff hc rfl hN hsd ht
  by_cases q : t &&& c = sd
  · rw [if_pos q]; exact e1 t (hiff.mpr q)
  · rw [if_neg q]; exact e2 t (fun z => q (hiff.mp z))
theorem abB_N {d N : Nat} {v : Nat → Row} (hA : Arr d N v) {c : Nat} (hc : c < 2 ^ N) (hr : rgB (rkV v) c N = true) : abB v c N = abB v c 9 ∧ abB v c 9 &&& c = abB v c 9 := by
  have hC := (ring_circ hA.2.2.1 hc).mp hr
  have hf := (facB_ok hC (fun i j _ => hA.2.2.2.1 i j)).1
  have h9 := hA.2.2.1
  constructor
  · apply Nat.eq_of_testBit_eq
    intro i
    rw [abB_tb, abB_tb]
    by_cases q : i < N
    · simp [q, show i < 9 by omega]
    · have : facB v c i = 0 := hf.1.1 i (tb_hi hc (by omega))
      simp [this]
  · refine sub_and (fun i hi => ?_)
    rw [abB_tb, Bool.and_eq_true, decide_eq_true_eq, decide_eq_true_eq] at hi
    cases e : c.testBit i with
    | true => rfl
    | false => rw [hf.1.1 i e] at hi; omega
theorem fac_bd {d N : Nat} {v : Nat → Row} (hA : Arr d N v) {c : Nat} (hc : c < 2 ^ N) (hr : rgB (rkV v) c N = true) : ∀ i, i < 9 → -1944 ≤ facB v c i ∧ facB v c i ≤ 1944 := by
  have hp := pow9 hA.2.2.1
  have hsz := rg_size hA hc hr
  have hd := hA.2.1
  exact facB_small hA ((ring_circ hA.2.2.1 hc).mp hr) (by rw [pcb_pc9 9 (by omega) c (by omega)]; omega)
set_option maxRecDepth 100000 in
set_option maxHeartbeats 4000000 in
theorem kx_pos_l (S : amS) (N c : Nat) (v : Nat → Row) (hN : N ≤ 9) (m2 : S.1 1 2 = nI N) (hf : ∀ i, i < 9 → S.2.1 28 i = i32 (facB v c i)) (hb : ∀ i, i < 9 → -1944 ≤ facB v c i ∧ facB v c i ≤ 1944) : ∀ (e i : Nat), i + e = N → X shX mX8_positivePart 14 [.ref 29, .int (nI c), .ref 28, .int (nI (abB v c i)), .int (nI i)] [] S (fun r S' => r = some (.int (nI (abB v c N))) ∧ S' = S) := by
  intro e
  induction e with
  | zero =>
    intro i h1
    obtain rfl : i = N := by omega
    refine x_iload dX8_positivePart_14 rfl ?_
    refine x_aload_n dX8_positivePart_16 rfl ?_
    refine x_getR dX8_positivePart_17 fl_X8_32 rfl ?_
    refine x_getIV dX8_positivePart_20 fl_X8_78 rfl (m2) ?_
    refine x_icmp_geN 46 dX8_positivePart_23 rfl (by omega) (by omega) (fun c23 => ?_) (fun c23 => ?_)
    · refine x_iload_n dX8_positivePart_46 rfl ?_
      refine x_iretI dX8_positivePart_47 rfl ?_
      exact ⟨rfl, rfl⟩
    · exact absurd c23 (by omega)
  | succ e ih =>
    intro i h1
    have hbi := hb i (by omega)
    have := ih (i + 1) (by omega)
    rw [abB] at this
    refine x_iload dX8_positivePart_14 rfl ?_
    refine x_aload_n dX8_positivePart_16 rfl ?_
    refine x_getR dX8_positivePart_17 fl_X8_32 rfl ?_
    refine x_getIV dX8_positivePart_20 fl_X8_78 rfl (m2) ?_
    refine x_icmp_geN 46 dX8_positivePart_23 rfl (by omega) (by omega) (fun c23 => ?_) (fun c23 => ?_)
    · exact absurd c23 (by omega)
    · refine x_aload_n dX8_positivePart_26 rfl ?_
      refine x_iload dX8_positivePart_27 rfl ?_
      refine x_ialdN dX8_positivePart_29 rfl rfl (by omega) (hf i (by omega)) ?_
      refine x_if_leI 40 dX8_positivePart_30 rfl (by omega) (fun c30 => ?_) (fun c30 => ?_)
      · refine x_iincN dX8_positivePart_40 rfl rfl ?_
        refine x_goto 14 dX8_positivePart_43 rfl ?_
        rw [if_neg (by omega), Nat.or_zero] at this
        exact this
      · refine x_iload_n dX8_positivePart_33 rfl ?_
        refine x_ic _ ic_1 dX8_positivePart_34 ?_
        refine x_iload dX8_positivePart_35 rfl ?_
        refine x_ishl1 dX8_positivePart_37 (by omega) ?_
        refine x_iorN dX8_positivePart_38 ?_
        refine x_istore_n dX8_positivePart_39 rfl ?_
        refine x_iincN dX8_positivePart_40 rfl rfl ?_
        refine x_goto 14 dX8_positivePart_43 rfl ?_
        rw [if_pos c30] at this
        exact this
set_option maxRecDepth 100000 in
set_option maxHeartbeats 4000000 in
theorem kx_positivePart (S : amS) (a : Ar) (hA : Arr a.1 a.2.1 a.2.2) (ho : aObj S 1 2 a) (c : Nat) (hc : c < 2 ^ a.2.1) (hr : rgB (rkV a.2.2) c a.2.1 = true) : X shX mX8_positivePart 0 [.ref 29, .int (nI c), .null, .null, .null] [] S (fun r S' => r = some (.int (nI (abB a.2.2 c 9))) ∧ FO [20] [28] S S') := by
  obtain ⟨a1, a2, a3, a4, a5, a6, a7⟩ := id hA
  obtain ⟨m1, m2, m3⟩ := id ho
  have h512 := pow9 a3
  have hpos := Nat.two_pow_pos a.2.1
  refine x_aload_n dX8_positivePart_0 rfl ?_
  refine x_getR dX8_positivePart_1 fl_X8_36 rfl ?_
  refine x_iload_n dX8_positivePart_4 rfl ?_
  refine x_v1 (N := mX6_factorsOf) dX8_positivePart_5 ml_X8_74 nv_X6_factorsOf rfl rfl (kx_factorsOf S a hA ho c hc hr) ?_
  rintro _ S' ⟨rfl, f1, hf⟩
  refine x_astore_n dX8_positivePart_8 rfl ?_
  refine x_ic _ ic_0 dX8_positivePart_9 ?_
  refine x_istore_n dX8_positivePart_10 rfl ?_
  refine x_ic _ ic_0 dX8_positivePart_11 ?_
  refine x_istore dX8_positivePart_12 rfl ?_
  refine x_mono ?_ (kx_pos_l S' a.2.1 c a.2.2 a3 (by rw [f1.1 1 (by decide)]; exact m2) hf (fac_bd hA hc hr) a.2.1 0 (by omega))
  rintro _ _ ⟨rfl, rfl⟩
  exact ⟨by rw [(abB_N hA hc hr).1], f1⟩
set_option maxRecDepth 100000 in
set_option maxHeartbeats 4000000 in
theorem kx_rr_1 (S0 : amS) (a : Ar) (hA : Arr a.1 a.2.1 a.2.2) (ho0 : aObj S0 1 2 a) (Q : Option Value → amS → Prop) (hq : ∀ g, (∀ t, t < 2 ^ a.2.1 → g t = nI 1) → X shX mX8_refresh 52 [.ref 29, .int (nI (2 ^ a.2.1)), .null, .null, .null] [] (sA S0 30 g) Q) : ∀ (e t : Nat) (g : Nat → Int32), t + e = 2 ^ a.2.1 → (∀ u, u < t → g u = nI 1) → X shX mX8_refresh 28 [.ref 29, .int (nI t), .null, .null, .null] [] (sA S0 30 g) Q := by
  have h512 := pow9 hA.2.2.1
  have hpos := Nat.two_pow_pos a.2.1
  have a3 := hA.2.2.1
  intro e
  induction e with
  | zero =>
    intro t g h1 h2
    obtain rfl : t = 2 ^ a.2.1 := by omega
    refine x_iload_n dX8_refresh_28 rfl ?_
    refine x_aload_n dX8_refresh_29 rfl ?_
    refine x_getR dX8_refresh_30 fl_X8_32 rfl ?_
    refine x_v0d (N := mX1_all) dX8_refresh_33 ml_X8_45 nv_X1_all rfl rfl (kx_all (sA S0 30 g) a.2.1 a3 ho0.2.1) ?_
    refine x_icmp_gtN 52 dX8_refresh_36 rfl (by omega) (by omega) (fun c36 => ?_) (fun c36 => ?_)
    · exact hq g h2
    · exact absurd c36 (by omega)
  | succ e ih =>
    intro t g h1 h2
    refine x_iload_n dX8_refresh_28 rfl ?_
    refine x_aload_n dX8_refresh_29 rfl ?_
    refine x_getR dX8_refresh_30 fl_X8_32 rfl ?_
    refine x_v0d (N := mX1_all) dX8_refresh_33 ml_X8_45 nv_X1_all rfl rfl (kx_all (sA S0 30 g) a.2.1 a3 ho0.2.1) ?_
    refine x_icmp_gtN 52 dX8_refresh_36 rfl (by omega) (by omega) (fun c36 => ?_) (fun c36 => ?_)
    · exact absurd c36 (by omega)
    · refine x_aload_n dX8_refresh_39 rfl ?_
      refine x_getR dX8_refresh_40 fl_X8_9 rfl ?_
      refine x_iload_n dX8_refresh_43 rfl ?_
      refine x_ic _ ic_1 dX8_refresh_44 ?_
      refine x_zastN dX8_refresh_45 rfl rfl (by omega) ((show vp_nar .boolean (nI 1) = nI 1 by decide)) ?_
      refine x_iincN dX8_refresh_46 rfl rfl ?_
      refine x_goto 28 dX8_refresh_49 rfl ?_
      rw [sA_sA, sA_at]
      refine ih (t + 1) _ (by omega) (fun u hu => ?_)
      by_cases q : u = t
      · rw [q, upd_s]
      · rw [upd_n _ _ q]; exact h2 u (by omega)
set_option maxRecDepth 100000 in
set_option maxHeartbeats 4000000 in
theorem kx_rr_2 (S0 : amS) (a : Ar) (hA : Arr a.1 a.2.1 a.2.2) (ho0 : aObj S0 1 2 a) (Q : Option Value → amS → Prop) (hl0 : laidX S0 a.2.1 a.2.2) (hq : ∀ S z3 z4, FO [20] [28, 30] S0 S → (∀ t, t < 2 ^ a.2.1 → S.2.1 30 t = zB (ptB a.2.2 a.2.1 t)) → X shX mX8_refresh 113 [.ref 29, .ref 24, .int (nI (ringsB a.2.2 a.2.1 5).length), z3, z4] [] S Q) : ∀ (e k : Nat) (S : amS) (z3 z4 : Value), k + e = (ringsB a.2.2 a.2.1 5).length → FO [20] [28, 30] S0 S → (∀ t, t < 2 ^ a.2.1 → S.2.1 30 t = zB (ptL a.2.2 ((ringsB a.2.2 a.2.1 5).take k) t)) → X shX mX8_refresh 69 [.ref 29, .ref 24, .int (nI k), z3, z4] [] S Q := by
  have h512 := pow9 hA.2.2.1
  have h126 := rings_126 hA 5
  have a3 := hA.2.2.1
  intro e
  induction e with
  | zero =>
    intro k S z3 z4 h1 h2 h3
    obtain rfl : k = (ringsB a.2.2 a.2.1 5).length := by omega
    have hl := hl0.fo h2 (by decide) (by decide)
    rw [List.take_length] at h3
    refine x_iload_n dX8_refresh_69 rfl ?_
    refine x_aload_n dX8_refresh_70 rfl ?_
    refine x_getIV dX8_refresh_71 fl_X8_57 rfl (hl.2.2.1) ?_
    refine x_icmp_geN 113 dX8_refresh_74 rfl (by omega) (by omega) (fun c74 => ?_) (fun c74 => ?_)
    · exact hq S _ _ h2 h3
    · exact absurd c74 (by omega)
  | succ e ih =>
    intro k S z3 z4 h1 h2 h3
    have hl := hl0.fo h2 (by decide) (by decide)
    have ho := ho0.fo h2 (by decide) (by decide)
    have hk : k < (ringsB a.2.2 a.2.1 5).length := by omega
    obtain ⟨c, hkc⟩ : ∃ c, (ringsB a.2.2 a.2.1 5)[k]? = some c := ⟨_, List.getElem?_eq_getElem hk⟩
    obtain ⟨c1, -, c2⟩ := ringsB_mem (List.mem_of_getElem? hkc)
    obtain ⟨-, hab⟩ := abB_N hA c1 c2
    have hab2 : c &&& abB a.2.2 c 9 = abB a.2.2 c 9 := by rw [Nat.and_comm]; exact hab
    have hx : (c ^^^ abB a.2.2 c 9) &&& c = c ^^^ abB a.2.2 c 9 := sub_and (fun i hi => by
      rw [Nat.testBit_xor] at hi
      cases e : c.testBit i with
      | true => rfl
      | false =>
        rw [e, Bool.false_xor] at hi
        rw [and_sub hab i hi] at e
        cases e)
    refine x_iload_n dX8_refresh_69 rfl ?_
    refine x_aload_n dX8_refresh_70 rfl ?_
    refine x_getIV dX8_refresh_71 fl_X8_57 rfl (hl.2.2.1) ?_
    refine x_icmp_geN 113 dX8_refresh_74 rfl (by omega) (by omega) (fun c74 => ?_) (fun c74 => ?_)
    · exact absurd c74 (by omega)
    · refine x_aload_n dX8_refresh_77 rfl ?_
      refine x_getR dX8_refresh_78 fl_X8_60 rfl ?_
      refine x_iload_n dX8_refresh_81 rfl ?_
      refine x_ialdN dX8_refresh_82 rfl rfl (by omega) (hl.2.2.2 k c hkc) ?_
      refine x_istore_n dX8_refresh_83 rfl ?_
      refine x_aload_n dX8_refresh_84 rfl ?_
      refine x_iload_n dX8_refresh_85 rfl ?_
      refine x_v1 (N := mX8_positivePart) dX8_refresh_86 ml_X8_63 nv_X8_positivePart rfl rfl (kx_positivePart S a hA ho c c1 c2) ?_
      rintro _ S1 ⟨rfl, f1⟩
      refine x_istore dX8_refresh_89 rfl ?_
      refine x_aload_n dX8_refresh_91 rfl ?_
      refine x_iload_n dX8_refresh_92 rfl ?_
      refine x_iload dX8_refresh_93 rfl ?_
      refine x_v2 (N := mX8_strike) dX8_refresh_95 ml_X8_67 nv_X8_strike rfl rfl (kx_strike S1 a.2.1 c (abB a.2.2 c 9) a3 (by rw [f1.1 1 (by decide)]; exact ho.2.1) c1 hab) ?_
      rintro _ _ ⟨rfl, g1, rfl, e1⟩
      refine x_aload_n dX8_refresh_98 rfl ?_
      refine x_iload_n dX8_refresh_99 rfl ?_
      refine x_iload_n dX8_refresh_100 rfl ?_
      refine x_iload dX8_refresh_101 rfl ?_
      refine x_ixorN dX8_refresh_103 ?_
      refine x_v2 (N := mX8_strike) dX8_refresh_104 ml_X8_67 nv_X8_strike rfl rfl (kx_strike (sA S1 30 g1) a.2.1 c (c ^^^ abB a.2.2 c 9) a3 (by show S1.1 1 2 = _; rw [f1.1 1 (by decide)]; exact ho.2.1) c1 hx) ?_
      rintro _ _ ⟨rfl, g2, rfl, e2⟩
      refine x_iincN dX8_refresh_107 rfl rfl ?_
      refine x_goto 69 dX8_refresh_110 rfl ?_
      rw [sA_sA]
      refine ih (k + 1) _ _ _ (by omega) ((h2.tr (f1.mono (by decide) (by decide))).sA _ (by decide)) (fun t ht => ?_)
      rw [sA_at, e2 t ht, sA_at, e1 t ht, f1.2.1 30 (by decide), h3 t ht]
      have et : ptL a.2.2 ((ringsB a.2.2 a.2.1 5).take (k + 1)) t = (ptL a.2.2 ((ringsB a.2.2 a.2.1 5).take k) t && !hitB a.2.2 t c) := by
        unfold ptL
        rw [List.take_add_one, hkc, Option.toList_some, List.all_append]
        simp
      rw [et]
      unfold hitB
      rw [hab2]
      by_cases q1 : t &&& c = c ^^^ abB a.2.2 c 9
      · rw [if_pos q1, zB_f]
        simp [q1]
      · rw [if_neg q1]
        by_cases q2 : t &&& c = abB a.2.2 c 9
        · rw [if_pos q2, zB_f]
          simp [q2]
        · rw [if_neg q2, beq_false_of_ne q1, beq_false_of_ne q2]
          simp
set_option maxRecDepth 100000 in
set_option maxHeartbeats 4000000 in
theorem kx_rr_3 (S0 : amS) (a : Ar) (hA : Arr a.1 a.2.1 a.2.2) (ho0 : aObj S0 1 2 a) (Q : Option Value → amS → Prop) (hr0 : ∀ t, t < 2 ^ a.2.1 → S0.2.1 30 t = zB (ptB a.2.2 a.2.1 t)) (z3 z4 : Value) (hq : ∀ S, FO [32] [33] S0 S → LsX S 32 33 (regL a.2.2 a.2.1) → Q none S) : ∀ (e t : Nat) (S : amS), t + e = 2 ^ a.2.1 → FO [32] [33] S0 S → LsX S 32 33 ((List.range t).filter (fun s => ptB a.2.2 a.2.1 s)) → X shX mX8_refresh 123 [.ref 29, .ref 24, .int (nI t), z3, z4] [] S Q := by
  have h512 := pow9 hA.2.2.1
  have hpos := Nat.two_pow_pos a.2.1
  have a3 := hA.2.2.1
  have h186 := reg_186 hA
  intro e
  induction e with
  | zero =>
    intro t S h1 h2 h3
    obtain rfl : t = 2 ^ a.2.1 := by omega
    have ho := ho0.fo h2 (by decide) (by decide)
    refine x_iload_n dX8_refresh_123 rfl ?_
    refine x_aload_n dX8_refresh_124 rfl ?_
    refine x_getR dX8_refresh_125 fl_X8_32 rfl ?_
    refine x_v0d (N := mX1_all) dX8_refresh_128 ml_X8_45 nv_X1_all rfl rfl (kx_all S a.2.1 a3 ho.2.1) ?_
    refine x_icmp_gtN 157 dX8_refresh_131 rfl (by omega) (by omega) (fun c131 => ?_) (fun c131 => ?_)
    · refine x_ret dX8_refresh_157 rfl ?_
      exact hq S h2 h3
    · exact absurd c131 (by omega)
  | succ e ih =>
    intro t S h1 h2 h3
    have ho := ho0.fo h2 (by decide) (by decide)
    have hr : S.2.1 30 t = zB (ptB a.2.2 a.2.1 t) := by rw [h2.2.1 30 (by decide)]; exact hr0 t (by omega)
    have hsn := filter_snoc (fun s => ptB a.2.2 a.2.1 s) t
    refine x_iload_n dX8_refresh_123 rfl ?_
    refine x_aload_n dX8_refresh_124 rfl ?_
    refine x_getR dX8_refresh_125 fl_X8_32 rfl ?_
    refine x_v0d (N := mX1_all) dX8_refresh_128 ml_X8_45 nv_X1_all rfl rfl (kx_all S a.2.1 a3 ho.2.1) ?_
    refine x_icmp_gtN 157 dX8_refresh_131 rfl (by omega) (by omega) (fun c131 => ?_) (fun c131 => ?_)
    · exact absurd c131 (by omega)
    · refine x_aload_n dX8_refresh_134 rfl ?_
      refine x_getR dX8_refresh_135 fl_X8_9 rfl ?_
      refine x_iload_n dX8_refresh_138 rfl ?_
      refine x_zaldN dX8_refresh_139 rfl rfl (by omega) (hr) ?_
      refine x_if_eqB 151 dX8_refresh_140 rfl (fun c140 => ?_) (fun c140 => ?_)
      · refine x_iincN dX8_refresh_151 rfl rfl ?_
        refine x_goto 123 dX8_refresh_154 rfl ?_
        refine ih (t + 1) S (by omega) h2 ?_
        rw [hsn, if_neg (by rw [c140]; decide)]
        exact h3
      · refine x_aload_n dX8_refresh_143 rfl ?_
        refine x_getR dX8_refresh_144 fl_X8_24 rfl ?_
        refine x_iload_n dX8_refresh_147 rfl ?_
        rw [if_pos c140] at hsn
        have hlt : ((List.range t).filter (fun s => ptB a.2.2 a.2.1 s)).length < 186 := by
          have h5 := range_le (fun s => ptB a.2.2 a.2.1 s) (show t + 1 ≤ 2 ^ a.2.1 by omega)
          rw [hsn, List.length_append] at h5
          simp only [List.length_singleton] at h5
          have h6 : ((List.range (2 ^ a.2.1)).filter (fun s => ptB a.2.2 a.2.1 s)).length ≤ 186 := h186
          omega
        refine x_v1 (N := mX4_append) dX8_refresh_148 ml_X8_71 nv_X4_append rfl rfl (kx_app_32 S _ h3 hlt t) ?_
        rintro _ S' ⟨rfl, h4, f1⟩
        refine x_iincN dX8_refresh_151 rfl rfl ?_
        refine x_goto 123 dX8_refresh_154 rfl ?_
        refine ih (t + 1) S' (by omega) (h2.tr f1) ?_
        rw [hsn]
        exact h4
set_option maxRecDepth 100000 in
set_option maxHeartbeats 4000000 in
theorem kx_rrefresh (S : amS) (a : Ar) (hA : Arr a.1 a.2.1 a.2.2) (ho : aObj S 1 2 a) (V : Nat) (hV : S.1 1 3 = nI V) (hVb : V < 2147483648) (hsm : seenX S 19 7 V (laidX S a.2.1 a.2.2)) (hsn : seenX S 29 5 V (laidR S a.2.1 a.2.2)) : X shX mX8_refresh 0 [.ref 29, .null, .null, .null, .null] [] S (fun r S' => r = none ∧ ((S' = S ∧ laidR S a.2.1 a.2.2) ∨ (FO [19, 20, 24, 29, 32] [22, 23, 25, 28, 30, 33] S S' ∧ S'.1 29 5 = nI V ∧ S'.1 19 7 = nI V ∧ laidX S' a.2.1 a.2.2 ∧ laidR S' a.2.1 a.2.2))) := by
  obtain ⟨a1, a2, a3, a4, a5, a6, a7⟩ := id hA
  obtain ⟨m1, m2, m3⟩ := id ho
  have h512 := pow9 a3
  have hpos := Nat.two_pow_pos a.2.1
  obtain ⟨w, w1, w2, w3, w4⟩ := hsn
  refine x_aload_n dX8_refresh_0 rfl ?_
  refine x_getIV dX8_refresh_1 fl_X8_28 rfl (w3) ?_
  refine x_aload_n dX8_refresh_4 rfl ?_
  refine x_getR dX8_refresh_5 fl_X8_32 rfl ?_
  refine x_getIV dX8_refresh_8 fl_X8_40 rfl (hV) ?_
  refine x_topI ?_
  refine x_icmp_neI 15 dX8_refresh_11 rfl (by omega) (by omega) (fun c11 => ?_) (fun c11 => ?_)
  · refine x_aload_n dX8_refresh_15 rfl ?_
    refine x_aload_n dX8_refresh_16 rfl ?_
    refine x_getR dX8_refresh_17 fl_X8_32 rfl ?_
    refine x_getIV dX8_refresh_20 fl_X8_40 rfl (hV) ?_
    refine x_put dX8_refresh_23 fp_X8_28 rfl rfl rfl ?_
    refine x_ic _ ic_0 dX8_refresh_26 ?_
    refine x_istore_n dX8_refresh_27 rfl ?_
    have e5 : (sF S 29 (upd (S.1 29) 5 (nI V))).1 29 5 = nI V := by simp [sF, sA, va_up, upd]
    have f0 : FO [29] [30] S (sF S 29 (upd (S.1 29) 5 (nI V))) := (FO.rf _ _ S).sF _ (by simp)
    have hoT := ho.fo f0 (by decide) (by decide)
    generalize sF S 29 (upd (S.1 29) 5 (nI V)) = T at e5 f0 hoT ⊢
    refine x_st (sA_self T 30) ?_
    refine kx_rr_1 T a hA hoT _ (fun g hg => ?_) (2 ^ a.2.1) 0 _ (by omega) (fun u hu => absurd hu (Nat.not_lt_zero u))
    have f1 := f0.sA g (r := 30) (by decide)
    refine x_aload_n dX8_refresh_52 rfl ?_
    refine x_getR dX8_refresh_53 fl_X8_36 rfl ?_
    refine x_v0 (N := mX6_refresh) dX8_refresh_56 ml_X8_49 nv_X6_refresh rfl rfl (kx_mrefresh (sA T 30 g) a hA (ho.fo f1 (by decide) (by decide)) V (by rw [f1.1 1 (by decide)]; exact hV) hVb (hsm.fo (f1.1 _ (by decide)) (fun z => z.fo f1 (by decide) (by decide)))) ?_
    rintro _ S2 ⟨rfl, f2, k7, kl⟩
    refine x_aload_n dX8_refresh_59 rfl ?_
    refine x_getR dX8_refresh_60 fl_X8_36 rfl ?_
    refine x_getR dX8_refresh_63 fl_X8_54 rfl ?_
    refine x_astore_n dX8_refresh_66 rfl ?_
    refine x_ic _ ic_0 dX8_refresh_67 ?_
    refine x_istore_n dX8_refresh_68 rfl ?_
    refine kx_rr_2 S2 a hA ((ho.fo f1 (by decide) (by decide)).fo f2 (by decide) (by decide)) _ kl (fun S3 z3 z4 f3 h3 => ?_) (ringsB a.2.2 a.2.1 5).length 0 S2 _ _ (by omega) (FO.rf _ _ _) (fun t ht => ?_)
    · refine x_aload_n dX8_refresh_113 rfl ?_
      refine x_getR dX8_refresh_114 fl_X8_24 rfl ?_
      refine x_ic _ ic_0 dX8_refresh_117 ?_
      refine x_put dX8_refresh_118 fp_X8_57 rfl rfl rfl ?_
      refine x_ic _ ic_0 dX8_refresh_121 ?_
      refine x_istore_n dX8_refresh_122 rfl ?_
      have f4 : FO [32] [33] S3 (sF S3 32 (upd (S3.1 32) 1 (nI 0))) := (FO.rf _ _ S3).sF _ (by simp)
      have ho4 := (((ho.fo f1 (by decide) (by decide)).fo f2 (by decide) (by decide)).fo f3 (by decide) (by decide)).fo f4 (by decide) (by decide)
      have hls : LsX (sF S3 32 (upd (S3.1 32) 1 (nI 0))) 32 33 ((List.range 0).filter (fun s => ptB a.2.2 a.2.1 s)) := ⟨by rw [sF_at, upd_s]; rfl, fun k c hk => by simp at hk⟩
      refine kx_rr_3 _ a hA ho4 _ (fun t ht => by rw [f4.2.1 30 (by decide)]; exact h3 t ht) _ _ (fun S5 f5 h5 => ⟨rfl, Or.inr ⟨?_, ?_, ?_, ?_, ?_, h5⟩⟩) (2 ^ a.2.1) 0 _ (by omega) (FO.rf _ _ _) hls
      · exact ((((f1.mono (by decide) (by decide)).tr (f2.mono (by decide) (by decide))).tr (f3.mono (by decide) (by decide))).tr (f4.mono (by decide) (by decide))).tr (f5.mono (by decide) (by decide))
      · rw [f5.1 29 (by decide), f4.1 29 (by decide), f3.1 29 (by decide), f2.1 29 (by decide)]; exact e5
      · rw [f5.1 19 (by decide), f4.1 19 (by decide), f3.1 19 (by decide)]; exact k7
      · exact ((kl.fo f3 (by decide) (by decide)).fo f4 (by decide) (by decide)).fo f5 (by decide) (by decide)
      · intro t ht
        rw [f5.2.1 30 (by decide), f4.2.1 30 (by decide)]; exact h3 t ht
    · rw [f2.2.1 30 (by decide), sA_at, hg t ht, List.take_zero]; rfl
  · refine x_ret dX8_refresh_14 rfl ?_
    exact ⟨rfl, Or.inl ⟨rfl, w4 c11⟩⟩
theorem kx_rrq (S : amS) (B : Nat) (a : Ar) (hs : List Ar) (tx : List Nat) (u0 u1 u2 ck co : Int32) (hc : xCore S B a hs tx u0 u1 u2 ck co) (hB : B < 2147483648) : X shX mX8_refresh 0 [.ref 29, .null, .null, .null, .null] [] S (fun r S' => r = none ∧ xCore S' B a hs tx u0 u1 u2 ck co ∧ laidR S' a.2.1 a.2.2) := by
  obtain ⟨⟨h1, h2⟩, h3, V, h4, h5, t1, t2, t3, t4⟩ := id hc
  refine x_mono ?_ (kx_rrefresh S a h1 h2 V h5 (by omega) t1 t2)
  rintro _ S' ⟨rfl, (⟨rfl, hl⟩ | ⟨f, e5, e7, hl, hr⟩)⟩
  · exact ⟨rfl, hc, hl⟩
  · exact ⟨rfl, ⟨⟨h1, h2.fo f (by decide) (by decide)⟩, h3.fo f (by decide) (by decide) (by decide), V, h4, by rw [f.1 1 (by decide)]; exact h5, ⟨V, by omega, by omega, by rw [e7, nI_i32], fun _ => hl⟩, ⟨V, by omega, by omega, by rw [e5, nI_i32], fun _ => hr⟩, t3.fo (f.1 _ (by decide)) (fun z => z.mt f (by decide) hl), t4.fo (f.1 _ (by decide)) (fun z => z.fo f (by decide))⟩, hr⟩
set_option maxRecDepth 100000 in
set_option maxHeartbeats 4000000 in
theorem kx_listed (S : amS) (B : Nat) (a : Ar) (hs : List Ar) (tx : List Nat) (u0 u1 u2 ck co : Int32) (hc : xCore S B a hs tx u0 u1 u2 ck co) (hB : B < 2147483648) : X shX mX8_listed 0 [.ref 29] [] S (fun r S' => r = some (.ref 32) ∧ xCore S' B a hs tx u0 u1 u2 ck co ∧ laidR S' a.2.1 a.2.2) := by
  obtain ⟨⟨hA, ho⟩, hrest, hV⟩ := id hc
  obtain ⟨a1, a2, a3, a4, a5, a6, a7⟩ := id hA
  obtain ⟨m1, m2, m3⟩ := id ho
  have h512 := pow9 a3
  have hpos := Nat.two_pow_pos a.2.1
  have hr9 : ∀ t, t < 2 ^ a.2.1 → rkV a.2.2 t ≤ 9 := fun t ht => Nat.le_trans (rkV_le (by omega)) (pc9_le t (by omega))
  refine x_aload_n dX8_listed_0 rfl ?_
  refine x_v0 (N := mX8_refresh) dX8_listed_1 ml_X8_86 nv_X8_refresh rfl rfl (kx_rrq S B a hs tx u0 u1 u2 ck co hc hB) ?_
  rintro _ S' ⟨rfl, hc', hr'⟩
  refine x_aload_n dX8_listed_4 rfl ?_
  refine x_getR dX8_listed_5 fl_X8_24 rfl ?_
  refine x_aret dX8_listed_8 rfl (by simp) ?_
  exact ⟨rfl, hc', hr'⟩
set_option maxRecDepth 100000 in
set_option maxHeartbeats 4000000 in
theorem kx_isRegion (S : amS) (B : Nat) (a : Ar) (hs : List Ar) (tx : List Nat) (u0 u1 u2 ck co : Int32) (hc : xCore S B a hs tx u0 u1 u2 ck co) (hB : B < 2147483648) (s : Nat) (hs0 : s < 2 ^ a.2.1) : X shX mX8_isRegion 0 [.ref 29, .int (nI s)] [] S (fun r S' => r = some (.int (zB (ptB a.2.2 a.2.1 s))) ∧ xCore S' B a hs tx u0 u1 u2 ck co ∧ laidR S' a.2.1 a.2.2) := by
  obtain ⟨⟨hA, ho⟩, hrest, hV⟩ := id hc
  obtain ⟨a1, a2, a3, a4, a5, a6, a7⟩ := id hA
  obtain ⟨m1, m2, m3⟩ := id ho
  have h512 := pow9 a3
  have hpos := Nat.two_pow_pos a.2.1
  have hr9 : ∀ t, t < 2 ^ a.2.1 → rkV a.2.2 t ≤ 9 := fun t ht => Nat.le_trans (rkV_le (by omega)) (pc9_le t (by omega))
  refine x_aload_n dX8_isRegion_0 rfl ?_
  refine x_v0 (N := mX8_refresh) dX8_isRegion_1 ml_X8_86 nv_X8_refresh rfl rfl (kx_rrq S B a hs tx u0 u1 u2 ck co hc hB) ?_
  rintro _ S' ⟨rfl, hc', hr'⟩
  refine x_aload_n dX8_isRegion_4 rfl ?_
  refine x_getR dX8_isRegion_5 fl_X8_9 rfl ?_
  refine x_iload_n dX8_isRegion_8 rfl ?_
  refine x_zaldN dX8_isRegion_9 rfl rfl (by omega) (hr'.1 s hs0) ?_
  refine x_zretB dX8_isRegion_10 rfl ?_
  exact ⟨rfl, hc', hr'⟩
theorem xor_ltN {s i N : Nat} (hs : s < 2 ^ N) (hi : i < N) : s ^^^ 2 ^ i < 2 ^ N := Nat.xor_lt_two_pow hs (pow_ltN hi)
set_option maxRecDepth 100000 in
set_option maxHeartbeats 4000000 in
theorem kx_wo_l (S : amS) (N : Nat) (v : Nat → Row) (hN : N ≤ 9) (m2 : S.1 1 2 = nI N) (hr : ∀ t, t < 2 ^ N → S.2.1 30 t = zB (ptB v N t)) (s : Nat) (hs : s < 2 ^ N) : ∀ (e i : Nat), i + e = N → X shX mX8_wallsOf 8 [.ref 29, .int (nI s), .int (nI (waB v N s i)), .int (nI i)] [] S (fun r S' => r = some (.int (nI (waB v N s N))) ∧ S' = S) := by
  have h512 := pow9 hN
  intro e
  induction e with
  | zero =>
    intro i h1
    obtain rfl : i = N := by omega
    refine x_iload_n dX8_wallsOf_8 rfl ?_
    refine x_aload_n dX8_wallsOf_9 rfl ?_
    refine x_getR dX8_wallsOf_10 fl_X8_32 rfl ?_
    refine x_getIV dX8_wallsOf_13 fl_X8_78 rfl (m2) ?_
    refine x_icmp_geN 44 dX8_wallsOf_16 rfl (by omega) (by omega) (fun c16 => ?_) (fun c16 => ?_)
    · refine x_iload_n dX8_wallsOf_44 rfl ?_
      refine x_iretI dX8_wallsOf_45 rfl ?_
      exact ⟨rfl, rfl⟩
    · exact absurd c16 (by omega)
  | succ e ih =>
    intro i h1
    have hx := xor_ltN hs (show i < N by omega)
    have := ih (i + 1) (by omega)
    rw [waB] at this
    refine x_iload_n dX8_wallsOf_8 rfl ?_
    refine x_aload_n dX8_wallsOf_9 rfl ?_
    refine x_getR dX8_wallsOf_10 fl_X8_32 rfl ?_
    refine x_getIV dX8_wallsOf_13 fl_X8_78 rfl (m2) ?_
    refine x_icmp_geN 44 dX8_wallsOf_16 rfl (by omega) (by omega) (fun c16 => ?_) (fun c16 => ?_)
    · exact absurd c16 (by omega)
    · refine x_aload_n dX8_wallsOf_19 rfl ?_
      refine x_getR dX8_wallsOf_20 fl_X8_9 rfl ?_
      refine x_iload_n dX8_wallsOf_23 rfl ?_
      refine x_ic _ ic_1 dX8_wallsOf_24 ?_
      refine x_iload_n dX8_wallsOf_25 rfl ?_
      refine x_ishl1 dX8_wallsOf_26 (by omega) ?_
      refine x_ixorN dX8_wallsOf_27 ?_
      refine x_zaldN dX8_wallsOf_28 rfl rfl (by omega) (hr _ hx) ?_
      refine x_if_eqB 38 dX8_wallsOf_29 rfl (fun c29 => ?_) (fun c29 => ?_)
      · refine x_iincN dX8_wallsOf_38 rfl rfl ?_
        refine x_goto 8 dX8_wallsOf_41 rfl ?_
        rw [if_neg (by rw [c29]; decide), Nat.or_zero] at this
        exact this
      · refine x_iload_n dX8_wallsOf_32 rfl ?_
        refine x_ic _ ic_1 dX8_wallsOf_33 ?_
        refine x_iload_n dX8_wallsOf_34 rfl ?_
        refine x_ishl1 dX8_wallsOf_35 (by omega) ?_
        refine x_iorN dX8_wallsOf_36 ?_
        refine x_istore_n dX8_wallsOf_37 rfl ?_
        refine x_iincN dX8_wallsOf_38 rfl rfl ?_
        refine x_goto 8 dX8_wallsOf_41 rfl ?_
        rw [if_pos c29] at this
        exact this
set_option maxRecDepth 100000 in
set_option maxHeartbeats 4000000 in
theorem kx_wallsOf (S : amS) (B : Nat) (a : Ar) (hs : List Ar) (tx : List Nat) (u0 u1 u2 ck co : Int32) (hc : xCore S B a hs tx u0 u1 u2 ck co) (hB : B < 2147483648) (s : Nat) (hs0 : s < 2 ^ a.2.1) : X shX mX8_wallsOf 0 [.ref 29, .int (nI s), .null, .null] [] S (fun r S' => r = some (.int (nI (waB a.2.2 a.2.1 s a.2.1))) ∧ xCore S' B a hs tx u0 u1 u2 ck co ∧ laidR S' a.2.1 a.2.2) := by
  obtain ⟨⟨hA, ho⟩, hrest, hV⟩ := id hc
  obtain ⟨a1, a2, a3, a4, a5, a6, a7⟩ := id hA
  obtain ⟨m1, m2, m3⟩ := id ho
  have h512 := pow9 a3
  have hpos := Nat.two_pow_pos a.2.1
  have hr9 : ∀ t, t < 2 ^ a.2.1 → rkV a.2.2 t ≤ 9 := fun t ht => Nat.le_trans (rkV_le (by omega)) (pc9_le t (by omega))
  refine x_aload_n dX8_wallsOf_0 rfl ?_
  refine x_v0 (N := mX8_refresh) dX8_wallsOf_1 ml_X8_86 nv_X8_refresh rfl rfl (kx_rrq S B a hs tx u0 u1 u2 ck co hc hB) ?_
  rintro _ S' ⟨rfl, hc', hr'⟩
  refine x_ic _ ic_0 dX8_wallsOf_4 ?_
  refine x_istore_n dX8_wallsOf_5 rfl ?_
  refine x_ic _ ic_0 dX8_wallsOf_6 ?_
  refine x_istore_n dX8_wallsOf_7 rfl ?_
  refine x_mono ?_ (kx_wo_l S' a.2.1 a.2.2 a3 hc'.1.2.2.1 hr'.1 s hs0 a.2.1 0 (by omega))
  rintro _ _ ⟨rfl, rfl⟩
  exact ⟨rfl, hc', hr'⟩
set_option maxRecDepth 100000 in
set_option maxHeartbeats 4000000 in
theorem kx_parts_at (S : amS) (B : Nat) (a : Ar) (hs : List Ar) (tx : List Nat) (u0 u1 u2 ck co : Int32) (hc : xCore S B a hs tx u0 u1 u2 ck co) (hB : B < 2147483648) (k : Nat) (hk : k < 2 ^ 31) : X shX mX10_parts 0 [.ref 0, .int (nI k)] [] S (fun r S' => r = some (.int (lAns (regL a.2.2 a.2.1) (nI k))) ∧ xCore S' B a hs tx u0 u1 u2 ck co) := by
  obtain ⟨⟨hA, ho⟩, hrest, hV⟩ := id hc
  obtain ⟨a1, a2, a3, a4, a5, a6, a7⟩ := id hA
  obtain ⟨m1, m2, m3⟩ := id ho
  have h512 := pow9 a3
  have hpos := Nat.two_pow_pos a.2.1
  have hr9 : ∀ t, t < 2 ^ a.2.1 → rkV a.2.2 t ≤ 9 := fun t ht => Nat.le_trans (rkV_le (by omega)) (pc9_le t (by omega))
  refine x_iload_n dX10_parts_0 rfl ?_
  refine x_ic _ ic_m1 dX10_parts_1 ?_
  refine x_topI2 ?_
  refine x_icmp_geI 12 dX10_parts_2 rfl (by omega) (by omega) (fun c2 => ?_) (fun c2 => ?_)
  · refine x_iload_n dX10_parts_12 rfl ?_
    refine x_ic _ ic_m1 dX10_parts_13 ?_
    refine x_topI2 ?_
    refine x_icmp_neI 27 dX10_parts_14 rfl (by omega) (by omega) (fun c14 => ?_) (fun c14 => ?_)
    · refine x_aload_n dX10_parts_27 rfl ?_
      refine x_getR dX10_parts_28 fl_X10_40 rfl ?_
      refine x_v0 (N := mX8_listed) dX10_parts_31 ml_X10_169 nv_X8_listed rfl rfl (kx_listed S B a hs tx u0 u1 u2 ck co hc hB) ?_
      rintro _ S' ⟨rfl, hc', hr'⟩
      refine x_iload_n dX10_parts_34 rfl ?_
      refine x_v1d (N := mX4_answer) dX10_parts_35 ml_X10_136 nv_X4_answer rfl rfl (kx_ans_32 S' _ hr'.2 (reg_186 hA) (nI k) (by rw [nI_i32, i32_lt (by omega) (by omega)]; omega)) ?_
      refine x_iretI dX10_parts_38 rfl ?_
      exact ⟨rfl, hc'⟩
    · exact absurd c14 (by omega)
  · exact absurd c2 (by omega)
theorem kx_parts_cnt (S : amS) (B : Nat) (a : Ar) (hs : List Ar) (tx : List Nat) (u0 u1 u2 ck co : Int32) (hc : xCore S B a hs tx u0 u1 u2 ck co) (hB : B < 2147483648) : X shX mX10_parts 0 [.ref 0, .int (i32 (-1))] [] S (fun r S' => r = some (.int (lAns (regL a.2.2 a.2.1) (i32 (-1)))) ∧ xCore S' B a hs tx u0 u1 u2 ck co) := by
  refine x_mono ?_ (kx_parts_cnt0 S B a hs tx u0 u1 u2 ck co hc hB)
  rintro _ S' ⟨rfl, h⟩
  exact ⟨by rw [lAns_cnt, zas hc.1.1], h⟩
theorem kx_turns_ok (S : amS) (B : Nat) (a : Ar) (hs : List Ar) (tx : List Nat) (u0 u1 u2 ck co : Int32) (hc : xCore S B a hs tx u0 u1 u2 ck co) (hB : B + 1 < 2147483648) (i : Nat) (hi : i < a.2.1) : X shX mX10_turns 0 [.ref 0, .int (nI i), .null] [] S (fun r S' => r = some (.int (nI (regL (aTurn a i).2.2 (aTurn a i).2.1).length)) ∧ xCore S' (B + 3000) (aTurn a i) (pushH hs a) tx u0 u1 u2 ck co) := by
  refine x_mono ?_ (kx_turns_ok0 S B a hs tx u0 u1 u2 ck co hc hB i hi)
  rintro _ S' ⟨rfl, h⟩
  exact ⟨by rw [zas (arr_turn hc.1.1 i)], h⟩
set_option maxRecDepth 100000 in
set_option maxHeartbeats 4000000 in
theorem kx_walls_bad (S : amS) (B : Nat) (a : Ar) (hs : List Ar) (tx : List Nat) (u0 u1 u2 ck co : Int32) (hc : xCore S B a hs tx u0 u1 u2 ck co) (x : Int32) (hx : ¬ InR x (2 ^ a.2.1)) : X shX mX10_walls 0 [.ref 0, .int x] [] S (fun r S' => r = some (.int (i32 (-2))) ∧ xCore S' B a hs tx (u0 + nI 1) u1 u2 ck co) := by
  obtain ⟨⟨hA, ho⟩, hrest, hV⟩ := id hc
  obtain ⟨a1, a2, a3, a4, a5, a6, a7⟩ := id hA
  obtain ⟨m1, m2, m3⟩ := id ho
  have h512 := pow9 a3
  have hpos := Nat.two_pow_pos a.2.1
  have hr9 : ∀ t, t < 2 ^ a.2.1 → rkV a.2.2 t ≤ 9 := fun t ht => Nat.le_trans (rkV_le (by omega)) (pc9_le t (by omega))
  refine x_aload_n dX10_walls_0 rfl ?_
  refine x_getR dX10_walls_1 fl_X10_17 rfl ?_
  refine x_iload_n dX10_walls_4 rfl ?_
  refine x_v1d (N := mX1_hasAll) dX10_walls_5 ml_X10_126 nv_X1_hasAll rfl rfl (kx_hasAll S a.2.1 a3 m2 _) ?_
  refine x_if_neB 18 dX10_walls_8 rfl (fun c8 => ?_) (fun c8 => ?_)
  · rw [in_R _ (by omega), show 2 ^ a.2.1 - 1 + 1 = 2 ^ a.2.1 by omega] at c8
    exact absurd c8 hx
  · refine x_aload_n dX10_walls_11 rfl ?_
    refine x_bi _ bi_m2 dX10_walls_12 ?_
    refine x_v1 (N := mX10_refused) dX10_walls_14 ml_X10_120 nv_X10_refused rfl rfl (kx_bad S B a hs tx u0 u1 u2 ck co hc) ?_
    rintro _ S' ⟨rfl, h'⟩
    refine x_iretI dX10_walls_17 rfl ?_
    exact ⟨rfl, h'⟩
set_option maxRecDepth 100000 in
set_option maxHeartbeats 4000000 in
theorem kx_walls_no (S : amS) (B : Nat) (a : Ar) (hs : List Ar) (tx : List Nat) (u0 u1 u2 ck co : Int32) (hc : xCore S B a hs tx u0 u1 u2 ck co) (hB : B < 2147483648) (s : Nat) (hs0 : s < 2 ^ a.2.1) (hp0 : ptB a.2.2 a.2.1 s = false) : X shX mX10_walls 0 [.ref 0, .int (nI s)] [] S (fun r S' => r = some (.int (i32 (-3))) ∧ xCore S' B a hs tx u0 (u1 + nI 1) u2 ck co) := by
  obtain ⟨⟨hA, ho⟩, hrest, hV⟩ := id hc
  obtain ⟨a1, a2, a3, a4, a5, a6, a7⟩ := id hA
  obtain ⟨m1, m2, m3⟩ := id ho
  have h512 := pow9 a3
  have hpos := Nat.two_pow_pos a.2.1
  have hr9 : ∀ t, t < 2 ^ a.2.1 → rkV a.2.2 t ≤ 9 := fun t ht => Nat.le_trans (rkV_le (by omega)) (pc9_le t (by omega))
  refine x_aload_n dX10_walls_0 rfl ?_
  refine x_getR dX10_walls_1 fl_X10_17 rfl ?_
  refine x_iload_n dX10_walls_4 rfl ?_
  refine x_v1d (N := mX1_hasAll) dX10_walls_5 ml_X10_126 nv_X1_hasAll rfl rfl (kx_hasAll S a.2.1 a3 m2 _) ?_
  refine x_if_neB 18 dX10_walls_8 rfl (fun c8 => ?_) (fun c8 => ?_)
  · refine x_aload_n dX10_walls_18 rfl ?_
    refine x_getR dX10_walls_19 fl_X10_40 rfl ?_
    refine x_iload_n dX10_walls_22 rfl ?_
    refine x_v1 (N := mX8_isRegion) dX10_walls_23 ml_X10_172 nv_X8_isRegion rfl rfl (kx_isRegion S B a hs tx u0 u1 u2 ck co hc hB s hs0) ?_
    rintro _ S' ⟨rfl, hc', hr'⟩
    refine x_if_eqB 40 dX10_walls_26 rfl (fun c26 => ?_) (fun c26 => ?_)
    · refine x_aload_n dX10_walls_40 rfl ?_
      refine x_bi _ bi_m3 dX10_walls_41 ?_
      refine x_v1 (N := mX10_refused) dX10_walls_43 ml_X10_120 nv_X10_refused rfl rfl (kx_no S' B a hs tx u0 u1 u2 ck co hc') ?_
      rintro _ S2 ⟨rfl, h2⟩
      refine x_iretI dX10_walls_46 rfl ?_
      exact ⟨rfl, h2⟩
    · rw [hp0] at c26; cases c26
  · rw [Bool.eq_false_iff, ne_eq, in_R _ (by omega), show 2 ^ a.2.1 - 1 + 1 = 2 ^ a.2.1 by omega] at c8
    exact absurd (InR_in hs0) c8
set_option maxRecDepth 100000 in
set_option maxHeartbeats 4000000 in
theorem kx_walls_ok (S : amS) (B : Nat) (a : Ar) (hs : List Ar) (tx : List Nat) (u0 u1 u2 ck co : Int32) (hc : xCore S B a hs tx u0 u1 u2 ck co) (hB : B < 2147483648) (s : Nat) (hs0 : s < 2 ^ a.2.1) (hp0 : ptB a.2.2 a.2.1 s = true) : X shX mX10_walls 0 [.ref 0, .int (nI s)] [] S (fun r S' => r = some (.int (nI (waB a.2.2 a.2.1 s a.2.1))) ∧ xCore S' B a hs tx u0 u1 u2 ck co) := by
  obtain ⟨⟨hA, ho⟩, hrest, hV⟩ := id hc
  obtain ⟨a1, a2, a3, a4, a5, a6, a7⟩ := id hA
  obtain ⟨m1, m2, m3⟩ := id ho
  have h512 := pow9 a3
  have hpos := Nat.two_pow_pos a.2.1
  have hr9 : ∀ t, t < 2 ^ a.2.1 → rkV a.2.2 t ≤ 9 := fun t ht => Nat.le_trans (rkV_le (by omega)) (pc9_le t (by omega))
  refine x_aload_n dX10_walls_0 rfl ?_
  refine x_getR dX10_walls_1 fl_X10_17 rfl ?_
  refine x_iload_n dX10_walls_4 rfl ?_
  refine x_v1d (N := mX1_hasAll) dX10_walls_5 ml_X10_126 nv_X1_hasAll rfl rfl (kx_hasAll S a.2.1 a3 m2 _) ?_
  refine x_if_neB 18 dX10_walls_8 rfl (fun c8 => ?_) (fun c8 => ?_)
  · refine x_aload_n dX10_walls_18 rfl ?_
    refine x_getR dX10_walls_19 fl_X10_40 rfl ?_
    refine x_iload_n dX10_walls_22 rfl ?_
    refine x_v1 (N := mX8_isRegion) dX10_walls_23 ml_X10_172 nv_X8_isRegion rfl rfl (kx_isRegion S B a hs tx u0 u1 u2 ck co hc hB s hs0) ?_
    rintro _ S' ⟨rfl, hc', hr'⟩
    refine x_if_eqB 40 dX10_walls_26 rfl (fun c26 => ?_) (fun c26 => ?_)
    · rw [hp0] at c26; cases c26
    · refine x_aload_n dX10_walls_29 rfl ?_
      refine x_getR dX10_walls_30 fl_X10_40 rfl ?_
      refine x_iload_n dX10_walls_33 rfl ?_
      refine x_v1 (N := mX8_wallsOf) dX10_walls_34 ml_X10_175 nv_X8_wallsOf rfl rfl (kx_wallsOf S' B a hs tx u0 u1 u2 ck co hc' hB s hs0) ?_
      rintro _ S2 ⟨rfl, h2, -⟩
      refine x_goto 46 dX10_walls_37 rfl ?_
      refine x_iretI dX10_walls_46 rfl ?_
      exact ⟨rfl, h2⟩
  · rw [Bool.eq_false_iff, ne_eq, in_R _ (by omega), show 2 ^ a.2.1 - 1 + 1 = 2 ^ a.2.1 by omega] at c8
    exact absurd (InR_in hs0) c8
