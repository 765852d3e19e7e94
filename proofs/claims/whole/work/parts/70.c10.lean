/-! THE CLASS: factors -/
theorem abs64 {z : Int} (h : -4611686018427387904 ≤ z ∧ z ≤ 4611686018427387904) : (if (0 : Int64) < i64 z then i64 z else -i64 z) = i64 ((z.natAbs : Nat) : Int) := by
  by_cases q : 0 < z
  · rw [if_pos (by rw [show (0 : Int64) = i64 0 by decide, i64_lt (by omega) (by omega)]; exact q)]
    congr 1
    omega
  · rw [if_neg (by rw [show (0 : Int64) = i64 0 by decide, i64_lt (by omega) (by omega)]; exact q), i64_neg]
    congr 1
    omega
theorem half_step {x y : Nat} (hy : 0 < y) (h : y ≤ x) : 2 * (y * (x % y)) ≤ x * y := by
  have h1 := Nat.div_add_mod x y
  have h2 := Nat.mod_lt x hy
  have h3 : 1 ≤ x / y := Nat.div_pos h hy
  have h4 : y * 1 ≤ y * (x / y) := Nat.mul_le_mul_left y h3
  have h5 : 2 * (x % y) ≤ x := by omega
  calc 2 * (y * (x % y)) = y * (2 * (x % y)) := by grind
    _ ≤ y * x := Nat.mul_le_mul_left y h5
    _ = x * y := Nat.mul_comm y x
set_option maxRecDepth 100000 in
set_option maxHeartbeats 4000000 in
theorem kx_cd_0 (S : amS) (a b : Int) : ∀ (P k x y : Nat) (z : Value), (y ≤ x ∧ k + P ≤ 99) → x * y < 2 ^ P → x ≤ 4611686018427387904 → y ≤ 4611686018427387904 → Nat.gcd x y = Int.gcd a b → X shX mX6_commonDivisor 15 [.long (i64 a), .null, .long (i64 b), .null, .long (i64 x), .null, .long (i64 y), .null, .int (nI k), z, .null] [] S (fun r S' => r = some (.long (i64 (Int.gcd a b))) ∧ S' = S) := by
  intro P
  induction P with
  | zero =>
    intro k x y z h1 h2 h3 h4 h5
    have hxy : x * y = 0 := by omega
    have hy : y = 0 := by
      by_cases e : y = 0
      · exact e
      · have := (Nat.mul_eq_zero.mp hxy).resolve_right e
        omega
    subst hy
    refine x_iload dX6_commonDivisor_15 rfl ?_
    refine x_bi _ bi_100 dX6_commonDivisor_17 ?_
    refine x_icmp_geN 50 dX6_commonDivisor_19 rfl (by omega) (by omega) (fun c19 => ?_) (fun c19 => ?_)
    · exact absurd c19 (by omega)
    · refine x_lload dX6_commonDivisor_22 rfl ?_
      refine x_lc _ lc_0 dX6_commonDivisor_24 ?_
      refine x_lcmp_eq 50 dX6_commonDivisor_25 dX6_commonDivisor_26 rfl (by omega) (by omega) (fun c26 => ?_) (fun c26 => ?_)
      · refine x_lload dX6_commonDivisor_50 rfl ?_
        refine x_lret dX6_commonDivisor_52 rfl ?_
        exact ⟨by rw [← h5, Nat.gcd_zero_right], rfl⟩
      · exact absurd rfl c26
  | succ P ih =>
    intro k x y z h1 h2 h3 h4 h5
    refine x_iload dX6_commonDivisor_15 rfl ?_
    refine x_bi _ bi_100 dX6_commonDivisor_17 ?_
    refine x_icmp_geN 50 dX6_commonDivisor_19 rfl (by omega) (by omega) (fun c19 => ?_) (fun c19 => ?_)
    · exact absurd c19 (by omega)
    · refine x_lload dX6_commonDivisor_22 rfl ?_
      refine x_lc _ lc_0 dX6_commonDivisor_24 ?_
      refine x_lcmp_eq 50 dX6_commonDivisor_25 dX6_commonDivisor_26 rfl (by omega) (by omega) (fun c26 => ?_) (fun c26 => ?_)
      · have hy0 : y = 0 := by omega
        subst hy0
        refine x_lload dX6_commonDivisor_50 rfl ?_
        refine x_lret dX6_commonDivisor_52 rfl ?_
        exact ⟨by rw [← h5, Nat.gcd_zero_right], rfl⟩
      · refine x_lload dX6_commonDivisor_29 rfl ?_
        refine x_lload dX6_commonDivisor_31 rfl ?_
        refine x_lremI dX6_commonDivisor_33 (by omega) (by omega) (by omega) ?_
        refine x_lstore dX6_commonDivisor_34 rfl ?_
        refine x_lload dX6_commonDivisor_36 rfl ?_
        refine x_lstore dX6_commonDivisor_38 rfl ?_
        refine x_lload dX6_commonDivisor_40 rfl ?_
        refine x_lstore dX6_commonDivisor_42 rfl ?_
        refine x_iincN dX6_commonDivisor_44 rfl rfl ?_
        refine x_goto 15 dX6_commonDivisor_47 rfl ?_
        have hy : 0 < y := by omega
        have hlt := Nat.mod_lt x hy
        rw [show ((x : Int).tmod (y : Int)) = ((x % y : Nat) : Int) from (Int.ofNat_tmod x y).symm]
        have hg : Nat.gcd y (x % y) = Int.gcd a b := by rw [← h5, Nat.gcd_comm x y, Nat.gcd_rec y x, Nat.gcd_comm]
        have q : y ≤ x := h1.1
        have hh := half_step hy q
        rw [Nat.pow_succ] at h2
        exact ih (k + 1) y (x % y) _ ⟨by omega, by omega⟩ (by omega) h4 (by omega) hg
set_option maxRecDepth 100000 in
set_option maxHeartbeats 4000000 in
theorem kx_cd (S : amS) (a b : Int) (ha : -1099511627776 * 2 ≤ a ∧ a ≤ 1099511627776 * 2) (hb : -1099511627776 * 2 ≤ b ∧ b ≤ 1099511627776 * 2) : X shX mX6_commonDivisor 0 [.long (i64 a), .null, .long (i64 b), .null, .null, .null, .null, .null, .null, .null, .null] [] S (fun r S' => r = some (.long (i64 (Int.gcd a b))) ∧ S' = S) := by
  have hprod : a.natAbs * b.natAbs < 2 ^ 90 := by
    have h1 : a.natAbs ≤ 2199023255552 := by omega
    have h2 : b.natAbs ≤ 2199023255552 := by omega
    have := Nat.mul_le_mul h1 h2
    omega
  have hg : Nat.gcd a.natAbs b.natAbs = Int.gcd a b := rfl
  refine x_lload_n dX6_commonDivisor_0 rfl ?_
  refine x_mabsl dX6_commonDivisor_1 ml_X6_119 rfl rfl ?_
  refine x_topl (abs64 (by omega)) ?_
  refine x_lstore dX6_commonDivisor_4 rfl ?_
  refine x_lload_n dX6_commonDivisor_6 rfl ?_
  refine x_mabsl dX6_commonDivisor_7 ml_X6_119 rfl rfl ?_
  refine x_topl (abs64 (by omega)) ?_
  refine x_lstore dX6_commonDivisor_10 rfl ?_
  refine x_ic _ ic_0 dX6_commonDivisor_12 ?_
  refine x_istore dX6_commonDivisor_13 rfl ?_
  by_cases q : b.natAbs ≤ a.natAbs
  · exact kx_cd_0 S a b 90 0 a.natAbs b.natAbs _ ⟨q, by omega⟩ hprod (by omega) (by omega) hg
  · refine x_iload dX6_commonDivisor_15 rfl ?_
    refine x_bi _ bi_100 dX6_commonDivisor_17 ?_
    refine x_icmp_geN 50 dX6_commonDivisor_19 rfl (by omega) (by omega) (fun c19 => ?_) (fun c19 => ?_)
    · exact absurd c19 (by omega)
    · refine x_lload dX6_commonDivisor_22 rfl ?_
      refine x_lc _ lc_0 dX6_commonDivisor_24 ?_
      refine x_lcmp_eq 50 dX6_commonDivisor_25 dX6_commonDivisor_26 rfl (by omega) (by omega) (fun c26 => ?_) (fun c26 => ?_)
      · have hy0 : b.natAbs = 0 := by omega
        rw [hy0] at hg
        refine x_lload dX6_commonDivisor_50 rfl ?_
        refine x_lret dX6_commonDivisor_52 rfl ?_
        exact ⟨by rw [← hg, Nat.gcd_zero_right], rfl⟩
      · refine x_lload dX6_commonDivisor_29 rfl ?_
        refine x_lload dX6_commonDivisor_31 rfl ?_
        refine x_lremI dX6_commonDivisor_33 (by omega) (by omega) (by omega) ?_
        refine x_lstore dX6_commonDivisor_34 rfl ?_
        refine x_lload dX6_commonDivisor_36 rfl ?_
        refine x_lstore dX6_commonDivisor_38 rfl ?_
        refine x_lload dX6_commonDivisor_40 rfl ?_
        refine x_lstore dX6_commonDivisor_42 rfl ?_
        refine x_iincN dX6_commonDivisor_44 rfl rfl ?_
        refine x_goto 15 dX6_commonDivisor_47 rfl ?_
        rw [show ((a.natAbs : Nat) : Int).tmod ((b.natAbs : Nat) : Int) = ((a.natAbs % b.natAbs : Nat) : Int) from (Int.ofNat_tmod _ _).symm, Nat.mod_eq_of_lt (by omega)]
        exact kx_cd_0 S a b 90 1 b.natAbs a.natAbs _ ⟨by omega, by omega⟩ (by rw [Nat.mul_comm]; exact hprod) (by omega) (by omega) (by rw [Nat.gcd_comm]; exact hg)
theorem gcdR_pcb (c : Nat) (z : Nat → Int) : ∀ N, gcdR (fun i => if c.testBit i then z (pcb c i) else 0) N = gcdR z (pcb c N) := by
  intro N
  induction N with
  | zero => rfl
  | succ N ih =>
    rw [gcdR, ih, pcb]
    cases e : c.testBit N with
    | false => simp
    | true => simp [gcdR]
theorem rank_circ {d N : Nat} {v : Nat → Row} (hA : Arr d N v) {c : Nat} (hc : c < 2 ^ N) (h : rgB (rkV v) c N = true) : rkV v c + 1 = pc9 c := by
  have hp := pow9 hA.2.2.1
  obtain ⟨h1, h2⟩ := (rgB_iff N).mp h
  have h3 := (rg_size hA hc h).2
  obtain ⟨i, hi, hb⟩ := pcb_pos (s := c) (N := 9) (by rw [pcb_pc9 9 (by omega) c (by omega)]; omega)
  have h4 := h2 i (tb_lt hc hb) hb
  have h5 := pc9_less c (by omega) i hi hb
  have h6 := rkV_mono (v := v) (x := less c i) (y := c) (fun j _ hj => less_sub c i j hj)
  omega
theorem bnd4 : bnd 4 ≤ 1099511627776 * 2 := by decide
/-- what the last row's trace tells -/
theorem trace_fac {d N n : Nat} {v : Nat → Row} (hA : Arr d N v) {c : Nat} (hc : c < 2 ^ N) (h : rgB (rkV v) c N = true) (hn : n = pcb c N) {u : Nat → Row} (hT : TrI (fun a e => if e < d then rwf (rowsB v c N) a e else if e = d + a then 1 else 0) u n (d + n)) (hz : ∀ a e, rkC 0 (cl d d) (act (fun a e => if e < d then rwf (rowsB v c N) a e else if e = d + a then 1 else 0) 0 n) ≤ a → a < n → e < d → u a e = 0) :
    ∃ l, (l < 9 ∧ c.testBit l = true ∧ pcb c l = 0) ∧ u (n - 1) d ≠ 0 ∧ ∀ i, i < 9 → ∀ dd : Int, dd = (if u (n - 1) d < 0 then -(gcdR (fun k => u (n - 1) (d + k)) n : Int) else gcdR (fun k => u (n - 1) (d + k)) n) → dd ≠ 0 ∧ facB v c i = (if c.testBit i then (u (n - 1) (d + pcb c i)).tdiv dd else 0) := by
  have hp := pow9 hA.2.2.1
  have h9 := hA.2.2.1
  have hC := (ring_circ h9 hc).mp h
  have hsz := (rg_size hA hc h).2
  have hpn : n = pc9 c := by rw [hn, pcb_pc9 N (by omega) c hc]
  have hp9 : pcb c 9 = n := by rw [pcb_pc9 9 (by omega) c (by omega), hpn]
  have hrow : rowsB v c N = rowsB v c 9 := by
    obtain ⟨k, hk⟩ : ∃ k, 9 = N + k := ⟨9 - N, by omega⟩
    rw [hk, rowsB_hi v hc k]
  have hrk : rkC 0 (cl d d) (act (fun a e => if e < d then rwf (rowsB v c N) a e else if e = d + a then 1 else 0) 0 n) = n - 1 := by
    rw [rkC_cong 0 dom0 (cl d d) (rwf (rowsB v c N)) _ n (fun a j ha hj => by
      show 0 ∣ (if j < d then rwf (rowsB v c N) a j else if j = d + a then 1 else 0) - _
      rw [if_pos (cl_mem d d (Nat.le_refl _) j hj), Int.sub_self]
      exact Int.dvd_refl 0), hn, rank_load hA hc]
    have := rank_circ hA hc h
    rw [pcb_pc9 N (by omega) c hc]
    omega
  rw [hrk] at hz
  obtain ⟨T, hT1, hT2⟩ := hT
  have htr : ∀ k, k < n → u (n - 1) (d + k) = T (n - 1) k := by
    intro k hk
    rw [hT1 (n - 1) (d + k) (by omega) (by omega)]
    have : sm (fun i => T (n - 1) i * (if d + k < d then rwf (rowsB v c N) i (d + k) else if d + k = d + i then 1 else 0)) n = sm (fun i => (if i = k then 1 else 0) * T (n - 1) i) n := sm_ext (fun i hi => by
      rw [if_neg (by omega)]
      by_cases e : i = k
      · rw [if_pos e, if_pos (by omega)]; omega
      · rw [if_neg e, if_neg (by omega)]; omega)
    rw [this, sm_pick _ k n hk]
  have hker : ∀ j, j < 4 → sm (fun k => u (n - 1) (d + k) * rwf (rowsB v c 9) k j) (pcb c 9) = 0 := by
    intro j hj
    rw [hp9]
    by_cases hjd : j < d
    · have h1 := hT1 (n - 1) j (by omega) (by omega)
      rw [hz (n - 1) j (Nat.le_refl _) (by omega) hjd] at h1
      rw [h1]
      exact sm_ext (fun k hk => by
        show _ = T (n - 1) k * (if j < d then rwf (rowsB v c N) k j else if j = d + k then 1 else 0)
        rw [htr k hk, if_pos hjd, hrow])
    · have : sm (fun k => u (n - 1) (d + k) * rwf (rowsB v c 9) k j) n = sm (fun _ => 0) n := sm_ext (fun k hk => by
        have hk2 : k < (rowsB v c 9).length := by rw [rowsB_pcb, hp9]; exact hk
        obtain ⟨a, -, -, e⟩ := rowsB_mem.mp (rwf_mem hk2)
        rw [e, hA.2.2.2.2.1 a j (by omega), Int.mul_zero])
      rw [this, sm_zero]
  have hD := hC.dp hker
  have hnz : ∀ k, k < n → u (n - 1) (d + k) ≠ 0 := by
    rcases hC.ck (fun k => u (n - 1) (d + k)) hker with z | z
    · exfalso
      rw [hp9] at z
      have := hT2 (fun a => if a = n - 1 then 1 else 0) (fun k hk => by
        rw [sm_pick (fun a => T a k) (n - 1) n (by omega), ← htr k hk]
        exact z k hk) (n - 1) (by omega)
      simp at this
    · rw [hp9] at z
      exact z
  obtain ⟨m, hm1, hm2⟩ := pcb_pos (s := c) (N := 9) (by rw [hp9]; omega)
  obtain ⟨l, hl1, hl2, hl3⟩ := low_ex hm1 hm2
  have hl0 : pcb c l = 0 := by
    have : ∀ k, k ≤ l → pcb c k = 0 := by
      intro k
      induction k with
      | zero => intro _; rfl
      | succ k ih =>
        intro hk
        rw [pcb, ih (by omega), hl3 k (by omega)]
        rfl
    exact this l (Nat.le_refl _)
  have hxl : (if c.testBit l then u (n - 1) (d + pcb c l) else 0) = u (n - 1) d := by rw [if_pos hl2, hl0]; rfl
  refine ⟨l, ⟨hl1, hl2, hl0⟩, by have := hnz 0 (by omega); exact this, fun i hi dd hdd => ?_⟩
  have hgg := gcdR_pcb c (fun k => u (n - 1) (d + k)) 9
  rw [hp9] at hgg
  obtain ⟨g1, g2, g3⟩ := fac_of hC hD hl1 hl2 hl3 (by
    show (if c.testBit l then u (n - 1) (d + pcb c l) else 0) ≠ 0
    rw [hxl]
    exact hnz 0 (by omega)) (d := dd) (by
    rw [hdd]
    show _ = (if (if c.testBit l then u (n - 1) (d + pcb c l) else 0) < 0 then _ else _)
    rw [hxl, hgg])
  refine ⟨g1, ?_⟩
  have hf := (facB_ok hC (fun i j _ => hA.2.2.2.1 i j)).1
  rw [fac_uni hC hf g3 i hi]
  simp only [if_pos hi]
  cases e : c.testBit i with
  | false => simp
  | true =>
    have h2 := g2 i hi
    simp only [e, if_true] at h2 ⊢
    rw [Int.tdiv_eq_ediv_of_dvd h2]
set_option maxRecDepth 100000 in
set_option maxHeartbeats 4000000 in
theorem kx_fo_g (S : amS) (c n d : Nat) (hc9 : c < 512) (hn : n = pc9 c) (h5 : n ≤ 5) (hd : d ≤ 4) (hR : S.1 20 1 = nI n) (hD : S.1 20 2 = nI d) (z : Nat → Int) (hz : ∀ k, k < n → S.2.2.2 21 ((n - 1) * 9 + d + k) = i64 (z k)) (hzb : ∀ k, k < n → -1099511627776 * 2 ≤ z k ∧ z k ≤ 1099511627776 * 2) (Q : Option Value → amS → Prop) (hq : X shX mX6_factorsOf 62 [.ref 19, .int (nI c), .long (i64 (gcdR z n)), .null, .int (nI n), .null] [] S Q) : ∀ (e k : Nat), k + e = n → X shX mX6_factorsOf 33 [.ref 19, .int (nI c), .long (i64 (gcdR z k)), .null, .int (nI k), .null] [] S Q := by
  subst hn
  intro e
  induction e with
  | zero =>
    intro k h1
    obtain rfl : k = pc9 c := by omega
    refine x_iload dX6_factorsOf_33 rfl ?_
    refine x_iload_n dX6_factorsOf_35 rfl ?_
    refine x_s1d (N := mJ6_bitCount_0f7a4) dX6_factorsOf_36 ml_X6_71 ns_J6_bitCount_0f7a4 rfl (kx_bc S c hc9) ?_
    refine x_icmp_geN 62 dX6_factorsOf_39 rfl (by omega) (by omega) (fun c39 => ?_) (fun c39 => ?_)
    · exact hq
    · exact absurd c39 (by omega)
  | succ e ih =>
    intro k h1
    have hb := hzb k (by omega)
    have hg := gcdR_le z (B := 1099511627776 * 2) (by omega) k (fun j hj => ⟨by have := hzb j (by omega); omega, (hzb j (by omega)).2⟩)
    refine x_iload dX6_factorsOf_33 rfl ?_
    refine x_iload_n dX6_factorsOf_35 rfl ?_
    refine x_s1d (N := mJ6_bitCount_0f7a4) dX6_factorsOf_36 ml_X6_71 ns_J6_bitCount_0f7a4 rfl (kx_bc S c hc9) ?_
    refine x_icmp_geN 62 dX6_factorsOf_39 rfl (by omega) (by omega) (fun c39 => ?_) (fun c39 => ?_)
    · exact absurd c39 (by omega)
    · refine x_lload_n dX6_factorsOf_42 rfl ?_
      refine x_aload_n dX6_factorsOf_43 rfl ?_
      refine x_getR dX6_factorsOf_44 fl_X6_12 rfl ?_
      refine x_iload dX6_factorsOf_47 rfl ?_
      refine x_v1d (N := mX5_traceInLast) dX6_factorsOf_49 ml_X6_105 nv_X5_traceInLast rfl rfl (kM_til S (pc9 c) d 0 k hd h5 hR hD (by omega) _ (hz k (by omega))) ?_
      refine x_s2d (N := mX6_commonDivisor) dX6_factorsOf_52 ml_X6_109 ns_X6_commonDivisor rfl (kx_cd S (gcdR z k) (z k) ⟨by omega, by omega⟩ hb) ?_
      refine x_lstore_n dX6_factorsOf_55 rfl ?_
      refine x_iincN dX6_factorsOf_56 rfl rfl ?_
      refine x_goto 33 dX6_factorsOf_59 rfl ?_
      exact ih (k + 1) (by omega)
set_option maxRecDepth 100000 in
set_option maxHeartbeats 4000000 in
theorem kx_fo_l (S : amS) (c n d N : Nat) (hN : N ≤ 9) (hc : c < 2 ^ N) (hn : n = pcb c N) (h5 : n ≤ 5) (hd : d ≤ 4) (m2 : S.1 1 2 = nI N) (hR : S.1 20 1 = nI n) (hD : S.1 20 2 = nI d) (z : Nat → Int) (hz : ∀ k, k < n → S.2.2.2 21 ((n - 1) * 9 + d + k) = i64 (z k)) (hzb : ∀ k, k < n → -1099511627776 * 2 ≤ z k ∧ z k ≤ 1099511627776 * 2) (dd : Int) (hdd : dd ≠ 0) (hdb : -1099511627776 * 2 ≤ dd ∧ dd ≤ 1099511627776 * 2) : ∀ (e i : Nat) (g : Nat → Int32), i + e = N → (∀ j, j < 9 → g j = if j < i then i32 ((if c.testBit j then (z (pcb c j)).tdiv dd else 0)) else nI 0) → X shX mX6_factorsOf 92 [.ref 19, .int (nI c), .long (i64 dd), .null, .int (nI (pcb c i)), .int (nI i)] [] (sA S 28 g) (fun r S' => r = some (.ref 28) ∧ ∃ g, S' = sA S 28 g ∧ ∀ i, i < 9 → g i = i32 (if c.testBit i then (z (pcb c i)).tdiv dd else 0)) := by
  have h512 := pow9 hN
  intro e
  induction e with
  | zero =>
    intro i g h1 h2
    obtain rfl : i = N := by omega
    refine x_iload dX6_factorsOf_92 rfl ?_
    refine x_aload_n dX6_factorsOf_94 rfl ?_
    refine x_getR dX6_factorsOf_95 fl_X6_45 rfl ?_
    refine x_getIV dX6_factorsOf_98 fl_X6_83 rfl (m2) ?_
    refine x_icmp_geN 147 dX6_factorsOf_101 rfl (by omega) (by omega) (fun c101 => ?_) (fun c101 => ?_)
    · refine x_aload_n dX6_factorsOf_147 rfl ?_
      refine x_getR dX6_factorsOf_148 fl_X6_38 rfl ?_
      refine x_aret dX6_factorsOf_151 rfl (by simp) ?_
      refine ⟨rfl, g, rfl, fun j hj => ?_⟩
      rw [h2 j hj]
      by_cases q : j < i
      · rw [if_pos q]
      · rw [if_neg q, tb_hi hc (by omega)]; rfl
    · exact absurd c101 (by omega)
  | succ e ih =>
    intro i g h1 h2
    have hle : c / 2 ^ i &&& 1 ≤ 1 := Nat.and_le_right
    have hpm := pcb_mono c (show i + 1 ≤ N by omega)
    refine x_iload dX6_factorsOf_92 rfl ?_
    refine x_aload_n dX6_factorsOf_94 rfl ?_
    refine x_getR dX6_factorsOf_95 fl_X6_45 rfl ?_
    refine x_getIV dX6_factorsOf_98 fl_X6_83 rfl (m2) ?_
    refine x_icmp_geN 147 dX6_factorsOf_101 rfl (by omega) (by omega) (fun c101 => ?_) (fun c101 => ?_)
    · exact absurd c101 (by omega)
    · refine x_iload_n dX6_factorsOf_104 rfl ?_
      refine x_iload dX6_factorsOf_105 rfl ?_
      refine x_ishrN dX6_factorsOf_107 (by omega) (by omega) ?_
      refine x_ic _ ic_1 dX6_factorsOf_108 ?_
      refine x_iandN dX6_factorsOf_109 ?_
      refine x_if_eqN 141 dX6_factorsOf_110 rfl (by omega) (fun c110 => ?_) (fun c110 => ?_)
      · have hb := and1_eq c110
        refine x_iincN dX6_factorsOf_141 rfl rfl ?_
        refine x_goto 92 dX6_factorsOf_144 rfl ?_
        have e1 : pcb c (i + 1) = pcb c i := by rw [pcb, hb]; rfl
        have ih2 := fun g => ih (i + 1) g (by omega)
        rw [e1] at ih2
        refine ih2 _ (fun j hj => ?_)
        by_cases q : j = i
        · subst q
          rw [h2 j hj, if_neg (show ¬ j < j by omega), if_pos (show j < j + 1 by omega), hb]; rfl
        · rw [h2 j hj]
          by_cases q2 : j < i
          · rw [if_pos q2, if_pos (show j < i + 1 by omega)]
          · rw [if_neg q2, if_neg (show ¬ j < i + 1 by omega)]
      · have hb := and1_ne c110
        have e1 : pcb c (i + 1) = pcb c i + 1 := by rw [pcb, hb]; rfl
        have hzk := hzb (pcb c i) (by omega)
        have htd := tdiv_bd (z (pcb c i)) dd
        refine x_lload_n dX6_factorsOf_113 rfl ?_
        refine x_lc _ lc_0 dX6_factorsOf_114 ?_
        refine x_lcmp_eq 141 dX6_factorsOf_115 dX6_factorsOf_116 rfl (by omega) (by omega) (fun c116 => ?_) (fun c116 => ?_)
        · exact absurd c116 hdd
        · refine x_aload_n dX6_factorsOf_119 rfl ?_
          refine x_getR dX6_factorsOf_120 fl_X6_38 rfl ?_
          refine x_iload dX6_factorsOf_123 rfl ?_
          refine x_aload_n dX6_factorsOf_125 rfl ?_
          refine x_getR dX6_factorsOf_126 fl_X6_12 rfl ?_
          refine x_iload dX6_factorsOf_129 rfl ?_
          refine x_v1d (N := mX5_traceInLast) dX6_factorsOf_131 ml_X6_105 nv_X5_traceInLast rfl rfl (kM_til (sA S 28 g) n d 0 (pcb c i) hd h5 hR hD (by omega) _ (hz (pcb c i) (by omega))) ?_
          refine x_lload_n dX6_factorsOf_134 rfl ?_
          refine x_ldivI dX6_factorsOf_135 (by omega) (by omega) (hdd) ?_
          refine x_l2i dX6_factorsOf_136 ?_
          refine x_top (l2i_i (by omega) (by omega)) ?_
          refine x_iastN dX6_factorsOf_137 rfl rfl (by omega) ?_
          refine x_iincN dX6_factorsOf_138 rfl rfl ?_
          refine x_iincN dX6_factorsOf_141 rfl rfl ?_
          refine x_goto 92 dX6_factorsOf_144 rfl ?_
          rw [sA_sA, sA_at]
          have ih2 := fun g => ih (i + 1) g (by omega)
          rw [e1] at ih2
          refine ih2 _ (fun j hj => ?_)
          by_cases q : j = i
          · subst q
            rw [upd_s, if_pos (show j < j + 1 by omega), hb]; rfl
          · rw [upd_n _ _ q, h2 j hj]
            by_cases q2 : j < i
            · rw [if_pos q2, if_pos (show j < i + 1 by omega)]
            · rw [if_neg q2, if_neg (show ¬ j < i + 1 by omega)]
set_option maxRecDepth 100000 in
set_option maxHeartbeats 4000000 in
theorem kx_factorsOf (S : amS) (a : Ar) (hA : Arr a.1 a.2.1 a.2.2) (ho : aObj S 1 2 a) (c : Nat) (hc : c < 2 ^ a.2.1) (hr : rgB (rkV a.2.2) c a.2.1 = true) : X shX mX6_factorsOf 0 [.ref 19, .int (nI c), .null, .null, .null, .null] [] S (fun r S' => r = some (.ref 28) ∧ FO [20] [28] S S' ∧ ∀ i, i < 9 → S'.2.1 28 i = i32 (facB a.2.2 c i)) := by
  obtain ⟨a1, a2, a3, a4, a5, a6, a7⟩ := id hA
  obtain ⟨m1, m2, m3⟩ := id ho
  have h512 := pow9 a3
  have hsz := rg_size hA hc hr
  have hpc := pcb_pc9 a.2.1 (by omega) c hc
  have h5 : pcb c a.2.1 ≤ 5 := by omega
  refine x_aload_n dX6_factorsOf_0 rfl ?_
  refine x_getR dX6_factorsOf_1 fl_X6_12 rfl ?_
  refine x_aload_n dX6_factorsOf_4 rfl ?_
  refine x_getR dX6_factorsOf_5 fl_X6_45 rfl ?_
  refine x_iload_n dX6_factorsOf_8 rfl ?_
  refine x_v2 (N := mX5_load) dX6_factorsOf_9 ml_X6_92 nv_X5_load rfl rfl (kMA_load S c a.1 a.2.1 a3 hc a.2.2 a4 a2 h5 m1 m2 m3) ?_
  rintro _ S1 ⟨rfl, f1, ⟨g1, g2, g3⟩, hM⟩
  refine x_aload_n dX6_factorsOf_12 rfl ?_
  refine x_getR dX6_factorsOf_13 fl_X6_12 rfl ?_
  refine x_v0 (N := mX5_trace) dX6_factorsOf_16 ml_X6_102 nv_X5_trace rfl rfl (kM_trace S1 (pcb c a.2.1) a.1 ⟨a1, a2⟩ h5 g1 g2 _ hM) ?_
  rintro _ S2 ⟨rfl, f2, ⟨k1, k2, k3⟩, hM2⟩
  refine x_aload_n dX6_factorsOf_19 rfl ?_
  refine x_getR dX6_factorsOf_20 fl_X6_12 rfl ?_
  refine x_ic _ ic_0 dX6_factorsOf_23 ?_
  refine x_v1 (N := mX5_reduce) dX6_factorsOf_24 ml_X6_96 nv_X5_reduce rfl rfl (kMA_reduce S2 (pcb c a.2.1) (a.1 + pcb c a.2.1) a.1 ⟨a1, a2⟩ (by omega) h5 (by omega) k1 k3 k2 _ hM2) ?_
  rintro _ S3 ⟨rfl, f, u, rfl, hu, hTr, hzr⟩
  obtain ⟨l, ⟨l1, l2, l3⟩, hu0, hfc⟩ := trace_fac hA hc hr rfl hTr hzr
  have e2 : (sL S2 21 f).1 1 2 = nI a.2.1 := by
    show S2.1 1 2 = _
    rw [f2.1 1 (by decide), f1.1 1 (by decide)]; exact m2
  have hb4 := bnd4
  have hzb : ∀ k, k < pcb c a.2.1 → -1099511627776 * 2 ≤ u (pcb c a.2.1 - 1) (a.1 + k) ∧ u (pcb c a.2.1 - 1) (a.1 + k) ≤ 1099511627776 * 2 := fun k hk => by
    have := (hu (pcb c a.2.1 - 1) (a.1 + k) (by omega) (by omega)).2
    omega
  have hzz : ∀ k, k < pcb c a.2.1 → (sL S2 21 f).2.2.2 21 ((pcb c a.2.1 - 1) * 9 + a.1 + k) = i64 (u (pcb c a.2.1 - 1) (a.1 + k)) := fun k hk => by
    rw [sL_at, Nat.add_assoc]
    exact (hu (pcb c a.2.1 - 1) (a.1 + k) (by omega) (by omega)).1
  have hgl := gcdR_le (fun k => u (pcb c a.2.1 - 1) (a.1 + k)) (B := 1099511627776 * 2) (by omega) (pcb c a.2.1) (fun j hj => ⟨by have := hzb j hj; omega, (hzb j hj).2⟩)
  have hz0 := hzb 0 (by omega)
  refine x_pop dX6_factorsOf_27 rfl ?_
  refine x_lc _ lc_0 dX6_factorsOf_28 ?_
  refine x_lstore_n dX6_factorsOf_29 rfl ?_
  refine x_ic _ ic_0 dX6_factorsOf_30 ?_
  refine x_istore dX6_factorsOf_31 rfl ?_
  refine kx_fo_g (sL S2 21 f) c (pcb c a.2.1) a.1 (by omega) hpc h5 a2 k1 k2 (fun k => u (pcb c a.2.1 - 1) (a.1 + k)) hzz hzb _ ?_ (pcb c a.2.1) 0 (by omega)
  refine x_aload_n dX6_factorsOf_62 rfl ?_
  refine x_getR dX6_factorsOf_63 fl_X6_12 rfl ?_
  refine x_ic _ ic_0 dX6_factorsOf_66 ?_
  refine x_v1d (N := mX5_traceInLast) dX6_factorsOf_67 ml_X6_105 nv_X5_traceInLast rfl rfl (kM_til (sL S2 21 f) (pcb c a.2.1) a.1 0 0 a2 h5 k1 k2 (by omega) _ (hzz 0 (by omega))) ?_
  refine x_lc _ lc_0 dX6_factorsOf_70 ?_
  refine x_lcmp_ge 78 dX6_factorsOf_71 dX6_factorsOf_72 rfl (by omega) (by omega) (fun c72 => ?_) (fun c72 => ?_)
  · refine x_aload_n dX6_factorsOf_78 rfl ?_
    refine x_getR dX6_factorsOf_79 fl_X6_38 rfl ?_
    refine x_ic _ ic_0 dX6_factorsOf_82 ?_
    refine x_s2 (N := mJ7_fill_53178) dX6_factorsOf_83 ml_X6_113 ns_J7_fill_53178 rfl (kx_fill_28 _) ?_
    rintro _ _ ⟨rfl, g, rfl, hg⟩
    refine x_ic _ ic_0 dX6_factorsOf_86 ?_
    refine x_istore dX6_factorsOf_87 rfl ?_
    refine x_ic _ ic_0 dX6_factorsOf_89 ?_
    refine x_istore dX6_factorsOf_90 rfl ?_
    refine x_mono ?_ (kx_fo_l (sL S2 21 f) c (pcb c a.2.1) a.1 a.2.1 a3 hc rfl h5 a2 e2 k1 k2 (fun k => u (pcb c a.2.1 - 1) (a.1 + k)) hzz hzb (gcdR (fun k => u (pcb c a.2.1 - 1) (a.1 + k)) (pcb c a.2.1)) (hfc 0 (by omega) _ (by rw [if_neg (by simp at c72; omega)])).1 ⟨by omega, by omega⟩ a.2.1 0 g (by omega) (fun j hj => by rw [if_neg (Nat.not_lt_zero j)]; exact hg j hj))
    rintro _ S' ⟨rfl, g2, rfl, hg2⟩
    refine ⟨rfl, ((f1.tr f2).mono (by decide) (by decide)).sA _ (by decide), fun i hi => ?_⟩
    rw [sA_at, hg2 i hi, (hfc i hi _ (by rw [if_neg (by simp at c72; omega)])).2]
  · refine x_lload_n dX6_factorsOf_75 rfl ?_
    refine x_lnegI dX6_factorsOf_76 ?_
    refine x_lstore_n dX6_factorsOf_77 rfl ?_
    refine x_aload_n dX6_factorsOf_78 rfl ?_
    refine x_getR dX6_factorsOf_79 fl_X6_38 rfl ?_
    refine x_ic _ ic_0 dX6_factorsOf_82 ?_
    refine x_s2 (N := mJ7_fill_53178) dX6_factorsOf_83 ml_X6_113 ns_J7_fill_53178 rfl (kx_fill_28 _) ?_
    rintro _ _ ⟨rfl, g, rfl, hg⟩
    refine x_ic _ ic_0 dX6_factorsOf_86 ?_
    refine x_istore dX6_factorsOf_87 rfl ?_
    refine x_ic _ ic_0 dX6_factorsOf_89 ?_
    refine x_istore dX6_factorsOf_90 rfl ?_
    refine x_mono ?_ (kx_fo_l (sL S2 21 f) c (pcb c a.2.1) a.1 a.2.1 a3 hc rfl h5 a2 e2 k1 k2 (fun k => u (pcb c a.2.1 - 1) (a.1 + k)) hzz hzb (-(gcdR (fun k => u (pcb c a.2.1 - 1) (a.1 + k)) (pcb c a.2.1) : Int)) (hfc 0 (by omega) _ (by rw [if_pos (by simp at c72; omega)])).1 ⟨by omega, by omega⟩ a.2.1 0 g (by omega) (fun j hj => by rw [if_neg (Nat.not_lt_zero j)]; exact hg j hj))
    rintro _ S' ⟨rfl, g2, rfl, hg2⟩
    refine ⟨rfl, ((f1.tr f2).mono (by decide) (by decide)).sA _ (by decide), fun i hi => ?_⟩
    rw [sA_at, hg2 i hi, (hfc i hi _ (by rw [if_pos (by simp at c72; omega)])).2]
set_option maxRecDepth 100000 in
set_option maxHeartbeats 4000000 in
theorem kx_factor_bad (S : amS) (B : Nat) (a : Ar) (hs : List Ar) (tx : List Nat) (u0 u1 u2 ck co : Int32) (hc : xCore S B a hs tx u0 u1 u2 ck co) (x y : Int32) (hxy : ¬ (¬ x < 0 ∧ InR y a.2.1)) : X shX mX10_factor 0 [.ref 0, .int x, .int y, .null] [] S (fun r S' => r = some (.int (i32 (-2))) ∧ xCore S' B a hs tx (u0 + nI 1) u1 u2 ck co) := by
  obtain ⟨⟨hA, ho⟩, hrest, hV⟩ := id hc
  obtain ⟨a1, a2, a3, a4, a5, a6, a7⟩ := id hA
  obtain ⟨m1, m2, m3⟩ := id ho
  have h512 := pow9 a3
  have hpos := Nat.two_pow_pos a.2.1
  have hr9 : ∀ t, t < 2 ^ a.2.1 → rkV a.2.2 t ≤ 9 := fun t ht => Nat.le_trans (rkV_le (by omega)) (pc9_le t (by omega))
  refine x_iload_n dX10_factor_0 rfl ?_
  refine x_if_lt 15 dX10_factor_1 rfl (fun c1 => ?_) (fun c1 => ?_)
  · refine x_aload_n dX10_factor_15 rfl ?_
    refine x_bi _ bi_m2 dX10_factor_16 ?_
    refine x_v1 (N := mX10_refused) dX10_factor_18 ml_X10_120 nv_X10_refused rfl rfl (kx_bad S B a hs tx u0 u1 u2 ck co hc) ?_
    rintro _ S' ⟨rfl, h'⟩
    refine x_iretI dX10_factor_21 rfl ?_
    exact ⟨rfl, h'⟩
  · refine x_aload_n dX10_factor_4 rfl ?_
    refine x_getR dX10_factor_5 fl_X10_17 rfl ?_
    refine x_iload_n dX10_factor_8 rfl ?_
    refine x_v1d (N := mX1_has) dX10_factor_9 ml_X10_113 nv_X1_has rfl rfl (kx_has S a.2.1 a3 m2 _) ?_
    refine x_if_neB 22 dX10_factor_12 rfl (fun c12 => ?_) (fun c12 => ?_)
    · exact absurd ⟨c1, (in_L _ (by omega)).mp c12⟩ hxy
    · refine x_aload_n dX10_factor_15 rfl ?_
      refine x_bi _ bi_m2 dX10_factor_16 ?_
      refine x_v1 (N := mX10_refused) dX10_factor_18 ml_X10_120 nv_X10_refused rfl rfl (kx_bad S B a hs tx u0 u1 u2 ck co hc) ?_
      rintro _ S' ⟨rfl, h'⟩
      refine x_iretI dX10_factor_21 rfl ?_
      exact ⟨rfl, h'⟩
set_option maxRecDepth 100000 in
set_option maxHeartbeats 4000000 in
theorem kx_factor_no (S : amS) (B : Nat) (a : Ar) (hs : List Ar) (tx : List Nat) (u0 u1 u2 ck co : Int32) (hc : xCore S B a hs tx u0 u1 u2 ck co) (hB : B < 2147483648) (k i : Nat) (hk : k < 2 ^ 31) (hi : i < a.2.1) (hkl : (ringsB a.2.2 a.2.1 5).length ≤ k) : X shX mX10_factor 0 [.ref 0, .int (nI k), .int (nI i), .null] [] S (fun r S' => r = some (.int (i32 (-3))) ∧ xCore S' B a hs tx u0 (u1 + nI 1) u2 ck co) := by
  obtain ⟨⟨hA, ho⟩, hrest, hV⟩ := id hc
  obtain ⟨a1, a2, a3, a4, a5, a6, a7⟩ := id hA
  obtain ⟨m1, m2, m3⟩ := id ho
  have h512 := pow9 a3
  have hpos := Nat.two_pow_pos a.2.1
  have hr9 : ∀ t, t < 2 ^ a.2.1 → rkV a.2.2 t ≤ 9 := fun t ht => Nat.le_trans (rkV_le (by omega)) (pc9_le t (by omega))
  have h126 := rings_126 hA 5
  refine x_iload_n dX10_factor_0 rfl ?_
  refine x_topI ?_
  refine x_if_ltI 15 dX10_factor_1 rfl (by omega) (fun c1 => ?_) (fun c1 => ?_)
  · exact absurd c1 (by omega)
  · refine x_aload_n dX10_factor_4 rfl ?_
    refine x_getR dX10_factor_5 fl_X10_17 rfl ?_
    refine x_iload_n dX10_factor_8 rfl ?_
    refine x_v1d (N := mX1_has) dX10_factor_9 ml_X10_113 nv_X1_has rfl rfl (kx_has S a.2.1 a3 m2 _) ?_
    refine x_if_neB 22 dX10_factor_12 rfl (fun c12 => ?_) (fun c12 => ?_)
    · refine x_aload_n dX10_factor_22 rfl ?_
      refine x_getR dX10_factor_23 fl_X10_21 rfl ?_
      refine x_v0 (N := mX6_circuits) dX10_factor_26 ml_X10_147 nv_X6_circuits rfl rfl (kx_circuits S B a hs tx u0 u1 u2 ck co hc hB) ?_
      rintro _ S' ⟨rfl, hc', hl⟩
      refine x_astore_n dX10_factor_29 rfl ?_
      refine x_iload_n dX10_factor_30 rfl ?_
      refine x_aload_n dX10_factor_31 rfl ?_
      refine x_getIV dX10_factor_32 fl_X10_151 rfl (hl.2.2.1) ?_
      refine x_icmp_ltN 45 dX10_factor_35 rfl (by omega) (by omega) (fun c35 => ?_) (fun c35 => ?_)
      · exact absurd c35 (by omega)
      · refine x_aload_n dX10_factor_38 rfl ?_
        refine x_bi _ bi_m3 dX10_factor_39 ?_
        refine x_v1 (N := mX10_refused) dX10_factor_41 ml_X10_120 nv_X10_refused rfl rfl (kx_no S' B a hs tx u0 u1 u2 ck co hc') ?_
        rintro _ S2 ⟨rfl, h2⟩
        refine x_iretI dX10_factor_44 rfl ?_
        exact ⟨rfl, h2⟩
    · rw [(in_L _ (by omega)).mpr (InR_in hi)] at c12; cases c12
set_option maxRecDepth 100000 in
set_option maxHeartbeats 4000000 in
theorem kx_factor_ok (S : amS) (B : Nat) (a : Ar) (hs : List Ar) (tx : List Nat) (u0 u1 u2 ck co : Int32) (hc : xCore S B a hs tx u0 u1 u2 ck co) (hB : B < 2147483648) (k i c : Nat) (hk : k < 2 ^ 31) (hi : i < a.2.1) (hkc : (ringsB a.2.2 a.2.1 5)[k]? = some c) : X shX mX10_factor 0 [.ref 0, .int (nI k), .int (nI i), .null] [] S (fun r S' => r = some (.int (i32 (facB a.2.2 c i) + nI 10000)) ∧ xCore S' B a hs tx u0 u1 u2 ck co) := by
  obtain ⟨⟨hA, ho⟩, hrest, hV⟩ := id hc
  obtain ⟨a1, a2, a3, a4, a5, a6, a7⟩ := id hA
  obtain ⟨m1, m2, m3⟩ := id ho
  have h512 := pow9 a3
  have hpos := Nat.two_pow_pos a.2.1
  have hr9 : ∀ t, t < 2 ^ a.2.1 → rkV a.2.2 t ≤ 9 := fun t ht => Nat.le_trans (rkV_le (by omega)) (pc9_le t (by omega))
  have h126 := rings_126 hA 5
  have hkl := (List.getElem?_eq_some_iff.mp hkc).1
  have hrm := ringsB_mem (List.mem_of_getElem? hkc)
  refine x_iload_n dX10_factor_0 rfl ?_
  refine x_topI ?_
  refine x_if_ltI 15 dX10_factor_1 rfl (by omega) (fun c1 => ?_) (fun c1 => ?_)
  · exact absurd c1 (by omega)
  · refine x_aload_n dX10_factor_4 rfl ?_
    refine x_getR dX10_factor_5 fl_X10_17 rfl ?_
    refine x_iload_n dX10_factor_8 rfl ?_
    refine x_v1d (N := mX1_has) dX10_factor_9 ml_X10_113 nv_X1_has rfl rfl (kx_has S a.2.1 a3 m2 _) ?_
    refine x_if_neB 22 dX10_factor_12 rfl (fun c12 => ?_) (fun c12 => ?_)
    · refine x_aload_n dX10_factor_22 rfl ?_
      refine x_getR dX10_factor_23 fl_X10_21 rfl ?_
      refine x_v0 (N := mX6_circuits) dX10_factor_26 ml_X10_147 nv_X6_circuits rfl rfl (kx_circuits S B a hs tx u0 u1 u2 ck co hc hB) ?_
      rintro _ S' ⟨rfl, hc', hl⟩
      refine x_astore_n dX10_factor_29 rfl ?_
      refine x_iload_n dX10_factor_30 rfl ?_
      refine x_aload_n dX10_factor_31 rfl ?_
      refine x_getIV dX10_factor_32 fl_X10_151 rfl (hl.2.2.1) ?_
      refine x_icmp_ltN 45 dX10_factor_35 rfl (by omega) (by omega) (fun c35 => ?_) (fun c35 => ?_)
      · refine x_aload_n dX10_factor_45 rfl ?_
        refine x_getR dX10_factor_46 fl_X10_21 rfl ?_
        refine x_aload_n dX10_factor_49 rfl ?_
        refine x_getR dX10_factor_50 fl_X10_154 rfl ?_
        refine x_iload_n dX10_factor_53 rfl ?_
        refine x_ialdN dX10_factor_54 rfl rfl (by omega) (hl.2.2.2 k c hkc) ?_
        refine x_v1 (N := mX6_factorsOf) dX10_factor_55 ml_X10_158 nv_X6_factorsOf rfl rfl (kx_factorsOf S' a hA hc'.1.2 c hrm.1 hrm.2.2) ?_
        rintro _ S2 ⟨rfl, f2, hf2⟩
        refine x_iload_n dX10_factor_58 rfl ?_
        refine x_ialdN dX10_factor_59 rfl rfl (by omega) (hf2 i (by omega)) ?_
        refine x_si _ si_10000 dX10_factor_60 ?_
        refine x_iadd dX10_factor_63 ?_
        refine x_iretI dX10_factor_64 rfl ?_
        exact ⟨rfl, hc'.scr f2 (by decide) (by decide)⟩
      · exact absurd c35 (by omega)
    · rw [(in_L _ (by omega)).mpr (InR_in hi)] at c12; cases c12
