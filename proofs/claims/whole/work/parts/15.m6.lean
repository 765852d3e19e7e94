/-! THE REFERENCE: what is read off the ranks -/
/-- the rank of a set of planes -/
noncomputable def rkB (v : Nat → Row) (N s : Nat) : Nat := rkC 0 (cf 4) (rowsB v s N)
/-- the closure, as far as plane i -/
def clB (r : Nat → Nat) (s : Nat) : Nat → Nat
  | 0 => s
  | i + 1 => clB r s i ||| (if r (s ||| 2 ^ i) = r s then 2 ^ i else 0)
def flB (r : Nat → Nat) (N s : Nat) : Bool := clB r s N == s
def bdB (r : Nat → Nat) (s : Nat) : Bool := decide (r s < pc9 s)
/-- no plane less of it but is free, as far as plane i -/
def rgB (r : Nat → Nat) (s : Nat) : Nat → Bool
  | 0 => bdB r s
  | i + 1 => rgB r s i && (!s.testBit i || !bdB r (s ^^^ (s &&& 2 ^ i)))
/-- modular, against the flats below t -/
def evB (r : Nat → Nat) (N f : Nat) : Nat → Bool
  | 0 => true
  | t + 1 => evB r N f t && (!flB r N t || r f + r t == r (f ||| t) + r (f &&& t))
theorem or_lt9 {a b N : Nat} (ha : a < 2 ^ N) (hb : b < 2 ^ N) : a ||| b < 2 ^ N := Nat.or_lt_two_pow ha hb
theorem pow_ltN {i N : Nat} (h : i < N) : 2 ^ i < 2 ^ N := Nat.pow_lt_pow_right (by omega) h
theorem xor_and_le (a b : Nat) : a ^^^ (a &&& b) ≤ a := by
  have h : a ^^^ (a &&& b) = a &&& (a ^^^ (a &&& b)) := by
    apply Nat.eq_of_testBit_eq
    intro i
    simp only [Nat.testBit_and, Nat.testBit_xor]
    cases a.testBit i <;> cases b.testBit i <;> rfl
  rw [h]
  exact Nat.and_le_left
set_option maxRecDepth 100000 in
set_option maxHeartbeats 4000000 in
theorem k_rankBy (S : amS) (N s : Nat) (v : Nat → Row) (hN : N ≤ 9) (hs : s < 512) (hM : S.2.1 1 37 = nI N) (hv : ∀ i j, i < N → j < 4 → S.2.1 1 (4 * i + j) = i32 (v i j)) (hb : ∀ i j, i < N → -3 ≤ v i j ∧ v i j ≤ 3) : X shM mX11_rankBy 0 [.ref 0, .int (nI s), .null, .null, .null, .null, .null, .null, .null, .null, .null, .null] [] S (fun r S' => r = some (.int (nI (rkB v N s))) ∧ ∃ f', S' = sL S 7 f') := by
  refine x_ic _ ic_0 dX11_rankBy_0 ?_
  refine x_istore_n dX11_rankBy_1 rfl ?_
  refine x_ic _ ic_0 dX11_rankBy_2 ?_
  refine x_istore_n dX11_rankBy_3 rfl ?_
  refine x_st (sL_self S 7) ?_
  refine k_rb_1 S N s v hN hs hM hv hb _ ?_ N 0 (S.2.2.2 7) .null (by omega) (fun a c ha _ => absurd ha (Nat.not_lt_zero a))
  intro f z4 g1
  have hl := rowsB_len v s N
  refine x_ic _ ic_0 dX11_rankBy_70 ?_
  refine x_istore_n dX11_rankBy_71 rfl ?_
  refine x_ic _ ic_0 dX11_rankBy_72 ?_
  refine x_istore dX11_rankBy_73 rfl ?_
  refine k_rb_c S s _ _ (by omega) 4 0 0 f (rwf (rowsB v s N)) _ _ _ _ _ _ _ (by omega) (Nat.le_refl _) (Nat.zero_le _) g1 ?_
  rw [Nat.zero_add]
  unfold rkB
  refine rkC_cols dom0 (fun x hx => ?_) (fun x hx => ?_)
  · obtain ⟨a, -, h2, rfl⟩ := act_mem.mp hx; exact ⟨_, rwf_mem h2, fun _ _ => rfl⟩
  · obtain ⟨a, h1, rfl⟩ := mem_rwf hx; exact ⟨_, act_mem.mpr ⟨a, Nat.zero_le _, h1, rfl⟩, fun _ _ => rfl⟩
set_option maxRecDepth 100000 in
set_option maxHeartbeats 4000000 in
theorem k_isBound (S : amS) (N : Nat) (r : Nat → Nat) (hN : N ≤ 9) (hM : S.2.1 1 37 = nI N) (hr : ∀ s, s < 2 ^ N → S.2.1 6 s = nI (r s)) (hr9 : ∀ s, s < 2 ^ N → r s ≤ 9) (s : Nat) (hs : s < 2 ^ N) : X shM mX11_isBound 0 [.ref 0, .int (nI s)] [] S (fun q S' => q = some (.int (zB (bdB r s))) ∧ S' = S) := by
  have h512 := pow9 hN
  have hlt : s < 512 := by omega
  refine x_aload_n dX11_isBound_0 rfl ?_
  refine x_getR dX11_isBound_1 fl_X11_29 rfl ?_
  refine x_iload_n dX11_isBound_4 rfl ?_
  refine x_ialdN dX11_isBound_5 rfl rfl (by omega) (hr s hs) ?_
  refine x_iload_n dX11_isBound_6 rfl ?_
  refine x_s1d (N := mX11_bits) dX11_isBound_7 ml_X11_123 ns_X11_bits rfl (k_bits S s hlt) ?_
  have h9 := hr9 s hs
  have hp := pc9_le s hlt
  refine x_icmp_geN 17 dX11_isBound_10 rfl (by omega) (by omega) (fun c10 => ?_) (fun c10 => ?_)
  · refine x_ic _ ic_0 dX11_isBound_17 ?_
    refine x_zret0 dX11_isBound_18 rfl ?_
    exact ⟨by rw [zB_f]; exact decide_eq_false (by omega), rfl⟩
  · refine x_ic _ ic_1 dX11_isBound_13 ?_
    refine x_goto 18 dX11_isBound_14 rfl ?_
    refine x_zret1 dX11_isBound_18 rfl ?_
    exact ⟨by rw [zB_t]; exact decide_eq_true c10, rfl⟩
set_option maxRecDepth 100000 in
set_option maxHeartbeats 4000000 in
theorem k_isRing_l (S : amS) (N : Nat) (r : Nat → Nat) (hN : N ≤ 9) (hM : S.2.1 1 37 = nI N) (hr : ∀ s, s < 2 ^ N → S.2.1 6 s = nI (r s)) (hr9 : ∀ s, s < 2 ^ N → r s ≤ 9) (s : Nat) (hs : s < 2 ^ N) : ∀ (k i : Nat), i + k = N → X shM mX11_isRing 8 [.ref 0, .int (nI s), .int (zB (rgB r s i)), .int (nI i)] [] S (fun q S' => q = some (.int (zB (rgB r s N))) ∧ S' = S) := by
  have h512 := pow9 hN
  have hlt : s < 512 := by omega
  intro k
  induction k with
  | zero =>
    intro i h1
    obtain rfl : i = N := by omega
    refine x_iload_n dX11_isRing_8 rfl ?_
    refine x_aload_n dX11_isRing_9 rfl ?_
    refine x_getR dX11_isRing_10 fl_X11_7 rfl ?_
    refine x_bi _ bi_37 dX11_isRing_13 ?_
    refine x_ialdN dX11_isRing_15 rfl rfl (by omega) (hM) ?_
    refine x_icmp_geN 57 dX11_isRing_16 rfl (by omega) (by omega) (fun c16 => ?_) (fun c16 => ?_)
    · refine x_iload_n dX11_isRing_57 rfl ?_
      refine x_zretB dX11_isRing_58 rfl ?_
      exact ⟨rfl, rfl⟩
    · exact absurd c16 (by omega)
  | succ k ih =>
    intro i h1
    have hi : i < N := by omega
    have hx := xor_and_le s (2 ^ i)
    refine x_iload_n dX11_isRing_8 rfl ?_
    refine x_aload_n dX11_isRing_9 rfl ?_
    refine x_getR dX11_isRing_10 fl_X11_7 rfl ?_
    refine x_bi _ bi_37 dX11_isRing_13 ?_
    refine x_ialdN dX11_isRing_15 rfl rfl (by omega) (hM) ?_
    refine x_icmp_geN 57 dX11_isRing_16 rfl (by omega) (by omega) (fun c16 => ?_) (fun c16 => ?_)
    · exact absurd c16 (by omega)
    · refine x_iload_n dX11_isRing_19 rfl ?_
      refine x_if_eqB 57 dX11_isRing_20 rfl (fun c20 => ?_) (fun c20 => ?_)
      · have hall : ∀ m, i ≤ m → rgB r s m = false := by
          intro m hm
          induction m with
          | zero => obtain rfl : i = 0 := by omega
                    exact c20
          | succ m ihm =>
            by_cases e : i = m + 1
            · subst e; exact c20
            · simp only [rgB, ihm (by omega), Bool.false_and]
        refine x_iload_n dX11_isRing_57 rfl ?_
        refine x_zretB dX11_isRing_58 rfl ?_
        exact ⟨by rw [c20, hall N (by omega)], rfl⟩
      · refine x_iload_n dX11_isRing_23 rfl ?_
        refine x_iload_n dX11_isRing_24 rfl ?_
        refine x_s2d (N := mX11_has) dX11_isRing_25 ml_X11_97 ns_X11_has rfl (k_has S s i hlt (by omega)) ?_
        refine x_if_eqB 45 dX11_isRing_28 rfl (fun c28 => ?_) (fun c28 => ?_)
        · have e1 : rgB r s (i + 1) = true := by simp [rgB, c20, c28]
          refine x_ic _ ic_1 dX11_isRing_45 ?_
          refine x_goto 50 dX11_isRing_46 rfl ?_
          rw [show nI 1 = zB (rgB r s (i + 1)) by rw [e1]; rfl]
          refine x_istore_n dX11_isRing_50 rfl ?_
          refine x_iincN dX11_isRing_51 rfl rfl ?_
          refine x_goto 8 dX11_isRing_54 rfl ?_
          exact ih (i + 1) (by omega)
        · refine x_aload_n dX11_isRing_31 rfl ?_
          refine x_iload_n dX11_isRing_32 rfl ?_
          refine x_ic _ ic_1 dX11_isRing_33 ?_
          refine x_iload_n dX11_isRing_34 rfl ?_
          refine x_ishl1 dX11_isRing_35 (by omega) ?_
          refine x_ic _ ic_m1 dX11_isRing_36 ?_
          refine x_ixor dX11_isRing_37 ?_
          refine x_iandNX dX11_isRing_38 ?_
          refine x_v1d (N := mX11_isBound) dX11_isRing_39 ml_X11_133 nv_X11_isBound rfl rfl (k_isBound S N r hN hM hr hr9 _ (by omega)) ?_
          refine x_if_neB 49 dX11_isRing_42 rfl (fun c42 => ?_) (fun c42 => ?_)
          · have e1 : rgB r s (i + 1) = false := by simp [rgB, c28, c42]
            refine x_ic _ ic_0 dX11_isRing_49 ?_
            rw [show nI 0 = zB (rgB r s (i + 1)) by rw [e1]; rfl]
            refine x_istore_n dX11_isRing_50 rfl ?_
            refine x_iincN dX11_isRing_51 rfl rfl ?_
            refine x_goto 8 dX11_isRing_54 rfl ?_
            exact ih (i + 1) (by omega)
          · have e1 : rgB r s (i + 1) = true := by simp [rgB, c20, c42]
            refine x_ic _ ic_1 dX11_isRing_45 ?_
            refine x_goto 50 dX11_isRing_46 rfl ?_
            rw [show nI 1 = zB (rgB r s (i + 1)) by rw [e1]; rfl]
            refine x_istore_n dX11_isRing_50 rfl ?_
            refine x_iincN dX11_isRing_51 rfl rfl ?_
            refine x_goto 8 dX11_isRing_54 rfl ?_
            exact ih (i + 1) (by omega)
set_option maxRecDepth 100000 in
set_option maxHeartbeats 4000000 in
theorem k_isRing (S : amS) (N : Nat) (r : Nat → Nat) (hN : N ≤ 9) (hM : S.2.1 1 37 = nI N) (hr : ∀ s, s < 2 ^ N → S.2.1 6 s = nI (r s)) (hr9 : ∀ s, s < 2 ^ N → r s ≤ 9) (s : Nat) (hs : s < 2 ^ N) : X shM mX11_isRing 0 [.ref 0, .int (nI s), .null, .null] [] S (fun q S' => q = some (.int (zB (rgB r s N))) ∧ S' = S) := by
  refine x_aload_n dX11_isRing_0 rfl ?_
  refine x_iload_n dX11_isRing_1 rfl ?_
  refine x_v1d (N := mX11_isBound) dX11_isRing_2 ml_X11_133 nv_X11_isBound rfl rfl (k_isBound S N r hN hM hr hr9 s hs) ?_
  refine x_istore_n dX11_isRing_5 rfl ?_
  refine x_ic _ ic_0 dX11_isRing_6 ?_
  refine x_istore_n dX11_isRing_7 rfl ?_
  exact k_isRing_l S N r hN hM hr hr9 s hs N 0 (by omega)
set_option maxRecDepth 100000 in
set_option maxHeartbeats 4000000 in
theorem k_closedOf_l (S : amS) (N : Nat) (r : Nat → Nat) (hN : N ≤ 9) (hM : S.2.1 1 37 = nI N) (hr : ∀ s, s < 2 ^ N → S.2.1 6 s = nI (r s)) (hr9 : ∀ s, s < 2 ^ N → r s ≤ 9) (s : Nat) (hs : s < 2 ^ N) : ∀ (k i : Nat), i + k = N → clB r s i < 2 ^ N → X shM mX11_closedOf 4 [.ref 0, .int (nI s), .int (nI (clB r s i)), .int (nI i)] [] S (fun q S' => q = some (.int (nI (clB r s N))) ∧ S' = S) := by
  have h512 := pow9 hN
  have hlt : s < 512 := by omega
  intro k
  induction k with
  | zero =>
    intro i h1 h2
    obtain rfl : i = N := by omega
    refine x_iload_n dX11_closedOf_4 rfl ?_
    refine x_aload_n dX11_closedOf_5 rfl ?_
    refine x_getR dX11_closedOf_6 fl_X11_7 rfl ?_
    refine x_bi _ bi_37 dX11_closedOf_9 ?_
    refine x_ialdN dX11_closedOf_11 rfl rfl (by omega) (hM) ?_
    refine x_icmp_geN 50 dX11_closedOf_12 rfl (by omega) (by omega) (fun c12 => ?_) (fun c12 => ?_)
    · refine x_iload_n dX11_closedOf_50 rfl ?_
      refine x_iretI dX11_closedOf_51 rfl ?_
      exact ⟨rfl, rfl⟩
    · exact absurd c12 (by omega)
  | succ k ih =>
    intro i h1 h2
    have hi : i < N := by omega
    have hp := pow_ltN hi
    have ho := or_lt9 hs hp
    have q1 := hr9 s hs
    have q2 := hr9 _ ho
    have q3 := or_lt9 h2 hp
    refine x_iload_n dX11_closedOf_4 rfl ?_
    refine x_aload_n dX11_closedOf_5 rfl ?_
    refine x_getR dX11_closedOf_6 fl_X11_7 rfl ?_
    refine x_bi _ bi_37 dX11_closedOf_9 ?_
    refine x_ialdN dX11_closedOf_11 rfl rfl (by omega) (hM) ?_
    refine x_icmp_geN 50 dX11_closedOf_12 rfl (by omega) (by omega) (fun c12 => ?_) (fun c12 => ?_)
    · exact absurd c12 (by omega)
    · refine x_iload_n dX11_closedOf_15 rfl ?_
      refine x_aload_n dX11_closedOf_16 rfl ?_
      refine x_getR dX11_closedOf_17 fl_X11_29 rfl ?_
      refine x_iload_n dX11_closedOf_20 rfl ?_
      refine x_ic _ ic_1 dX11_closedOf_21 ?_
      refine x_iload_n dX11_closedOf_22 rfl ?_
      refine x_ishl1 dX11_closedOf_23 (by omega) ?_
      refine x_iorN dX11_closedOf_24 ?_
      refine x_ialdN dX11_closedOf_25 rfl rfl (by omega) (hr _ ho) ?_
      refine x_aload_n dX11_closedOf_26 rfl ?_
      refine x_getR dX11_closedOf_27 fl_X11_29 rfl ?_
      refine x_iload_n dX11_closedOf_30 rfl ?_
      refine x_ialdN dX11_closedOf_31 rfl rfl (by omega) (hr s hs) ?_
      refine x_icmp_neN 41 dX11_closedOf_32 rfl (by omega) (by omega) (fun c32 => ?_) (fun c32 => ?_)
      · refine x_ic _ ic_0 dX11_closedOf_41 ?_
        refine x_iorN dX11_closedOf_42 ?_
        refine x_istore_n dX11_closedOf_43 rfl ?_
        refine x_iincN dX11_closedOf_44 rfl rfl ?_
        refine x_goto 4 dX11_closedOf_47 rfl ?_
        first | (rw [show clB r s i ||| 2 ^ i = clB r s (i + 1) from by rw [clB, if_pos c32]]; exact ih (i + 1) (by omega) (by rw [clB, if_pos c32]; exact q3)) | (rw [show clB r s i ||| 0 = clB r s (i + 1) from by rw [clB, if_neg c32]]; exact ih (i + 1) (by omega) (by rw [clB, if_neg c32, Nat.or_zero]; exact h2))
      · refine x_ic _ ic_1 dX11_closedOf_35 ?_
        refine x_iload_n dX11_closedOf_36 rfl ?_
        refine x_ishl1 dX11_closedOf_37 (by omega) ?_
        refine x_goto 42 dX11_closedOf_38 rfl ?_
        refine x_iorN dX11_closedOf_42 ?_
        refine x_istore_n dX11_closedOf_43 rfl ?_
        refine x_iincN dX11_closedOf_44 rfl rfl ?_
        refine x_goto 4 dX11_closedOf_47 rfl ?_
        first | (rw [show clB r s i ||| 2 ^ i = clB r s (i + 1) from by rw [clB, if_pos c32]]; exact ih (i + 1) (by omega) (by rw [clB, if_pos c32]; exact q3)) | (rw [show clB r s i ||| 0 = clB r s (i + 1) from by rw [clB, if_neg c32]]; exact ih (i + 1) (by omega) (by rw [clB, if_neg c32, Nat.or_zero]; exact h2))
set_option maxRecDepth 100000 in
set_option maxHeartbeats 4000000 in
theorem k_closedOf (S : amS) (N : Nat) (r : Nat → Nat) (hN : N ≤ 9) (hM : S.2.1 1 37 = nI N) (hr : ∀ s, s < 2 ^ N → S.2.1 6 s = nI (r s)) (hr9 : ∀ s, s < 2 ^ N → r s ≤ 9) (s : Nat) (hs : s < 2 ^ N) : X shM mX11_closedOf 0 [.ref 0, .int (nI s), .null, .null] [] S (fun q S' => q = some (.int (nI (clB r s N))) ∧ S' = S) := by
  refine x_iload_n dX11_closedOf_0 rfl ?_
  refine x_istore_n dX11_closedOf_1 rfl ?_
  refine x_ic _ ic_0 dX11_closedOf_2 ?_
  refine x_istore_n dX11_closedOf_3 rfl ?_
  exact k_closedOf_l S N r hN hM hr hr9 s hs N 0 (by omega) hs
theorem clB_lt {r : Nat → Nat} {s N : Nat} (hs : s < 2 ^ N) : ∀ i, i ≤ N → clB r s i < 2 ^ N := by
  intro i
  induction i with
  | zero => intro _; exact hs
  | succ i ih =>
    intro h
    rw [clB]
    refine or_lt9 (ih (by omega)) ?_
    split
    · exact pow_ltN (by omega)
    · exact Nat.two_pow_pos N
set_option maxRecDepth 100000 in
set_option maxHeartbeats 4000000 in
theorem k_isFlat (S : amS) (N : Nat) (r : Nat → Nat) (hN : N ≤ 9) (hM : S.2.1 1 37 = nI N) (hr : ∀ s, s < 2 ^ N → S.2.1 6 s = nI (r s)) (hr9 : ∀ s, s < 2 ^ N → r s ≤ 9) (s : Nat) (hs : s < 2 ^ N) : X shM mX11_isFlat 0 [.ref 0, .int (nI s)] [] S (fun q S' => q = some (.int (zB (flB r N s))) ∧ S' = S) := by
  have h512 := pow9 hN
  have hlt : s < 512 := by omega
  refine x_aload_n dX11_isFlat_0 rfl ?_
  refine x_iload_n dX11_isFlat_1 rfl ?_
  refine x_v1d (N := mX11_closedOf) dX11_isFlat_2 ml_X11_196 nv_X11_closedOf rfl rfl (k_closedOf S N r hN hM hr hr9 s hs) ?_
  refine x_iload_n dX11_isFlat_5 rfl ?_
  have hc := clB_lt (r := r) hs N (Nat.le_refl _)
  refine x_icmp_neN 13 dX11_isFlat_6 rfl (by omega) (by omega) (fun c6 => ?_) (fun c6 => ?_)
  · refine x_ic _ ic_0 dX11_isFlat_13 ?_
    refine x_zret0 dX11_isFlat_14 rfl ?_
    exact ⟨by rw [zB_f]; exact beq_eq_false_iff_ne.mpr c6, rfl⟩
  · refine x_ic _ ic_1 dX11_isFlat_9 ?_
    refine x_goto 14 dX11_isFlat_10 rfl ?_
    refine x_zret1 dX11_isFlat_14 rfl ?_
    exact ⟨by rw [zB_t]; exact beq_iff_eq.mpr c6, rfl⟩
set_option maxRecDepth 100000 in
set_option maxHeartbeats 4000000 in
theorem k_isEven_l (S : amS) (N : Nat) (r : Nat → Nat) (hN : N ≤ 9) (hM : S.2.1 1 37 = nI N) (hr : ∀ s, s < 2 ^ N → S.2.1 6 s = nI (r s)) (hr9 : ∀ s, s < 2 ^ N → r s ≤ 9) (f : Nat) (hf : f < 2 ^ N) : ∀ (k t : Nat), t + k = 2 ^ N → evB r N f t = true → X shM mX11_isEven 2 [.ref 0, .int (nI f), .int (nI t)] [] S (fun q S' => q = some (.int (zB (evB r N f (2 ^ N)))) ∧ S' = S) := by
  have h512 := pow9 hN
  have hpos := Nat.two_pow_pos N
  intro k
  induction k with
  | zero =>
    intro t h1 h2
    obtain rfl : t = 2 ^ N := by omega
    refine x_iload_n dX11_isEven_2 rfl ?_
    refine x_aload_n dX11_isEven_3 rfl ?_
    refine x_v0d (N := mX11_all) dX11_isEven_4 ml_X11_109 nv_X11_all rfl rfl (k_all S N hN hM) ?_
    refine x_icmp_gtN 59 dX11_isEven_7 rfl (by omega) (by omega) (fun c7 => ?_) (fun c7 => ?_)
    · refine x_ic _ ic_1 dX11_isEven_59 ?_
      refine x_zret1 dX11_isEven_60 rfl ?_
      exact ⟨by rw [h2]; rfl, rfl⟩
    · exact absurd c7 (by omega)
  | succ k ih =>
    intro t h1 h2
    have ht : t < 2 ^ N := by omega
    have ho := or_lt9 hf ht
    have ha : f &&& t < 2 ^ N := Nat.lt_of_le_of_lt Nat.and_le_left hf
    have q1 := hr9 f hf
    have q2 := hr9 t ht
    have q3 := hr9 _ ho
    have q4 := hr9 _ ha
    refine x_iload_n dX11_isEven_2 rfl ?_
    refine x_aload_n dX11_isEven_3 rfl ?_
    refine x_v0d (N := mX11_all) dX11_isEven_4 ml_X11_109 nv_X11_all rfl rfl (k_all S N hN hM) ?_
    refine x_icmp_gtN 59 dX11_isEven_7 rfl (by omega) (by omega) (fun c7 => ?_) (fun c7 => ?_)
    · exact absurd c7 (by omega)
    · refine x_aload_n dX11_isEven_10 rfl ?_
      refine x_iload_n dX11_isEven_11 rfl ?_
      refine x_v1d (N := mX11_isFlat) dX11_isEven_12 ml_X11_199 nv_X11_isFlat rfl rfl (k_isFlat S N r hN hM hr hr9 t ht) ?_
      refine x_if_eqB 53 dX11_isEven_15 rfl (fun c15 => ?_) (fun c15 => ?_)
      · refine x_iincN dX11_isEven_53 rfl rfl ?_
        refine x_goto 2 dX11_isEven_56 rfl ?_
        exact ih (t + 1) (by omega) (by simp [evB, h2, c15])
      · refine x_aload_n dX11_isEven_18 rfl ?_
        refine x_getR dX11_isEven_19 fl_X11_29 rfl ?_
        refine x_iload_n dX11_isEven_22 rfl ?_
        refine x_ialdN dX11_isEven_23 rfl rfl (by omega) (hr f hf) ?_
        refine x_aload_n dX11_isEven_24 rfl ?_
        refine x_getR dX11_isEven_25 fl_X11_29 rfl ?_
        refine x_iload_n dX11_isEven_28 rfl ?_
        refine x_ialdN dX11_isEven_29 rfl rfl (by omega) (hr t ht) ?_
        refine x_iaddN dX11_isEven_30 ?_
        refine x_aload_n dX11_isEven_31 rfl ?_
        refine x_getR dX11_isEven_32 fl_X11_29 rfl ?_
        refine x_iload_n dX11_isEven_35 rfl ?_
        refine x_iload_n dX11_isEven_36 rfl ?_
        refine x_iorN dX11_isEven_37 ?_
        refine x_ialdN dX11_isEven_38 rfl rfl (by omega) (hr _ ho) ?_
        refine x_aload_n dX11_isEven_39 rfl ?_
        refine x_getR dX11_isEven_40 fl_X11_29 rfl ?_
        refine x_iload_n dX11_isEven_43 rfl ?_
        refine x_iload_n dX11_isEven_44 rfl ?_
        refine x_iandN dX11_isEven_45 ?_
        refine x_ialdN dX11_isEven_46 rfl rfl (by omega) (hr _ ha) ?_
        refine x_iaddN dX11_isEven_47 ?_
        refine x_icmp_eqN 53 dX11_isEven_48 rfl (by omega) (by omega) (fun c48 => ?_) (fun c48 => ?_)
        · refine x_iincN dX11_isEven_53 rfl rfl ?_
          refine x_goto 2 dX11_isEven_56 rfl ?_
          exact ih (t + 1) (by omega) (by simp [evB, h2, c48])
        · have hall : ∀ m, t + 1 ≤ m → evB r N f m = false := by
            intro m hm
            induction m with
            | zero => omega
            | succ m ihm =>
              by_cases e : t = m
              · subst e; simp [evB, h2, c15]; omega
              · simp only [evB, ihm (by omega), Bool.false_and]
          refine x_ic _ ic_0 dX11_isEven_51 ?_
          refine x_zret0 dX11_isEven_52 rfl ?_
          exact ⟨by rw [hall (2 ^ N) (by omega)]; rfl, rfl⟩
set_option maxRecDepth 100000 in
set_option maxHeartbeats 4000000 in
theorem k_isEven (S : amS) (N : Nat) (r : Nat → Nat) (hN : N ≤ 9) (hM : S.2.1 1 37 = nI N) (hr : ∀ s, s < 2 ^ N → S.2.1 6 s = nI (r s)) (hr9 : ∀ s, s < 2 ^ N → r s ≤ 9) (f : Nat) (hf : f < 2 ^ N) : X shM mX11_isEven 0 [.ref 0, .int (nI f), .null] [] S (fun q S' => q = some (.int (zB (evB r N f (2 ^ N)))) ∧ S' = S) := by
  refine x_ic _ ic_0 dX11_isEven_0 ?_
  refine x_istore_n dX11_isEven_1 rfl ?_
  exact k_isEven_l S N r hN hM hr hr9 f hf (2 ^ N) 0 (by omega) rfl
