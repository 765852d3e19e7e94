/-! THE CLASS: elements as sums of base sets -/
def lowB (c : Nat) : Nat := c ^^^ rst c
def lwI (c : Nat) : Nat := ((List.range 9).find? (fun i => c.testBit i)).getD 0
theorem lwI_ok : ∀ c, c < 512 → c ≠ 0 → lowB c = 2 ^ lwI c ∧ c.testBit (lwI c) = true ∧ lwI c < 9 ∧ rst c = less c (lwI c) := by decide +kernel
theorem low_eq : ∀ c, c < 512 → nI c &&& -nI c = nI (lowB c) := by decide +kernel
theorem mask_eq : ∀ l, l < 9 → ∀ x, x < 512 → nI x &&& -nI (2 ^ l) = nI (x / 2 ^ l * 2 ^ l) := by decide +kernel
/-- the planes of k from l on, below i -/
def pas (k l i : Nat) : Nat := (k &&& (2 ^ i - 1)) / 2 ^ l * 2 ^ l
def rpG (g : Nat → Int32) (k l oth : Nat) : Nat → (Nat → Int32)
  | 0 => g
  | i + 1 => if oth.testBit i then upd (rpG g k l oth i) ((k ^^^ 2 ^ i) ||| 2 ^ l) (rpG g k l oth i ((k ^^^ 2 ^ i) ||| 2 ^ l) + i32 (sgn (pc9 (pas k l i))) * rpG g k l oth i k) else rpG g k l oth i
theorem and2_f {x i : Nat} (h : x &&& 2 ^ i = 0) : x.testBit i = false := by
  have := congrArg (fun z => z.testBit i) h
  simpa using this
theorem and2_t {x i : Nat} (h : ¬ x &&& 2 ^ i = 0) : x.testBit i = true := by
  cases e : x.testBit i with
  | true => rfl
  | false =>
    refine absurd ?_ h
    apply Nat.eq_of_testBit_eq
    intro j
    rw [Nat.testBit_and, Nat.zero_testBit]
    by_cases q : i = j
    · subst q; rw [e]; rfl
    · rw [Nat.testBit_two_pow_of_ne q, Bool.and_false]
theorem xor_xor_self (a b : Nat) : a ^^^ (a ^^^ b) = b := by rw [← Nat.xor_assoc, Nat.xor_self, Nat.zero_xor]
set_option maxRecDepth 100000 in
set_option maxHeartbeats 4000000 in
theorem kx_rp_l (S : amS) (N k c : Nat) (hN : N ≤ 9) (hk : k < 512) (hc : c < 512) (hc0 : c ≠ 0) (m2 : S.1 1 2 = nI N) : ∀ (e i : Nat) (z6 z7 z8 : Value), i + e = N → X shX mX0_replace 13 [.ref 42, .int (nI k), .int (nI c), .int (nI (2 ^ lwI c)), .int (nI (rst c)), .int (nI i), z6, z7, z8] [] (sA S 44 (rpG (S.2.1 44) k (lwI c) (rst c) i)) (fun r S' => r = none ∧ S' = sA S 44 (rpG (S.2.1 44) k (lwI c) (rst c) N)) := by
  obtain ⟨l1, l2, l3, l4⟩ := lwI_ok c hc hc0
  have hl9 := pow9' l3
  intro e
  induction e with
  | zero =>
    intro i z6 z7 z8 h1
    obtain rfl : i = N := by omega
    refine x_iload dX0_replace_13 rfl ?_
    refine x_aload_n dX0_replace_15 rfl ?_
    refine x_getR dX0_replace_16 fl_X0_31 rfl ?_
    refine x_getIV dX0_replace_19 fl_X0_68 rfl (m2) ?_
    refine x_icmp_geN 96 dX0_replace_22 rfl (by omega) (by omega) (fun c22 => ?_) (fun c22 => ?_)
    · refine x_ret dX0_replace_96 rfl ?_
      exact ⟨rfl, rfl⟩
    · exact absurd c22 (by omega)
  | succ e ih =>
    intro i z6 z7 z8 h1
    have hp9 := pow9' (show i < 9 by omega)
    have hpi := Nat.two_pow_pos i
    have hkm : k &&& (2 ^ i - 1) < 512 := Nat.lt_of_le_of_lt Nat.and_le_left hk
    have hps : pas k (lwI c) i < 512 := Nat.lt_of_le_of_lt (Nat.div_mul_le_self _ _) hkm
    have hpc := pc9_le _ hps
    have hpl : pc9 (pas k (lwI c) i) &&& 1 = pc9 (pas k (lwI c) i) % 2 := Nat.and_one_is_mod _
    have hix : (k ^^^ 2 ^ i) ||| 2 ^ lwI c < 512 := Nat.or_lt_two_pow (n := 9) (Nat.xor_lt_two_pow (n := 9) hk (by omega)) (by omega)
    have hol : rst c &&& 2 ^ i < 512 := Nat.lt_of_le_of_lt Nat.and_le_right (by omega)
    have := fun z6 z7 z8 => ih (i + 1) z6 z7 z8 (by omega)
    rw [rpG] at this
    refine x_iload dX0_replace_13 rfl ?_
    refine x_aload_n dX0_replace_15 rfl ?_
    refine x_getR dX0_replace_16 fl_X0_31 rfl ?_
    refine x_getIV dX0_replace_19 fl_X0_68 rfl (m2) ?_
    refine x_icmp_geN 96 dX0_replace_22 rfl (by omega) (by omega) (fun c22 => ?_) (fun c22 => ?_)
    · exact absurd c22 (by omega)
    · refine x_ic _ ic_1 dX0_replace_25 ?_
      refine x_iload dX0_replace_26 rfl ?_
      refine x_ishl1 dX0_replace_28 (by omega) ?_
      refine x_istore dX0_replace_29 rfl ?_
      refine x_iload dX0_replace_31 rfl ?_
      refine x_iload dX0_replace_33 rfl ?_
      refine x_iandN dX0_replace_35 ?_
      refine x_if_eqN 90 dX0_replace_36 rfl (by omega) (fun c36 => ?_) (fun c36 => ?_)
      · have hb := and2_f c36
        refine x_iincN dX0_replace_90 rfl rfl ?_
        refine x_goto 13 dX0_replace_93 rfl ?_
        have h9 := this (.int (nI (2 ^ i))) z7 z8
        rw [hb, if_neg (by decide)] at h9
        exact h9
      · have hb := and2_t c36
        refine x_iload_n dX0_replace_39 rfl ?_
        refine x_iload dX0_replace_40 rfl ?_
        refine x_ic _ ic_1 dX0_replace_42 ?_
        refine x_isubN dX0_replace_43 (by omega) ?_
        refine x_iandN dX0_replace_44 ?_
        refine x_iload_n dX0_replace_45 rfl ?_
        refine x_ineg dX0_replace_46 ?_
        refine x_iand dX0_replace_47 ?_
        refine x_top (show _ = nI (pas k (lwI c) i) from mask_eq _ l3 _ hkm) ?_
        refine x_istore dX0_replace_48 rfl ?_
        refine x_iload dX0_replace_50 rfl ?_
        refine x_s1d (N := mJ6_bitCount_0f7a4) dX0_replace_52 ml_X0_72 ns_J6_bitCount_0f7a4 rfl (kx_bc _ _ hps) ?_
        refine x_ic _ ic_1 dX0_replace_55 ?_
        refine x_iandN dX0_replace_56 ?_
        refine x_if_neN 64 dX0_replace_57 rfl (by omega) (fun c57 => ?_) (fun c57 => ?_)
        · refine x_ic _ ic_m1 dX0_replace_64 ?_
          refine x_top (b := i32 (sgn (pc9 (pas k (lwI c) i)))) (by unfold sgn; rw [if_neg (by omega)]) ?_
          refine x_istore dX0_replace_65 rfl ?_
          refine x_aload_n dX0_replace_67 rfl ?_
          refine x_getR dX0_replace_68 fl_X0_15 rfl ?_
          refine x_iload_n dX0_replace_71 rfl ?_
          refine x_iload dX0_replace_72 rfl ?_
          refine x_ixorN dX0_replace_74 ?_
          refine x_iload_n dX0_replace_75 rfl ?_
          refine x_iorN dX0_replace_76 ?_
          refine x_dup2 dX0_replace_77 rfl rfl ?_
          refine x_ialdN dX0_replace_78 rfl rfl (by omega) (rfl) ?_
          refine x_iload dX0_replace_79 rfl ?_
          refine x_aload_n dX0_replace_81 rfl ?_
          refine x_getR dX0_replace_82 fl_X0_15 rfl ?_
          refine x_iload_n dX0_replace_85 rfl ?_
          refine x_ialdN dX0_replace_86 rfl rfl (by omega) (rfl) ?_
          refine x_imul dX0_replace_87 ?_
          refine x_iadd dX0_replace_88 ?_
          refine x_iastN dX0_replace_89 rfl rfl (by omega) ?_
          refine x_iincN dX0_replace_90 rfl rfl ?_
          refine x_goto 13 dX0_replace_93 rfl ?_
          rw [sA_sA, sA_at]
          have h9 := this (.int (nI (2 ^ i))) (.int (nI (pas k (lwI c) i))) (.int (i32 (sgn (pc9 (pas k (lwI c) i)))))
          rw [if_pos hb] at h9
          exact h9
        · refine x_ic _ ic_1 dX0_replace_60 ?_
          refine x_goto 65 dX0_replace_61 rfl ?_
          refine x_top (b := i32 (sgn (pc9 (pas k (lwI c) i)))) (by unfold sgn; rw [if_pos (by omega)]; rfl) ?_
          refine x_istore dX0_replace_65 rfl ?_
          refine x_aload_n dX0_replace_67 rfl ?_
          refine x_getR dX0_replace_68 fl_X0_15 rfl ?_
          refine x_iload_n dX0_replace_71 rfl ?_
          refine x_iload dX0_replace_72 rfl ?_
          refine x_ixorN dX0_replace_74 ?_
          refine x_iload_n dX0_replace_75 rfl ?_
          refine x_iorN dX0_replace_76 ?_
          refine x_dup2 dX0_replace_77 rfl rfl ?_
          refine x_ialdN dX0_replace_78 rfl rfl (by omega) (rfl) ?_
          refine x_iload dX0_replace_79 rfl ?_
          refine x_aload_n dX0_replace_81 rfl ?_
          refine x_getR dX0_replace_82 fl_X0_15 rfl ?_
          refine x_iload_n dX0_replace_85 rfl ?_
          refine x_ialdN dX0_replace_86 rfl rfl (by omega) (rfl) ?_
          refine x_imul dX0_replace_87 ?_
          refine x_iadd dX0_replace_88 ?_
          refine x_iastN dX0_replace_89 rfl rfl (by omega) ?_
          refine x_iincN dX0_replace_90 rfl rfl ?_
          refine x_goto 13 dX0_replace_93 rfl ?_
          rw [sA_sA, sA_at]
          have h9 := this (.int (nI (2 ^ i))) (.int (nI (pas k (lwI c) i))) (.int (i32 (sgn (pc9 (pas k (lwI c) i)))))
          rw [if_pos hb] at h9
          exact h9
set_option maxRecDepth 100000 in
set_option maxHeartbeats 4000000 in
theorem kx_replace (S : amS) (N k c : Nat) (hN : N ≤ 9) (hk : k < 512) (hc : c < 512) (hc0 : c ≠ 0) (m2 : S.1 1 2 = nI N) : X shX mX0_replace 0 [.ref 42, .int (nI k), .int (nI c), .null, .null, .null, .null, .null, .null] [] S (fun r S' => r = none ∧ S' = sA S 44 (rpG (S.2.1 44) k (lwI c) (rst c) N)) := by
  refine x_iload_n dX0_replace_0 rfl ?_
  refine x_iload_n dX0_replace_1 rfl ?_
  refine x_ineg dX0_replace_2 ?_
  refine x_iand dX0_replace_3 ?_
  refine x_top (low_eq c hc) ?_
  refine x_top (congrArg nI (lwI_ok c hc hc0).1) ?_
  refine x_istore_n dX0_replace_4 rfl ?_
  refine x_iload_n dX0_replace_5 rfl ?_
  refine x_iload_n dX0_replace_6 rfl ?_
  refine x_ixorN dX0_replace_7 ?_
  rw [show c ^^^ 2 ^ lwI c = rst c by rw [← (lwI_ok c hc hc0).1]; exact xor_xor_self c (rst c)]
  refine x_istore dX0_replace_8 rfl ?_
  refine x_ic _ ic_0 dX0_replace_10 ?_
  refine x_istore dX0_replace_11 rfl ?_
  refine x_st (sA_self S 44) ?_
  exact kx_rp_l S N k c hN hk hc hc0 m2 N 0 _ _ _ (by omega)
noncomputable def stp (X : Nat → Nat) (r : Nat → Nat) (N : Nat) (g : Nat → Int32) (t : Nat) : Nat → Int32 := @ite _ (g t ≠ nI 0 ∧ X t ≠ 0 ∧ bdB r t = false) (Classical.propDecidable _) (rpG g t (lwI (X t)) (rst (X t)) N) g
noncomputable def ptF (X : Nat → Nat) (r : Nat → Nat) (N b : Nat) : Nat → (Nat → Int32) → (Nat → Int32)
  | 0, g => g
  | e + 1, g => ptF X r N b e (stp X r N g (b + e + 1))
set_option maxRecDepth 100000 in
set_option maxHeartbeats 4000000 in
theorem kx_po_l (B : Nat) (a : Ar) (hs : List Ar) (tx : List Nat) (u0 u1 u2 ck co : Int32) (hB : B < 2147483648) (Y : Nat → Nat) (s b : Nat) (hs0 : s < 2 ^ a.2.1) (hb0 : b < 2 ^ a.2.1) (hY : ∀ t, t < 2 ^ a.2.1 → brOK (ringsB a.2.2 a.2.1 5) t (Y t)) (G : Nat → Int32) (Q : Option Value → amS → Prop) (hq : ∀ S z3, xCore S B a hs tx u0 u1 u2 ck co → S.2.1 44 b = G b → X shX mX0_partOf 72 [.ref 42, .int (nI s), .int (nI b), z3] [] S Q) : ∀ (e : Nat) (S : amS), b + e < 2 ^ a.2.1 → xCore S B a hs tx u0 u1 u2 ck co → (∀ t, t < 2 ^ a.2.1 → S.2.1 43 t = nI (Y t)) → ptF Y (rkV a.2.2) a.2.1 b e (S.2.1 44) = G → X shX mX0_partOf 21 [.ref 42, .int (nI s), .int (nI b), .int (nI (b + e))] [] S Q := by
  intro e
  induction e with
  | zero =>
    intro S h0 hc h43 hG
    obtain ⟨⟨hA, ho⟩, hrest, hV⟩ := id hc
    obtain ⟨a1, a2, a3, a4, a5, a6, a7⟩ := id hA
    obtain ⟨m1, m2, m3⟩ := id ho
    have h512 := pow9 a3
    have hpos := Nat.two_pow_pos a.2.1
    have hr9 : ∀ t, t < 2 ^ a.2.1 → rkV a.2.2 t ≤ 9 := fun t ht => Nat.le_trans (rkV_le (by omega)) (pc9_le t (by omega))
    refine x_iload_n dX0_partOf_21 rfl ?_
    refine x_iload_n dX0_partOf_22 rfl ?_
    refine x_icmp_leN 72 dX0_partOf_23 rfl (by omega) (by omega) (fun c23 => ?_) (fun c23 => ?_)
    · exact hq S _ hc (by rw [← hG]; rfl)
    · exact absurd c23 (by omega)
  | succ e ih =>
    intro S h0 hc h43 hG
    obtain ⟨⟨hA, ho⟩, hrest, hV⟩ := id hc
    obtain ⟨a1, a2, a3, a4, a5, a6, a7⟩ := id hA
    obtain ⟨m1, m2, m3⟩ := id ho
    have h512 := pow9 a3
    have hpos := Nat.two_pow_pos a.2.1
    have hr9 : ∀ t, t < 2 ^ a.2.1 → rkV a.2.2 t ≤ 9 := fun t ht => Nat.le_trans (rkV_le (by omega)) (pc9_le t (by omega))
    have hy := hY (b + e + 1) (by omega)
    have hy5 := brOK_lt hA hy
    rw [ptF] at hG
    refine x_iload_n dX0_partOf_21 rfl ?_
    refine x_iload_n dX0_partOf_22 rfl ?_
    refine x_icmp_leN 72 dX0_partOf_23 rfl (by omega) (by omega) (fun c23 => ?_) (fun c23 => ?_)
    · exact absurd c23 (by omega)
    · refine x_aload_n dX0_partOf_26 rfl ?_
      refine x_getR dX0_partOf_27 fl_X0_15 rfl ?_
      refine x_iload_n dX0_partOf_30 rfl ?_
      refine x_ialdN dX0_partOf_31 rfl rfl (by omega) (rfl) ?_
      refine x_if_eq 66 dX0_partOf_32 rfl (fun c32 => ?_) (fun c32 => ?_)
      · refine x_iincD dX0_partOf_66 rfl rfl ?_
        refine x_goto 21 dX0_partOf_69 rfl ?_
        refine ih S (by omega) hc h43 ?_
        rw [← hG, show S.2.1 44 = S.2.1 44 from rfl, stp, if_neg (fun z => z.1 c32)]
      · refine x_aload_n dX0_partOf_35 rfl ?_
        refine x_getR dX0_partOf_36 fl_X0_9 rfl ?_
        refine x_iload_n dX0_partOf_39 rfl ?_
        refine x_ialdN dX0_partOf_40 rfl rfl (by omega) (h43 (b + e + 1) (by omega)) ?_
        refine x_if_eqN 66 dX0_partOf_41 rfl (by omega) (fun c41 => ?_) (fun c41 => ?_)
        · refine x_iincD dX0_partOf_66 rfl rfl ?_
          refine x_goto 21 dX0_partOf_69 rfl ?_
          refine ih S (by omega) hc h43 ?_
          rw [← hG, show S.2.1 44 = S.2.1 44 from rfl, stp, if_neg (fun z => z.2.1 c41)]
        · refine x_aload_n dX0_partOf_44 rfl ?_
          refine x_getR dX0_partOf_45 fl_X0_35 rfl ?_
          refine x_iload_n dX0_partOf_48 rfl ?_
          refine x_v1 (N := mX6_isIndependent) dX0_partOf_49 ml_X0_78 nv_X6_isIndependent rfl rfl (kx_isIndF S B a hs tx u0 u1 u2 ck co hc hB (b + e + 1) (by omega)) ?_
          rintro _ S1 ⟨rfl, hc1, f1⟩
          have h431 : ∀ t, t < 2 ^ a.2.1 → S1.2.1 43 t = nI (Y t) := fun t ht => by rw [f1.2.1 43 (by decide)]; exact h43 t ht
          have e44 := f1.2.1 44 (by decide)
          refine x_if_eqB 66 dX0_partOf_52 rfl (fun c52 => ?_) (fun c52 => ?_)
          · refine x_iincD dX0_partOf_66 rfl rfl ?_
            refine x_goto 21 dX0_partOf_69 rfl ?_
            refine ih S1 (by omega) hc1 h431 ?_
            rw [← hG, e44, stp, if_neg (fun z => by rw [z.2.2] at c52; cases c52)]
          · refine x_aload_n dX0_partOf_55 rfl ?_
            refine x_iload_n dX0_partOf_56 rfl ?_
            refine x_aload_n dX0_partOf_57 rfl ?_
            refine x_getR dX0_partOf_58 fl_X0_9 rfl ?_
            refine x_iload_n dX0_partOf_61 rfl ?_
            refine x_ialdN dX0_partOf_62 rfl rfl (by omega) (h431 (b + e + 1) (by omega)) ?_
            refine x_v2 (N := mX0_replace) dX0_partOf_63 ml_X0_85 nv_X0_replace rfl rfl (kx_replace S1 a.2.1 (b + e + 1) (Y (b + e + 1)) a3 (by omega) hy5 c41 hc1.1.2.2.1) ?_
            rintro _ _ ⟨rfl, rfl⟩
            refine x_iincD dX0_partOf_66 rfl rfl ?_
            refine x_goto 21 dX0_partOf_69 rfl ?_
            refine ih _ (by omega) (hc1.scr ((FO.rf [] [44] S1).sA _ (by decide)) (by decide) (by decide)) (fun t ht => by rw [sA_ne _ _ (by decide)]; exact h431 t ht) ?_
            have hnb : bdB (rkV a.2.2) (b + e + 1) = false := by
              cases e5 : bdB (rkV a.2.2) (b + e + 1) with
              | false => rfl
              | true => rw [e5] at c52; cases c52
            rw [← hG, sA_at, e44, stp, if_pos ⟨c32, c41, hnb⟩]
set_option maxRecDepth 100000 in
set_option maxHeartbeats 4000000 in
theorem kx_partOf (S : amS) (B : Nat) (a : Ar) (hs : List Ar) (tx : List Nat) (u0 u1 u2 ck co : Int32) (hc : xCore S B a hs tx u0 u1 u2 ck co) (hB : B < 2147483648) (s b : Nat) (hs0 : s < 2 ^ a.2.1) (hb0 : b < 2 ^ a.2.1) : X shX mX0_partOf 0 [.ref 42, .int (nI s), .int (nI b), .null] [] S (fun r S' => ∃ (g : Nat → Int32) (Y : Nat → Nat), r = some (.int (if bdB (rkV a.2.2) s = true then nI 0 else ptF Y (rkV a.2.2) a.2.1 b (s - b) g b)) ∧ xCore S' B a hs tx u0 u1 u2 ck co ∧ (∀ t, t < 2 ^ a.2.1 → brOK (ringsB a.2.2 a.2.1 5) t (Y t)) ∧ ∀ k, k < 512 → g k = if k = s then nI 1 else nI 0) := by
  obtain ⟨⟨hA, ho⟩, hrest, hV⟩ := id hc
  obtain ⟨a1, a2, a3, a4, a5, a6, a7⟩ := id hA
  obtain ⟨m1, m2, m3⟩ := id ho
  have h512 := pow9 a3
  have hpos := Nat.two_pow_pos a.2.1
  have hr9 : ∀ t, t < 2 ^ a.2.1 → rkV a.2.2 t ≤ 9 := fun t ht => Nat.le_trans (rkV_le (by omega)) (pc9_le t (by omega))
  refine x_aload_n dX0_partOf_0 rfl ?_
  refine x_v0 (N := mX0_refresh) dX0_partOf_1 ml_X0_71 nv_X0_refresh rfl rfl (kx_arq S B a hs tx u0 u1 u2 ck co hc hB) ?_
  rintro _ S' ⟨rfl, hc', hA'⟩
  have hA2 : ∀ t, t < 2 ^ a.2.1 → ∃ c, S'.2.1 43 t = nI c ∧ brOK (ringsB a.2.2 a.2.1 5) t c := hA'
  obtain ⟨Y, hY⟩ : ∃ Y : Nat → Nat, ∀ t, t < 2 ^ a.2.1 → S'.2.1 43 t = nI (Y t) ∧ brOK (ringsB a.2.2 a.2.1 5) t (Y t) := by
    refine ⟨fun t => if h : t < 2 ^ a.2.1 then (hA2 t h).choose else 0, fun t ht => ?_⟩
    simp only [dif_pos ht]
    exact (hA2 t ht).choose_spec
  refine x_aload_n dX0_partOf_4 rfl ?_
  refine x_getR dX0_partOf_5 fl_X0_15 rfl ?_
  refine x_ic _ ic_0 dX0_partOf_8 ?_
  refine x_s2 (N := mJ7_fill_53178) dX0_partOf_9 ml_X0_44 ns_J7_fill_53178 rfl (kx_fill_44 S') ?_
  rintro _ _ ⟨rfl, g0, rfl, hg0⟩
  refine x_aload_n dX0_partOf_12 rfl ?_
  refine x_getR dX0_partOf_13 fl_X0_15 rfl ?_
  refine x_iload_n dX0_partOf_16 rfl ?_
  refine x_ic _ ic_1 dX0_partOf_17 ?_
  refine x_iastN dX0_partOf_18 rfl rfl (by omega) ?_
  refine x_iload_n dX0_partOf_19 rfl ?_
  refine x_istore_n dX0_partOf_20 rfl ?_
  have hg1 : ∀ k, k < 512 → upd g0 s (nI 1) k = if k = s then nI 1 else nI 0 := fun k hk => by
    by_cases q : k = s
    · rw [q, upd_s, if_pos rfl]
    · rw [upd_n _ _ q, if_neg q]; exact hg0 k hk
  rw [sA_sA, sA_at]
  have f1 := (FO.rf [] [44] S').sA (upd g0 s (nI 1)) (r := 44) (by decide)
  have hc2 := hc'.scr f1 (by decide) (by decide)
  by_cases q : b ≤ s
  · refine x_loc (show _ = [Value.ref 42, .int (nI s), .int (nI b), .int (nI (b + (s - b)))] by rw [show b + (s - b) = s by omega]; rfl) ?_
    refine kx_po_l B a hs tx u0 u1 u2 ck co hB Y s b hs0 hb0 (fun t ht => (hY t ht).2) (ptF Y (rkV a.2.2) a.2.1 b (s - b) (upd g0 s (nI 1))) _ ?_ (s - b) _ (by omega) hc2 (fun t ht => by rw [sA_ne _ _ (by decide)]; exact (hY t ht).1) (by rw [sA_at])
    intro S5 z5 hc5 h5
    refine x_aload_n dX0_partOf_72 rfl ?_
    refine x_getR dX0_partOf_73 fl_X0_35 rfl ?_
    refine x_iload_n dX0_partOf_76 rfl ?_
    refine x_v1 (N := mX6_isIndependent) dX0_partOf_77 ml_X0_78 nv_X6_isIndependent rfl rfl (kx_isIndF S5 B a hs tx u0 u1 u2 ck co hc5 hB s hs0) ?_
    rintro _ S6 ⟨rfl, hc6, f6⟩
    refine x_if_eqB 92 dX0_partOf_80 rfl (fun c80 => ?_) (fun c80 => ?_)
    · refine x_ic _ ic_0 dX0_partOf_92 ?_
      refine x_iretI dX0_partOf_93 rfl ?_
      refine ⟨_, Y, ?_, hc6, fun t ht => (hY t ht).2, hg1⟩
      rw [if_pos (by cases e5 : bdB (rkV a.2.2) s with | true => rfl | false => rw [e5] at c80; cases c80)]
    · refine x_aload_n dX0_partOf_83 rfl ?_
      refine x_getR dX0_partOf_84 fl_X0_15 rfl ?_
      refine x_iload_n dX0_partOf_87 rfl ?_
      refine x_ialdN dX0_partOf_88 rfl rfl (by omega) ((show S6.2.1 44 b = ptF Y (rkV a.2.2) a.2.1 b (s - b) (upd g0 s (nI 1)) b by rw [f6.2.1 44 (by decide)]; exact h5)) ?_
      refine x_goto 93 dX0_partOf_89 rfl ?_
      refine x_iretI dX0_partOf_93 rfl ?_
      refine ⟨_, Y, ?_, hc6, fun t ht => (hY t ht).2, hg1⟩
      rw [if_neg (by intro z; rw [z] at c80; cases c80)]
  · have e0 : s - b = 0 := by omega
    have h72 : ∀ S5 z5, xCore S5 B a hs tx u0 u1 u2 ck co → S5.2.1 44 b = ptF Y (rkV a.2.2) a.2.1 b (s - b) (upd g0 s (nI 1)) b → X shX mX0_partOf 72 [.ref 42, .int (nI s), .int (nI b), z5] [] S5 (fun r S' => ∃ (g : Nat → Int32) (Y : Nat → Nat), r = some (.int (if bdB (rkV a.2.2) s = true then nI 0 else ptF Y (rkV a.2.2) a.2.1 b (s - b) g b)) ∧ xCore S' B a hs tx u0 u1 u2 ck co ∧ (∀ t, t < 2 ^ a.2.1 → brOK (ringsB a.2.2 a.2.1 5) t (Y t)) ∧ ∀ k, k < 512 → g k = if k = s then nI 1 else nI 0) := by
      intro S5 z5 hc5 h5
      refine x_aload_n dX0_partOf_72 rfl ?_
      refine x_getR dX0_partOf_73 fl_X0_35 rfl ?_
      refine x_iload_n dX0_partOf_76 rfl ?_
      refine x_v1 (N := mX6_isIndependent) dX0_partOf_77 ml_X0_78 nv_X6_isIndependent rfl rfl (kx_isIndF S5 B a hs tx u0 u1 u2 ck co hc5 hB s hs0) ?_
      rintro _ S6 ⟨rfl, hc6, f6⟩
      refine x_if_eqB 92 dX0_partOf_80 rfl (fun c80 => ?_) (fun c80 => ?_)
      · refine x_ic _ ic_0 dX0_partOf_92 ?_
        refine x_iretI dX0_partOf_93 rfl ?_
        refine ⟨_, Y, ?_, hc6, fun t ht => (hY t ht).2, hg1⟩
        rw [if_pos (by cases e5 : bdB (rkV a.2.2) s with | true => rfl | false => rw [e5] at c80; cases c80)]
      · refine x_aload_n dX0_partOf_83 rfl ?_
        refine x_getR dX0_partOf_84 fl_X0_15 rfl ?_
        refine x_iload_n dX0_partOf_87 rfl ?_
        refine x_ialdN dX0_partOf_88 rfl rfl (by omega) ((show S6.2.1 44 b = ptF Y (rkV a.2.2) a.2.1 b (s - b) (upd g0 s (nI 1)) b by rw [f6.2.1 44 (by decide)]; exact h5)) ?_
        refine x_goto 93 dX0_partOf_89 rfl ?_
        refine x_iretI dX0_partOf_93 rfl ?_
        refine ⟨_, Y, ?_, hc6, fun t ht => (hY t ht).2, hg1⟩
        rw [if_neg (by intro z; rw [z] at c80; cases c80)]
    refine x_iload_n dX0_partOf_21 rfl ?_
    refine x_iload_n dX0_partOf_22 rfl ?_
    refine x_icmp_leN 72 dX0_partOf_23 rfl (by omega) (by omega) (fun c23 => ?_) (fun c23 => ?_)
    · exact h72 _ _ hc2 (by rw [sA_at, e0]; rfl)
    · exact absurd c23 (by omega)
set_option maxRecDepth 100000 in
set_option maxHeartbeats 4000000 in
theorem kx_form_bad1 (S : amS) (B : Nat) (a : Ar) (hs : List Ar) (tx : List Nat) (u0 u1 u2 ck co : Int32) (hc : xCore S B a hs tx u0 u1 u2 ck co) (x y : Int32) (hx : ¬ InR x (2 ^ a.2.1)) : X shX mX10_form 0 [.ref 0, .int x, .int y, .null] [] S (fun r S' => r = some (.int (i32 (-2))) ∧ xCore S' B a hs tx (u0 + nI 1) u1 u2 ck co) := by
  obtain ⟨⟨hA, ho⟩, hrest, hV⟩ := id hc
  obtain ⟨a1, a2, a3, a4, a5, a6, a7⟩ := id hA
  obtain ⟨m1, m2, m3⟩ := id ho
  have h512 := pow9 a3
  have hpos := Nat.two_pow_pos a.2.1
  have hr9 : ∀ t, t < 2 ^ a.2.1 → rkV a.2.2 t ≤ 9 := fun t ht => Nat.le_trans (rkV_le (by omega)) (pc9_le t (by omega))
  refine x_aload_n dX10_form_0 rfl ?_
  refine x_getR dX10_form_1 fl_X10_17 rfl ?_
  refine x_iload_n dX10_form_4 rfl ?_
  refine x_v1d (N := mX1_hasAll) dX10_form_5 ml_X10_126 nv_X1_hasAll rfl rfl (kx_hasAll S a.2.1 a3 m2 _) ?_
  refine x_if_eqB 23 dX10_form_8 rfl (fun c8 => ?_) (fun c8 => ?_)
  · refine x_aload_n dX10_form_23 rfl ?_
    refine x_bi _ bi_m2 dX10_form_24 ?_
    refine x_v1 (N := mX10_refused) dX10_form_26 ml_X10_120 nv_X10_refused rfl rfl (kx_bad S B a hs tx u0 u1 u2 ck co hc) ?_
    rintro _ S' ⟨rfl, h'⟩
    refine x_iretI dX10_form_29 rfl ?_
    exact ⟨rfl, h'⟩
  · rw [in_R _ (by omega), show 2 ^ a.2.1 - 1 + 1 = 2 ^ a.2.1 by omega] at c8
    exact absurd c8 hx
set_option maxRecDepth 100000 in
set_option maxHeartbeats 4000000 in
theorem kx_form_bad2 (S : amS) (B : Nat) (a : Ar) (hs : List Ar) (tx : List Nat) (u0 u1 u2 ck co : Int32) (hc : xCore S B a hs tx u0 u1 u2 ck co) (s : Nat) (hs0 : s < 2 ^ a.2.1) (y : Int32) (hx : ¬ (pc9 s ≤ 4 ∧ ¬ y < 0)) : X shX mX10_form 0 [.ref 0, .int (nI s), .int y, .null] [] S (fun r S' => r = some (.int (i32 (-2))) ∧ xCore S' B a hs tx (u0 + nI 1) u1 u2 ck co) := by
  obtain ⟨⟨hA, ho⟩, hrest, hV⟩ := id hc
  obtain ⟨a1, a2, a3, a4, a5, a6, a7⟩ := id hA
  obtain ⟨m1, m2, m3⟩ := id ho
  have h512 := pow9 a3
  have hpos := Nat.two_pow_pos a.2.1
  have hr9 : ∀ t, t < 2 ^ a.2.1 → rkV a.2.2 t ≤ 9 := fun t ht => Nat.le_trans (rkV_le (by omega)) (pc9_le t (by omega))
  have hpc := pc9_le s (by omega)
  refine x_aload_n dX10_form_0 rfl ?_
  refine x_getR dX10_form_1 fl_X10_17 rfl ?_
  refine x_iload_n dX10_form_4 rfl ?_
  refine x_v1d (N := mX1_hasAll) dX10_form_5 ml_X10_126 nv_X1_hasAll rfl rfl (kx_hasAll S a.2.1 a3 m2 _) ?_
  refine x_if_eqB 23 dX10_form_8 rfl (fun c8 => ?_) (fun c8 => ?_)
  · rw [Bool.eq_false_iff, ne_eq, in_R _ (by omega), show 2 ^ a.2.1 - 1 + 1 = 2 ^ a.2.1 by omega] at c8
    exact absurd (InR_in hs0) c8
  · refine x_iload_n dX10_form_11 rfl ?_
    refine x_s1d (N := mJ6_bitCount_0f7a4) dX10_form_12 ml_X10_178 ns_J6_bitCount_0f7a4 rfl (kx_bc S s (by omega)) ?_
    refine x_ic _ ic_4 dX10_form_15 ?_
    refine x_icmp_gtN 23 dX10_form_16 rfl (by omega) (by omega) (fun c16 => ?_) (fun c16 => ?_)
    · refine x_aload_n dX10_form_23 rfl ?_
      refine x_bi _ bi_m2 dX10_form_24 ?_
      refine x_v1 (N := mX10_refused) dX10_form_26 ml_X10_120 nv_X10_refused rfl rfl (kx_bad S B a hs tx u0 u1 u2 ck co hc) ?_
      rintro _ S' ⟨rfl, h'⟩
      refine x_iretI dX10_form_29 rfl ?_
      exact ⟨rfl, h'⟩
    · refine x_iload_n dX10_form_19 rfl ?_
      refine x_if_ge 30 dX10_form_20 rfl (fun c20 => ?_) (fun c20 => ?_)
      · exact absurd ⟨by omega, Int32.not_lt.mpr c20⟩ hx
      · refine x_aload_n dX10_form_23 rfl ?_
        refine x_bi _ bi_m2 dX10_form_24 ?_
        refine x_v1 (N := mX10_refused) dX10_form_26 ml_X10_120 nv_X10_refused rfl rfl (kx_bad S B a hs tx u0 u1 u2 ck co hc) ?_
        rintro _ S' ⟨rfl, h'⟩
        refine x_iretI dX10_form_29 rfl ?_
        exact ⟨rfl, h'⟩
set_option maxRecDepth 100000 in
set_option maxHeartbeats 4000000 in
theorem kx_form_no (S : amS) (B : Nat) (a : Ar) (hs : List Ar) (tx : List Nat) (u0 u1 u2 ck co : Int32) (hc : xCore S B a hs tx u0 u1 u2 ck co) (hB : B < 2147483648) (s i : Nat) (hs0 : s < 2 ^ a.2.1) (hp4 : pc9 s ≤ 4) (hi : i < 2 ^ 31) (hn : (baL (rkV a.2.2) (ringsB a.2.2 a.2.1 5) a.2.1 (pc9 s)).length ≤ i) : X shX mX10_form 0 [.ref 0, .int (nI s), .int (nI i), .null] [] S (fun r S' => r = some (.int (i32 (-3))) ∧ xCore S' B a hs tx u0 (u1 + nI 1) u2 ck co) := by
  obtain ⟨⟨hA, ho⟩, hrest, hV⟩ := id hc
  obtain ⟨a1, a2, a3, a4, a5, a6, a7⟩ := id hA
  obtain ⟨m1, m2, m3⟩ := id ho
  have h512 := pow9 a3
  have hpos := Nat.two_pow_pos a.2.1
  have hr9 : ∀ t, t < 2 ^ a.2.1 → rkV a.2.2 t ≤ 9 := fun t ht => Nat.le_trans (rkV_le (by omega)) (pc9_le t (by omega))
  have hpc := pc9_le s (by omega)
  have hbl : (baL (rkV a.2.2) (ringsB a.2.2 a.2.1 5) a.2.1 (pc9 s)).length ≤ 126 := ba_pf a3 (bsB (rkV a.2.2) (ringsB a.2.2 a.2.1 5)) (pc9 s) (2 ^ a.2.1) (Nat.le_refl _)
  refine x_aload_n dX10_form_0 rfl ?_
  refine x_getR dX10_form_1 fl_X10_17 rfl ?_
  refine x_iload_n dX10_form_4 rfl ?_
  refine x_v1d (N := mX1_hasAll) dX10_form_5 ml_X10_126 nv_X1_hasAll rfl rfl (kx_hasAll S a.2.1 a3 m2 _) ?_
  refine x_if_eqB 23 dX10_form_8 rfl (fun c8 => ?_) (fun c8 => ?_)
  · rw [Bool.eq_false_iff, ne_eq, in_R _ (by omega), show 2 ^ a.2.1 - 1 + 1 = 2 ^ a.2.1 by omega] at c8
    exact absurd (InR_in hs0) c8
  · refine x_iload_n dX10_form_11 rfl ?_
    refine x_s1d (N := mJ6_bitCount_0f7a4) dX10_form_12 ml_X10_178 ns_J6_bitCount_0f7a4 rfl (kx_bc S s (by omega)) ?_
    refine x_ic _ ic_4 dX10_form_15 ?_
    refine x_icmp_gtN 23 dX10_form_16 rfl (by omega) (by omega) (fun c16 => ?_) (fun c16 => ?_)
    · exact absurd c16 (by omega)
    · refine x_iload_n dX10_form_19 rfl ?_
      refine x_topI ?_
      refine x_if_geI 30 dX10_form_20 rfl (by omega) (fun c20 => ?_) (fun c20 => ?_)
      · refine x_aload_n dX10_form_30 rfl ?_
        refine x_getR dX10_form_31 fl_X10_61 rfl ?_
        refine x_iload_n dX10_form_34 rfl ?_
        refine x_s1d (N := mJ6_bitCount_0f7a4) dX10_form_35 ml_X10_178 ns_J6_bitCount_0f7a4 rfl (kx_bc S s (by omega)) ?_
        refine x_v1 (N := mX0_baseSetsOfSize) dX10_form_38 ml_X10_205 nv_X0_baseSetsOfSize rfl rfl (kx_baseSets S B a hs tx u0 u1 u2 ck co hc hB (pc9 s) (by omega)) ?_
        rintro _ S1 ⟨rfl, hc1, -, hls⟩
        refine x_astore_n dX10_form_41 rfl ?_
        refine x_iload_n dX10_form_42 rfl ?_
        refine x_aload_n dX10_form_43 rfl ?_
        refine x_getIV dX10_form_44 fl_X10_151 rfl (hls.1) ?_
        refine x_icmp_ltN 57 dX10_form_47 rfl (by omega) (by omega) (fun c47 => ?_) (fun c47 => ?_)
        · exact absurd c47 (by omega)
        · refine x_aload_n dX10_form_50 rfl ?_
          refine x_bi _ bi_m3 dX10_form_51 ?_
          refine x_v1 (N := mX10_refused) dX10_form_53 ml_X10_120 nv_X10_refused rfl rfl (kx_no S1 B a hs tx u0 u1 u2 ck co hc1) ?_
          rintro _ S3 ⟨rfl, h3⟩
          refine x_iretI dX10_form_56 rfl ?_
          exact ⟨rfl, h3⟩
      · exact absurd c20 (by omega)
set_option maxRecDepth 100000 in
set_option maxHeartbeats 4000000 in
theorem kx_form_ok0 (S : amS) (B : Nat) (a : Ar) (hs : List Ar) (tx : List Nat) (u0 u1 u2 ck co : Int32) (hc : xCore S B a hs tx u0 u1 u2 ck co) (hB : B < 2147483648) (s i : Nat) (hs0 : s < 2 ^ a.2.1) (hp4 : pc9 s ≤ 4) (hi : i < 2 ^ 31) (b : Nat) (hb : (baL (rkV a.2.2) (ringsB a.2.2 a.2.1 5) a.2.1 (pc9 s))[i]? = some b) : X shX mX10_form 0 [.ref 0, .int (nI s), .int (nI i), .null] [] S (fun r S' => ∃ (g : Nat → Int32) (Y : Nat → Nat), r = some (.int ((if bdB (rkV a.2.2) s = true then nI 0 else ptF Y (rkV a.2.2) a.2.1 b (s - b) g b) + nI 1000)) ∧ xCore S' B a hs tx u0 u1 u2 ck co ∧ (∀ t, t < 2 ^ a.2.1 → brOK (ringsB a.2.2 a.2.1 5) t (Y t)) ∧ ∀ k, k < 512 → g k = if k = s then nI 1 else nI 0) := by
  obtain ⟨⟨hA, ho⟩, hrest, hV⟩ := id hc
  obtain ⟨a1, a2, a3, a4, a5, a6, a7⟩ := id hA
  obtain ⟨m1, m2, m3⟩ := id ho
  have h512 := pow9 a3
  have hpos := Nat.two_pow_pos a.2.1
  have hr9 : ∀ t, t < 2 ^ a.2.1 → rkV a.2.2 t ≤ 9 := fun t ht => Nat.le_trans (rkV_le (by omega)) (pc9_le t (by omega))
  have hpc := pc9_le s (by omega)
  have hbl : (baL (rkV a.2.2) (ringsB a.2.2 a.2.1 5) a.2.1 (pc9 s)).length ≤ 126 := ba_pf a3 (bsB (rkV a.2.2) (ringsB a.2.2 a.2.1 5)) (pc9 s) (2 ^ a.2.1) (Nat.le_refl _)
  have hil := (List.getElem?_eq_some_iff.mp hb).1
  have hbN : b < 2 ^ a.2.1 := by
    have := List.mem_of_getElem? hb
    unfold baL at this
    rw [List.mem_filter, List.mem_range] at this
    exact this.1
  refine x_aload_n dX10_form_0 rfl ?_
  refine x_getR dX10_form_1 fl_X10_17 rfl ?_
  refine x_iload_n dX10_form_4 rfl ?_
  refine x_v1d (N := mX1_hasAll) dX10_form_5 ml_X10_126 nv_X1_hasAll rfl rfl (kx_hasAll S a.2.1 a3 m2 _) ?_
  refine x_if_eqB 23 dX10_form_8 rfl (fun c8 => ?_) (fun c8 => ?_)
  · rw [Bool.eq_false_iff, ne_eq, in_R _ (by omega), show 2 ^ a.2.1 - 1 + 1 = 2 ^ a.2.1 by omega] at c8
    exact absurd (InR_in hs0) c8
  · refine x_iload_n dX10_form_11 rfl ?_
    refine x_s1d (N := mJ6_bitCount_0f7a4) dX10_form_12 ml_X10_178 ns_J6_bitCount_0f7a4 rfl (kx_bc S s (by omega)) ?_
    refine x_ic _ ic_4 dX10_form_15 ?_
    refine x_icmp_gtN 23 dX10_form_16 rfl (by omega) (by omega) (fun c16 => ?_) (fun c16 => ?_)
    · exact absurd c16 (by omega)
    · refine x_iload_n dX10_form_19 rfl ?_
      refine x_topI ?_
      refine x_if_geI 30 dX10_form_20 rfl (by omega) (fun c20 => ?_) (fun c20 => ?_)
      · refine x_aload_n dX10_form_30 rfl ?_
        refine x_getR dX10_form_31 fl_X10_61 rfl ?_
        refine x_iload_n dX10_form_34 rfl ?_
        refine x_s1d (N := mJ6_bitCount_0f7a4) dX10_form_35 ml_X10_178 ns_J6_bitCount_0f7a4 rfl (kx_bc S s (by omega)) ?_
        refine x_v1 (N := mX0_baseSetsOfSize) dX10_form_38 ml_X10_205 nv_X0_baseSetsOfSize rfl rfl (kx_baseSets S B a hs tx u0 u1 u2 ck co hc hB (pc9 s) (by omega)) ?_
        rintro _ S1 ⟨rfl, hc1, -, hls⟩
        refine x_astore_n dX10_form_41 rfl ?_
        refine x_iload_n dX10_form_42 rfl ?_
        refine x_aload_n dX10_form_43 rfl ?_
        refine x_getIV dX10_form_44 fl_X10_151 rfl (hls.1) ?_
        refine x_icmp_ltN 57 dX10_form_47 rfl (by omega) (by omega) (fun c47 => ?_) (fun c47 => ?_)
        · refine x_aload_n dX10_form_57 rfl ?_
          refine x_getR dX10_form_58 fl_X10_61 rfl ?_
          refine x_iload_n dX10_form_61 rfl ?_
          refine x_aload_n dX10_form_62 rfl ?_
          refine x_getR dX10_form_63 fl_X10_154 rfl ?_
          refine x_iload_n dX10_form_66 rfl ?_
          refine x_ialdN dX10_form_67 rfl rfl (by omega) (hls.2 i b hb) ?_
          refine x_v2 (N := mX0_partOf) dX10_form_68 ml_X10_208 nv_X0_partOf rfl rfl (kx_partOf S1 B a hs tx u0 u1 u2 ck co hc1 hB s b hs0 hbN) ?_
          rintro _ S3 ⟨g, Y, rfl, h3, h4, h5⟩
          refine x_si _ si_1000 dX10_form_71 ?_
          refine x_iadd dX10_form_74 ?_
          refine x_iretI dX10_form_75 rfl ?_
          exact ⟨g, Y, rfl, h3, h4, h5⟩
        · exact absurd c47 (by omega)
      · exact absurd c20 (by omega)
