/-! THE CLASS: modular flats, the first modular chain -/
def leB (r : Nat → Nat) (N : Nat) (t : Nat) : Bool := flB r N t && goX r N (r (2 ^ N - 1)) (r (2 ^ N - 1) - r t) t
def naP (r : Nat → Nat) (N t u : Nat) : Bool := leB r N u && (t ^^^ (t &&& u) == 0) && (r u == r t + 1)
theorem sub_le {t u : Nat} (h : t ^^^ (t &&& u) = 0) : t ≤ u := by
  have := sub_xor.mp h
  rw [← this]
  exact Nat.and_le_right
theorem naP_gt {r : Nat → Nat} {N t u : Nat} (h : naP r N t u = true) : t < u := by
  unfold naP at h
  rw [Bool.and_eq_true, Bool.and_eq_true, beq_iff_eq, beq_iff_eq] at h
  have h1 := sub_le h.1.2
  rcases Nat.lt_or_eq_of_le h1 with z | z
  · exact z
  · rw [z] at h
    omega
theorem naP_ch {r : Nat → Nat} {N t u : Nat} : naP r N t u = chP r N (r (2 ^ N - 1)) (r t) t u := by
  unfold naP chP leB
  by_cases q : r u = r t + 1
  · rw [q]
    cases (t ^^^ (t &&& u) == 0) <;> cases flB r N u <;> simp
  · rw [beq_false_of_ne q]
    simp
theorem fl_top {d N : Nat} {v : Nat → Row} (hA : Arr d N v) {t : Nat} (ht : t < 2 ^ N) (hf : flB (rkV v) N t = true) (hr : rkV v t = rkV v (2 ^ N - 1)) : t = 2 ^ N - 1 := by
  have hpos := Nat.two_pow_pos N
  apply Nat.eq_of_testBit_eq
  intro i
  rw [Nat.testBit_two_pow_sub_one]
  by_cases q : i < N
  · rw [decide_eq_true q]
    have h3 : rkV v (t ||| 2 ^ i) = rkV v t := by
      have h1 := rkV_mono (v := v) (x := t) (y := t ||| 2 ^ i) (fun j _ hj => by rw [Nat.testBit_or, hj]; rfl)
      have h2 := rkV_mono (v := v) (x := t ||| 2 ^ i) (y := 2 ^ N - 1) (fun j _ hj => by
        rw [Nat.testBit_two_pow_sub_one]
        exact decide_eq_true (tb_lt (or_lt9 ht (pow_ltN q)) hj))
      omega
    have key : ∀ n, i < n → (clB (rkV v) t n).testBit i = true := by
      intro n
      induction n with
      | zero => intro z; omega
      | succ n ih =>
        intro z
        rw [clB, Nat.testBit_or, Bool.or_eq_true]
        by_cases e : i = n
        · subst e
          right
          rw [if_pos h3]
          simp
        · left
          exact ih (by omega)
    have h4 := key N q
    unfold flB at hf
    rw [beq_iff_eq] at hf
    rw [hf] at h4
    exact h4
  · rw [decide_eq_false q, tb_hi ht (by omega)]
/-- what is found out of a set: it is a flat, modular, all or below one that leads on -/
theorem le_step {d N : Nat} {v : Nat → Row} (hA : Arr d N v) {t : Nat} (ht : t < 2 ^ N) : leB (rkV v) N t = ((flB (rkV v) N t && evB (rkV v) N t (2 ^ N)) && (t == 2 ^ N - 1 || ((List.range (2 ^ N)).find? (naP (rkV v) N t)).isSome)) := by
  have hpos := Nat.two_pow_pos N
  have hle : rkV v t ≤ rkV v (2 ^ N - 1) := rkV_mono (fun j _ hj => by rw [Nat.testBit_two_pow_sub_one]; exact decide_eq_true (tb_lt ht hj))
  have e1 : (List.range (2 ^ N)).any (chP (rkV v) N (rkV v (2 ^ N - 1)) (rkV v t) t) = ((List.range (2 ^ N)).find? (naP (rkV v) N t)).isSome := by
    rw [show naP (rkV v) N t = chP (rkV v) N (rkV v (2 ^ N - 1)) (rkV v t) t from funext (fun u => naP_ch)]
    rw [Bool.eq_iff_iff, List.find?_isSome, List.any_eq_true]
  unfold leB
  rw [goX_at hle, e1]
  cases hf : flB (rkV v) N t with
  | false => rfl
  | true =>
    have : decide (rkV v t = rkV v (2 ^ N - 1)) = (t == 2 ^ N - 1) := by
      by_cases q : t = 2 ^ N - 1
      · rw [q]; simp
      · rw [beq_false_of_ne q]
        exact decide_eq_false (fun z => q (fl_top hA ht hf z))
    rw [this]
    cases evB (rkV v) N t (2 ^ N) <;> simp
theorem find_lt {p : Nat → Bool} {T m : Nat} (h : (List.range T).find? p = some m) : m < T := List.mem_range.mp (List.mem_of_find?_eq_some h)
theorem ixA_s {o : Option Nat} (h : ixA o ≠ i32 (-1)) : o.isSome = true := by
  cases o with
  | none => exact absurd rfl h
  | some m => rfl
theorem ixA_n {o : Option Nat} (h : ixA o = i32 (-1)) (hb : ∀ m, o = some m → m < 2147483648) : o.isSome = false := by
  cases o with
  | none => rfl
  | some m => exact absurd h (nI_m1 (by have := hb m rfl; omega))
set_option maxRecDepth 100000 in
set_option maxHeartbeats 4000000 in
theorem kx_im_l (S : amS) (a : Ar) (hA : Arr a.1 a.2.1 a.2.2) (ho : aObj S 1 2 a) (hl : laidX S a.2.1 a.2.2) (f : Nat) (hf : f < 2 ^ a.2.1) : ∀ (e t : Nat), t + e = 2 ^ a.2.1 → evB (rkV a.2.2) a.2.1 f t = true → X shX mX7_isModular 10 [.ref 34, .int (nI f), .ref 22, .int (nI t)] [] S (fun q S' => q = some (.int (zB (evB (rkV a.2.2) a.2.1 f (2 ^ a.2.1)))) ∧ S' = S) := by
  obtain ⟨a1, a2, a3, a4, a5, a6, a7⟩ := id hA
  obtain ⟨m1, m2, m3⟩ := id ho
  have h512 := pow9 a3
  have hpos := Nat.two_pow_pos a.2.1
  have hr9 : ∀ t, t < 2 ^ a.2.1 → rkV a.2.2 t ≤ 9 := fun t ht => Nat.le_trans (rkV_le (by omega)) (pc9_le t (by omega))
  have evf : ∀ n t, t < n → evB (rkV a.2.2) a.2.1 f (t + 1) = false → evB (rkV a.2.2) a.2.1 f n = false := by
    intro n
    induction n with
    | zero => intro t h; omega
    | succ n ih =>
      intro t h1 h2
      by_cases q : t = n
      · subst q; exact h2
      · rw [evB, ih t (by omega) h2]; rfl
  intro e
  induction e with
  | zero =>
    intro t h1 h2
    obtain rfl : t = 2 ^ a.2.1 := by omega
    refine x_iload_n dX7_isModular_10 rfl ?_
    refine x_aload_n dX7_isModular_11 rfl ?_
    refine x_getR dX7_isModular_12 fl_X7_26 rfl ?_
    refine x_v0d (N := mX1_all) dX7_isModular_15 ml_X7_44 nv_X1_all rfl rfl (kx_all S a.2.1 a3 m2) ?_
    refine x_icmp_gtN 62 dX7_isModular_18 rfl (by omega) (by omega) (fun c18 => ?_) (fun c18 => ?_)
    · refine x_ic _ ic_1 dX7_isModular_62 ?_
      refine x_zret1 dX7_isModular_63 rfl ?_
      exact ⟨by rw [zB_t h2], rfl⟩
    · exact absurd c18 (by omega)
  | succ e ih =>
    intro t h1 h2
    have hor : f ||| t < 2 ^ a.2.1 := or_lt9 hf (by omega)
    have hand : f &&& t < 2 ^ a.2.1 := Nat.lt_of_le_of_lt Nat.and_le_left hf
    have r1 := hr9 f hf
    have r2 := hr9 t (by omega)
    have r3 := hr9 _ hor
    have r4 := hr9 _ hand
    refine x_iload_n dX7_isModular_10 rfl ?_
    refine x_aload_n dX7_isModular_11 rfl ?_
    refine x_getR dX7_isModular_12 fl_X7_26 rfl ?_
    refine x_v0d (N := mX1_all) dX7_isModular_15 ml_X7_44 nv_X1_all rfl rfl (kx_all S a.2.1 a3 m2) ?_
    refine x_icmp_gtN 62 dX7_isModular_18 rfl (by omega) (by omega) (fun c18 => ?_) (fun c18 => ?_)
    · exact absurd c18 (by omega)
    · refine x_aload_n dX7_isModular_21 rfl ?_
      refine x_getR dX7_isModular_22 fl_X7_30 rfl ?_
      refine x_getR dX7_isModular_25 fl_X7_48 rfl ?_
      refine x_iload_n dX7_isModular_28 rfl ?_
      refine x_zaldN dX7_isModular_29 rfl rfl (by omega) (hl.2.1 t (by omega)) ?_
      refine x_if_eqB 56 dX7_isModular_30 rfl (fun c30 => ?_) (fun c30 => ?_)
      · refine x_iincN dX7_isModular_56 rfl rfl ?_
        refine x_goto 10 dX7_isModular_59 rfl ?_
        refine ih (t + 1) (by omega) ?_
        rw [evB, h2, c30]; rfl
      · refine x_aload_n dX7_isModular_33 rfl ?_
        refine x_iload_n dX7_isModular_34 rfl ?_
        refine x_ialdN dX7_isModular_35 rfl rfl (by omega) (hl.1 f hf) ?_
        refine x_aload_n dX7_isModular_36 rfl ?_
        refine x_iload_n dX7_isModular_37 rfl ?_
        refine x_ialdN dX7_isModular_38 rfl rfl (by omega) (hl.1 t (by omega)) ?_
        refine x_iaddN dX7_isModular_39 ?_
        refine x_aload_n dX7_isModular_40 rfl ?_
        refine x_iload_n dX7_isModular_41 rfl ?_
        refine x_iload_n dX7_isModular_42 rfl ?_
        refine x_iorN dX7_isModular_43 ?_
        refine x_ialdN dX7_isModular_44 rfl rfl (by omega) (hl.1 _ hor) ?_
        refine x_aload_n dX7_isModular_45 rfl ?_
        refine x_iload_n dX7_isModular_46 rfl ?_
        refine x_iload_n dX7_isModular_47 rfl ?_
        refine x_iandN dX7_isModular_48 ?_
        refine x_ialdN dX7_isModular_49 rfl rfl (by omega) (hl.1 _ hand) ?_
        refine x_iaddN dX7_isModular_50 ?_
        refine x_icmp_eqN 56 dX7_isModular_51 rfl (by omega) (by omega) (fun c51 => ?_) (fun c51 => ?_)
        · refine x_iincN dX7_isModular_56 rfl rfl ?_
          refine x_goto 10 dX7_isModular_59 rfl ?_
          refine ih (t + 1) (by omega) ?_
          rw [evB, h2, c51]; simp
        · refine x_ic _ ic_0 dX7_isModular_54 ?_
          refine x_zret0 dX7_isModular_55 rfl ?_
          exact ⟨by rw [zB_f (evf (2 ^ a.2.1) t (by omega) (by rw [evB, h2, c30]; simpa using c51))], rfl⟩
set_option maxRecDepth 100000 in
set_option maxHeartbeats 4000000 in
theorem kx_isModular (S : amS) (a : Ar) (hA : Arr a.1 a.2.1 a.2.2) (ho : aObj S 1 2 a) (hl : laidX S a.2.1 a.2.2) (f : Nat) (hf : f < 2 ^ a.2.1) : X shX mX7_isModular 0 [.ref 34, .int (nI f), .null, .null] [] S (fun q S' => q = some (.int (zB (evB (rkV a.2.2) a.2.1 f (2 ^ a.2.1)))) ∧ S' = S) := by
  refine x_aload_n dX7_isModular_0 rfl ?_
  refine x_getR dX7_isModular_1 fl_X7_30 rfl ?_
  refine x_getR dX7_isModular_4 fl_X7_59 rfl ?_
  refine x_astore_n dX7_isModular_7 rfl ?_
  refine x_ic _ ic_0 dX7_isModular_8 ?_
  refine x_istore_n dX7_isModular_9 rfl ?_
  exact kx_im_l S a hA ho hl f hf (2 ^ a.2.1) 0 (by have := Nat.two_pow_pos a.2.1; omega) rfl
set_option maxRecDepth 100000 in
set_option maxHeartbeats 4000000 in
theorem kx_na_l (S : amS) (a : Ar) (hA : Arr a.1 a.2.1 a.2.2) (ho : aObj S 1 2 a) (hl : laidX S a.2.1 a.2.2) (t : Nat) (ht : t < 2 ^ a.2.1) (hle : ∀ u, t < u → u < 2 ^ a.2.1 → S.2.1 36 u = zB (leB (rkV a.2.2) a.2.1 u)) : ∀ (e u : Nat), u + e = 2 ^ a.2.1 → t < u → (∀ x, x < u → (naP (rkV a.2.2) a.2.1 t) x = false) → X shX mX7_nextAbove 4 [.ref 34, .int (nI t), .int (nI u)] [] S (fun q S' => q = some (.int (ixA ((List.range (2 ^ a.2.1)).find? (naP (rkV a.2.2) a.2.1 t)))) ∧ S' = S) := by
  obtain ⟨a1, a2, a3, a4, a5, a6, a7⟩ := id hA
  obtain ⟨m1, m2, m3⟩ := id ho
  have h512 := pow9 a3
  have hpos := Nat.two_pow_pos a.2.1
  have hr9 : ∀ t, t < 2 ^ a.2.1 → rkV a.2.2 t ≤ 9 := fun t ht => Nat.le_trans (rkV_le (by omega)) (pc9_le t (by omega))
  intro e
  induction e with
  | zero =>
    intro u h1 h2 h3
    obtain rfl : u = 2 ^ a.2.1 := by omega
    have hn : (List.range (2 ^ a.2.1)).find? (naP (rkV a.2.2) a.2.1 t) = none := by
      rw [List.find?_eq_none]
      intro x hx
      rw [h3 x (List.mem_range.mp hx)]
      decide
    refine x_iload_n dX7_nextAbove_4 rfl ?_
    refine x_aload_n dX7_nextAbove_5 rfl ?_
    refine x_getR dX7_nextAbove_6 fl_X7_26 rfl ?_
    refine x_v0d (N := mX1_all) dX7_nextAbove_9 ml_X7_44 nv_X1_all rfl rfl (kx_all S a.2.1 a3 m2) ?_
    refine x_icmp_gtN 63 dX7_nextAbove_12 rfl (by omega) (by omega) (fun c12 => ?_) (fun c12 => ?_)
    · refine x_ic _ ic_m1 dX7_nextAbove_63 ?_
      refine x_iretI dX7_nextAbove_64 rfl ?_
      exact ⟨by rw [hn]; rfl, rfl⟩
    · exact absurd c12 (by omega)
  | succ e ih =>
    intro u h1 h2 h3
    have hxl := xor_and_le t u
    have r1 := hr9 u (by omega)
    have r2 := hr9 t ht
    refine x_iload_n dX7_nextAbove_4 rfl ?_
    refine x_aload_n dX7_nextAbove_5 rfl ?_
    refine x_getR dX7_nextAbove_6 fl_X7_26 rfl ?_
    refine x_v0d (N := mX1_all) dX7_nextAbove_9 ml_X7_44 nv_X1_all rfl rfl (kx_all S a.2.1 a3 m2) ?_
    refine x_icmp_gtN 63 dX7_nextAbove_12 rfl (by omega) (by omega) (fun c12 => ?_) (fun c12 => ?_)
    · exact absurd c12 (by omega)
    · refine x_aload_n dX7_nextAbove_15 rfl ?_
      refine x_getR dX7_nextAbove_16 fl_X7_15 rfl ?_
      refine x_iload_n dX7_nextAbove_19 rfl ?_
      refine x_zaldN dX7_nextAbove_20 rfl rfl (by omega) (hle u h2 (by omega)) ?_
      refine x_if_eqB 57 dX7_nextAbove_21 rfl (fun c21 => ?_) (fun c21 => ?_)
      · refine x_iincN dX7_nextAbove_57 rfl rfl ?_
        refine x_goto 4 dX7_nextAbove_60 rfl ?_
        refine ih (u + 1) (by omega) (by omega) (fun x hx => ?_)
        by_cases q : x = u
        · rw [q, naP]; rw [c21]; rfl
        · exact h3 x (by omega)
      · refine x_iload_n dX7_nextAbove_24 rfl ?_
        refine x_iload_n dX7_nextAbove_25 rfl ?_
        refine x_ic _ ic_m1 dX7_nextAbove_26 ?_
        refine x_ixor dX7_nextAbove_27 ?_
        refine x_iandNX dX7_nextAbove_28 ?_
        refine x_if_neN 57 dX7_nextAbove_29 rfl (by omega) (fun c29 => ?_) (fun c29 => ?_)
        · refine x_iincN dX7_nextAbove_57 rfl rfl ?_
          refine x_goto 4 dX7_nextAbove_60 rfl ?_
          refine ih (u + 1) (by omega) (by omega) (fun x hx => ?_)
          by_cases q : x = u
          · rw [q, naP]; rw [beq_false_of_ne c29]; simp
          · exact h3 x (by omega)
        · refine x_aload_n dX7_nextAbove_32 rfl ?_
          refine x_getR dX7_nextAbove_33 fl_X7_30 rfl ?_
          refine x_getR dX7_nextAbove_36 fl_X7_59 rfl ?_
          refine x_iload_n dX7_nextAbove_39 rfl ?_
          refine x_ialdN dX7_nextAbove_40 rfl rfl (by omega) (hl.1 u (by omega)) ?_
          refine x_aload_n dX7_nextAbove_41 rfl ?_
          refine x_getR dX7_nextAbove_42 fl_X7_30 rfl ?_
          refine x_getR dX7_nextAbove_45 fl_X7_59 rfl ?_
          refine x_iload_n dX7_nextAbove_48 rfl ?_
          refine x_ialdN dX7_nextAbove_49 rfl rfl (by omega) (hl.1 t ht) ?_
          refine x_ic _ ic_1 dX7_nextAbove_50 ?_
          refine x_iaddN dX7_nextAbove_51 ?_
          refine x_icmp_neN 57 dX7_nextAbove_52 rfl (by omega) (by omega) (fun c52 => ?_) (fun c52 => ?_)
          · refine x_iincN dX7_nextAbove_57 rfl rfl ?_
            refine x_goto 4 dX7_nextAbove_60 rfl ?_
            refine ih (u + 1) (by omega) (by omega) (fun x hx => ?_)
            by_cases q : x = u
            · rw [q, naP]; rw [beq_false_of_ne c52]; simp
            · exact h3 x (by omega)
          · refine x_iload_n dX7_nextAbove_55 rfl ?_
            refine x_iretI dX7_nextAbove_56 rfl ?_
            have hp : naP (rkV a.2.2) a.2.1 t u = true := by rw [naP, c21, c29, c52]; simp
            exact ⟨by rw [find_at (by omega) hp h3]; rfl, rfl⟩
set_option maxRecDepth 100000 in
set_option maxHeartbeats 4000000 in
theorem kx_nextAbove (S : amS) (a : Ar) (hA : Arr a.1 a.2.1 a.2.2) (ho : aObj S 1 2 a) (hl : laidX S a.2.1 a.2.2) (t : Nat) (ht : t < 2 ^ a.2.1) (hle : ∀ u, t < u → u < 2 ^ a.2.1 → S.2.1 36 u = zB (leB (rkV a.2.2) a.2.1 u)) : X shX mX7_nextAbove 0 [.ref 34, .int (nI t), .null] [] S (fun q S' => q = some (.int (ixA ((List.range (2 ^ a.2.1)).find? (naP (rkV a.2.2) a.2.1 t)))) ∧ S' = S) := by
  refine x_iload_n dX7_nextAbove_0 rfl ?_
  refine x_ic _ ic_1 dX7_nextAbove_1 ?_
  refine x_iaddN dX7_nextAbove_2 ?_
  refine x_istore_n dX7_nextAbove_3 rfl ?_
  refine kx_na_l S a hA ho hl t ht hle (2 ^ a.2.1 - (t + 1)) (t + 1) (by omega) (by omega) (fun x hx => Bool.eq_false_iff.mpr (fun z => ?_))
  have := naP_gt z
  omega
set_option maxRecDepth 100000 in
set_option maxHeartbeats 4000000 in
theorem kx_er_1 (S0 : amS) (a : Ar) (hA : Arr a.1 a.2.1 a.2.2) (ho0 : aObj S0 1 2 a) (hl0 : laidX S0 a.2.1 a.2.2) (Q : Option Value → amS → Prop) (hq : ∀ S, FO [] [35, 36] S0 S → (∀ u, u < 2 ^ a.2.1 → S.2.1 35 u = zB (flB (rkV a.2.2) a.2.1 u && evB (rkV a.2.2) a.2.1 u (2 ^ a.2.1))) → (∀ u, u < 2 ^ a.2.1 → S.2.1 36 u = zB (leB (rkV a.2.2) a.2.1 u)) → X shX mX7_refresh 118 [.ref 34, .int (nI (2 ^ a.2.1 - 1)), .int (i32 (-1))] [] S Q) : ∀ (k : Nat) (S : amS), k ≤ 2 ^ a.2.1 → FO [] [35, 36] S0 S → (∀ u, k ≤ u → u < 2 ^ a.2.1 → S.2.1 35 u = zB (flB (rkV a.2.2) a.2.1 u && evB (rkV a.2.2) a.2.1 u (2 ^ a.2.1))) → (∀ u, k ≤ u → u < 2 ^ a.2.1 → S.2.1 36 u = zB (leB (rkV a.2.2) a.2.1 u)) → X shX mX7_refresh 43 [.ref 34, .int (nI (2 ^ a.2.1 - 1)), .int (i32 ((k : Int) - 1))] [] S Q := by
  have h512 := pow9 hA.2.2.1
  have hpos := Nat.two_pow_pos a.2.1
  have a3 := hA.2.2.1
  intro k
  induction k with
  | zero =>
    intro S h1 h2 h3 h4
    refine x_iload_n dX7_refresh_43 rfl ?_
    refine x_if_ltI 118 dX7_refresh_44 rfl (by omega) (fun c44 => ?_) (fun c44 => ?_)
    · exact hq S h2 (fun u hu => h3 u (by omega) hu) (fun u hu => h4 u (by omega) hu)
    · exact absurd c44 (by omega)
  | succ k ih =>
    intro S h1 h2 h3 h4
    have ho := ho0.fo h2 (by decide) (by decide)
    have hl := hl0.fo h2 (by decide) (by decide)
    have hstep := le_step hA (t := k) (by omega)
    refine x_loc (show _ = [Value.ref 34, .int (nI (2 ^ a.2.1 - 1)), .int (nI k)] by rw [show i32 (((k + 1 : Nat) : Int) - 1) = nI k by rw [nI_i32]; congr 1; omega]) ?_
    refine x_iload_n dX7_refresh_43 rfl ?_
    refine x_topI ?_
    refine x_if_ltI 118 dX7_refresh_44 rfl (by omega) (fun c44 => ?_) (fun c44 => ?_)
    · exact absurd c44 (by omega)
    · refine x_aload_n dX7_refresh_47 rfl ?_
      refine x_getR dX7_refresh_48 fl_X7_9 rfl ?_
      refine x_iload_n dX7_refresh_51 rfl ?_
      refine x_aload_n dX7_refresh_52 rfl ?_
      refine x_getR dX7_refresh_53 fl_X7_30 rfl ?_
      refine x_getR dX7_refresh_56 fl_X7_48 rfl ?_
      refine x_iload_n dX7_refresh_59 rfl ?_
      refine x_zaldN dX7_refresh_60 rfl rfl (by omega) (hl.2.1 k (by omega)) ?_
      refine x_if_eqB 76 dX7_refresh_61 rfl (fun c61 => ?_) (fun c61 => ?_)
      · refine x_ic _ ic_0 dX7_refresh_76 ?_
        refine x_zastN dX7_refresh_77 rfl rfl (by omega) (show vp_nar .boolean (nI 0) = nI 0 by decide) ?_
        have hmd : zB (flB (rkV a.2.2) a.2.1 k && evB (rkV a.2.2) a.2.1 k (2 ^ a.2.1)) = nI 0 := by rw [c61]; rfl
        have hmb : (flB (rkV a.2.2) a.2.1 k && evB (rkV a.2.2) a.2.1 k (2 ^ a.2.1)) = false := by rw [c61]; rfl
        refine x_aload_n dX7_refresh_78 rfl ?_
        refine x_getR dX7_refresh_79 fl_X7_15 rfl ?_
        refine x_iload_n dX7_refresh_82 rfl ?_
        refine x_aload_n dX7_refresh_83 rfl ?_
        refine x_getR dX7_refresh_84 fl_X7_9 rfl ?_
        refine x_iload_n dX7_refresh_87 rfl ?_
        refine x_zaldN dX7_refresh_88 rfl rfl (by omega) ((show (sA S 35 (upd (S.2.1 35) k (nI 0))).2.1 35 k = zB false by rw [sA_at, upd_s]; rfl)) ?_
        refine x_if_eqB 110 dX7_refresh_89 rfl (fun c89 => ?_) (fun c89 => ?_)
        · refine x_ic _ ic_0 dX7_refresh_110 ?_
          refine x_zastN dX7_refresh_111 rfl rfl (by omega) (show vp_nar .boolean (nI 0) = nI 0 by decide) ?_
          refine x_iinc dX7_refresh_112 rfl rfl ?_
          refine x_goto 43 dX7_refresh_115 rfl ?_
          rw [show nI k + Int32.ofInt (-1) = i32 ((k : Int) - 1) by rw [nI_i32, show Int32.ofInt (-1) = i32 (-1) from rfl, i32_add]; congr 1]
          refine ih _ (by omega) ((h2.sA _ (by decide)).sA _ (by decide)) (fun u hu1 hu2 => ?_) (fun u hu1 hu2 => ?_)
          · rw [sA_ne _ _ (by decide), sA_at]
            by_cases q : u = k
            · rw [q, upd_s, hmd]
            · rw [upd_n _ _ q]; exact h3 u (by omega) hu2
          · rw [sA_at]
            by_cases q : u = k
            · rw [q, upd_s, hstep, hmb]; rfl
            · rw [upd_n _ _ q, sA_ne _ _ (by decide)]; exact h4 u (by omega) hu2
        · cases c89
      · refine x_aload_n dX7_refresh_64 rfl ?_
        refine x_iload_n dX7_refresh_65 rfl ?_
        refine x_v1d (N := mX7_isModular) dX7_refresh_66 ml_X7_51 nv_X7_isModular rfl rfl (kx_isModular S a hA ho hl k (by omega)) ?_
        refine x_if_eqB 76 dX7_refresh_69 rfl (fun c69 => ?_) (fun c69 => ?_)
        · refine x_ic _ ic_0 dX7_refresh_76 ?_
          refine x_zastN dX7_refresh_77 rfl rfl (by omega) (show vp_nar .boolean (nI 0) = nI 0 by decide) ?_
          have hmd : zB (flB (rkV a.2.2) a.2.1 k && evB (rkV a.2.2) a.2.1 k (2 ^ a.2.1)) = nI 0 := by rw [c61, c69]; rfl
          have hmb : (flB (rkV a.2.2) a.2.1 k && evB (rkV a.2.2) a.2.1 k (2 ^ a.2.1)) = false := by rw [c61, c69]; rfl
          refine x_aload_n dX7_refresh_78 rfl ?_
          refine x_getR dX7_refresh_79 fl_X7_15 rfl ?_
          refine x_iload_n dX7_refresh_82 rfl ?_
          refine x_aload_n dX7_refresh_83 rfl ?_
          refine x_getR dX7_refresh_84 fl_X7_9 rfl ?_
          refine x_iload_n dX7_refresh_87 rfl ?_
          refine x_zaldN dX7_refresh_88 rfl rfl (by omega) ((show (sA S 35 (upd (S.2.1 35) k (nI 0))).2.1 35 k = zB false by rw [sA_at, upd_s]; rfl)) ?_
          refine x_if_eqB 110 dX7_refresh_89 rfl (fun c89 => ?_) (fun c89 => ?_)
          · refine x_ic _ ic_0 dX7_refresh_110 ?_
            refine x_zastN dX7_refresh_111 rfl rfl (by omega) (show vp_nar .boolean (nI 0) = nI 0 by decide) ?_
            refine x_iinc dX7_refresh_112 rfl rfl ?_
            refine x_goto 43 dX7_refresh_115 rfl ?_
            rw [show nI k + Int32.ofInt (-1) = i32 ((k : Int) - 1) by rw [nI_i32, show Int32.ofInt (-1) = i32 (-1) from rfl, i32_add]; congr 1]
            refine ih _ (by omega) ((h2.sA _ (by decide)).sA _ (by decide)) (fun u hu1 hu2 => ?_) (fun u hu1 hu2 => ?_)
            · rw [sA_ne _ _ (by decide), sA_at]
              by_cases q : u = k
              · rw [q, upd_s, hmd]
              · rw [upd_n _ _ q]; exact h3 u (by omega) hu2
            · rw [sA_at]
              by_cases q : u = k
              · rw [q, upd_s, hstep, hmb]; rfl
              · rw [upd_n _ _ q, sA_ne _ _ (by decide)]; exact h4 u (by omega) hu2
          · cases c89
        · refine x_ic _ ic_1 dX7_refresh_72 ?_
          refine x_goto 77 dX7_refresh_73 rfl ?_
          refine x_zastN dX7_refresh_77 rfl rfl (by omega) (show vp_nar .boolean (nI 1) = nI 1 by decide) ?_
          have hmd : zB (flB (rkV a.2.2) a.2.1 k && evB (rkV a.2.2) a.2.1 k (2 ^ a.2.1)) = nI 1 := by rw [c61, c69]; rfl
          have hmb : (flB (rkV a.2.2) a.2.1 k && evB (rkV a.2.2) a.2.1 k (2 ^ a.2.1)) = true := by rw [c61, c69]; rfl
          refine x_aload_n dX7_refresh_78 rfl ?_
          refine x_getR dX7_refresh_79 fl_X7_15 rfl ?_
          refine x_iload_n dX7_refresh_82 rfl ?_
          refine x_aload_n dX7_refresh_83 rfl ?_
          refine x_getR dX7_refresh_84 fl_X7_9 rfl ?_
          refine x_iload_n dX7_refresh_87 rfl ?_
          refine x_zaldN dX7_refresh_88 rfl rfl (by omega) ((show (sA S 35 (upd (S.2.1 35) k (nI 1))).2.1 35 k = zB true by rw [sA_at, upd_s]; rfl)) ?_
          refine x_if_eqB 110 dX7_refresh_89 rfl (fun c89 => ?_) (fun c89 => ?_)
          · cases c89
          · refine x_iload_n dX7_refresh_92 rfl ?_
            refine x_iload_n dX7_refresh_93 rfl ?_
            refine x_icmp_eqN 106 dX7_refresh_94 rfl (by omega) (by omega) (fun c94 => ?_) (fun c94 => ?_)
            · refine x_ic _ ic_1 dX7_refresh_106 ?_
              refine x_goto 111 dX7_refresh_107 rfl ?_
              refine x_zastN dX7_refresh_111 rfl rfl (by omega) (show vp_nar .boolean (nI 1) = nI 1 by decide) ?_
              refine x_iinc dX7_refresh_112 rfl rfl ?_
              refine x_goto 43 dX7_refresh_115 rfl ?_
              rw [show nI k + Int32.ofInt (-1) = i32 ((k : Int) - 1) by rw [nI_i32, show Int32.ofInt (-1) = i32 (-1) from rfl, i32_add]; congr 1]
              refine ih _ (by omega) ((h2.sA _ (by decide)).sA _ (by decide)) (fun u hu1 hu2 => ?_) (fun u hu1 hu2 => ?_)
              · rw [sA_ne _ _ (by decide), sA_at]
                by_cases q : u = k
                · rw [q, upd_s, hmd]
                · rw [upd_n _ _ q]; exact h3 u (by omega) hu2
              · rw [sA_at]
                by_cases q : u = k
                · rw [q, upd_s, hstep, hmb]; rw [c94]; simp; rfl
                · rw [upd_n _ _ q, sA_ne _ _ (by decide)]; exact h4 u (by omega) hu2
            · refine x_aload_n dX7_refresh_97 rfl ?_
              refine x_iload_n dX7_refresh_98 rfl ?_
              refine x_v1d (N := mX7_nextAbove) dX7_refresh_99 ml_X7_55 nv_X7_nextAbove rfl rfl (kx_nextAbove (sA S 35 (upd (S.2.1 35) k (nI 1))) a hA ho (hl0.fo (h2.sA (upd (S.2.1 35) k (nI 1)) (r := 35) (by decide)) (by decide) (by decide)) k (by omega) (fun u hu1 hu2 => by rw [sA_ne _ _ (by decide)]; exact h4 u (by omega) hu2)) ?_
              refine x_ic _ ic_m1 dX7_refresh_102 ?_
              refine x_icmp_eq 110 dX7_refresh_103 rfl (fun c103 => ?_) (fun c103 => ?_)
              · refine x_ic _ ic_0 dX7_refresh_110 ?_
                refine x_zastN dX7_refresh_111 rfl rfl (by omega) (show vp_nar .boolean (nI 0) = nI 0 by decide) ?_
                refine x_iinc dX7_refresh_112 rfl rfl ?_
                refine x_goto 43 dX7_refresh_115 rfl ?_
                rw [show nI k + Int32.ofInt (-1) = i32 ((k : Int) - 1) by rw [nI_i32, show Int32.ofInt (-1) = i32 (-1) from rfl, i32_add]; congr 1]
                refine ih _ (by omega) ((h2.sA _ (by decide)).sA _ (by decide)) (fun u hu1 hu2 => ?_) (fun u hu1 hu2 => ?_)
                · rw [sA_ne _ _ (by decide), sA_at]
                  by_cases q : u = k
                  · rw [q, upd_s, hmd]
                  · rw [upd_n _ _ q]; exact h3 u (by omega) hu2
                · rw [sA_at]
                  by_cases q : u = k
                  · rw [q, upd_s, hstep, hmb]; rw [ixA_n c103 (fun m hm => by have := find_lt hm; omega), beq_false_of_ne c94]; rfl
                  · rw [upd_n _ _ q, sA_ne _ _ (by decide)]; exact h4 u (by omega) hu2
              · refine x_ic _ ic_1 dX7_refresh_106 ?_
                refine x_goto 111 dX7_refresh_107 rfl ?_
                refine x_zastN dX7_refresh_111 rfl rfl (by omega) (show vp_nar .boolean (nI 1) = nI 1 by decide) ?_
                refine x_iinc dX7_refresh_112 rfl rfl ?_
                refine x_goto 43 dX7_refresh_115 rfl ?_
                rw [show nI k + Int32.ofInt (-1) = i32 ((k : Int) - 1) by rw [nI_i32, show Int32.ofInt (-1) = i32 (-1) from rfl, i32_add]; congr 1]
                refine ih _ (by omega) ((h2.sA _ (by decide)).sA _ (by decide)) (fun u hu1 hu2 => ?_) (fun u hu1 hu2 => ?_)
                · rw [sA_ne _ _ (by decide), sA_at]
                  by_cases q : u = k
                  · rw [q, upd_s, hmd]
                  · rw [upd_n _ _ q]; exact h3 u (by omega) hu2
                · rw [sA_at]
                  by_cases q : u = k
                  · rw [q, upd_s, hstep, hmb]; rw [ixA_s c103]; simp; rfl
                  · rw [upd_n _ _ q, sA_ne _ _ (by decide)]; exact h4 u (by omega) hu2
theorem lk_ok {d N : Nat} {v : Nat → Row} (hA : Arr d N v) (hgo : goX (rkV v) N (rkV v (2 ^ N - 1)) (rkV v (2 ^ N - 1)) 0 = true) : ∀ q, q ≤ rkV v (2 ^ N - 1) → (lkB (rkV v) N (rkV v (2 ^ N - 1)) q < 2 ^ N ∧ rkV v (lkB (rkV v) N (rkV v (2 ^ N - 1)) q) = q ∧ leB (rkV v) N (lkB (rkV v) N (rkV v (2 ^ N - 1)) q) = true) ∧ (q < rkV v (2 ^ N - 1) → (List.range (2 ^ N)).find? (naP (rkV v) N (lkB (rkV v) N (rkV v (2 ^ N - 1)) q)) = some (lkB (rkV v) N (rkV v (2 ^ N - 1)) (q + 1))) := by
  have hpos := Nat.two_pow_pos N
  have r0 : rkV v 0 = 0 := Nat.le_zero.mp (by have := rkV_le (v := v) (s := 0) (by omega); exact this)
  have nxtq : ∀ q, q < rkV v (2 ^ N - 1) → (lkB (rkV v) N (rkV v (2 ^ N - 1)) q < 2 ^ N ∧ rkV v (lkB (rkV v) N (rkV v (2 ^ N - 1)) q) = q ∧ leB (rkV v) N (lkB (rkV v) N (rkV v (2 ^ N - 1)) q) = true) → (List.range (2 ^ N)).find? (naP (rkV v) N (lkB (rkV v) N (rkV v (2 ^ N - 1)) q)) = some (lkB (rkV v) N (rkV v (2 ^ N - 1)) (q + 1)) := by
    intro q hq h
    obtain ⟨h1, h2, h3⟩ := h
    have h4 := le_step hA h1
    rw [h3] at h4
    have h5 : (lkB (rkV v) N (rkV v (2 ^ N - 1)) q == 2 ^ N - 1) = false := beq_false_of_ne (fun z => by rw [z] at h2; omega)
    rw [h5, Bool.false_or] at h4
    have h6 := (Bool.and_eq_true _ _ ▸ h4.symm : _ ∧ _).2
    rw [lkB]
    have e : naP (rkV v) N (lkB (rkV v) N (rkV v (2 ^ N - 1)) q) = chP (rkV v) N (rkV v (2 ^ N - 1)) q (lkB (rkV v) N (rkV v (2 ^ N - 1)) q) := by
      funext u
      rw [naP_ch, h2]
    rw [← e]
    cases hf : (List.range (2 ^ N)).find? (naP (rkV v) N (lkB (rkV v) N (rkV v (2 ^ N - 1)) q)) with
    | none => rw [hf] at h6; cases h6
    | some m => rfl
  intro q
  induction q with
  | zero =>
    intro hq
    have hb : lkB (rkV v) N (rkV v (2 ^ N - 1)) 0 < 2 ^ N ∧ rkV v (lkB (rkV v) N (rkV v (2 ^ N - 1)) 0) = 0 ∧ leB (rkV v) N (lkB (rkV v) N (rkV v (2 ^ N - 1)) 0) = true := by
      refine ⟨hpos, r0, ?_⟩
      show leB (rkV v) N 0 = true
      unfold leB
      rw [r0, Nat.sub_zero, hgo, fl_0 hA]
      rfl
    exact ⟨hb, fun z => nxtq 0 z hb⟩
  | succ q ih =>
    intro hq
    obtain ⟨h1, h2⟩ := ih (by omega)
    have h3 := h2 (by omega)
    have hb : lkB (rkV v) N (rkV v (2 ^ N - 1)) (q + 1) < 2 ^ N ∧ rkV v (lkB (rkV v) N (rkV v (2 ^ N - 1)) (q + 1)) = q + 1 ∧ leB (rkV v) N (lkB (rkV v) N (rkV v (2 ^ N - 1)) (q + 1)) = true := by
      have h4 := List.find?_some h3
      have h5 := find_lt h3
      unfold naP at h4
      rw [Bool.and_eq_true, Bool.and_eq_true, beq_iff_eq, beq_iff_eq, h1.2.1] at h4
      exact ⟨h5, h4.2, h4.1.1⟩
    exact ⟨hb, fun z => nxtq (q + 1) z hb⟩
set_option maxRecDepth 100000 in
set_option maxHeartbeats 4000000 in
theorem kx_er_2 (S0 : amS) (a : Ar) (hA : Arr a.1 a.2.1 a.2.2) (ho0 : aObj S0 1 2 a) (hl0 : laidX S0 a.2.1 a.2.2) (hle : ∀ u, u < 2 ^ a.2.1 → S0.2.1 36 u = zB (leB (rkV a.2.2) a.2.1 u)) (hgo : goX (rkV a.2.2) a.2.1 (rkV a.2.2 (2 ^ a.2.1 - 1)) (rkV a.2.2 (2 ^ a.2.1 - 1)) 0 = true) : ∀ (e k : Nat) (g : Nat → Int32), k + e = (rkV a.2.2 (2 ^ a.2.1 - 1)) → (∀ q, q ≤ k → g q = nI (lkB (rkV a.2.2) a.2.1 (rkV a.2.2 (2 ^ a.2.1 - 1)) q)) → X shX mX7_refresh 127 [.ref 34, .int (nI (2 ^ a.2.1 - 1)), .int (nI (k + 1))] [] (sA S0 37 g) (fun r S' => r = none ∧ ∃ g, S' = sA S0 37 g ∧ ∀ q, q ≤ (rkV a.2.2 (2 ^ a.2.1 - 1)) → g q = nI (lkB (rkV a.2.2) a.2.1 (rkV a.2.2 (2 ^ a.2.1 - 1)) q)) := by
  have h512 := pow9 hA.2.2.1
  have hpos := Nat.two_pow_pos a.2.1
  have a3 := hA.2.2.1
  have ha4 := hA.2.1
  have htop := rkV_d hA (2 ^ a.2.1 - 1)
  have hl1 := hl0.1 (2 ^ a.2.1 - 1) (by omega)
  intro e
  induction e with
  | zero =>
    intro k g h1 h2
    obtain rfl : k = rkV a.2.2 (2 ^ a.2.1 - 1) := by omega
    refine x_iload_n dX7_refresh_127 rfl ?_
    refine x_aload_n dX7_refresh_128 rfl ?_
    refine x_getR dX7_refresh_129 fl_X7_30 rfl ?_
    refine x_getR dX7_refresh_132 fl_X7_59 rfl ?_
    refine x_iload_n dX7_refresh_135 rfl ?_
    refine x_ialdN dX7_refresh_136 rfl rfl (by omega) (hl1) ?_
    refine x_icmp_gtN 184 dX7_refresh_137 rfl (by omega) (by omega) (fun c137 => ?_) (fun c137 => ?_)
    · refine x_ret dX7_refresh_184 rfl ?_
      exact ⟨rfl, g, rfl, h2⟩
    · exact absurd c137 (by omega)
  | succ e ih =>
    intro k g h1 h2
    obtain ⟨⟨q1, q2, q3⟩, q4⟩ := lk_ok hA hgo k (by omega)
    have q5 := q4 (by omega)
    obtain ⟨⟨p1, -, -⟩, -⟩ := lk_ok hA hgo (k + 1) (by omega)
    have hgk : (sA S0 37 g).2.1 37 (k + 1 - 1) = nI (lkB (rkV a.2.2) a.2.1 (rkV a.2.2 (2 ^ a.2.1 - 1)) k) := by rw [sA_at]; exact h2 k (Nat.le_refl _)
    refine x_iload_n dX7_refresh_127 rfl ?_
    refine x_aload_n dX7_refresh_128 rfl ?_
    refine x_getR dX7_refresh_129 fl_X7_30 rfl ?_
    refine x_getR dX7_refresh_132 fl_X7_59 rfl ?_
    refine x_iload_n dX7_refresh_135 rfl ?_
    refine x_ialdN dX7_refresh_136 rfl rfl (by omega) (hl1) ?_
    refine x_icmp_gtN 184 dX7_refresh_137 rfl (by omega) (by omega) (fun c137 => ?_) (fun c137 => ?_)
    · exact absurd c137 (by omega)
    · refine x_aload_n dX7_refresh_140 rfl ?_
      refine x_getR dX7_refresh_141 fl_X7_15 rfl ?_
      refine x_aload_n dX7_refresh_144 rfl ?_
      refine x_getR dX7_refresh_145 fl_X7_18 rfl ?_
      refine x_iload_n dX7_refresh_148 rfl ?_
      refine x_ic _ ic_1 dX7_refresh_149 ?_
      refine x_isubN dX7_refresh_150 (by omega) ?_
      refine x_ialdN dX7_refresh_151 rfl rfl (by omega) (hgk) ?_
      refine x_zaldN dX7_refresh_152 rfl rfl (by omega) (hle _ q1) ?_
      refine x_if_eqB 184 dX7_refresh_153 rfl (fun c153 => ?_) (fun c153 => ?_)
      · rw [q3] at c153; cases c153
      · refine x_aload_n dX7_refresh_156 rfl ?_
        refine x_getR dX7_refresh_157 fl_X7_18 rfl ?_
        refine x_iload_n dX7_refresh_160 rfl ?_
        refine x_ic _ ic_0 dX7_refresh_161 ?_
        refine x_aload_n dX7_refresh_162 rfl ?_
        refine x_aload_n dX7_refresh_163 rfl ?_
        refine x_getR dX7_refresh_164 fl_X7_18 rfl ?_
        refine x_iload_n dX7_refresh_167 rfl ?_
        refine x_ic _ ic_1 dX7_refresh_168 ?_
        refine x_isubN dX7_refresh_169 (by omega) ?_
        refine x_ialdN dX7_refresh_170 rfl rfl (by omega) (hgk) ?_
        refine x_v1d (N := mX7_nextAbove) dX7_refresh_171 ml_X7_55 nv_X7_nextAbove rfl rfl (kx_nextAbove (sA S0 37 g) a hA ho0 hl0 _ q1 (fun u _ hu2 => hle u hu2)) ?_
        refine x_top (b := nI (lkB (rkV a.2.2) a.2.1 (rkV a.2.2 (2 ^ a.2.1 - 1)) (k + 1))) (by rw [q5]; rfl) ?_
        refine x_mmax dX7_refresh_174 ml_X7_62 rfl rfl ?_
        refine x_top (nI_max (by omega) (by omega)) ?_
        rw [Nat.zero_max]
        refine x_iastN dX7_refresh_177 rfl rfl (by omega) ?_
        refine x_iincN dX7_refresh_178 rfl rfl ?_
        refine x_goto 127 dX7_refresh_181 rfl ?_
        rw [sA_sA, sA_at]
        refine ih (k + 1) _ (by omega) (fun q hq => ?_)
        by_cases z : q = k + 1
        · rw [z, upd_s]
        · rw [upd_n _ _ z]; exact h2 q (by omega)
set_option maxRecDepth 100000 in
set_option maxHeartbeats 4000000 in
theorem kx_erefresh (S : amS) (a : Ar) (hA : Arr a.1 a.2.1 a.2.2) (ho : aObj S 1 2 a) (V : Nat) (hV : S.1 1 3 = nI V) (hVb : V < 2147483648) (hsm : seenX S 19 7 V (laidX S a.2.1 a.2.2)) (hsn : seenX S 34 5 V (laidE S a.2.1 a.2.2)) : X shX mX7_refresh 0 [.ref 34, .null, .null] [] S (fun r S' => r = none ∧ ((S' = S ∧ laidE S a.2.1 a.2.2) ∨ (FO [19, 20, 24, 34] [22, 23, 25, 35, 36, 37] S S' ∧ S'.1 34 5 = nI V ∧ S'.1 19 7 = nI V ∧ laidE S' a.2.1 a.2.2))) := by
  obtain ⟨a1, a2, a3, a4, a5, a6, a7⟩ := id hA
  obtain ⟨m1, m2, m3⟩ := id ho
  have h512 := pow9 a3
  have hpos := Nat.two_pow_pos a.2.1
  have hr9 : ∀ t, t < 2 ^ a.2.1 → rkV a.2.2 t ≤ 9 := fun t ht => Nat.le_trans (rkV_le (by omega)) (pc9_le t (by omega))
  obtain ⟨w, w1, w2, w3, w4⟩ := hsn
  have r0 : rkV a.2.2 0 = 0 := Nat.le_zero.mp (rkV_le (v := a.2.2) (s := 0) (by omega))
  refine x_aload_n dX7_refresh_0 rfl ?_
  refine x_getIV dX7_refresh_1 fl_X7_22 rfl (w3) ?_
  refine x_aload_n dX7_refresh_4 rfl ?_
  refine x_getR dX7_refresh_5 fl_X7_26 rfl ?_
  refine x_getIV dX7_refresh_8 fl_X7_34 rfl (hV) ?_
  refine x_topI ?_
  refine x_icmp_neI 15 dX7_refresh_11 rfl (by omega) (by omega) (fun c11 => ?_) (fun c11 => ?_)
  · refine x_aload_n dX7_refresh_15 rfl ?_
    refine x_aload_n dX7_refresh_16 rfl ?_
    refine x_getR dX7_refresh_17 fl_X7_26 rfl ?_
    refine x_getIV dX7_refresh_20 fl_X7_34 rfl (hV) ?_
    refine x_put dX7_refresh_23 fp_X7_22 rfl rfl rfl ?_
    have e5 : (sF S 34 (upd (S.1 34) 5 (nI V))).1 34 5 = nI V := by simp [sF, sA, va_up, upd]
    have f1 : FO [34] [] S (sF S 34 (upd (S.1 34) 5 (nI V))) := (FO.rf _ _ S).sF _ (by simp)
    generalize sF S 34 (upd (S.1 34) 5 (nI V)) = T at e5 f1 ⊢
    refine x_aload_n dX7_refresh_26 rfl ?_
    refine x_getR dX7_refresh_27 fl_X7_30 rfl ?_
    refine x_v0 (N := mX6_refresh) dX7_refresh_30 ml_X7_39 nv_X6_refresh rfl rfl (kx_mrefresh T a hA (ho.fo f1 (by decide) (by decide)) V (by rw [f1.1 1 (by decide)]; exact hV) hVb (hsm.fo (f1.1 _ (by decide)) (fun z => z.fo f1 (by decide) (by decide)))) ?_
    rintro _ S2 ⟨rfl, f2, k7, kl⟩
    have ho2 := (ho.fo f1 (by decide) (by decide)).fo f2 (by decide) (by decide)
    refine x_aload_n dX7_refresh_33 rfl ?_
    refine x_getR dX7_refresh_34 fl_X7_26 rfl ?_
    refine x_v0d (N := mX1_all) dX7_refresh_37 ml_X7_44 nv_X1_all rfl rfl (kx_all S2 a.2.1 a3 ho2.2.1) ?_
    refine x_istore_n dX7_refresh_40 rfl ?_
    refine x_iload_n dX7_refresh_41 rfl ?_
    refine x_istore_n dX7_refresh_42 rfl ?_
    refine x_loc (show _ = [Value.ref 34, .int (nI (2 ^ a.2.1 - 1)), .int (i32 (((2 ^ a.2.1 : Nat) : Int) - 1))] by rw [show nI (2 ^ a.2.1 - 1) = i32 (((2 ^ a.2.1 : Nat) : Int) - 1) by rw [nI_i32]; congr 1; omega]; rfl) ?_
    refine kx_er_1 S2 a hA ho2 kl _ (fun S3 f3 h35 h36 => ?_) (2 ^ a.2.1) S2 (Nat.le_refl _) (FO.rf _ _ _) (fun u h1 h2 => by omega) (fun u h1 h2 => by omega)
    have kl3 := kl.fo f3 (by decide) (by decide)
    have hlT := kl3.1 (2 ^ a.2.1 - 1) (by omega)
    have ho3 := ho2.fo f3 (by decide) (by decide)
    have htop := rkV_d hA (2 ^ a.2.1 - 1)
    refine x_aload_n dX7_refresh_118 rfl ?_
    refine x_getR dX7_refresh_119 fl_X7_18 rfl ?_
    refine x_ic _ ic_0 dX7_refresh_122 ?_
    refine x_ic _ ic_0 dX7_refresh_123 ?_
    refine x_iastN dX7_refresh_124 rfl rfl (by omega) ?_
    refine x_ic _ ic_1 dX7_refresh_125 ?_
    refine x_istore_n dX7_refresh_126 rfl ?_
    have fin : ∀ g, (goX (rkV a.2.2) a.2.1 (rkV a.2.2 (2 ^ a.2.1 - 1)) (rkV a.2.2 (2 ^ a.2.1 - 1)) 0 = true → ∀ q, q ≤ rkV a.2.2 (2 ^ a.2.1 - 1) → g q = nI (lkB (rkV a.2.2) a.2.1 (rkV a.2.2 (2 ^ a.2.1 - 1)) q)) → ((none : Option Value) = none ∧ ((sA S3 37 g = S ∧ laidE S a.2.1 a.2.2) ∨ (FO [19, 20, 24, 34] [22, 23, 25, 35, 36, 37] S (sA S3 37 g) ∧ (sA S3 37 g).1 34 5 = nI V ∧ (sA S3 37 g).1 19 7 = nI V ∧ laidE (sA S3 37 g) a.2.1 a.2.2))) := by
      intro g hg
      have f4 := (FO.rf [] [37] S3).sA g (r := 37) (by decide)
      refine ⟨rfl, Or.inr ⟨?_, ?_, ?_, ?_, ?_, ?_, ?_⟩⟩
      · exact (((f1.mono (by decide) (by decide)).tr (f2.mono (by decide) (by decide))).tr (f3.mono (by decide) (by decide))).tr (f4.mono (by decide) (by decide))
      · show S3.1 34 5 = _
        rw [f3.1 34 (by decide), f2.1 34 (by decide)]; exact e5
      · show S3.1 19 7 = _
        rw [f3.1 19 (by decide)]; exact k7
      · exact kl3.fo f4 (by decide) (by decide)
      · intro t ht
        rw [sA_ne _ _ (by decide)]; exact h35 t ht
      · intro t ht
        rw [sA_ne _ _ (by decide)]; exact h36 t ht
      · intro z q hq
        rw [sA_at]; exact hg z q hq
    by_cases hgo : goX (rkV a.2.2) a.2.1 (rkV a.2.2 (2 ^ a.2.1 - 1)) (rkV a.2.2 (2 ^ a.2.1 - 1)) 0 = true
    · refine x_mono ?_ (kx_er_2 S3 a hA ho3 kl3 h36 hgo (rkV a.2.2 (2 ^ a.2.1 - 1)) 0 _ (by omega) (fun q hq => by rw [Nat.le_zero.mp hq, upd_s]; rfl))
      rintro _ _ ⟨rfl, g, rfl, hg⟩
      exact fin g (fun _ => hg)
    · have hgo' : goX (rkV a.2.2) a.2.1 (rkV a.2.2 (2 ^ a.2.1 - 1)) (rkV a.2.2 (2 ^ a.2.1 - 1)) 0 = false := Bool.eq_false_iff.mpr hgo
      have hl00 : leB (rkV a.2.2) a.2.1 0 = false := by
        unfold leB
        rw [r0, Nat.sub_zero, hgo']
        simp
      refine x_iload_n dX7_refresh_127 rfl ?_
      refine x_aload_n dX7_refresh_128 rfl ?_
      refine x_getR dX7_refresh_129 fl_X7_30 rfl ?_
      refine x_getR dX7_refresh_132 fl_X7_59 rfl ?_
      refine x_iload_n dX7_refresh_135 rfl ?_
      refine x_ialdN dX7_refresh_136 rfl rfl (by omega) (hlT) ?_
      refine x_icmp_gtN 184 dX7_refresh_137 rfl (by omega) (by omega) (fun c137 => ?_) (fun c137 => ?_)
      · refine x_ret dX7_refresh_184 rfl ?_
        exact fin _ (fun z => absurd z hgo)
      · refine x_aload_n dX7_refresh_140 rfl ?_
        refine x_getR dX7_refresh_141 fl_X7_15 rfl ?_
        refine x_aload_n dX7_refresh_144 rfl ?_
        refine x_getR dX7_refresh_145 fl_X7_18 rfl ?_
        refine x_iload_n dX7_refresh_148 rfl ?_
        refine x_ic _ ic_1 dX7_refresh_149 ?_
        refine x_isubN dX7_refresh_150 (by omega) ?_
        refine x_ialdN dX7_refresh_151 rfl rfl (by omega) ((show _ = nI 0 by rw [sA_at, upd_s])) ?_
        refine x_zaldN dX7_refresh_152 rfl rfl (by omega) (h36 0 hpos) ?_
        refine x_if_eqB 184 dX7_refresh_153 rfl (fun c153 => ?_) (fun c153 => ?_)
        · refine x_ret dX7_refresh_184 rfl ?_
          exact fin _ (fun z => absurd z hgo)
        · rw [hl00] at c153; cases c153
  · refine x_ret dX7_refresh_14 rfl ?_
    exact ⟨rfl, Or.inl ⟨rfl, w4 c11⟩⟩
theorem kx_erq (S : amS) (B : Nat) (a : Ar) (hs : List Ar) (tx : List Nat) (u0 u1 u2 ck co : Int32) (hc : xCore S B a hs tx u0 u1 u2 ck co) (hB : B < 2147483648) : X shX mX7_refresh 0 [.ref 34, .null, .null] [] S (fun r S' => r = none ∧ xCore S' B a hs tx u0 u1 u2 ck co ∧ laidE S' a.2.1 a.2.2) := by
  obtain ⟨⟨h1, h2⟩, h3, V, h4, h5, t1, t2, t3, t4⟩ := id hc
  refine x_mono ?_ (kx_erefresh S a h1 h2 V h5 (by omega) t1 t3)
  rintro _ S' ⟨rfl, (⟨rfl, hl⟩ | ⟨f, e5, e7, hr⟩)⟩
  · exact ⟨rfl, hc, hl⟩
  · exact ⟨rfl, ⟨⟨h1, h2.fo f (by decide) (by decide)⟩, h3.fo f (by decide) (by decide) (by decide), V, h4, by rw [f.1 1 (by decide)]; exact h5, ⟨V, by omega, by omega, by rw [e7, nI_i32], fun _ => hr.1⟩, t2.fo (f.1 _ (by decide)) (fun z => z.fo f (by decide) (by decide)), ⟨V, by omega, by omega, by rw [e5, nI_i32], fun _ => hr⟩, t4.fo (f.1 _ (by decide)) (fun z => z.fo f (by decide))⟩, hr⟩
set_option maxRecDepth 100000 in
set_option maxHeartbeats 4000000 in
theorem kx_hasChain (S : amS) (B : Nat) (a : Ar) (hs : List Ar) (tx : List Nat) (u0 u1 u2 ck co : Int32) (hc : xCore S B a hs tx u0 u1 u2 ck co) (hB : B < 2147483648) : X shX mX7_hasChain 0 [.ref 34] [] S (fun r S' => r = some (.int (zB (goX (rkV a.2.2) a.2.1 (rkV a.2.2 (2 ^ a.2.1 - 1)) (rkV a.2.2 (2 ^ a.2.1 - 1)) 0))) ∧ xCore S' B a hs tx u0 u1 u2 ck co) := by
  obtain ⟨⟨hA, ho⟩, hrest, hV⟩ := id hc
  obtain ⟨a1, a2, a3, a4, a5, a6, a7⟩ := id hA
  obtain ⟨m1, m2, m3⟩ := id ho
  have h512 := pow9 a3
  have hpos := Nat.two_pow_pos a.2.1
  have hr9 : ∀ t, t < 2 ^ a.2.1 → rkV a.2.2 t ≤ 9 := fun t ht => Nat.le_trans (rkV_le (by omega)) (pc9_le t (by omega))
  have r0 : rkV a.2.2 0 = 0 := Nat.le_zero.mp (rkV_le (v := a.2.2) (s := 0) (by omega))
  have htop := rkV_d hA (2 ^ a.2.1 - 1)
  refine x_aload_n dX7_hasChain_0 rfl ?_
  refine x_v0 (N := mX7_refresh) dX7_hasChain_1 ml_X7_68 nv_X7_refresh rfl rfl (kx_erq S B a hs tx u0 u1 u2 ck co hc hB) ?_
  rintro _ S' ⟨rfl, hc', hr'⟩
  refine x_aload_n dX7_hasChain_4 rfl ?_
  refine x_getR dX7_hasChain_5 fl_X7_15 rfl ?_
  refine x_ic _ ic_0 dX7_hasChain_8 ?_
  refine x_zaldN dX7_hasChain_9 rfl rfl (by omega) ((show S'.2.1 36 0 = zB (goX (rkV a.2.2) a.2.1 (rkV a.2.2 (2 ^ a.2.1 - 1)) (rkV a.2.2 (2 ^ a.2.1 - 1)) 0) by rw [hr'.2.2.1 0 hpos, fl_0 hA, r0, Nat.sub_zero]; rfl)) ?_
  refine x_zretB dX7_hasChain_10 rfl ?_
  exact ⟨rfl, hc'⟩
set_option maxRecDepth 100000 in
set_option maxHeartbeats 4000000 in
theorem kx_linkAt (S : amS) (B : Nat) (a : Ar) (hs : List Ar) (tx : List Nat) (u0 u1 u2 ck co : Int32) (hc : xCore S B a hs tx u0 u1 u2 ck co) (hB : B < 2147483648) (hgo : (goX (rkV a.2.2) a.2.1 (rkV a.2.2 (2 ^ a.2.1 - 1)) (rkV a.2.2 (2 ^ a.2.1 - 1)) 0) = true) (i : Nat) (hi : i ≤ (rkV a.2.2 (2 ^ a.2.1 - 1))) : X shX mX7_linkAt 0 [.ref 34, .int (nI i)] [] S (fun r S' => r = some (.int (nI (lkB (rkV a.2.2) a.2.1 (rkV a.2.2 (2 ^ a.2.1 - 1)) i))) ∧ xCore S' B a hs tx u0 u1 u2 ck co) := by
  obtain ⟨⟨hA, ho⟩, hrest, hV⟩ := id hc
  obtain ⟨a1, a2, a3, a4, a5, a6, a7⟩ := id hA
  obtain ⟨m1, m2, m3⟩ := id ho
  have h512 := pow9 a3
  have hpos := Nat.two_pow_pos a.2.1
  have hr9 : ∀ t, t < 2 ^ a.2.1 → rkV a.2.2 t ≤ 9 := fun t ht => Nat.le_trans (rkV_le (by omega)) (pc9_le t (by omega))
  have r0 : rkV a.2.2 0 = 0 := Nat.le_zero.mp (rkV_le (v := a.2.2) (s := 0) (by omega))
  have htop := rkV_d hA (2 ^ a.2.1 - 1)
  refine x_aload_n dX7_linkAt_0 rfl ?_
  refine x_v0 (N := mX7_refresh) dX7_linkAt_1 ml_X7_68 nv_X7_refresh rfl rfl (kx_erq S B a hs tx u0 u1 u2 ck co hc hB) ?_
  rintro _ S' ⟨rfl, hc', hr'⟩
  refine x_aload_n dX7_linkAt_4 rfl ?_
  refine x_getR dX7_linkAt_5 fl_X7_18 rfl ?_
  refine x_iload_n dX7_linkAt_8 rfl ?_
  refine x_ialdN dX7_linkAt_9 rfl rfl (by omega) (hr'.2.2.2 hgo i hi) ?_
  refine x_iretI dX7_linkAt_10 rfl ?_
  exact ⟨rfl, hc'⟩
set_option maxRecDepth 100000 in
set_option maxHeartbeats 4000000 in
theorem kx_stepAt (S : amS) (B : Nat) (a : Ar) (hs : List Ar) (tx : List Nat) (u0 u1 u2 ck co : Int32) (hc : xCore S B a hs tx u0 u1 u2 ck co) (hB : B < 2147483648) (hgo : (goX (rkV a.2.2) a.2.1 (rkV a.2.2 (2 ^ a.2.1 - 1)) (rkV a.2.2 (2 ^ a.2.1 - 1)) 0) = true) (i : Nat) (h1 : 1 ≤ i) (hi : i ≤ (rkV a.2.2 (2 ^ a.2.1 - 1))) : X shX mX7_stepAt 0 [.ref 34, .int (nI i)] [] S (fun r S' => r = some (.int (i32 ((pc9 (lkB (rkV a.2.2) a.2.1 (rkV a.2.2 (2 ^ a.2.1 - 1)) i) : Int) - (pc9 (lkB (rkV a.2.2) a.2.1 (rkV a.2.2 (2 ^ a.2.1 - 1)) (i - 1)) : Int)))) ∧ xCore S' B a hs tx u0 u1 u2 ck co) := by
  obtain ⟨⟨hA, ho⟩, hrest, hV⟩ := id hc
  obtain ⟨a1, a2, a3, a4, a5, a6, a7⟩ := id hA
  obtain ⟨m1, m2, m3⟩ := id ho
  have h512 := pow9 a3
  have hpos := Nat.two_pow_pos a.2.1
  have hr9 : ∀ t, t < 2 ^ a.2.1 → rkV a.2.2 t ≤ 9 := fun t ht => Nat.le_trans (rkV_le (by omega)) (pc9_le t (by omega))
  have r0 : rkV a.2.2 0 = 0 := Nat.le_zero.mp (rkV_le (v := a.2.2) (s := 0) (by omega))
  have htop := rkV_d hA (2 ^ a.2.1 - 1)
  refine x_aload_n dX7_stepAt_0 rfl ?_
  refine x_v0 (N := mX7_refresh) dX7_stepAt_1 ml_X7_68 nv_X7_refresh rfl rfl (kx_erq S B a hs tx u0 u1 u2 ck co hc hB) ?_
  rintro _ S' ⟨rfl, hc', hr'⟩
  refine x_aload_n dX7_stepAt_4 rfl ?_
  refine x_getR dX7_stepAt_5 fl_X7_18 rfl ?_
  refine x_iload_n dX7_stepAt_8 rfl ?_
  refine x_ialdN dX7_stepAt_9 rfl rfl (by omega) (hr'.2.2.2 hgo i hi) ?_
  refine x_s1d (N := mJ6_bitCount_0f7a4) dX7_stepAt_10 ml_X7_69 ns_J6_bitCount_0f7a4 rfl (kx_bc S' _ (by have := (lk_ok hA hgo i hi).1.1; omega)) ?_
  refine x_aload_n dX7_stepAt_13 rfl ?_
  refine x_getR dX7_stepAt_14 fl_X7_18 rfl ?_
  refine x_iload_n dX7_stepAt_17 rfl ?_
  refine x_ic _ ic_1 dX7_stepAt_18 ?_
  refine x_isubN dX7_stepAt_19 (by omega) ?_
  refine x_ialdN dX7_stepAt_20 rfl rfl (by omega) (hr'.2.2.2 hgo (i - 1) (by omega)) ?_
  refine x_s1d (N := mJ6_bitCount_0f7a4) dX7_stepAt_21 ml_X7_69 ns_J6_bitCount_0f7a4 rfl (kx_bc S' _ (by have := (lk_ok hA hgo (i - 1) (by omega)).1.1; omega)) ?_
  refine x_isubZ dX7_stepAt_24 ?_
  refine x_iretI dX7_stepAt_25 rfl ?_
  exact ⟨rfl, hc'⟩
set_option maxRecDepth 100000 in
set_option maxHeartbeats 4000000 in
theorem kx_cor_l (S : amS) (a : Ar) (hA : Arr a.1 a.2.1 a.2.2) (ho : aObj S 1 2 a) (hl : laidE S a.2.1 a.2.2) (k : Nat) (hk : k < 5) : ∀ (e t : Nat), t + e = 2 ^ a.2.1 → X shX mX7_countOfRank 8 [.ref 34, .int (nI k), .int (nI ((List.range t).filter (fun s => (rkV a.2.2 s == k && flB (rkV a.2.2) a.2.1 s) && evB (rkV a.2.2) a.2.1 s (2 ^ a.2.1))).length), .int (nI t)] [] S (fun q S' => q = some (.int (nI (evL (rkV a.2.2) a.2.1 k).length)) ∧ S' = S) := by
  obtain ⟨a1, a2, a3, a4, a5, a6, a7⟩ := id hA
  obtain ⟨m1, m2, m3⟩ := id ho
  have h512 := pow9 a3
  have hpos := Nat.two_pow_pos a.2.1
  have hr9 : ∀ t, t < 2 ^ a.2.1 → rkV a.2.2 t ≤ 9 := fun t ht => Nat.le_trans (rkV_le (by omega)) (pc9_le t (by omega))
  intro e
  induction e with
  | zero =>
    intro t h1
    obtain rfl : t = 2 ^ a.2.1 := by omega
    refine x_iload_n dX7_countOfRank_8 rfl ?_
    refine x_aload_n dX7_countOfRank_9 rfl ?_
    refine x_getR dX7_countOfRank_10 fl_X7_26 rfl ?_
    refine x_v0d (N := mX1_all) dX7_countOfRank_13 ml_X7_44 nv_X1_all rfl rfl (kx_all S a.2.1 a3 m2) ?_
    refine x_icmp_gtN 50 dX7_countOfRank_16 rfl (by omega) (by omega) (fun c16 => ?_) (fun c16 => ?_)
    · refine x_iload_n dX7_countOfRank_50 rfl ?_
      refine x_iretI dX7_countOfRank_51 rfl ?_
      exact ⟨rfl, rfl⟩
    · exact absurd c16 (by omega)
  | succ e ih =>
    intro t h1
    have h9 := hr9 t (by omega)
    have := ih (t + 1) (by omega)
    rw [filter_succ] at this
    refine x_iload_n dX7_countOfRank_8 rfl ?_
    refine x_aload_n dX7_countOfRank_9 rfl ?_
    refine x_getR dX7_countOfRank_10 fl_X7_26 rfl ?_
    refine x_v0d (N := mX1_all) dX7_countOfRank_13 ml_X7_44 nv_X1_all rfl rfl (kx_all S a.2.1 a3 m2) ?_
    refine x_icmp_gtN 50 dX7_countOfRank_16 rfl (by omega) (by omega) (fun c16 => ?_) (fun c16 => ?_)
    · exact absurd c16 (by omega)
    · refine x_aload_n dX7_countOfRank_19 rfl ?_
      refine x_getR dX7_countOfRank_20 fl_X7_9 rfl ?_
      refine x_iload_n dX7_countOfRank_23 rfl ?_
      refine x_zaldN dX7_countOfRank_24 rfl rfl (by omega) (hl.2.1 t (by omega)) ?_
      refine x_if_eqB 44 dX7_countOfRank_25 rfl (fun c25 => ?_) (fun c25 => ?_)
      · refine x_iincN dX7_countOfRank_44 rfl rfl ?_
        refine x_goto 8 dX7_countOfRank_47 rfl ?_
        have e0 : ((rkV a.2.2 t == k && flB (rkV a.2.2) a.2.1 t) && evB (rkV a.2.2) a.2.1 t (2 ^ a.2.1)) = false := by rw [Bool.and_assoc, c25, Bool.and_false]
        rw [e0, Bool.toNat_false, Nat.add_zero] at this
        exact this
      · refine x_aload_n dX7_countOfRank_28 rfl ?_
        refine x_getR dX7_countOfRank_29 fl_X7_30 rfl ?_
        refine x_getR dX7_countOfRank_32 fl_X7_59 rfl ?_
        refine x_iload_n dX7_countOfRank_35 rfl ?_
        refine x_ialdN dX7_countOfRank_36 rfl rfl (by omega) (hl.1.1 t (by omega)) ?_
        refine x_iload_n dX7_countOfRank_37 rfl ?_
        refine x_icmp_neN 44 dX7_countOfRank_38 rfl (by omega) (by omega) (fun c38 => ?_) (fun c38 => ?_)
        · refine x_iincN dX7_countOfRank_44 rfl rfl ?_
          refine x_goto 8 dX7_countOfRank_47 rfl ?_
          have e0 : ((rkV a.2.2 t == k && flB (rkV a.2.2) a.2.1 t) && evB (rkV a.2.2) a.2.1 t (2 ^ a.2.1)) = false := by rw [beq_false_of_ne c38]; rfl
          rw [e0, Bool.toNat_false, Nat.add_zero] at this
          exact this
        · refine x_iincN dX7_countOfRank_41 rfl rfl ?_
          refine x_iincN dX7_countOfRank_44 rfl rfl ?_
          refine x_goto 8 dX7_countOfRank_47 rfl ?_
          have e0 : ((rkV a.2.2 t == k && flB (rkV a.2.2) a.2.1 t) && evB (rkV a.2.2) a.2.1 t (2 ^ a.2.1)) = true := by rw [Bool.and_assoc, c25, c38]; simp
          rw [e0, Bool.toNat_true] at this
          exact this
set_option maxRecDepth 100000 in
set_option maxHeartbeats 4000000 in
theorem kx_countOfRank (S : amS) (B : Nat) (a : Ar) (hs : List Ar) (tx : List Nat) (u0 u1 u2 ck co : Int32) (hc : xCore S B a hs tx u0 u1 u2 ck co) (hB : B < 2147483648) (k : Nat) (hk : k < 5) : X shX mX7_countOfRank 0 [.ref 34, .int (nI k), .null, .null] [] S (fun r S' => r = some (.int (nI (evL (rkV a.2.2) a.2.1 k).length)) ∧ xCore S' B a hs tx u0 u1 u2 ck co) := by
  obtain ⟨⟨hA, ho⟩, hrest, hV⟩ := id hc
  obtain ⟨a1, a2, a3, a4, a5, a6, a7⟩ := id hA
  obtain ⟨m1, m2, m3⟩ := id ho
  have h512 := pow9 a3
  have hpos := Nat.two_pow_pos a.2.1
  have hr9 : ∀ t, t < 2 ^ a.2.1 → rkV a.2.2 t ≤ 9 := fun t ht => Nat.le_trans (rkV_le (by omega)) (pc9_le t (by omega))
  refine x_aload_n dX7_countOfRank_0 rfl ?_
  refine x_v0 (N := mX7_refresh) dX7_countOfRank_1 ml_X7_68 nv_X7_refresh rfl rfl (kx_erq S B a hs tx u0 u1 u2 ck co hc hB) ?_
  rintro _ S' ⟨rfl, hc', hr'⟩
  refine x_ic _ ic_0 dX7_countOfRank_4 ?_
  refine x_istore_n dX7_countOfRank_5 rfl ?_
  refine x_ic _ ic_0 dX7_countOfRank_6 ?_
  refine x_istore_n dX7_countOfRank_7 rfl ?_
  refine x_mono ?_ (kx_cor_l S' a hA hc'.1.2 hr' k hk (2 ^ a.2.1) 0 (by omega))
  rintro _ _ ⟨rfl, rfl⟩
  exact ⟨rfl, hc'⟩
set_option maxRecDepth 100000 in
set_option maxHeartbeats 4000000 in
theorem kx_even_ok (S : amS) (B : Nat) (a : Ar) (hs : List Ar) (tx : List Nat) (u0 u1 u2 ck co : Int32) (hc : xCore S B a hs tx u0 u1 u2 ck co) (hB : B < 2147483648) (k : Nat) (hk : k < 5) : X shX mX10_even 0 [.ref 0, .int (nI k)] [] S (fun r S' => r = some (.int (nI (evL (rkV a.2.2) a.2.1 k).length)) ∧ xCore S' B a hs tx u0 u1 u2 ck co) := by
  obtain ⟨⟨hA, ho⟩, hrest, hV⟩ := id hc
  obtain ⟨a1, a2, a3, a4, a5, a6, a7⟩ := id hA
  obtain ⟨m1, m2, m3⟩ := id ho
  have h512 := pow9 a3
  have hpos := Nat.two_pow_pos a.2.1
  have hr9 : ∀ t, t < 2 ^ a.2.1 → rkV a.2.2 t ≤ 9 := fun t ht => Nat.le_trans (rkV_le (by omega)) (pc9_le t (by omega))
  refine x_iload_n dX10_even_0 rfl ?_
  refine x_topI ?_
  refine x_if_ltI 9 dX10_even_1 rfl (by omega) (fun c1 => ?_) (fun c1 => ?_)
  · exact absurd c1 (by omega)
  · refine x_iload_n dX10_even_4 rfl ?_
    refine x_ic _ ic_4 dX10_even_5 ?_
    refine x_icmp_leN 18 dX10_even_6 rfl (by omega) (by omega) (fun c6 => ?_) (fun c6 => ?_)
    · refine x_aload_n dX10_even_18 rfl ?_
      refine x_getR dX10_even_19 fl_X10_47 rfl ?_
      refine x_iload_n dX10_even_22 rfl ?_
      refine x_v1 (N := mX7_countOfRank) dX10_even_23 ml_X10_196 nv_X7_countOfRank rfl rfl (kx_countOfRank S B a hs tx u0 u1 u2 ck co hc hB k hk) ?_
      rintro _ S' ⟨rfl, hc'⟩
      refine x_iretI dX10_even_26 rfl ?_
      exact ⟨rfl, hc'⟩
    · exact absurd c6 (by omega)
set_option maxRecDepth 100000 in
set_option maxHeartbeats 4000000 in
theorem kx_even_bad (S : amS) (B : Nat) (a : Ar) (hs : List Ar) (tx : List Nat) (u0 u1 u2 ck co : Int32) (hc : xCore S B a hs tx u0 u1 u2 ck co) (x : Int32) (hx : ¬ InR x 5) : X shX mX10_even 0 [.ref 0, .int x] [] S (fun r S' => r = some (.int (i32 (-2))) ∧ xCore S' B a hs tx (u0 + nI 1) u1 u2 ck co) := by
  obtain ⟨⟨hA, ho⟩, hrest, hV⟩ := id hc
  obtain ⟨a1, a2, a3, a4, a5, a6, a7⟩ := id hA
  obtain ⟨m1, m2, m3⟩ := id ho
  have h512 := pow9 a3
  have hpos := Nat.two_pow_pos a.2.1
  have hr9 : ∀ t, t < 2 ^ a.2.1 → rkV a.2.2 t ≤ 9 := fun t ht => Nat.le_trans (rkV_le (by omega)) (pc9_le t (by omega))
  refine x_iload_n dX10_even_0 rfl ?_
  refine x_if_lt 9 dX10_even_1 rfl (fun c1 => ?_) (fun c1 => ?_)
  · refine x_aload_n dX10_even_9 rfl ?_
    refine x_bi _ bi_m2 dX10_even_10 ?_
    refine x_v1 (N := mX10_refused) dX10_even_12 ml_X10_120 nv_X10_refused rfl rfl (kx_bad S B a hs tx u0 u1 u2 ck co hc) ?_
    rintro _ S' ⟨rfl, h'⟩
    refine x_goto 26 dX10_even_15 rfl ?_
    refine x_iretI dX10_even_26 rfl ?_
    exact ⟨rfl, h'⟩
  · refine x_iload_n dX10_even_4 rfl ?_
    refine x_ic _ ic_4 dX10_even_5 ?_
    refine x_icmp_le 18 dX10_even_6 rfl (fun c6 => ?_) (fun c6 => ?_)
    · exact absurd ((in_R x (n := 4) (by omega)).mp (decide_eq_true ⟨Int32.not_lt.mp c1, c6⟩)) hx
    · refine x_aload_n dX10_even_9 rfl ?_
      refine x_bi _ bi_m2 dX10_even_10 ?_
      refine x_v1 (N := mX10_refused) dX10_even_12 ml_X10_120 nv_X10_refused rfl rfl (kx_bad S B a hs tx u0 u1 u2 ck co hc) ?_
      rintro _ S' ⟨rfl, h'⟩
      refine x_goto 26 dX10_even_15 rfl ?_
      refine x_iretI dX10_even_26 rfl ?_
      exact ⟨rfl, h'⟩
set_option maxRecDepth 100000 in
set_option maxHeartbeats 4000000 in
theorem kx_chain_bad (S : amS) (B : Nat) (a : Ar) (hs : List Ar) (tx : List Nat) (u0 u1 u2 ck co : Int32) (hc : xCore S B a hs tx u0 u1 u2 ck co) (x y : Int32) (hxy : ¬ (¬ x < 0 ∧ InR y 2)) : X shX mX10_chain 0 [.ref 0, .int x, .int y, .null] [] S (fun r S' => r = some (.int (i32 (-2))) ∧ xCore S' B a hs tx (u0 + nI 1) u1 u2 ck co) := by
  obtain ⟨⟨hA, ho⟩, hrest, hV⟩ := id hc
  obtain ⟨a1, a2, a3, a4, a5, a6, a7⟩ := id hA
  obtain ⟨m1, m2, m3⟩ := id ho
  have h512 := pow9 a3
  have hpos := Nat.two_pow_pos a.2.1
  have hr9 : ∀ t, t < 2 ^ a.2.1 → rkV a.2.2 t ≤ 9 := fun t ht => Nat.le_trans (rkV_le (by omega)) (pc9_le t (by omega))
  refine x_iload_n dX10_chain_0 rfl ?_
  refine x_if_lt 13 dX10_chain_1 rfl (fun c1 => ?_) (fun c1 => ?_)
  · refine x_aload_n dX10_chain_13 rfl ?_
    refine x_bi _ bi_m2 dX10_chain_14 ?_
    refine x_v1 (N := mX10_refused) dX10_chain_16 ml_X10_120 nv_X10_refused rfl rfl (kx_bad S B a hs tx u0 u1 u2 ck co hc) ?_
    rintro _ S' ⟨rfl, h'⟩
    refine x_iretI dX10_chain_19 rfl ?_
    exact ⟨rfl, h'⟩
  · refine x_iload_n dX10_chain_4 rfl ?_
    refine x_if_lt 13 dX10_chain_5 rfl (fun c5 => ?_) (fun c5 => ?_)
    · refine x_aload_n dX10_chain_13 rfl ?_
      refine x_bi _ bi_m2 dX10_chain_14 ?_
      refine x_v1 (N := mX10_refused) dX10_chain_16 ml_X10_120 nv_X10_refused rfl rfl (kx_bad S B a hs tx u0 u1 u2 ck co hc) ?_
      rintro _ S' ⟨rfl, h'⟩
      refine x_iretI dX10_chain_19 rfl ?_
      exact ⟨rfl, h'⟩
    · refine x_iload_n dX10_chain_8 rfl ?_
      refine x_ic _ ic_1 dX10_chain_9 ?_
      refine x_icmp_le 20 dX10_chain_10 rfl (fun c10 => ?_) (fun c10 => ?_)
      · exact absurd ⟨c1, (in_R y (n := 1) (by omega)).mp (decide_eq_true ⟨Int32.not_lt.mp c5, c10⟩)⟩ hxy
      · refine x_aload_n dX10_chain_13 rfl ?_
        refine x_bi _ bi_m2 dX10_chain_14 ?_
        refine x_v1 (N := mX10_refused) dX10_chain_16 ml_X10_120 nv_X10_refused rfl rfl (kx_bad S B a hs tx u0 u1 u2 ck co hc) ?_
        rintro _ S' ⟨rfl, h'⟩
        refine x_iretI dX10_chain_19 rfl ?_
        exact ⟨rfl, h'⟩
set_option maxRecDepth 100000 in
set_option maxHeartbeats 4000000 in
theorem kx_chain_no (S : amS) (B : Nat) (a : Ar) (hs : List Ar) (tx : List Nat) (u0 u1 u2 ck co : Int32) (hc : xCore S B a hs tx u0 u1 u2 ck co) (hB : B < 2147483648) (i k : Nat) (hi : i < 2 ^ 31) (hk : k < 2) (hgo : (goX (rkV a.2.2) a.2.1 (rkV a.2.2 (2 ^ a.2.1 - 1)) (rkV a.2.2 (2 ^ a.2.1 - 1)) 0) = false) : X shX mX10_chain 0 [.ref 0, .int (nI i), .int (nI k), .null] [] S (fun r S' => r = some (.int (i32 (-3))) ∧ xCore S' B a hs tx u0 (u1 + nI 1) u2 ck co) := by
  obtain ⟨⟨hA, ho⟩, hrest, hV⟩ := id hc
  obtain ⟨a1, a2, a3, a4, a5, a6, a7⟩ := id hA
  obtain ⟨m1, m2, m3⟩ := id ho
  have h512 := pow9 a3
  have hpos := Nat.two_pow_pos a.2.1
  have hr9 : ∀ t, t < 2 ^ a.2.1 → rkV a.2.2 t ≤ 9 := fun t ht => Nat.le_trans (rkV_le (by omega)) (pc9_le t (by omega))
  have r0 : rkV a.2.2 0 = 0 := Nat.le_zero.mp (rkV_le (v := a.2.2) (s := 0) (by omega))
  have htop := rkV_d hA (2 ^ a.2.1 - 1)
  refine x_iload_n dX10_chain_0 rfl ?_
  refine x_topI ?_
  refine x_if_ltI 13 dX10_chain_1 rfl (by omega) (fun c1 => ?_) (fun c1 => ?_)
  · exact absurd c1 (by omega)
  · refine x_iload_n dX10_chain_4 rfl ?_
    refine x_topI ?_
    refine x_if_ltI 13 dX10_chain_5 rfl (by omega) (fun c5 => ?_) (fun c5 => ?_)
    · exact absurd c5 (by omega)
    · refine x_iload_n dX10_chain_8 rfl ?_
      refine x_ic _ ic_1 dX10_chain_9 ?_
      refine x_icmp_leN 20 dX10_chain_10 rfl (by omega) (by omega) (fun c10 => ?_) (fun c10 => ?_)
      · refine x_aload_n dX10_chain_20 rfl ?_
        refine x_getR dX10_chain_21 fl_X10_47 rfl ?_
        refine x_v0 (N := mX7_hasChain) dX10_chain_24 ml_X10_186 nv_X7_hasChain rfl rfl (kx_hasChain S B a hs tx u0 u1 u2 ck co hc hB) ?_
        rintro _ S1 ⟨rfl, h1c⟩
        refine x_if_neB 37 dX10_chain_27 rfl (fun c27 => ?_) (fun c27 => ?_)
        · rw [hgo] at c27; cases c27
        · refine x_aload_n dX10_chain_30 rfl ?_
          refine x_bi _ bi_m3 dX10_chain_31 ?_
          refine x_v1 (N := mX10_refused) dX10_chain_33 ml_X10_120 nv_X10_refused rfl rfl (kx_no S1 B a hs tx u0 u1 u2 ck co h1c) ?_
          rintro _ S3 ⟨rfl, h3⟩
          refine x_iretI dX10_chain_36 rfl ?_
          exact ⟨rfl, h3⟩
      · exact absurd c10 (by omega)
set_option maxRecDepth 100000 in
set_option maxHeartbeats 4000000 in
theorem kx_chain_0 (S : amS) (B : Nat) (a : Ar) (hs : List Ar) (tx : List Nat) (u0 u1 u2 ck co : Int32) (hc : xCore S B a hs tx u0 u1 u2 ck co) (hB : B < 2147483648) (k : Nat) (hk : k < 2) (hgo : (goX (rkV a.2.2) a.2.1 (rkV a.2.2 (2 ^ a.2.1 - 1)) (rkV a.2.2 (2 ^ a.2.1 - 1)) 0) = true) : X shX mX10_chain 0 [.ref 0, .int (nI 0), .int (nI k), .null] [] S (fun r S' => r = some (.int (nI (rkV a.2.2 (2 ^ a.2.1 - 1)))) ∧ xCore S' B a hs tx u0 u1 u2 ck co) := by
  obtain ⟨⟨hA, ho⟩, hrest, hV⟩ := id hc
  obtain ⟨a1, a2, a3, a4, a5, a6, a7⟩ := id hA
  obtain ⟨m1, m2, m3⟩ := id ho
  have h512 := pow9 a3
  have hpos := Nat.two_pow_pos a.2.1
  have hr9 : ∀ t, t < 2 ^ a.2.1 → rkV a.2.2 t ≤ 9 := fun t ht => Nat.le_trans (rkV_le (by omega)) (pc9_le t (by omega))
  have r0 : rkV a.2.2 0 = 0 := Nat.le_zero.mp (rkV_le (v := a.2.2) (s := 0) (by omega))
  have htop := rkV_d hA (2 ^ a.2.1 - 1)
  refine x_iload_n dX10_chain_0 rfl ?_
  refine x_topI ?_
  refine x_if_ltI 13 dX10_chain_1 rfl (by omega) (fun c1 => ?_) (fun c1 => ?_)
  · exact absurd c1 (by omega)
  · refine x_iload_n dX10_chain_4 rfl ?_
    refine x_topI ?_
    refine x_if_ltI 13 dX10_chain_5 rfl (by omega) (fun c5 => ?_) (fun c5 => ?_)
    · exact absurd c5 (by omega)
    · refine x_iload_n dX10_chain_8 rfl ?_
      refine x_ic _ ic_1 dX10_chain_9 ?_
      refine x_icmp_leN 20 dX10_chain_10 rfl (by omega) (by omega) (fun c10 => ?_) (fun c10 => ?_)
      · refine x_aload_n dX10_chain_20 rfl ?_
        refine x_getR dX10_chain_21 fl_X10_47 rfl ?_
        refine x_v0 (N := mX7_hasChain) dX10_chain_24 ml_X10_186 nv_X7_hasChain rfl rfl (kx_hasChain S B a hs tx u0 u1 u2 ck co hc hB) ?_
        rintro _ S1 ⟨rfl, h1c⟩
        refine x_if_neB 37 dX10_chain_27 rfl (fun c27 => ?_) (fun c27 => ?_)
        · refine x_aload_n dX10_chain_37 rfl ?_
          refine x_getR dX10_chain_38 fl_X10_21 rfl ?_
          refine x_aload_n dX10_chain_41 rfl ?_
          refine x_getR dX10_chain_42 fl_X10_17 rfl ?_
          refine x_v0d (N := mX1_all) dX10_chain_45 ml_X10_104 nv_X1_all rfl rfl (kx_all S1 a.2.1 a3 h1c.1.2.2.1) ?_
          refine x_v1 (N := mX6_rankOf) dX10_chain_48 ml_X10_107 nv_X6_rankOf rfl rfl (kx_rankOf S1 B a hs tx u0 u1 u2 ck co h1c hB (2 ^ a.2.1 - 1) (by omega)) ?_
          rintro _ S2 ⟨rfl, h2c, -⟩
          refine x_istore_n dX10_chain_51 rfl ?_
          refine x_iload_n dX10_chain_52 rfl ?_
          refine x_if_neN 58 dX10_chain_53 rfl (by omega) (fun c53 => ?_) (fun c53 => ?_)
          · exact absurd rfl c53
          · refine x_iload_n dX10_chain_56 rfl ?_
            refine x_iretI dX10_chain_57 rfl ?_
            exact ⟨rfl, h2c⟩
        · rw [hgo] at c27; cases c27
      · exact absurd c10 (by omega)
set_option maxRecDepth 100000 in
set_option maxHeartbeats 4000000 in
theorem kx_chain_gt (S : amS) (B : Nat) (a : Ar) (hs : List Ar) (tx : List Nat) (u0 u1 u2 ck co : Int32) (hc : xCore S B a hs tx u0 u1 u2 ck co) (hB : B < 2147483648) (i k : Nat) (hi : i < 2 ^ 31) (hk : k < 2) (hgo : (goX (rkV a.2.2) a.2.1 (rkV a.2.2 (2 ^ a.2.1 - 1)) (rkV a.2.2 (2 ^ a.2.1 - 1)) 0) = true) (hgt : (rkV a.2.2 (2 ^ a.2.1 - 1)) < i) : X shX mX10_chain 0 [.ref 0, .int (nI i), .int (nI k), .null] [] S (fun r S' => r = some (.int (i32 (-5))) ∧ xCore S' B a hs tx u0 u1 u2 ck co) := by
  obtain ⟨⟨hA, ho⟩, hrest, hV⟩ := id hc
  obtain ⟨a1, a2, a3, a4, a5, a6, a7⟩ := id hA
  obtain ⟨m1, m2, m3⟩ := id ho
  have h512 := pow9 a3
  have hpos := Nat.two_pow_pos a.2.1
  have hr9 : ∀ t, t < 2 ^ a.2.1 → rkV a.2.2 t ≤ 9 := fun t ht => Nat.le_trans (rkV_le (by omega)) (pc9_le t (by omega))
  have r0 : rkV a.2.2 0 = 0 := Nat.le_zero.mp (rkV_le (v := a.2.2) (s := 0) (by omega))
  have htop := rkV_d hA (2 ^ a.2.1 - 1)
  refine x_iload_n dX10_chain_0 rfl ?_
  refine x_topI ?_
  refine x_if_ltI 13 dX10_chain_1 rfl (by omega) (fun c1 => ?_) (fun c1 => ?_)
  · exact absurd c1 (by omega)
  · refine x_iload_n dX10_chain_4 rfl ?_
    refine x_topI ?_
    refine x_if_ltI 13 dX10_chain_5 rfl (by omega) (fun c5 => ?_) (fun c5 => ?_)
    · exact absurd c5 (by omega)
    · refine x_iload_n dX10_chain_8 rfl ?_
      refine x_ic _ ic_1 dX10_chain_9 ?_
      refine x_icmp_leN 20 dX10_chain_10 rfl (by omega) (by omega) (fun c10 => ?_) (fun c10 => ?_)
      · refine x_aload_n dX10_chain_20 rfl ?_
        refine x_getR dX10_chain_21 fl_X10_47 rfl ?_
        refine x_v0 (N := mX7_hasChain) dX10_chain_24 ml_X10_186 nv_X7_hasChain rfl rfl (kx_hasChain S B a hs tx u0 u1 u2 ck co hc hB) ?_
        rintro _ S1 ⟨rfl, h1c⟩
        refine x_if_neB 37 dX10_chain_27 rfl (fun c27 => ?_) (fun c27 => ?_)
        · refine x_aload_n dX10_chain_37 rfl ?_
          refine x_getR dX10_chain_38 fl_X10_21 rfl ?_
          refine x_aload_n dX10_chain_41 rfl ?_
          refine x_getR dX10_chain_42 fl_X10_17 rfl ?_
          refine x_v0d (N := mX1_all) dX10_chain_45 ml_X10_104 nv_X1_all rfl rfl (kx_all S1 a.2.1 a3 h1c.1.2.2.1) ?_
          refine x_v1 (N := mX6_rankOf) dX10_chain_48 ml_X10_107 nv_X6_rankOf rfl rfl (kx_rankOf S1 B a hs tx u0 u1 u2 ck co h1c hB (2 ^ a.2.1 - 1) (by omega)) ?_
          rintro _ S2 ⟨rfl, h2c, -⟩
          refine x_istore_n dX10_chain_51 rfl ?_
          refine x_iload_n dX10_chain_52 rfl ?_
          refine x_if_neN 58 dX10_chain_53 rfl (by omega) (fun c53 => ?_) (fun c53 => ?_)
          · refine x_iload_n dX10_chain_58 rfl ?_
            refine x_iload_n dX10_chain_59 rfl ?_
            refine x_icmp_leN 66 dX10_chain_60 rfl (by omega) (by omega) (fun c60 => ?_) (fun c60 => ?_)
            · exact absurd c60 (by omega)
            · refine x_bi _ bi_m5 dX10_chain_63 ?_
              refine x_iretI dX10_chain_65 rfl ?_
              exact ⟨rfl, h2c⟩
          · exact absurd c53 (by omega)
        · rw [hgo] at c27; cases c27
      · exact absurd c10 (by omega)
set_option maxRecDepth 100000 in
set_option maxHeartbeats 4000000 in
theorem kx_chain_i0 (S : amS) (B : Nat) (a : Ar) (hs : List Ar) (tx : List Nat) (u0 u1 u2 ck co : Int32) (hc : xCore S B a hs tx u0 u1 u2 ck co) (hB : B < 2147483648) (i : Nat) (hgo : (goX (rkV a.2.2) a.2.1 (rkV a.2.2 (2 ^ a.2.1 - 1)) (rkV a.2.2 (2 ^ a.2.1 - 1)) 0) = true) (h1 : 1 ≤ i) (hle : i ≤ (rkV a.2.2 (2 ^ a.2.1 - 1))) : X shX mX10_chain 0 [.ref 0, .int (nI i), .int (nI 0), .null] [] S (fun r S' => r = some (.int (nI (lkB (rkV a.2.2) a.2.1 (rkV a.2.2 (2 ^ a.2.1 - 1)) i))) ∧ xCore S' B a hs tx u0 u1 u2 ck co) := by
  obtain ⟨⟨hA, ho⟩, hrest, hV⟩ := id hc
  obtain ⟨a1, a2, a3, a4, a5, a6, a7⟩ := id hA
  obtain ⟨m1, m2, m3⟩ := id ho
  have h512 := pow9 a3
  have hpos := Nat.two_pow_pos a.2.1
  have hr9 : ∀ t, t < 2 ^ a.2.1 → rkV a.2.2 t ≤ 9 := fun t ht => Nat.le_trans (rkV_le (by omega)) (pc9_le t (by omega))
  have r0 : rkV a.2.2 0 = 0 := Nat.le_zero.mp (rkV_le (v := a.2.2) (s := 0) (by omega))
  have htop := rkV_d hA (2 ^ a.2.1 - 1)
  refine x_iload_n dX10_chain_0 rfl ?_
  refine x_topI ?_
  refine x_if_ltI 13 dX10_chain_1 rfl (by omega) (fun c1 => ?_) (fun c1 => ?_)
  · exact absurd c1 (by omega)
  · refine x_iload_n dX10_chain_4 rfl ?_
    refine x_topI ?_
    refine x_if_ltI 13 dX10_chain_5 rfl (by omega) (fun c5 => ?_) (fun c5 => ?_)
    · exact absurd c5 (by omega)
    · refine x_iload_n dX10_chain_8 rfl ?_
      refine x_ic _ ic_1 dX10_chain_9 ?_
      refine x_icmp_leN 20 dX10_chain_10 rfl (by omega) (by omega) (fun c10 => ?_) (fun c10 => ?_)
      · refine x_aload_n dX10_chain_20 rfl ?_
        refine x_getR dX10_chain_21 fl_X10_47 rfl ?_
        refine x_v0 (N := mX7_hasChain) dX10_chain_24 ml_X10_186 nv_X7_hasChain rfl rfl (kx_hasChain S B a hs tx u0 u1 u2 ck co hc hB) ?_
        rintro _ S1 ⟨rfl, h1c⟩
        refine x_if_neB 37 dX10_chain_27 rfl (fun c27 => ?_) (fun c27 => ?_)
        · refine x_aload_n dX10_chain_37 rfl ?_
          refine x_getR dX10_chain_38 fl_X10_21 rfl ?_
          refine x_aload_n dX10_chain_41 rfl ?_
          refine x_getR dX10_chain_42 fl_X10_17 rfl ?_
          refine x_v0d (N := mX1_all) dX10_chain_45 ml_X10_104 nv_X1_all rfl rfl (kx_all S1 a.2.1 a3 h1c.1.2.2.1) ?_
          refine x_v1 (N := mX6_rankOf) dX10_chain_48 ml_X10_107 nv_X6_rankOf rfl rfl (kx_rankOf S1 B a hs tx u0 u1 u2 ck co h1c hB (2 ^ a.2.1 - 1) (by omega)) ?_
          rintro _ S2 ⟨rfl, h2c, -⟩
          refine x_istore_n dX10_chain_51 rfl ?_
          refine x_iload_n dX10_chain_52 rfl ?_
          refine x_if_neN 58 dX10_chain_53 rfl (by omega) (fun c53 => ?_) (fun c53 => ?_)
          · refine x_iload_n dX10_chain_58 rfl ?_
            refine x_iload_n dX10_chain_59 rfl ?_
            refine x_icmp_leN 66 dX10_chain_60 rfl (by omega) (by omega) (fun c60 => ?_) (fun c60 => ?_)
            · refine x_iload_n dX10_chain_66 rfl ?_
              refine x_if_neN 81 dX10_chain_67 rfl (by omega) (fun c67 => ?_) (fun c67 => ?_)
              · exact absurd rfl c67
              · refine x_aload_n dX10_chain_70 rfl ?_
                refine x_getR dX10_chain_71 fl_X10_47 rfl ?_
                refine x_iload_n dX10_chain_74 rfl ?_
                refine x_v1 (N := mX7_linkAt) dX10_chain_75 ml_X10_190 nv_X7_linkAt rfl rfl (kx_linkAt S2 B a hs tx u0 u1 u2 ck co h2c hB hgo i hle) ?_
                rintro _ S3 ⟨rfl, h3⟩
                refine x_goto 89 dX10_chain_78 rfl ?_
                refine x_iretI dX10_chain_89 rfl ?_
                exact ⟨rfl, h3⟩
            · exact absurd c60 (by omega)
          · exact absurd c53 (by omega)
        · rw [hgo] at c27; cases c27
      · exact absurd c10 (by omega)
set_option maxRecDepth 100000 in
set_option maxHeartbeats 4000000 in
theorem kx_chain_i1 (S : amS) (B : Nat) (a : Ar) (hs : List Ar) (tx : List Nat) (u0 u1 u2 ck co : Int32) (hc : xCore S B a hs tx u0 u1 u2 ck co) (hB : B < 2147483648) (i : Nat) (hgo : (goX (rkV a.2.2) a.2.1 (rkV a.2.2 (2 ^ a.2.1 - 1)) (rkV a.2.2 (2 ^ a.2.1 - 1)) 0) = true) (h1 : 1 ≤ i) (hle : i ≤ (rkV a.2.2 (2 ^ a.2.1 - 1))) : X shX mX10_chain 0 [.ref 0, .int (nI i), .int (nI 1), .null] [] S (fun r S' => r = some (.int (i32 ((pc9 (lkB (rkV a.2.2) a.2.1 (rkV a.2.2 (2 ^ a.2.1 - 1)) i) : Int) - (pc9 (lkB (rkV a.2.2) a.2.1 (rkV a.2.2 (2 ^ a.2.1 - 1)) (i - 1)) : Int)))) ∧ xCore S' B a hs tx u0 u1 u2 ck co) := by
  obtain ⟨⟨hA, ho⟩, hrest, hV⟩ := id hc
  obtain ⟨a1, a2, a3, a4, a5, a6, a7⟩ := id hA
  obtain ⟨m1, m2, m3⟩ := id ho
  have h512 := pow9 a3
  have hpos := Nat.two_pow_pos a.2.1
  have hr9 : ∀ t, t < 2 ^ a.2.1 → rkV a.2.2 t ≤ 9 := fun t ht => Nat.le_trans (rkV_le (by omega)) (pc9_le t (by omega))
  have r0 : rkV a.2.2 0 = 0 := Nat.le_zero.mp (rkV_le (v := a.2.2) (s := 0) (by omega))
  have htop := rkV_d hA (2 ^ a.2.1 - 1)
  refine x_iload_n dX10_chain_0 rfl ?_
  refine x_topI ?_
  refine x_if_ltI 13 dX10_chain_1 rfl (by omega) (fun c1 => ?_) (fun c1 => ?_)
  · exact absurd c1 (by omega)
  · refine x_iload_n dX10_chain_4 rfl ?_
    refine x_topI ?_
    refine x_if_ltI 13 dX10_chain_5 rfl (by omega) (fun c5 => ?_) (fun c5 => ?_)
    · exact absurd c5 (by omega)
    · refine x_iload_n dX10_chain_8 rfl ?_
      refine x_ic _ ic_1 dX10_chain_9 ?_
      refine x_icmp_leN 20 dX10_chain_10 rfl (by omega) (by omega) (fun c10 => ?_) (fun c10 => ?_)
      · refine x_aload_n dX10_chain_20 rfl ?_
        refine x_getR dX10_chain_21 fl_X10_47 rfl ?_
        refine x_v0 (N := mX7_hasChain) dX10_chain_24 ml_X10_186 nv_X7_hasChain rfl rfl (kx_hasChain S B a hs tx u0 u1 u2 ck co hc hB) ?_
        rintro _ S1 ⟨rfl, h1c⟩
        refine x_if_neB 37 dX10_chain_27 rfl (fun c27 => ?_) (fun c27 => ?_)
        · refine x_aload_n dX10_chain_37 rfl ?_
          refine x_getR dX10_chain_38 fl_X10_21 rfl ?_
          refine x_aload_n dX10_chain_41 rfl ?_
          refine x_getR dX10_chain_42 fl_X10_17 rfl ?_
          refine x_v0d (N := mX1_all) dX10_chain_45 ml_X10_104 nv_X1_all rfl rfl (kx_all S1 a.2.1 a3 h1c.1.2.2.1) ?_
          refine x_v1 (N := mX6_rankOf) dX10_chain_48 ml_X10_107 nv_X6_rankOf rfl rfl (kx_rankOf S1 B a hs tx u0 u1 u2 ck co h1c hB (2 ^ a.2.1 - 1) (by omega)) ?_
          rintro _ S2 ⟨rfl, h2c, -⟩
          refine x_istore_n dX10_chain_51 rfl ?_
          refine x_iload_n dX10_chain_52 rfl ?_
          refine x_if_neN 58 dX10_chain_53 rfl (by omega) (fun c53 => ?_) (fun c53 => ?_)
          · refine x_iload_n dX10_chain_58 rfl ?_
            refine x_iload_n dX10_chain_59 rfl ?_
            refine x_icmp_leN 66 dX10_chain_60 rfl (by omega) (by omega) (fun c60 => ?_) (fun c60 => ?_)
            · refine x_iload_n dX10_chain_66 rfl ?_
              refine x_if_neN 81 dX10_chain_67 rfl (by omega) (fun c67 => ?_) (fun c67 => ?_)
              · refine x_aload_n dX10_chain_81 rfl ?_
                refine x_getR dX10_chain_82 fl_X10_47 rfl ?_
                refine x_iload_n dX10_chain_85 rfl ?_
                refine x_v1 (N := mX7_stepAt) dX10_chain_86 ml_X10_193 nv_X7_stepAt rfl rfl (kx_stepAt S2 B a hs tx u0 u1 u2 ck co h2c hB hgo i h1 hle) ?_
                rintro _ S3 ⟨rfl, h3⟩
                refine x_iretI dX10_chain_89 rfl ?_
                exact ⟨rfl, h3⟩
              · exact absurd c67 (by omega)
            · exact absurd c60 (by omega)
          · exact absurd c53 (by omega)
        · rw [hgo] at c27; cases c27
      · exact absurd c10 (by omega)
