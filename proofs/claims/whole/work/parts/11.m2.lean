/-! THE REFERENCE, second part: ranks by elimination -/
set_option maxRecDepth 100000 in
set_option maxHeartbeats 4000000 in
theorem k_common_l (S : amS) (a b : Int) : ∀ (f x y : Nat) (z : Value), y ≤ f → x ≤ 4611686018427387904 → y ≤ 4611686018427387904 → Nat.gcd x y = Int.gcd a b → X shM mX11_common 28 [.long (i64 a), .null, .long (i64 b), .null, .long (i64 x), .null, .long (i64 y), .null, z, .null] [] S (fun r S' => r = some (.long (i64 (Int.gcd a b))) ∧ S' = S) := by
  intro f
  induction f with
  | zero =>
    intro x y z h1 h2 h3 h4
    obtain rfl : y = 0 := by omega
    refine x_lload dX11_common_28 rfl ?_
    refine x_lc _ lc_0 dX11_common_30 ?_
    refine x_lcmp_eq 53 dX11_common_31 dX11_common_32 rfl (by omega) (by omega) (fun c32 => ?_) (fun c32 => ?_)
    · refine x_lload dX11_common_53 rfl ?_
      refine x_lret dX11_common_55 rfl ?_
      exact ⟨by rw [← h4, Nat.gcd_zero_right], rfl⟩
    · exact absurd rfl c32
  | succ f ih =>
    intro x y z h1 h2 h3 h4
    refine x_lload dX11_common_28 rfl ?_
    refine x_lc _ lc_0 dX11_common_30 ?_
    refine x_lcmp_eq 53 dX11_common_31 dX11_common_32 rfl (by omega) (by omega) (fun c32 => ?_) (fun c32 => ?_)
    · obtain rfl : y = 0 := by omega
      refine x_lload dX11_common_53 rfl ?_
      refine x_lret dX11_common_55 rfl ?_
      exact ⟨by rw [← h4, Nat.gcd_zero_right], rfl⟩
    · refine x_lload dX11_common_35 rfl ?_
      refine x_lload dX11_common_37 rfl ?_
      refine x_lremI dX11_common_39 (by omega) (by omega) (by omega) ?_
      refine x_lstore dX11_common_40 rfl ?_
      refine x_lload dX11_common_42 rfl ?_
      refine x_lstore dX11_common_44 rfl ?_
      refine x_lload dX11_common_46 rfl ?_
      refine x_lstore dX11_common_48 rfl ?_
      refine x_goto 28 dX11_common_50 rfl ?_
      have hy : 0 < y := by omega
      have hlt := Nat.mod_lt x hy
      rw [show ((x : Int).tmod (y : Int)) = ((x % y : Nat) : Int) from (Int.ofNat_tmod x y).symm]
      exact ih y (x % y) (.long (i64 ((x % y : Nat) : Int))) (by omega) h3 (by omega) (by rw [← h4, Nat.gcd_comm x y, Nat.gcd_rec y x, Nat.gcd_comm])
set_option maxRecDepth 100000 in
set_option maxHeartbeats 4000000 in
theorem k_common (S : amS) (a b : Int) (ha : -4611686018427387904 ≤ a ∧ a ≤ 4611686018427387904) (hb : -4611686018427387904 ≤ b ∧ b ≤ 4611686018427387904) : X shM mX11_common 0 [.long (i64 a), .null, .long (i64 b), .null, .null, .null, .null, .null, .null, .null] [] S (fun r S' => r = some (.long (i64 (Int.gcd a b))) ∧ S' = S) := by
  refine x_lload_n dX11_common_0 rfl ?_
  refine x_lc _ lc_0 dX11_common_1 ?_
  refine x_lcmp_ge 11 dX11_common_2 dX11_common_3 rfl (by omega) (by omega) (fun c3 => ?_) (fun c3 => ?_)
  · refine x_lload_n dX11_common_11 rfl ?_
    refine x_topl (b := i64 ((a.natAbs : Nat) : Int)) (congrArg i64 (by omega)) ?_
    refine x_lstore dX11_common_12 rfl ?_
    refine x_lload_n dX11_common_14 rfl ?_
    refine x_lc _ lc_0 dX11_common_15 ?_
    refine x_lcmp_ge 25 dX11_common_16 dX11_common_17 rfl (by omega) (by omega) (fun c17 => ?_) (fun c17 => ?_)
    · refine x_lload_n dX11_common_25 rfl ?_
      refine x_topl (b := i64 ((b.natAbs : Nat) : Int)) (congrArg i64 (by omega)) ?_
      refine x_lstore dX11_common_26 rfl ?_
      exact k_common_l S a b b.natAbs a.natAbs b.natAbs .null (Nat.le_refl _) (by omega) (by omega) rfl
    · refine x_lload_n dX11_common_20 rfl ?_
      refine x_lnegI dX11_common_21 ?_
      refine x_goto 26 dX11_common_22 rfl ?_
      refine x_topl (b := i64 ((b.natAbs : Nat) : Int)) (congrArg i64 (by omega)) ?_
      refine x_lstore dX11_common_26 rfl ?_
      exact k_common_l S a b b.natAbs a.natAbs b.natAbs .null (Nat.le_refl _) (by omega) (by omega) rfl
  · refine x_lload_n dX11_common_6 rfl ?_
    refine x_lnegI dX11_common_7 ?_
    refine x_goto 12 dX11_common_8 rfl ?_
    refine x_topl (b := i64 ((a.natAbs : Nat) : Int)) (congrArg i64 (by omega)) ?_
    refine x_lstore dX11_common_12 rfl ?_
    refine x_lload_n dX11_common_14 rfl ?_
    refine x_lc _ lc_0 dX11_common_15 ?_
    refine x_lcmp_ge 25 dX11_common_16 dX11_common_17 rfl (by omega) (by omega) (fun c17 => ?_) (fun c17 => ?_)
    · refine x_lload_n dX11_common_25 rfl ?_
      refine x_topl (b := i64 ((b.natAbs : Nat) : Int)) (congrArg i64 (by omega)) ?_
      refine x_lstore dX11_common_26 rfl ?_
      exact k_common_l S a b b.natAbs a.natAbs b.natAbs .null (Nat.le_refl _) (by omega) (by omega) rfl
    · refine x_lload_n dX11_common_20 rfl ?_
      refine x_lnegI dX11_common_21 ?_
      refine x_goto 26 dX11_common_22 rfl ?_
      refine x_topl (b := i64 ((b.natAbs : Nat) : Int)) (congrArg i64 (by omega)) ?_
      refine x_lstore dX11_common_26 rfl ?_
      exact k_common_l S a b b.natAbs a.natAbs b.natAbs .null (Nat.le_refl _) (by omega) (by omega) rfl
