/-! longs: quotients, remainders, comparisons -/
theorem tdiv_bd (a b : Int) : a.tdiv b ≤ a.natAbs ∧ -(a.natAbs : Int) ≤ a.tdiv b := by
  have h : (a.tdiv b).natAbs ≤ a.natAbs := by
    rw [Int.natAbs_tdiv]
    exact Nat.div_le_self _ _
  omega
theorem i64_div {a b : Int} (ha : -9223372036854775808 < a ∧ a < 9223372036854775808) (hb : -9223372036854775808 ≤ b ∧ b < 9223372036854775808) : i64 a / i64 b = i64 (a.tdiv b) := by
  apply Int64.toInt_inj.mp
  have h := tdiv_bd a b
  rw [Int64.toInt_div, i64_toInt (by omega) ha.2, i64_toInt hb.1 hb.2, i64_toInt (by omega) (by omega)]
  exact Jvm.Kit.bmod64 (by omega) (by omega)
theorem i64_rem {a b : Int} (ha : -9223372036854775808 < a ∧ a < 9223372036854775808) (hb : -9223372036854775808 ≤ b ∧ b < 9223372036854775808) : i64 a - i64 a / i64 b * i64 b = i64 (a.tmod b) := by
  rw [i64_div ha hb, i64_mul, i64_sub]
  congr 1
  have := Int.tmod_add_mul_tdiv a b
  rw [Int.mul_comm (a.tdiv b) b]
  omega
theorem i64_ne0 {b : Int} (hb : -9223372036854775808 ≤ b ∧ b < 9223372036854775808) (h : b ≠ 0) : ¬ i64 b = 0 := by
  rw [show (0 : Int64) = i64 0 from rfl, i64_eq hb (by omega)]
  exact h
theorem i32_div {a b : Int} (ha : -2147483648 < a ∧ a < 2147483648) (hb : -2147483648 ≤ b ∧ b < 2147483648) : i32 a / i32 b = i32 (a.tdiv b) := by
  apply Int32.toInt_inj.mp
  have h := tdiv_bd a b
  rw [Int32.toInt_div, i32_toInt (by omega) ha.2, i32_toInt hb.1 hb.2, i32_toInt (by omega) (by omega)]
  rw [Int.bmod_eq_of_le] <;> omega
theorem i32_rem {a b : Int} (ha : -2147483648 < a ∧ a < 2147483648) (hb : -2147483648 ≤ b ∧ b < 2147483648) : i32 a - i32 a / i32 b * i32 b = i32 (a.tmod b) := by
  rw [i32_div ha hb, i32_mul, i32_sub]
  congr 1
  have := Int.tmod_add_mul_tdiv a b
  rw [Int.mul_comm (a.tdiv b) b]
  omega
section XL
variable {h : List amSh} {M : amM} {pc : Nat} {loc st : List Value} {S : amS} {Q : Option Value → amS → Prop}
theorem x_ldivI {a b : Int} (hd : decode M.2.1 pc = .ok (.ldiv, 1)) (ha : -9223372036854775808 < a ∧ a < 9223372036854775808) (hb : -9223372036854775808 ≤ b ∧ b < 9223372036854775808) (hn : b ≠ 0) (k : X h M (pc + 1) loc (.long (i64 (a.tdiv b)) :: st) S Q) : X h M pc loc (.long (i64 b) :: .long (i64 a) :: st) S Q := x_ldiv hd (i64_ne0 hb hn) (by rw [i64_div ha hb]; exact k)
theorem x_lremI {a b : Int} (hd : decode M.2.1 pc = .ok (.lrem, 1)) (ha : -9223372036854775808 < a ∧ a < 9223372036854775808) (hb : -9223372036854775808 ≤ b ∧ b < 9223372036854775808) (hn : b ≠ 0) (k : X h M (pc + 1) loc (.long (i64 (a.tmod b)) :: st) S Q) : X h M pc loc (.long (i64 b) :: .long (i64 a) :: st) S Q := x_lrem hd (i64_ne0 hb hn) (by rw [i64_rem ha hb]; exact k)
theorem x_iremI {a b : Int} (hd : decode M.2.1 pc = .ok (.irem, 1)) (ha : -2147483648 < a ∧ a < 2147483648) (hb : -2147483648 ≤ b ∧ b < 2147483648) (hn : b ≠ 0) (k : X h M (pc + 1) loc (.int (i32 (a.tmod b)) :: st) S Q) : X h M pc loc (.int (i32 b) :: .int (i32 a) :: st) S Q := x_irem hd (by rw [show (0 : Int32) = i32 0 from rfl, i32_eq hb (by omega)]; exact hn) (by rw [i32_rem ha hb]; exact k)
theorem lg_cmp_i {a b : Int} (ha : -9223372036854775808 ≤ a ∧ a < 9223372036854775808) (hb : -9223372036854775808 ≤ b ∧ b < 9223372036854775808) : lg_cmp (i64 a) (i64 b) = i32 (if b < a then 1 else if a = b then 0 else -1) := by
  unfold lg_cmp
  simp only [gt_iff_lt, i64_lt hb ha, i64_eq ha hb]
  by_cases h1 : b < a
  · rw [if_pos h1, if_pos h1]; rfl
  · rw [if_neg h1, if_neg h1]
    by_cases h2 : a = b
    · rw [if_pos h2, if_pos h2]; rfl
    · rw [if_neg h2, if_neg h2]; rfl
theorem x_lcmp_eq {a b : Int} {off : Int} (tgt : Nat) (hd : decode M.2.1 pc = .ok (.lcmp, 1)) (hd2 : decode M.2.1 (pc + 1) = .ok (.ifCond .eq off, 3)) (ht : ((pc + 1 : Nat) : Int) + off = (tgt : Int)) (ha : -9223372036854775808 ≤ a ∧ a < 9223372036854775808) (hb : -9223372036854775808 ≤ b ∧ b < 9223372036854775808) (kt : a = b → X h M tgt loc st S Q) (kf : a ≠ b → X h M (pc + 1 + 3) loc st S Q) : X h M pc loc (.long (i64 b) :: .long (i64 a) :: st) S Q := by
  refine x_lcmp hd ?_
  rw [lg_cmp_i ha hb]
  refine x_if_eqI tgt hd2 ht (by split <;> (try split) <;> omega) (fun z => kt ?_) (fun z => kf ?_) <;> (split at z <;> (try split at z) <;> omega)
theorem x_lcmp_ne {a b : Int} {off : Int} (tgt : Nat) (hd : decode M.2.1 pc = .ok (.lcmp, 1)) (hd2 : decode M.2.1 (pc + 1) = .ok (.ifCond .ne off, 3)) (ht : ((pc + 1 : Nat) : Int) + off = (tgt : Int)) (ha : -9223372036854775808 ≤ a ∧ a < 9223372036854775808) (hb : -9223372036854775808 ≤ b ∧ b < 9223372036854775808) (kt : a ≠ b → X h M tgt loc st S Q) (kf : a = b → X h M (pc + 1 + 3) loc st S Q) : X h M pc loc (.long (i64 b) :: .long (i64 a) :: st) S Q := by
  refine x_lcmp hd ?_
  rw [lg_cmp_i ha hb]
  refine x_if_neI tgt hd2 ht (by split <;> (try split) <;> omega) (fun z => kt ?_) (fun z => kf ?_) <;> (split at z <;> (try split at z) <;> omega)
theorem x_lcmp_lt {a b : Int} {off : Int} (tgt : Nat) (hd : decode M.2.1 pc = .ok (.lcmp, 1)) (hd2 : decode M.2.1 (pc + 1) = .ok (.ifCond .lt off, 3)) (ht : ((pc + 1 : Nat) : Int) + off = (tgt : Int)) (ha : -9223372036854775808 ≤ a ∧ a < 9223372036854775808) (hb : -9223372036854775808 ≤ b ∧ b < 9223372036854775808) (kt : a < b → X h M tgt loc st S Q) (kf : b ≤ a → X h M (pc + 1 + 3) loc st S Q) : X h M pc loc (.long (i64 b) :: .long (i64 a) :: st) S Q := by
  refine x_lcmp hd ?_
  rw [lg_cmp_i ha hb]
  refine x_if_ltI tgt hd2 ht (by split <;> (try split) <;> omega) (fun z => kt ?_) (fun z => kf ?_) <;> (split at z <;> (try split at z) <;> omega)
theorem x_lcmp_ge {a b : Int} {off : Int} (tgt : Nat) (hd : decode M.2.1 pc = .ok (.lcmp, 1)) (hd2 : decode M.2.1 (pc + 1) = .ok (.ifCond .ge off, 3)) (ht : ((pc + 1 : Nat) : Int) + off = (tgt : Int)) (ha : -9223372036854775808 ≤ a ∧ a < 9223372036854775808) (hb : -9223372036854775808 ≤ b ∧ b < 9223372036854775808) (kt : b ≤ a → X h M tgt loc st S Q) (kf : a < b → X h M (pc + 1 + 3) loc st S Q) : X h M pc loc (.long (i64 b) :: .long (i64 a) :: st) S Q := by
  refine x_lcmp hd ?_
  rw [lg_cmp_i ha hb]
  refine x_if_geI tgt hd2 ht (by split <;> (try split) <;> omega) (fun z => kt ?_) (fun z => kf ?_) <;> (split at z <;> (try split at z) <;> omega)
theorem x_lcmp_gt {a b : Int} {off : Int} (tgt : Nat) (hd : decode M.2.1 pc = .ok (.lcmp, 1)) (hd2 : decode M.2.1 (pc + 1) = .ok (.ifCond .gt off, 3)) (ht : ((pc + 1 : Nat) : Int) + off = (tgt : Int)) (ha : -9223372036854775808 ≤ a ∧ a < 9223372036854775808) (hb : -9223372036854775808 ≤ b ∧ b < 9223372036854775808) (kt : b < a → X h M tgt loc st S Q) (kf : a ≤ b → X h M (pc + 1 + 3) loc st S Q) : X h M pc loc (.long (i64 b) :: .long (i64 a) :: st) S Q := by
  refine x_lcmp hd ?_
  rw [lg_cmp_i ha hb]
  refine x_if_gtI tgt hd2 ht (by split <;> (try split) <;> omega) (fun z => kt ?_) (fun z => kf ?_) <;> (split at z <;> (try split at z) <;> omega)
theorem x_lcmp_le {a b : Int} {off : Int} (tgt : Nat) (hd : decode M.2.1 pc = .ok (.lcmp, 1)) (hd2 : decode M.2.1 (pc + 1) = .ok (.ifCond .le off, 3)) (ht : ((pc + 1 : Nat) : Int) + off = (tgt : Int)) (ha : -9223372036854775808 ≤ a ∧ a < 9223372036854775808) (hb : -9223372036854775808 ≤ b ∧ b < 9223372036854775808) (kt : a ≤ b → X h M tgt loc st S Q) (kf : b < a → X h M (pc + 1 + 3) loc st S Q) : X h M pc loc (.long (i64 b) :: .long (i64 a) :: st) S Q := by
  refine x_lcmp hd ?_
  rw [lg_cmp_i ha hb]
  refine x_if_leI tgt hd2 ht (by split <;> (try split) <;> omega) (fun z => kt ?_) (fun z => kf ?_) <;> (split at z <;> (try split at z) <;> omega)
end XL
