/-! NUMBERS, and rows over them -/
def i32 (z : Int) : Int32 := Int32.ofInt z
def i64 (z : Int) : Int64 := Int64.ofInt z
theorem nI_i32 (n : Nat) : nI n = i32 n := by
  apply Int32.toInt_inj.mp
  simp [nI, i32, Int32.toInt_ofNat, Int32.toInt_ofInt]
theorem i32_toInt {z : Int} (h1 : -2147483648 ≤ z) (h2 : z < 2147483648) : (i32 z).toInt = z := by
  unfold i32
  exact Int32.toInt_ofInt_of_le h1 (by omega)
theorem i64_toInt {z : Int} (h1 : -9223372036854775808 ≤ z) (h2 : z < 9223372036854775808) : (i64 z).toInt = z := by
  unfold i64
  exact Int64.toInt_ofInt_of_le h1 (by omega)
theorem i32_of (x : Int32) : x = i32 x.toInt := (Int32.ofInt_toInt x).symm
theorem i64_of (x : Int64) : x = i64 x.toInt := (Int64.ofInt_toInt x).symm
theorem i32_add (a b : Int) : i32 a + i32 b = i32 (a + b) := (Int32.ofInt_add a b).symm
theorem i32_sub (a b : Int) : i32 a - i32 b = i32 (a - b) := (Int32.ofInt_sub a b).symm
theorem i32_mul (a b : Int) : i32 a * i32 b = i32 (a * b) := (Int32.ofInt_mul a b).symm
theorem i32_neg (a : Int) : -i32 a = i32 (-a) := (Int32.ofInt_neg a).symm
theorem i64_add (a b : Int) : i64 a + i64 b = i64 (a + b) := (Int64.ofInt_add a b).symm
theorem i64_sub (a b : Int) : i64 a - i64 b = i64 (a - b) := (Int64.ofInt_sub a b).symm
theorem i64_mul (a b : Int) : i64 a * i64 b = i64 (a * b) := (Int64.ofInt_mul a b).symm
theorem i64_neg (a : Int) : -i64 a = i64 (-a) := (Int64.ofInt_neg a).symm
theorem i32_l {z : Int} (h1 : -2147483648 ≤ z) (h2 : z < 2147483648) : (i32 z).toInt64 = i64 z := by
  apply Int64.toInt_inj.mp
  rw [Int32.toInt_toInt64, i32_toInt h1 h2, i64_toInt (by omega) (by omega)]
theorem nI_or (a b : Nat) : nI a ||| nI b = nI (a ||| b) := by
  apply Int32.toBitVec_inj.1
  show BitVec.ofNat 32 a ||| BitVec.ofNat 32 b = BitVec.ofNat 32 (a ||| b)
  apply BitVec.eq_of_getLsbD_eq
  intro i hi
  simp [hi]
theorem nI_and (a b : Nat) : nI a &&& nI b = nI (a &&& b) := by
  apply Int32.toBitVec_inj.1
  show BitVec.ofNat 32 a &&& BitVec.ofNat 32 b = BitVec.ofNat 32 (a &&& b)
  apply BitVec.eq_of_getLsbD_eq
  intro i hi
  simp [hi]
theorem nI_xor (a b : Nat) : nI a ^^^ nI b = nI (a ^^^ b) := by
  apply Int32.toBitVec_inj.1
  show BitVec.ofNat 32 a ^^^ BitVec.ofNat 32 b = BitVec.ofNat 32 (a ^^^ b)
  apply BitVec.eq_of_getLsbD_eq
  intro i hi
  simp [hi]
/-- '& ~': with the all ones -/
theorem nI_andnot (a b : Nat) : nI a &&& (nI b ^^^ i32 (-1)) = nI (a ^^^ (a &&& b)) := by
  rw [← nI_xor, ← nI_and]
  apply Int32.toBitVec_inj.1
  have q : ∀ x y z : BitVec 32, (∀ i, z.getLsbD i = decide (i < 32)) → x &&& (y ^^^ z) = x ^^^ (x &&& y) := by
    intro x y z hz
    apply BitVec.eq_of_getLsbD_eq
    intro i hi
    rw [BitVec.getLsbD_and, BitVec.getLsbD_xor, BitVec.getLsbD_xor, BitVec.getLsbD_and, hz i]
    simp [hi]
    cases x[i] <;> cases y[i] <;> rfl
  exact q _ _ _ (fun i => by
    rw [show (i32 (-1)).toBitVec = BitVec.allOnes 32 from by decide]
    exact BitVec.getLsbD_allOnes)
theorem nI_sl : ∀ n, n < 32 → ((nI n &&& 31).toBitVec.smod 32).toNat = n := by decide +kernel
theorem nI_shl {a b : Nat} (hb : b < 32) (h : a * 2 ^ b < 2 ^ 32) : nI a <<< (nI b &&& 31) = nI (a * 2 ^ b) := pk_shlN _ b (nI_sl b hb) h
theorem nI_shr {a b : Nat} (hb : b < 32) (h : a < 2 ^ 31) : nI a >>> (nI b &&& 31) = nI (a / 2 ^ b) := pk_shrN h _ b (nI_sl b hb)
theorem i32_lt {a b : Int} (ha : -2147483648 ≤ a ∧ a < 2147483648) (hb : -2147483648 ≤ b ∧ b < 2147483648) : i32 a < i32 b ↔ a < b := by rw [Int32.lt_iff_toInt_lt, i32_toInt ha.1 ha.2, i32_toInt hb.1 hb.2]
theorem i32_le {a b : Int} (ha : -2147483648 ≤ a ∧ a < 2147483648) (hb : -2147483648 ≤ b ∧ b < 2147483648) : i32 a ≤ i32 b ↔ a ≤ b := by rw [Int32.le_iff_toInt_le, i32_toInt ha.1 ha.2, i32_toInt hb.1 hb.2]
theorem i32_eq {a b : Int} (ha : -2147483648 ≤ a ∧ a < 2147483648) (hb : -2147483648 ≤ b ∧ b < 2147483648) : i32 a = i32 b ↔ a = b := by
  constructor
  · intro h
    have := congrArg Int32.toInt h
    rwa [i32_toInt ha.1 ha.2, i32_toInt hb.1 hb.2] at this
  · intro h; rw [h]
theorem i64_lt {a b : Int} (ha : -9223372036854775808 ≤ a ∧ a < 9223372036854775808) (hb : -9223372036854775808 ≤ b ∧ b < 9223372036854775808) : i64 a < i64 b ↔ a < b := by rw [Int64.lt_iff_toInt_lt, i64_toInt ha.1 ha.2, i64_toInt hb.1 hb.2]
theorem i64_eq {a b : Int} (ha : -9223372036854775808 ≤ a ∧ a < 9223372036854775808) (hb : -9223372036854775808 ≤ b ∧ b < 9223372036854775808) : i64 a = i64 b ↔ a = b := by
  constructor
  · intro h
    have := congrArg Int64.toInt h
    rwa [i64_toInt ha.1 ha.2, i64_toInt hb.1 hb.2] at this
  · intro h; rw [h]
section XN
variable {h : List amSh} {M : amM} {pc : Nat} {loc st : List Value} {S : amS} {Q : Option Value → amS → Prop}
theorem x_ic {n : Int} (v : Int32) (hv : Int32.ofInt n = v) (hd : decode M.2.1 pc = .ok (.iconst n, 1)) (k : X h M (pc + 1) loc (.int v :: st) S Q) : X h M pc loc st S Q := x_iconst hd (by rw [hv]; exact k)
theorem x_bi {n : Int} (v : Int32) (hv : (Int8.ofInt n).toInt32 = v) (hd : decode M.2.1 pc = .ok (.bipush n, 2)) (k : X h M (pc + 2) loc (.int v :: st) S Q) : X h M pc loc st S Q := x_bipush hd (by rw [hv]; exact k)
theorem x_si {n : Int} (v : Int32) (hv : (Int16.ofInt n).toInt32 = v) (hd : decode M.2.1 pc = .ok (.sipush n, 3)) (k : X h M (pc + 3) loc (.int v :: st) S Q) : X h M pc loc st S Q := x_sipush hd (by rw [hv]; exact k)
theorem x_lc {n : Fin 2} (v : Int64) (hv : Int64.ofNat n = v) (hd : decode M.2.1 pc = .ok (.lconst n, 1)) (k : X h M (pc + 1) loc (.long v :: st) S Q) : X h M pc loc st S Q := x_lconst hd (by rw [hv]; exact k)
theorem x_iaddN {a b : Nat} (hd : decode M.2.1 pc = .ok (.iadd, 1))  (k : X h M (pc + 1) loc (.int (nI (a + b)) :: st) S Q) : X h M pc loc (.int (nI b) :: .int (nI a) :: st) S Q := x_iadd hd (by rw [nI_add]; exact k)
theorem x_isubN {a b : Nat} (hd : decode M.2.1 pc = .ok (.isub, 1)) (hs : b ≤ a) (k : X h M (pc + 1) loc (.int (nI (a - b)) :: st) S Q) : X h M pc loc (.int (nI b) :: .int (nI a) :: st) S Q := x_isub hd (by rw [pk_sub hs]; exact k)
theorem x_imulN {a b : Nat} (hd : decode M.2.1 pc = .ok (.imul, 1))  (k : X h M (pc + 1) loc (.int (nI (a * b)) :: st) S Q) : X h M pc loc (.int (nI b) :: .int (nI a) :: st) S Q := x_imul hd (by rw [pk_mul]; exact k)
theorem x_iandN {a b : Nat} (hd : decode M.2.1 pc = .ok (.iand, 1))  (k : X h M (pc + 1) loc (.int (nI (a &&& b)) :: st) S Q) : X h M pc loc (.int (nI b) :: .int (nI a) :: st) S Q := x_iand hd (by rw [nI_and]; exact k)
theorem x_iorN {a b : Nat} (hd : decode M.2.1 pc = .ok (.ior, 1))  (k : X h M (pc + 1) loc (.int (nI (a ||| b)) :: st) S Q) : X h M pc loc (.int (nI b) :: .int (nI a) :: st) S Q := x_ior hd (by rw [nI_or]; exact k)
theorem x_ixorN {a b : Nat} (hd : decode M.2.1 pc = .ok (.ixor, 1))  (k : X h M (pc + 1) loc (.int (nI (a ^^^ b)) :: st) S Q) : X h M pc loc (.int (nI b) :: .int (nI a) :: st) S Q := x_ixor hd (by rw [nI_xor]; exact k)
theorem x_ishlN {a b : Nat} (hd : decode M.2.1 pc = .ok (.ishl, 1)) (hb : b < 32) (hs : a * 2 ^ b < 2 ^ 32) (k : X h M (pc + 1) loc (.int (nI (a * 2 ^ b)) :: st) S Q) : X h M pc loc (.int (nI b) :: .int (nI a) :: st) S Q := x_ishl hd (by rw [nI_shl hb hs]; exact k)
theorem x_ishrN {a b : Nat} (hd : decode M.2.1 pc = .ok (.ishr, 1)) (hb : b < 32) (hs : a < 2 ^ 31) (k : X h M (pc + 1) loc (.int (nI (a / 2 ^ b)) :: st) S Q) : X h M pc loc (.int (nI b) :: .int (nI a) :: st) S Q := x_ishr hd (by rw [nI_shr hb hs]; exact k)
theorem x_iandNX {a b : Nat} (hd : decode M.2.1 pc = .ok (.iand, 1))  (k : X h M (pc + 1) loc (.int (nI (a ^^^ (a &&& b))) :: st) S Q) : X h M pc loc (.int (nI b ^^^ i32 (-1)) :: .int (nI a) :: st) S Q := x_iand hd (by rw [nI_andnot]; exact k)
theorem x_iaddI {a b : Int} (hd : decode M.2.1 pc = .ok (.iadd, 1))  (k : X h M (pc + 1) loc (.int (i32 (a + b)) :: st) S Q) : X h M pc loc (.int (i32 b) :: .int (i32 a) :: st) S Q := x_iadd hd (by rw [i32_add]; exact k)
theorem x_isubI {a b : Int} (hd : decode M.2.1 pc = .ok (.isub, 1))  (k : X h M (pc + 1) loc (.int (i32 (a - b)) :: st) S Q) : X h M pc loc (.int (i32 b) :: .int (i32 a) :: st) S Q := x_isub hd (by rw [i32_sub]; exact k)
theorem x_imulI {a b : Int} (hd : decode M.2.1 pc = .ok (.imul, 1))  (k : X h M (pc + 1) loc (.int (i32 (a * b)) :: st) S Q) : X h M pc loc (.int (i32 b) :: .int (i32 a) :: st) S Q := x_imul hd (by rw [i32_mul]; exact k)
theorem x_iaddNI {a : Nat} {b : Int} (hd : decode M.2.1 pc = .ok (.iadd, 1)) (k : X h M (pc + 1) loc (.int (i32 (a + b)) :: st) S Q) : X h M pc loc (.int (i32 b) :: .int (nI a) :: st) S Q := x_iadd hd (by rw [nI_i32, i32_add]; exact k)
theorem x_iaddIN {a : Int} {b : Nat} (hd : decode M.2.1 pc = .ok (.iadd, 1)) (k : X h M (pc + 1) loc (.int (i32 (a + b)) :: st) S Q) : X h M pc loc (.int (nI b) :: .int (i32 a) :: st) S Q := x_iadd hd (by rw [nI_i32, i32_add]; exact k)
theorem x_isubNI {a : Nat} {b : Int} (hd : decode M.2.1 pc = .ok (.isub, 1)) (k : X h M (pc + 1) loc (.int (i32 (a - b)) :: st) S Q) : X h M pc loc (.int (i32 b) :: .int (nI a) :: st) S Q := x_isub hd (by rw [nI_i32, i32_sub]; exact k)
theorem x_isubIN {a : Int} {b : Nat} (hd : decode M.2.1 pc = .ok (.isub, 1)) (k : X h M (pc + 1) loc (.int (i32 (a - b)) :: st) S Q) : X h M pc loc (.int (nI b) :: .int (i32 a) :: st) S Q := x_isub hd (by rw [nI_i32, i32_sub]; exact k)
theorem x_imulNI {a : Nat} {b : Int} (hd : decode M.2.1 pc = .ok (.imul, 1)) (k : X h M (pc + 1) loc (.int (i32 (a * b)) :: st) S Q) : X h M pc loc (.int (i32 b) :: .int (nI a) :: st) S Q := x_imul hd (by rw [nI_i32, i32_mul]; exact k)
theorem x_imulIN {a : Int} {b : Nat} (hd : decode M.2.1 pc = .ok (.imul, 1)) (k : X h M (pc + 1) loc (.int (i32 (a * b)) :: st) S Q) : X h M pc loc (.int (nI b) :: .int (i32 a) :: st) S Q := x_imul hd (by rw [nI_i32, i32_mul]; exact k)
theorem x_isubZ {a b : Nat} (hd : decode M.2.1 pc = .ok (.isub, 1)) (k : X h M (pc + 1) loc (.int (i32 ((a : Int) - b)) :: st) S Q) : X h M pc loc (.int (nI b) :: .int (nI a) :: st) S Q := x_isub hd (by rw [nI_i32, nI_i32, i32_sub]; exact k)
theorem x_topI {a : Nat} (k : X h M pc loc (.int (i32 a) :: st) S Q) : X h M pc loc (.int (nI a) :: st) S Q := by rw [nI_i32]; exact k
theorem x_topI2 {a : Nat} {v : Value} (k : X h M pc loc (v :: .int (i32 a) :: st) S Q) : X h M pc loc (v :: .int (nI a) :: st) S Q := by rw [nI_i32]; exact k
theorem x_laddI {a b : Int} (hd : decode M.2.1 pc = .ok (.ladd, 1))  (k : X h M (pc + 1) loc (.long (i64 (a + b)) :: st) S Q) : X h M pc loc (.long (i64 b) :: .long (i64 a) :: st) S Q := x_ladd hd (by rw [i64_add]; exact k)
theorem x_lsubI {a b : Int} (hd : decode M.2.1 pc = .ok (.lsub, 1))  (k : X h M (pc + 1) loc (.long (i64 (a - b)) :: st) S Q) : X h M pc loc (.long (i64 b) :: .long (i64 a) :: st) S Q := x_lsub hd (by rw [i64_sub]; exact k)
theorem x_lmulI {a b : Int} (hd : decode M.2.1 pc = .ok (.lmul, 1))  (k : X h M (pc + 1) loc (.long (i64 (a * b)) :: st) S Q) : X h M pc loc (.long (i64 b) :: .long (i64 a) :: st) S Q := x_lmul hd (by rw [i64_mul]; exact k)
theorem x_inegI {a : Int} (hd : decode M.2.1 pc = .ok (.ineg, 1)) (k : X h M (pc + 1) loc (.int (i32 (-a)) :: st) S Q) : X h M pc loc (.int (i32 a) :: st) S Q := x_ineg hd (by rw [i32_neg]; exact k)
theorem x_lnegI {a : Int} (hd : decode M.2.1 pc = .ok (.lneg, 1)) (k : X h M (pc + 1) loc (.long (i64 (-a)) :: st) S Q) : X h M pc loc (.long (i64 a) :: st) S Q := x_lneg hd (by rw [i64_neg]; exact k)
theorem x_i2lI {a : Int} (hd : decode M.2.1 pc = .ok (.i2l, 1)) (h1 : -2147483648 ≤ a) (h2 : a < 2147483648) (k : X h M (pc + 1) loc (.long (i64 a) :: st) S Q) : X h M pc loc (.int (i32 a) :: st) S Q := x_i2l hd (by rw [i32_l h1 h2]; exact k)
theorem x_iremN {a b : Nat} (hd : decode M.2.1 pc = .ok (.irem, 1)) (ha : a < 2 ^ 31) (h0 : 0 < b) (hb : b < 2 ^ 31) (k : X h M (pc + 1) loc (.int (nI (a % b)) :: st) S Q) : X h M pc loc (.int (nI b) :: .int (nI a) :: st) S Q := x_irem hd (nI_ne0 h0 hb) (by rw [pk_rem ha h0 hb]; exact k)
theorem x_idivN {a b : Nat} (hd : decode M.2.1 pc = .ok (.idiv, 1)) (ha : a < 2 ^ 31) (h0 : 0 < b) (hb : b < 2 ^ 31) (k : X h M (pc + 1) loc (.int (nI (a / b)) :: st) S Q) : X h M pc loc (.int (nI b) :: .int (nI a) :: st) S Q := x_idiv hd (nI_ne0 h0 hb) (by rw [pk_div ha h0 hb]; exact k)
theorem x_iincN {n i : Nat} (hd : decode M.2.1 pc = .ok (.iinc n 1, 3)) (hl : am_ld loc n = .int (nI i)) (hn : Nat.blt n loc.length = true) (k : X h M (pc + 3) (am_st (.int (nI (i + 1))) n 0 loc) st S Q) : X h M pc loc st S Q := x_iinc hd hl hn (by rw [show nI i + Int32.ofInt 1 = nI (i + 1) from nI_1 i]; exact k)
theorem x_iincD {n i : Nat} (hd : decode M.2.1 pc = .ok (.iinc n (-1), 3)) (hl : am_ld loc n = .int (nI (i + 1))) (hn : Nat.blt n loc.length = true) (k : X h M (pc + 3) (am_st (.int (nI i)) n 0 loc) st S Q) : X h M pc loc st S Q := x_iinc hd hl hn (by rw [show nI (i + 1) + Int32.ofInt (-1) = nI i from pk_m1 i]; exact k)
-- eq: kt x = y; kf ¬ x = y
theorem x_icmp_eqN {a b : Nat} {off : Int} (tgt : Nat) (hd : decode M.2.1 pc = .ok (.if_icmp .eq off, 3)) (ht : (pc : Int) + off = (tgt : Int)) (ha : a < 2 ^ 31) (hb : b < 2 ^ 31) (kt : a = b → X h M tgt loc st S Q) (kf : a ≠ b → X h M (pc + 3) loc st S Q) : X h M pc loc (.int (nI b) :: .int (nI a) :: st) S Q := by
  refine x_icmp_eq tgt hd ht (fun z => kt ?_) (fun z => kf ?_)
  · simp only [nI_eq ha hb, nI_eq hb ha, nI_ltI ha hb, nI_ltI hb ha, nI_leI ha hb, nI_leI hb ha] at z; omega
  · simp only [nI_eq ha hb, nI_eq hb ha, nI_ltI ha hb, nI_ltI hb ha, nI_leI ha hb, nI_leI hb ha] at z; omega
-- ne: kt ¬ x = y; kf x = y
theorem x_icmp_neN {a b : Nat} {off : Int} (tgt : Nat) (hd : decode M.2.1 pc = .ok (.if_icmp .ne off, 3)) (ht : (pc : Int) + off = (tgt : Int)) (ha : a < 2 ^ 31) (hb : b < 2 ^ 31) (kt : a ≠ b → X h M tgt loc st S Q) (kf : a = b → X h M (pc + 3) loc st S Q) : X h M pc loc (.int (nI b) :: .int (nI a) :: st) S Q := by
  refine x_icmp_ne tgt hd ht (fun z => kt ?_) (fun z => kf ?_)
  · simp only [nI_eq ha hb, nI_eq hb ha, nI_ltI ha hb, nI_ltI hb ha, nI_leI ha hb, nI_leI hb ha] at z; omega
  · simp only [nI_eq ha hb, nI_eq hb ha, nI_ltI ha hb, nI_ltI hb ha, nI_leI ha hb, nI_leI hb ha] at z; omega
-- lt: kt x < y; kf ¬ x < y
theorem x_icmp_ltN {a b : Nat} {off : Int} (tgt : Nat) (hd : decode M.2.1 pc = .ok (.if_icmp .lt off, 3)) (ht : (pc : Int) + off = (tgt : Int)) (ha : a < 2 ^ 31) (hb : b < 2 ^ 31) (kt : a < b → X h M tgt loc st S Q) (kf : b ≤ a → X h M (pc + 3) loc st S Q) : X h M pc loc (.int (nI b) :: .int (nI a) :: st) S Q := by
  refine x_icmp_lt tgt hd ht (fun z => kt ?_) (fun z => kf ?_)
  · simp only [nI_eq ha hb, nI_eq hb ha, nI_ltI ha hb, nI_ltI hb ha, nI_leI ha hb, nI_leI hb ha] at z; omega
  · simp only [nI_eq ha hb, nI_eq hb ha, nI_ltI ha hb, nI_ltI hb ha, nI_leI ha hb, nI_leI hb ha] at z; omega
-- ge: kt y ≤ x; kf ¬ y ≤ x
theorem x_icmp_geN {a b : Nat} {off : Int} (tgt : Nat) (hd : decode M.2.1 pc = .ok (.if_icmp .ge off, 3)) (ht : (pc : Int) + off = (tgt : Int)) (ha : a < 2 ^ 31) (hb : b < 2 ^ 31) (kt : b ≤ a → X h M tgt loc st S Q) (kf : a < b → X h M (pc + 3) loc st S Q) : X h M pc loc (.int (nI b) :: .int (nI a) :: st) S Q := by
  refine x_icmp_ge tgt hd ht (fun z => kt ?_) (fun z => kf ?_)
  · simp only [nI_eq ha hb, nI_eq hb ha, nI_ltI ha hb, nI_ltI hb ha, nI_leI ha hb, nI_leI hb ha] at z; omega
  · simp only [nI_eq ha hb, nI_eq hb ha, nI_ltI ha hb, nI_ltI hb ha, nI_leI ha hb, nI_leI hb ha] at z; omega
-- gt: kt y < x; kf ¬ y < x
theorem x_icmp_gtN {a b : Nat} {off : Int} (tgt : Nat) (hd : decode M.2.1 pc = .ok (.if_icmp .gt off, 3)) (ht : (pc : Int) + off = (tgt : Int)) (ha : a < 2 ^ 31) (hb : b < 2 ^ 31) (kt : b < a → X h M tgt loc st S Q) (kf : a ≤ b → X h M (pc + 3) loc st S Q) : X h M pc loc (.int (nI b) :: .int (nI a) :: st) S Q := by
  refine x_icmp_gt tgt hd ht (fun z => kt ?_) (fun z => kf ?_)
  · simp only [nI_eq ha hb, nI_eq hb ha, nI_ltI ha hb, nI_ltI hb ha, nI_leI ha hb, nI_leI hb ha] at z; omega
  · simp only [nI_eq ha hb, nI_eq hb ha, nI_ltI ha hb, nI_ltI hb ha, nI_leI ha hb, nI_leI hb ha] at z; omega
-- le: kt x ≤ y; kf ¬ x ≤ y
theorem x_icmp_leN {a b : Nat} {off : Int} (tgt : Nat) (hd : decode M.2.1 pc = .ok (.if_icmp .le off, 3)) (ht : (pc : Int) + off = (tgt : Int)) (ha : a < 2 ^ 31) (hb : b < 2 ^ 31) (kt : a ≤ b → X h M tgt loc st S Q) (kf : b < a → X h M (pc + 3) loc st S Q) : X h M pc loc (.int (nI b) :: .int (nI a) :: st) S Q := by
  refine x_icmp_le tgt hd ht (fun z => kt ?_) (fun z => kf ?_)
  · simp only [nI_eq ha hb, nI_eq hb ha, nI_ltI ha hb, nI_ltI hb ha, nI_leI ha hb, nI_leI hb ha] at z; omega
  · simp only [nI_eq ha hb, nI_eq hb ha, nI_ltI ha hb, nI_ltI hb ha, nI_leI ha hb, nI_leI hb ha] at z; omega
theorem x_icmp_eqI {a b : Int} {off : Int} (tgt : Nat) (hd : decode M.2.1 pc = .ok (.if_icmp .eq off, 3)) (ht : (pc : Int) + off = (tgt : Int)) (ha : -2147483648 ≤ a ∧ a < 2147483648) (hb : -2147483648 ≤ b ∧ b < 2147483648) (kt : a = b → X h M tgt loc st S Q) (kf : a ≠ b → X h M (pc + 3) loc st S Q) : X h M pc loc (.int (i32 b) :: .int (i32 a) :: st) S Q := by
  refine x_icmp_eq tgt hd ht (fun z => kt ?_) (fun z => kf ?_)
  · simp only [i32_eq ha hb, i32_eq hb ha, i32_lt ha hb, i32_lt hb ha, i32_le ha hb, i32_le hb ha] at z; omega
  · simp only [i32_eq ha hb, i32_eq hb ha, i32_lt ha hb, i32_lt hb ha, i32_le ha hb, i32_le hb ha] at z; omega
theorem x_if_eqI {a : Int} {off : Int} (tgt : Nat) (hd : decode M.2.1 pc = .ok (.ifCond .eq off, 3)) (ht : (pc : Int) + off = (tgt : Int)) (ha : -2147483648 ≤ a ∧ a < 2147483648) (kt : a = 0 → X h M tgt loc st S Q) (kf : a ≠ 0 → X h M (pc + 3) loc st S Q) : X h M pc loc (.int (i32 a) :: st) S Q := by
  have hb : -2147483648 ≤ (0 : Int) ∧ (0 : Int) < 2147483648 := by omega
  refine x_if_eq tgt hd ht (fun z => kt ?_) (fun z => kf ?_)
  · rw [show (0 : Int32) = i32 0 from rfl] at z; simp only [i32_eq ha hb, i32_eq hb ha, i32_lt ha hb, i32_lt hb ha, i32_le ha hb, i32_le hb ha] at z; omega
  · rw [show (0 : Int32) = i32 0 from rfl] at z; simp only [i32_eq ha hb, i32_eq hb ha, i32_lt ha hb, i32_lt hb ha, i32_le ha hb, i32_le hb ha] at z; omega
theorem x_icmp_neI {a b : Int} {off : Int} (tgt : Nat) (hd : decode M.2.1 pc = .ok (.if_icmp .ne off, 3)) (ht : (pc : Int) + off = (tgt : Int)) (ha : -2147483648 ≤ a ∧ a < 2147483648) (hb : -2147483648 ≤ b ∧ b < 2147483648) (kt : a ≠ b → X h M tgt loc st S Q) (kf : a = b → X h M (pc + 3) loc st S Q) : X h M pc loc (.int (i32 b) :: .int (i32 a) :: st) S Q := by
  refine x_icmp_ne tgt hd ht (fun z => kt ?_) (fun z => kf ?_)
  · simp only [i32_eq ha hb, i32_eq hb ha, i32_lt ha hb, i32_lt hb ha, i32_le ha hb, i32_le hb ha] at z; omega
  · simp only [i32_eq ha hb, i32_eq hb ha, i32_lt ha hb, i32_lt hb ha, i32_le ha hb, i32_le hb ha] at z; omega
theorem x_if_neI {a : Int} {off : Int} (tgt : Nat) (hd : decode M.2.1 pc = .ok (.ifCond .ne off, 3)) (ht : (pc : Int) + off = (tgt : Int)) (ha : -2147483648 ≤ a ∧ a < 2147483648) (kt : a ≠ 0 → X h M tgt loc st S Q) (kf : a = 0 → X h M (pc + 3) loc st S Q) : X h M pc loc (.int (i32 a) :: st) S Q := by
  have hb : -2147483648 ≤ (0 : Int) ∧ (0 : Int) < 2147483648 := by omega
  refine x_if_ne tgt hd ht (fun z => kt ?_) (fun z => kf ?_)
  · rw [show (0 : Int32) = i32 0 from rfl] at z; simp only [i32_eq ha hb, i32_eq hb ha, i32_lt ha hb, i32_lt hb ha, i32_le ha hb, i32_le hb ha] at z; omega
  · rw [show (0 : Int32) = i32 0 from rfl] at z; simp only [i32_eq ha hb, i32_eq hb ha, i32_lt ha hb, i32_lt hb ha, i32_le ha hb, i32_le hb ha] at z; omega
theorem x_icmp_ltI {a b : Int} {off : Int} (tgt : Nat) (hd : decode M.2.1 pc = .ok (.if_icmp .lt off, 3)) (ht : (pc : Int) + off = (tgt : Int)) (ha : -2147483648 ≤ a ∧ a < 2147483648) (hb : -2147483648 ≤ b ∧ b < 2147483648) (kt : a < b → X h M tgt loc st S Q) (kf : b ≤ a → X h M (pc + 3) loc st S Q) : X h M pc loc (.int (i32 b) :: .int (i32 a) :: st) S Q := by
  refine x_icmp_lt tgt hd ht (fun z => kt ?_) (fun z => kf ?_)
  · simp only [i32_eq ha hb, i32_eq hb ha, i32_lt ha hb, i32_lt hb ha, i32_le ha hb, i32_le hb ha] at z; omega
  · simp only [i32_eq ha hb, i32_eq hb ha, i32_lt ha hb, i32_lt hb ha, i32_le ha hb, i32_le hb ha] at z; omega
theorem x_if_ltI {a : Int} {off : Int} (tgt : Nat) (hd : decode M.2.1 pc = .ok (.ifCond .lt off, 3)) (ht : (pc : Int) + off = (tgt : Int)) (ha : -2147483648 ≤ a ∧ a < 2147483648) (kt : a < 0 → X h M tgt loc st S Q) (kf : 0 ≤ a → X h M (pc + 3) loc st S Q) : X h M pc loc (.int (i32 a) :: st) S Q := by
  have hb : -2147483648 ≤ (0 : Int) ∧ (0 : Int) < 2147483648 := by omega
  refine x_if_lt tgt hd ht (fun z => kt ?_) (fun z => kf ?_)
  · rw [show (0 : Int32) = i32 0 from rfl] at z; simp only [i32_eq ha hb, i32_eq hb ha, i32_lt ha hb, i32_lt hb ha, i32_le ha hb, i32_le hb ha] at z; omega
  · rw [show (0 : Int32) = i32 0 from rfl] at z; simp only [i32_eq ha hb, i32_eq hb ha, i32_lt ha hb, i32_lt hb ha, i32_le ha hb, i32_le hb ha] at z; omega
theorem x_icmp_geI {a b : Int} {off : Int} (tgt : Nat) (hd : decode M.2.1 pc = .ok (.if_icmp .ge off, 3)) (ht : (pc : Int) + off = (tgt : Int)) (ha : -2147483648 ≤ a ∧ a < 2147483648) (hb : -2147483648 ≤ b ∧ b < 2147483648) (kt : b ≤ a → X h M tgt loc st S Q) (kf : a < b → X h M (pc + 3) loc st S Q) : X h M pc loc (.int (i32 b) :: .int (i32 a) :: st) S Q := by
  refine x_icmp_ge tgt hd ht (fun z => kt ?_) (fun z => kf ?_)
  · simp only [i32_eq ha hb, i32_eq hb ha, i32_lt ha hb, i32_lt hb ha, i32_le ha hb, i32_le hb ha] at z; omega
  · simp only [i32_eq ha hb, i32_eq hb ha, i32_lt ha hb, i32_lt hb ha, i32_le ha hb, i32_le hb ha] at z; omega
theorem x_if_geI {a : Int} {off : Int} (tgt : Nat) (hd : decode M.2.1 pc = .ok (.ifCond .ge off, 3)) (ht : (pc : Int) + off = (tgt : Int)) (ha : -2147483648 ≤ a ∧ a < 2147483648) (kt : 0 ≤ a → X h M tgt loc st S Q) (kf : a < 0 → X h M (pc + 3) loc st S Q) : X h M pc loc (.int (i32 a) :: st) S Q := by
  have hb : -2147483648 ≤ (0 : Int) ∧ (0 : Int) < 2147483648 := by omega
  refine x_if_ge tgt hd ht (fun z => kt ?_) (fun z => kf ?_)
  · rw [show (0 : Int32) = i32 0 from rfl] at z; simp only [i32_eq ha hb, i32_eq hb ha, i32_lt ha hb, i32_lt hb ha, i32_le ha hb, i32_le hb ha] at z; omega
  · rw [show (0 : Int32) = i32 0 from rfl] at z; simp only [i32_eq ha hb, i32_eq hb ha, i32_lt ha hb, i32_lt hb ha, i32_le ha hb, i32_le hb ha] at z; omega
theorem x_icmp_gtI {a b : Int} {off : Int} (tgt : Nat) (hd : decode M.2.1 pc = .ok (.if_icmp .gt off, 3)) (ht : (pc : Int) + off = (tgt : Int)) (ha : -2147483648 ≤ a ∧ a < 2147483648) (hb : -2147483648 ≤ b ∧ b < 2147483648) (kt : b < a → X h M tgt loc st S Q) (kf : a ≤ b → X h M (pc + 3) loc st S Q) : X h M pc loc (.int (i32 b) :: .int (i32 a) :: st) S Q := by
  refine x_icmp_gt tgt hd ht (fun z => kt ?_) (fun z => kf ?_)
  · simp only [i32_eq ha hb, i32_eq hb ha, i32_lt ha hb, i32_lt hb ha, i32_le ha hb, i32_le hb ha] at z; omega
  · simp only [i32_eq ha hb, i32_eq hb ha, i32_lt ha hb, i32_lt hb ha, i32_le ha hb, i32_le hb ha] at z; omega
theorem x_if_gtI {a : Int} {off : Int} (tgt : Nat) (hd : decode M.2.1 pc = .ok (.ifCond .gt off, 3)) (ht : (pc : Int) + off = (tgt : Int)) (ha : -2147483648 ≤ a ∧ a < 2147483648) (kt : 0 < a → X h M tgt loc st S Q) (kf : a ≤ 0 → X h M (pc + 3) loc st S Q) : X h M pc loc (.int (i32 a) :: st) S Q := by
  have hb : -2147483648 ≤ (0 : Int) ∧ (0 : Int) < 2147483648 := by omega
  refine x_if_gt tgt hd ht (fun z => kt ?_) (fun z => kf ?_)
  · rw [show (0 : Int32) = i32 0 from rfl] at z; simp only [i32_eq ha hb, i32_eq hb ha, i32_lt ha hb, i32_lt hb ha, i32_le ha hb, i32_le hb ha] at z; omega
  · rw [show (0 : Int32) = i32 0 from rfl] at z; simp only [i32_eq ha hb, i32_eq hb ha, i32_lt ha hb, i32_lt hb ha, i32_le ha hb, i32_le hb ha] at z; omega
theorem x_icmp_leI {a b : Int} {off : Int} (tgt : Nat) (hd : decode M.2.1 pc = .ok (.if_icmp .le off, 3)) (ht : (pc : Int) + off = (tgt : Int)) (ha : -2147483648 ≤ a ∧ a < 2147483648) (hb : -2147483648 ≤ b ∧ b < 2147483648) (kt : a ≤ b → X h M tgt loc st S Q) (kf : b < a → X h M (pc + 3) loc st S Q) : X h M pc loc (.int (i32 b) :: .int (i32 a) :: st) S Q := by
  refine x_icmp_le tgt hd ht (fun z => kt ?_) (fun z => kf ?_)
  · simp only [i32_eq ha hb, i32_eq hb ha, i32_lt ha hb, i32_lt hb ha, i32_le ha hb, i32_le hb ha] at z; omega
  · simp only [i32_eq ha hb, i32_eq hb ha, i32_lt ha hb, i32_lt hb ha, i32_le ha hb, i32_le hb ha] at z; omega
theorem x_if_leI {a : Int} {off : Int} (tgt : Nat) (hd : decode M.2.1 pc = .ok (.ifCond .le off, 3)) (ht : (pc : Int) + off = (tgt : Int)) (ha : -2147483648 ≤ a ∧ a < 2147483648) (kt : a ≤ 0 → X h M tgt loc st S Q) (kf : 0 < a → X h M (pc + 3) loc st S Q) : X h M pc loc (.int (i32 a) :: st) S Q := by
  have hb : -2147483648 ≤ (0 : Int) ∧ (0 : Int) < 2147483648 := by omega
  refine x_if_le tgt hd ht (fun z => kt ?_) (fun z => kf ?_)
  · rw [show (0 : Int32) = i32 0 from rfl] at z; simp only [i32_eq ha hb, i32_eq hb ha, i32_lt ha hb, i32_lt hb ha, i32_le ha hb, i32_le hb ha] at z; omega
  · rw [show (0 : Int32) = i32 0 from rfl] at z; simp only [i32_eq ha hb, i32_eq hb ha, i32_lt ha hb, i32_lt hb ha, i32_le ha hb, i32_le hb ha] at z; omega
theorem x_if_eqN {a : Nat} {off : Int} (tgt : Nat) (hd : decode M.2.1 pc = .ok (.ifCond .eq off, 3)) (ht : (pc : Int) + off = (tgt : Int)) (ha : a < 2 ^ 31) (kt : a = 0 → X h M tgt loc st S Q) (kf : a ≠ 0 → X h M (pc + 3) loc st S Q) : X h M pc loc (.int (nI a) :: st) S Q := by
  refine x_if_eq tgt hd ht (fun z => kt ?_) (fun z => kf ?_)
  · rw [← nI_0, nI_eq ha (by omega)] at z; exact z
  · rw [← nI_0, nI_eq ha (by omega)] at z; exact z
theorem x_if_neN {a : Nat} {off : Int} (tgt : Nat) (hd : decode M.2.1 pc = .ok (.ifCond .ne off, 3)) (ht : (pc : Int) + off = (tgt : Int)) (ha : a < 2 ^ 31) (kt : a ≠ 0 → X h M tgt loc st S Q) (kf : a = 0 → X h M (pc + 3) loc st S Q) : X h M pc loc (.int (nI a) :: st) S Q := by
  refine x_if_ne tgt hd ht (fun z => kt ?_) (fun z => kf ?_)
  · rw [← nI_0, nI_eq ha (by omega)] at z; exact z
  · rw [← nI_0, nI_eq ha (by omega)] at z; exact z
theorem cl_nI {k n : Nat} (hk : k < n) (hn : n < 2 ^ 31) : (nI k).toNatClampNeg = k := nI_clamp (Nat.lt_trans hk hn)
theorem x_ialdN {ix n k : Nat} {ids : List Nat} {v : Int32} (hd : decode M.2.1 pc = .ok (.iaload, 1)) (hs : am_shp h ix = some (.inl (n, .int, ids))) (hn : Nat.blt n 2147483648 = true) (hk : k < n) (hv : S.2.1 ix k = v) (kk : X h M (pc + 1) loc (.int v :: st) S Q) : X h M pc loc (.int (nI k) :: .ref ix :: st) S Q :=
  x_iald hd hs (vp_in_nI hk (Nat.blt_eq.mp hn)) (by rw [cl_nI hk (Nat.blt_eq.mp hn), hv]; exact kk)
theorem x_zaldN {ix n k : Nat} {ids : List Nat} {v : Int32} (hd : decode M.2.1 pc = .ok (.baload, 1)) (hs : am_shp h ix = some (.inl (n, .boolean, ids))) (hn : Nat.blt n 2147483648 = true) (hk : k < n) (hv : S.2.1 ix k = v) (kk : X h M (pc + 1) loc (.int v :: st) S Q) : X h M pc loc (.int (nI k) :: .ref ix :: st) S Q :=
  x_zald hd hs (vp_in_nI hk (Nat.blt_eq.mp hn)) (by rw [cl_nI hk (Nat.blt_eq.mp hn), hv]; exact kk)
theorem x_baldN {ix n k : Nat} {ids : List Nat} {v : Int32} (hd : decode M.2.1 pc = .ok (.baload, 1)) (hs : am_shp h ix = some (.inl (n, .byte, ids))) (hn : Nat.blt n 2147483648 = true) (hk : k < n) (hv : S.2.1 ix k = v) (kk : X h M (pc + 1) loc (.int v :: st) S Q) : X h M pc loc (.int (nI k) :: .ref ix :: st) S Q :=
  x_bald hd hs (vp_in_nI hk (Nat.blt_eq.mp hn)) (by rw [cl_nI hk (Nat.blt_eq.mp hn), hv]; exact kk)
theorem x_laldN {ix n k : Nat} {ids : List Nat} {v : Int64} (hd : decode M.2.1 pc = .ok (.laload, 1)) (hs : am_shp h ix = some (.inl (n, .long, ids))) (hn : Nat.blt n 2147483648 = true) (hk : k < n) (hv : S.2.2.2 ix k = v) (kk : X h M (pc + 1) loc (.long v :: st) S Q) : X h M pc loc (.int (nI k) :: .ref ix :: st) S Q :=
  x_lald hd hs (vp_in_nI hk (Nat.blt_eq.mp hn)) (by rw [cl_nI hk (Nat.blt_eq.mp hn), hv]; exact kk)
theorem x_iastN {ix n k : Nat} {ids : List Nat} {x : Int32} (hd : decode M.2.1 pc = .ok (.iastore, 1)) (hs : am_shp h ix = some (.inl (n, .int, ids))) (hn : Nat.blt n 2147483648 = true) (hk : k < n) (kk : X h M (pc + 1) loc st (sA S ix (upd (S.2.1 ix) k x)) Q) : X h M pc loc (.int x :: .int (nI k) :: .ref ix :: st) S Q :=
  x_iast hd hs (vp_in_nI hk (Nat.blt_eq.mp hn)) (by rw [cl_nI hk (Nat.blt_eq.mp hn)]; exact kk)
theorem x_zastN {ix n k : Nat} {ids : List Nat} {x y : Int32} (hd : decode M.2.1 pc = .ok (.bastore, 1)) (hs : am_shp h ix = some (.inl (n, .boolean, ids))) (hn : Nat.blt n 2147483648 = true) (hk : k < n) (hy : vp_nar .boolean x = y) (kk : X h M (pc + 1) loc st (sA S ix (upd (S.2.1 ix) k y)) Q) : X h M pc loc (.int x :: .int (nI k) :: .ref ix :: st) S Q :=
  x_zast hd hs (vp_in_nI hk (Nat.blt_eq.mp hn)) (by rw [cl_nI hk (Nat.blt_eq.mp hn), hy]; exact kk)
theorem x_bastN {ix n k : Nat} {ids : List Nat} {x y : Int32} (hd : decode M.2.1 pc = .ok (.bastore, 1)) (hs : am_shp h ix = some (.inl (n, .byte, ids))) (hn : Nat.blt n 2147483648 = true) (hk : k < n) (hy : vp_nar .byte x = y) (kk : X h M (pc + 1) loc st (sA S ix (upd (S.2.1 ix) k y)) Q) : X h M pc loc (.int x :: .int (nI k) :: .ref ix :: st) S Q :=
  x_bast hd hs (vp_in_nI hk (Nat.blt_eq.mp hn)) (by rw [cl_nI hk (Nat.blt_eq.mp hn), hy]; exact kk)
theorem x_lastN {ix n k : Nat} {ids : List Nat} {x : Int64} (hd : decode M.2.1 pc = .ok (.lastore, 1)) (hs : am_shp h ix = some (.inl (n, .long, ids))) (hn : Nat.blt n 2147483648 = true) (hk : k < n) (kk : X h M (pc + 1) loc st (sL S ix (vp_updL (S.2.2.2 ix) k x)) Q) : X h M pc loc (.long x :: .int (nI k) :: .ref ix :: st) S Q :=
  x_last hd hs (vp_in_nI hk (Nat.blt_eq.mp hn)) (by rw [cl_nI hk (Nat.blt_eq.mp hn)]; exact kk)
theorem x_getV {o idx ci k : Nat} {v u : Value} (hd : decode M.2.1 pc = .ok (.getfield idx, 3)) (hl : am_FL M.1.cls idx ci k) (hv : am_gf h S o ci k = some u) (hu : u = v) (hn : v ≠ .null) (kk : X h M (pc + 3) loc (v :: st) S Q) : X h M pc loc (.ref o :: st) S Q := x_get hd hl hv (by rw [hu]; exact hn) (by rw [hu]; exact kk)
/-- a value on the stack under another name -/
theorem x_top {a b : Int32} (e : a = b) (k : X h M pc loc (.int b :: st) S Q) : X h M pc loc (.int a :: st) S Q := by rw [e]; exact k
theorem x_topl {a b : Int64} (e : a = b) (k : X h M pc loc (.long b :: st) S Q) : X h M pc loc (.long a :: st) S Q := by rw [e]; exact k
theorem x_st {S' : amS} (e : S = S') (k : X h M pc loc st S' Q) : X h M pc loc st S Q := by rw [e]; exact k
theorem x_loc {loc' : List Value} (e : loc = loc') (k : X h M pc loc' st S Q) : X h M pc loc st S Q := by rw [e]; exact k
theorem x_iretI {x : Int32} (hd : decode M.2.1 pc = .ok (.ireturn, 1)) (ht : M.2.2.2.1 = some .int) (q : Q (some (.int x)) S) : X h M pc loc [.int x] S Q := x_iret hd ht rfl q
theorem x_zret1 (hd : decode M.2.1 pc = .ok (.ireturn, 1)) (ht : M.2.2.2.1 = some .boolean) (q : Q (some (.int (nI 1))) S) : X h M pc loc [.int (nI 1)] S Q := x_iret hd ht (by decide) q
theorem x_zret0 (hd : decode M.2.1 pc = .ok (.ireturn, 1)) (ht : M.2.2.2.1 = some .boolean) (q : Q (some (.int (nI 0))) S) : X h M pc loc [.int (nI 0)] S Q := x_iret hd ht (by decide) q
end XN
theorem ic_0 : Int32.ofInt 0 = nI 0 := by decide
theorem ic_1 : Int32.ofInt 1 = nI 1 := by decide
theorem ic_2 : Int32.ofInt 2 = nI 2 := by decide
theorem ic_3 : Int32.ofInt 3 = nI 3 := by decide
theorem ic_4 : Int32.ofInt 4 = nI 4 := by decide
theorem ic_5 : Int32.ofInt 5 = nI 5 := by decide
theorem ic_m1 : Int32.ofInt (-1) = i32 (-1) := rfl
theorem bi_m10 : (Int8.ofInt (-10)).toInt32 = i32 (-10) := by decide
theorem bi_m9 : (Int8.ofInt (-9)).toInt32 = i32 (-9) := by decide
theorem bi_m5 : (Int8.ofInt (-5)).toInt32 = i32 (-5) := by decide
theorem bi_m4 : (Int8.ofInt (-4)).toInt32 = i32 (-4) := by decide
theorem bi_m3 : (Int8.ofInt (-3)).toInt32 = i32 (-3) := by decide
theorem bi_m2 : (Int8.ofInt (-2)).toInt32 = i32 (-2) := by decide
theorem bi_6 : (Int8.ofInt (6)).toInt32 = nI 6 := by decide
theorem bi_7 : (Int8.ofInt (7)).toInt32 = nI 7 := by decide
theorem bi_8 : (Int8.ofInt (8)).toInt32 = nI 8 := by decide
theorem bi_9 : (Int8.ofInt (9)).toInt32 = nI 9 := by decide
theorem bi_10 : (Int8.ofInt (10)).toInt32 = nI 10 := by decide
theorem bi_16 : (Int8.ofInt (16)).toInt32 = nI 16 := by decide
theorem bi_20 : (Int8.ofInt (20)).toInt32 = nI 20 := by decide
theorem bi_31 : (Int8.ofInt (31)).toInt32 = nI 31 := by decide
theorem bi_32 : (Int8.ofInt (32)).toInt32 = nI 32 := by decide
theorem bi_34 : (Int8.ofInt (34)).toInt32 = nI 34 := by decide
theorem bi_36 : (Int8.ofInt (36)).toInt32 = nI 36 := by decide
theorem bi_37 : (Int8.ofInt (37)).toInt32 = nI 37 := by decide
theorem bi_38 : (Int8.ofInt (38)).toInt32 = nI 38 := by decide
theorem bi_45 : (Int8.ofInt (45)).toInt32 = nI 45 := by decide
theorem bi_48 : (Int8.ofInt (48)).toInt32 = nI 48 := by decide
theorem bi_49 : (Int8.ofInt (49)).toInt32 = nI 49 := by decide
theorem bi_50 : (Int8.ofInt (50)).toInt32 = nI 50 := by decide
theorem bi_52 : (Int8.ofInt (52)).toInt32 = nI 52 := by decide
theorem bi_57 : (Int8.ofInt (57)).toInt32 = nI 57 := by decide
theorem bi_59 : (Int8.ofInt (59)).toInt32 = nI 59 := by decide
theorem bi_63 : (Int8.ofInt (63)).toInt32 = nI 63 := by decide
theorem bi_100 : (Int8.ofInt (100)).toInt32 = nI 100 := by decide
theorem bi_109 : (Int8.ofInt (109)).toInt32 = nI 109 := by decide
theorem bi_112 : (Int8.ofInt (112)).toInt32 = nI 112 := by decide
theorem bi_115 : (Int8.ofInt (115)).toInt32 = nI 115 := by decide
theorem bi_116 : (Int8.ofInt (116)).toInt32 = nI 116 := by decide
theorem bi_120 : (Int8.ofInt (120)).toInt32 = nI 120 := by decide
theorem bi_126 : (Int8.ofInt (126)).toInt32 = nI 126 := by decide
theorem bi_127 : (Int8.ofInt (127)).toInt32 = nI 127 := by decide
theorem si_m1000 : (Int16.ofInt (-1000)).toInt32 = i32 (-1000) := by decide
theorem si_136 : (Int16.ofInt (136)).toInt32 = nI 136 := by decide
theorem si_186 : (Int16.ofInt (186)).toInt32 = nI 186 := by decide
theorem si_190 : (Int16.ofInt (190)).toInt32 = nI 190 := by decide
theorem si_200 : (Int16.ofInt (200)).toInt32 = nI 200 := by decide
theorem si_228 : (Int16.ofInt (228)).toInt32 = nI 228 := by decide
theorem si_400 : (Int16.ofInt (400)).toInt32 = nI 400 := by decide
theorem si_512 : (Int16.ofInt (512)).toInt32 = nI 512 := by decide
theorem si_1000 : (Int16.ofInt (1000)).toInt32 = nI 1000 := by decide
theorem si_10000 : (Int16.ofInt (10000)).toInt32 = nI 10000 := by decide
theorem lc_0 : Int64.ofNat ((0 : Fin 2) : Nat) = i64 0 := by decide
theorem lc_1 : Int64.ofNat ((1 : Fin 2) : Nat) = i64 1 := by decide
