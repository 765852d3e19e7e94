/-! truth values, sets of bits, fields -/
def zB (b : Bool) : Int32 := nI b.toNat
theorem zB_t {b : Bool} (h : b = true) : zB b = nI 1 := by rw [h]; rfl
theorem zB_f {b : Bool} (h : b = false) : zB b = nI 0 := by rw [h]; rfl
section XB
variable {h : List amSh} {M : amM} {pc : Nat} {loc st : List Value} {S : amS} {Q : Option Value → amS → Prop}
theorem x_if_eqB {b : Bool} {off : Int} (tgt : Nat) (hd : decode M.2.1 pc = .ok (.ifCond .eq off, 3)) (ht : (pc : Int) + off = (tgt : Int)) (kt : b = false → X h M tgt loc st S Q) (kf : b = true → X h M (pc + 3) loc st S Q) : X h M pc loc (.int (zB b) :: st) S Q := by
  refine x_if_eq tgt hd ht (fun z => kt ?_) (fun z => kf ?_)
  · cases b
    · rfl
    · exact absurd z (by decide)
  · cases b
    · exact absurd rfl z
    · rfl
theorem x_if_neB {b : Bool} {off : Int} (tgt : Nat) (hd : decode M.2.1 pc = .ok (.ifCond .ne off, 3)) (ht : (pc : Int) + off = (tgt : Int)) (kt : b = true → X h M tgt loc st S Q) (kf : b = false → X h M (pc + 3) loc st S Q) : X h M pc loc (.int (zB b) :: st) S Q := by
  refine x_if_ne tgt hd ht (fun z => kt ?_) (fun z => kf ?_)
  · cases b
    · exact absurd rfl z
    · rfl
  · cases b
    · rfl
    · exact absurd z (by decide)
theorem x_zretB {b : Bool} (hd : decode M.2.1 pc = .ok (.ireturn, 1)) (ht : M.2.2.2.1 = some .boolean) (q : Q (some (.int (zB b))) S) : X h M pc loc [.int (zB b)] S Q := x_iret hd ht (by cases b <;> decide) q
theorem x_ishl1 {b : Nat} (hd : decode M.2.1 pc = .ok (.ishl, 1)) (hb : b < 31) (k : X h M (pc + 1) loc (.int (nI (2 ^ b)) :: st) S Q) : X h M pc loc (.int (nI b) :: .int (nI 1) :: st) S Q := by
  refine x_ishl hd ?_
  rw [nI_shl (by omega) (by rw [Nat.one_mul]; exact Nat.pow_lt_pow_right (by omega) (by omega)), Nat.one_mul]
  exact k
theorem x_getI {o idx ci k : Nat} {x : Int32} (hd : decode M.2.1 pc = .ok (.getfield idx, 3)) (hl : am_FL M.1.cls idx ci k) (hv : am_gf h S o ci k = some (.int x)) (kk : X h M (pc + 3) loc (.int x :: st) S Q) : X h M pc loc (.ref o :: st) S Q := x_get hd hl hv (fun z => by cases z) kk
theorem x_getIV {o idx ci k : Nat} {x y : Int32} (hd : decode M.2.1 pc = .ok (.getfield idx, 3)) (hl : am_FL M.1.cls idx ci k) (hv : am_gf h S o ci k = some (.int x)) (he : x = y) (kk : X h M (pc + 3) loc (.int y :: st) S Q) : X h M pc loc (.ref o :: st) S Q := x_get hd hl hv (fun z => by cases z) (by rw [he]; exact kk)
theorem x_getL {o idx ci k : Nat} {x : Int64} (hd : decode M.2.1 pc = .ok (.getfield idx, 3)) (hl : am_FL M.1.cls idx ci k) (hv : am_gf h S o ci k = some (.long x)) (kk : X h M (pc + 3) loc (.long x :: st) S Q) : X h M pc loc (.ref o :: st) S Q := x_get hd hl hv (fun z => by cases z) kk
theorem x_getR {o idx ci k r : Nat} (hd : decode M.2.1 pc = .ok (.getfield idx, 3)) (hl : am_FL M.1.cls idx ci k) (hv : am_gf h S o ci k = some (.ref r)) (kk : X h M (pc + 3) loc (.ref r :: st) S Q) : X h M pc loc (.ref o :: st) S Q := x_get hd hl hv (fun z => by cases z) kk
end XB
/-- how many of the first nine bits are set -/
def pcn : Nat → Nat → Nat
  | 0, _ => 0
  | n + 1, s => s % 2 + pcn n (s / 2)
def pc9 (s : Nat) : Nat := pcn 9 s
theorem tb_iff (s k : Nat) : (s / 2 ^ k) &&& 1 = 1 ↔ s.testBit k = true := by
  rw [Nat.testBit, Nat.shiftRight_eq_div_pow, Nat.and_comm]
  have : 1 &&& (s / 2 ^ k) = 0 ∨ 1 &&& (s / 2 ^ k) = 1 := by
    have := @Nat.and_le_left 1 (s / 2 ^ k)
    omega
  rcases this with h | h <;> simp [h]
theorem pow9 {b : Nat} (h : b ≤ 9) : 2 ^ b ≤ 512 := by
  have := Nat.pow_le_pow_right (n := 2) (by omega) h
  omega
theorem pow9' {b : Nat} (h : b < 9) : 2 ^ b ≤ 256 := by
  have := Nat.pow_le_pow_right (n := 2) (by omega) (show b ≤ 8 by omega)
  omega
theorem pc9_low : ∀ s, s < 512 → s ≠ 0 → pc9 (s &&& (s - 1)) + 1 = pc9 s ∧ (s &&& (s - 1)) < s := by decide +kernel
theorem pc9_le : ∀ s, s < 512 → pc9 s ≤ 9 := by decide +kernel
