/-! THE FACTORS ARE SMALL: minors -/
def D2 (p q : Row) (a b : Nat) : Int := p a * q b - p b * q a
def D3 (p q r : Row) (a b c : Nat) : Int := p a * D2 q r b c - q a * D2 p r b c + r a * D2 p q b c
def D4 (p q r s : Row) (a b c e : Nat) : Int := p a * D3 q r s b c e - q a * D3 p r s b c e + r a * D3 p q s b c e - s a * D3 p q r b c e
theorem D2_lin (p q r : Row) (x y : Int) (a b : Nat) : D2 p (fun j => x * q j + y * r j) a b = x * D2 p q a b + y * D2 p r a b := by unfold D2; grind
theorem D3_lin (p q r s : Row) (x y : Int) (a b c : Nat) : D3 p q (fun j => x * r j + y * s j) a b c = x * D3 p q r a b c + y * D3 p q s a b c := by unfold D3 D2; grind
theorem D4_lin (p q r s t : Row) (x y : Int) (a b c e : Nat) : D4 p q r (fun j => x * s j + y * t j) a b c e = x * D4 p q r s a b c e + y * D4 p q r t a b c e := by unfold D4 D3 D2; grind
theorem D2_0 (p : Row) (a b : Nat) : D2 p p a b = 0 := by unfold D2; grind
theorem D3_0 (p q : Row) (a b c : Nat) : D3 p q p a b c = 0 := by unfold D3 D2; grind
theorem D3_1 (p q : Row) (a b c : Nat) : D3 p q q a b c = 0 := by unfold D3 D2; grind
theorem D4_0 (p q r : Row) (a b c e : Nat) : D4 p q r p a b c e = 0 := by unfold D4 D3 D2; grind
theorem D4_1 (p q r : Row) (a b c e : Nat) : D4 p q r q a b c e = 0 := by unfold D4 D3 D2; grind
theorem D4_2 (p q r : Row) (a b c e : Nat) : D4 p q r r a b c e = 0 := by unfold D4 D3 D2; grind
theorem D2_bd {p q : Row} (hp : ∀ j, -3 ≤ p j ∧ p j ≤ 3) (hq : ∀ j, -3 ≤ q j ∧ q j ≤ 3) (a b : Nat) : -18 ≤ D2 p q a b ∧ D2 p q a b ≤ 18 := by
  have h1 := mul_bd (hp a) (hq b)
  have h2 := mul_bd (hp b) (hq a)
  unfold D2
  omega
theorem D3_bd {p q r : Row} (hp : ∀ j, -3 ≤ p j ∧ p j ≤ 3) (hq : ∀ j, -3 ≤ q j ∧ q j ≤ 3) (hr : ∀ j, -3 ≤ r j ∧ r j ≤ 3) (a b c : Nat) : -162 ≤ D3 p q r a b c ∧ D3 p q r a b c ≤ 162 := by
  have h1 := mul_bd (hp a) (D2_bd hq hr b c)
  have h2 := mul_bd (hq a) (D2_bd hp hr b c)
  have h3 := mul_bd (hr a) (D2_bd hp hq b c)
  unfold D3
  omega
theorem D4_bd {p q r s : Row} (hp : ∀ j, -3 ≤ p j ∧ p j ≤ 3) (hq : ∀ j, -3 ≤ q j ∧ q j ≤ 3) (hr : ∀ j, -3 ≤ r j ∧ r j ≤ 3) (hs : ∀ j, -3 ≤ s j ∧ s j ≤ 3) (a b c e : Nat) : -1944 ≤ D4 p q r s a b c e ∧ D4 p q r s a b c e ≤ 1944 := by
  have h1 := mul_bd (hp a) (D3_bd hq hr hs b c e)
  have h2 := mul_bd (hq a) (D3_bd hp hr hs b c e)
  have h3 := mul_bd (hr a) (D3_bd hp hq hs b c e)
  have h4 := mul_bd (hs a) (D3_bd hp hq hr b c e)
  unfold D4
  omega
theorem sm3 (f : Nat → Int) : sm f 3 = f 0 + f 1 + f 2 := by simp [sm]
theorem sm4 (f : Nat → Int) : sm f 4 = f 0 + f 1 + f 2 + f 3 := by simp [sm]
/-- sums over a circuit's rows that are 0: all factors are 0, or none -/
def CK (m : Nat) (W : Nat → Row) : Prop := ∀ z : Nat → Int, (∀ j, j < 4 → sm (fun k => z k * W k j) m = 0) → (∀ k, k < m → z k = 0) ∨ ∀ k, k < m → z k ≠ 0
theorem Circ.dp {v : Nat → Row} {c : Nat} (h : Circ v 9 c) {z : Nat → Int} (hz : ∀ j, j < 4 → sm (fun k => z k * rwf (rowsB v c 9) k j) (pcb c 9) = 0) : Dp (cf 4) 9 c v (fun i => if c.testBit i then z (pcb c i) else 0) := by
  refine ⟨fun i hi => by show (if c.testBit i = true then z (pcb c i) else 0) = 0; rw [hi]; rfl, fun j hj => ?_⟩
  rw [← lcb_pcb, lcb_rwf, rowsB_pcb]
  exact hz j (cf_mem 4 (by omega) j hj)
theorem Circ.ck {v : Nat → Row} {c : Nat} (h : Circ v 9 c) : CK (pcb c 9) (rwf (rowsB v c 9)) := by
  intro z hz
  have hd := h.dp hz
  have at_ : ∀ k, k < pcb c 9 → (if c.testBit (colB c 9 k) then z (pcb c (colB c 9 k)) else 0) = z k := by
    intro k hk
    obtain ⟨h1, h2, h3⟩ := colB_ok hk
    rw [h2, h3]
    rfl
  by_cases q : ∃ k, k < pcb c 9 ∧ z k ≠ 0
  · right
    obtain ⟨k, hk, hk2⟩ := q
    intro l hl
    have h1 := h.all hd (colB_ok hk).1 (by rw [at_ k hk]; exact hk2) (colB c 9 l) (colB_ok hl).1 (colB_ok hl).2.1
    rw [at_ l hl] at h1
    exact h1
  · left
    intro k hk
    exact Classical.byContradiction (fun z2 => q ⟨k, hk, z2⟩)
/-- from x a bounded one: y is a multiple of x by a number that isn't 0 -/
theorem ck_scale {m : Nat} {W : Nat → Row} {x y : Nat → Int} (hx : ∀ j, j < 4 → sm (fun k => x k * W k j) m = 0) {l : Nat} (hl : l < m) (hxl : x l ≠ 0) {Δ : Int} (hxy : ∀ k, k < m → x l * y k = Δ * x k) : ∀ j, j < 4 → sm (fun k => y k * W k j) m = 0 := by
  intro j hj
  have h1 : x l * sm (fun k => y k * W k j) m = Δ * sm (fun k => x k * W k j) m := by
    rw [← sm_smul, ← sm_smul]
    exact sm_ext (fun k hk => by
      have := hxy k hk
      grind)
  rw [hx j hj, Int.mul_zero] at h1
  exact (Int.mul_eq_zero.mp h1).resolve_left hxl
def zz (l : List Int) : Nat → Int := fun k => l.getD k 0
theorem ck_1 {m : Nat} {W : Nat → Row} (hm : 2 ≤ m) (h : CK m W) : ∃ a, a < 4 ∧ W 0 a ≠ 0 := by
  refine Classical.byContradiction (fun q => ?_)
  have h0 : ∀ j, j < 4 → W 0 j = 0 := fun j hj => Classical.byContradiction (fun z => q ⟨j, hj, z⟩)
  have := h (fun k => if k = 0 then 1 else 0) (fun j hj => by
    rw [sm_pick (fun k => W k j) 0 m (by omega)]
    exact h0 j hj)
  rcases this with z | z
  · exact absurd (z 0 (by omega)) (by decide)
  · exact absurd (z 1 (by omega)) (by decide)
theorem sm_few (f : Nat → Int) (n : Nat) : ∀ m, n ≤ m → (∀ k, n ≤ k → f k = 0) → sm f m = sm f n := by
  intro m
  induction m with
  | zero => intro h _; rw [Nat.le_zero.mp h]
  | succ m ih =>
    intro h h0
    by_cases e : n = m + 1
    · rw [e]
    · rw [sm, ih (by omega) h0, h0 m (by omega)]
      omega
theorem ck_2 {m : Nat} {W : Nat → Row} (hm : 3 ≤ m) (h : CK m W) : ∃ a b, D2 (W 0) (W 1) a b ≠ 0 := by
  obtain ⟨a, ha, ha0⟩ := ck_1 (by omega) h
  refine Classical.byContradiction (fun q => ?_)
  have h0 : ∀ b, D2 (W 0) (W 1) a b = 0 := fun b => Classical.byContradiction (fun z => q ⟨a, b, z⟩)
  have := h (zz [-W 1 a, W 0 a]) (fun j hj => by
    rw [sm_few _ 2 m (by omega) (fun k hk => by
      have : zz [-W 1 a, W 0 a] k = 0 := by unfold zz; rw [List.getD_eq_getElem?_getD, List.getElem?_eq_none (by simpa using hk)]; rfl
      rw [this, Int.zero_mul])]
    have := h0 j
    unfold D2 at this
    simp [sm, zz]
    grind)
  rcases this with z | z
  · exact ha0 (z 1 (by omega))
  · exact z 2 (by omega) rfl
theorem ck_3 {m : Nat} {W : Nat → Row} (hm : 4 ≤ m) (h : CK m W) : ∃ a b c, D3 (W 0) (W 1) (W 2) a b c ≠ 0 := by
  obtain ⟨a, b, ha0⟩ := ck_2 (by omega) h
  refine Classical.byContradiction (fun q => ?_)
  have h0 : ∀ c, D3 (W 0) (W 1) (W 2) c a b = 0 := fun c => Classical.byContradiction (fun z => q ⟨c, a, b, z⟩)
  have := h (zz [D2 (W 1) (W 2) a b, -D2 (W 0) (W 2) a b, D2 (W 0) (W 1) a b]) (fun j hj => by
    rw [sm_few _ 3 m (by omega) (fun k hk => by
      have : zz [D2 (W 1) (W 2) a b, -D2 (W 0) (W 2) a b, D2 (W 0) (W 1) a b] k = 0 := by unfold zz; rw [List.getD_eq_getElem?_getD, List.getElem?_eq_none (by simpa using hk)]; rfl
      rw [this, Int.zero_mul])]
    have := h0 j
    unfold D3 at this
    simp [sm, zz]
    grind)
  rcases this with z | z
  · exact ha0 (z 2 (by omega))
  · exact z 3 (by omega) rfl
theorem ck_4 {m : Nat} {W : Nat → Row} (hm : 5 ≤ m) (h : CK m W) : ∃ a b c e, D4 (W 0) (W 1) (W 2) (W 3) a b c e ≠ 0 := by
  obtain ⟨a, b, c, ha0⟩ := ck_3 (by omega) h
  refine Classical.byContradiction (fun q => ?_)
  have h0 : ∀ e, D4 (W 0) (W 1) (W 2) (W 3) e a b c = 0 := fun e => Classical.byContradiction (fun z => q ⟨e, a, b, c, z⟩)
  have := h (zz [D3 (W 1) (W 2) (W 3) a b c, -D3 (W 0) (W 2) (W 3) a b c, D3 (W 0) (W 1) (W 3) a b c, -D3 (W 0) (W 1) (W 2) a b c]) (fun j hj => by
    rw [sm_few _ 4 m (by omega) (fun k hk => by
      have : zz [D3 (W 1) (W 2) (W 3) a b c, -D3 (W 0) (W 2) (W 3) a b c, D3 (W 0) (W 1) (W 3) a b c, -D3 (W 0) (W 1) (W 2) a b c] k = 0 := by unfold zz; rw [List.getD_eq_getElem?_getD, List.getElem?_eq_none (by simpa using hk)]; rfl
      rw [this, Int.zero_mul])]
    have := h0 j
    unfold D4 at this
    simp [sm, zz]
    grind)
  rcases this with z | z
  · have := z 3 (by omega)
    simp [zz] at this
    exact ha0 this
  · exact z 4 (by omega) rfl
theorem zero_row {f : Row} (h : ∀ j, j < 4 → f j = 0) (h4 : ∀ j, 4 ≤ j → f j = 0) : f = fun _ => 0 := by
  funext j
  by_cases q : j < 4
  · exact h j q
  · exact h4 j (by omega)
theorem D2_z (p : Row) (a b : Nat) : D2 p (fun _ => 0) a b = 0 := by unfold D2; grind
theorem D3_z (p q : Row) (a b c : Nat) : D3 p q (fun _ => 0) a b c = 0 := by unfold D3 D2; grind
theorem D4_z (p q r : Row) (a b c e : Nat) : D4 p q r (fun _ => 0) a b c e = 0 := by unfold D4 D3 D2; grind
/-- a kernel vector of small numbers -/
theorem ck_small {m : Nat} {W : Nat → Row} (hm : 3 ≤ m ∧ m ≤ 5) (h : CK m W) (hb : ∀ k j, -3 ≤ W k j ∧ W k j ≤ 3) (hw : ∀ k j, 4 ≤ j → W k j = 0) {x : Nat → Int} (hx : ∀ j, j < 4 → sm (fun k => x k * W k j) m = 0) (hx0 : ∀ k, k < m → x k ≠ 0) : ∃ y : Nat → Int, (∀ j, j < 4 → sm (fun k => y k * W k j) m = 0) ∧ (∃ k, k < m ∧ y k ≠ 0) ∧ ∀ k, -1944 ≤ y k ∧ y k ≤ 1944 := by
  rcases (show m = 3 ∨ m = 4 ∨ m = 5 by omega) with rfl | rfl | rfl
  · obtain ⟨a, b, hΔ⟩ := ck_2 (by omega) h
    have e : (fun j => x 0 * W 0 j + 1 * (fun j => x 1 * W 1 j + x 2 * W 2 j) j) = fun _ => 0 := zero_row (fun j hj => by
      have := hx j hj
      rw [sm3] at this
      show x 0 * W 0 j + 1 * (x 1 * W 1 j + x 2 * W 2 j) = 0
      omega) (fun j hj => by
      show x 0 * W 0 j + 1 * (x 1 * W 1 j + x 2 * W 2 j) = 0
      rw [hw 0 j hj, hw 1 j hj, hw 2 j hj]
      omega)
    have r0 := congrArg (fun f => D2 (W 1) f a b) e
    have r1 := congrArg (fun f => D2 (W 0) f a b) e
    simp only [D2_lin, D2_z, D2_0] at r0 r1
    have s0 : D2 (W 1) (W 0) a b = - D2 (W 0) (W 1) a b := by unfold D2; grind
    rw [s0] at r0
    refine ⟨zz [D2 (W 1) (W 2) a b, -D2 (W 0) (W 2) a b, D2 (W 0) (W 1) a b], ck_scale hx (l := 2) (by omega) (hx0 2 (by omega)) (Δ := D2 (W 0) (W 1) a b) (fun k hk => ?_), ⟨2, by omega, hΔ⟩, fun k => ?_⟩
    · rcases (show k = 0 ∨ k = 1 ∨ k = 2 by omega) with rfl | rfl | rfl <;> simp [zz] <;> grind
    · have b1 := D2_bd (hb 1) (hb 2) a b
      have b2 := D2_bd (hb 0) (hb 2) a b
      have b3 := D2_bd (hb 0) (hb 1) a b
      match k with
      | 0 => simp [zz]; omega
      | 1 => simp [zz]; omega
      | 2 => simp [zz]; omega
      | k + 3 => simp [zz]
  · obtain ⟨a, b, c, hΔ⟩ := ck_3 (by omega) h
    have e : (fun j => x 0 * W 0 j + 1 * (fun j => x 1 * W 1 j + 1 * (fun j => x 2 * W 2 j + x 3 * W 3 j) j) j) = fun _ => 0 := zero_row (fun j hj => by
      have := hx j hj
      rw [sm4] at this
      show x 0 * W 0 j + 1 * (x 1 * W 1 j + 1 * (x 2 * W 2 j + x 3 * W 3 j)) = 0
      omega) (fun j hj => by
      show x 0 * W 0 j + 1 * (x 1 * W 1 j + 1 * (x 2 * W 2 j + x 3 * W 3 j)) = 0
      rw [hw 0 j hj, hw 1 j hj, hw 2 j hj, hw 3 j hj]
      omega)
    have r0 := congrArg (fun f => D3 (W 1) (W 2) f a b c) e
    have r1 := congrArg (fun f => D3 (W 0) (W 2) f a b c) e
    have r2 := congrArg (fun f => D3 (W 0) (W 1) f a b c) e
    simp only [D3_lin, D3_z, D3_0, D3_1] at r0 r1 r2
    have s0 : D3 (W 1) (W 2) (W 0) a b c = D3 (W 0) (W 1) (W 2) a b c := by unfold D3 D2; grind
    have s1 : D3 (W 0) (W 2) (W 1) a b c = - D3 (W 0) (W 1) (W 2) a b c := by unfold D3 D2; grind
    rw [s0] at r0
    rw [s1] at r1
    refine ⟨zz [-D3 (W 1) (W 2) (W 3) a b c, D3 (W 0) (W 2) (W 3) a b c, -D3 (W 0) (W 1) (W 3) a b c, D3 (W 0) (W 1) (W 2) a b c], ck_scale hx (l := 3) (by omega) (hx0 3 (by omega)) (Δ := D3 (W 0) (W 1) (W 2) a b c) (fun k hk => ?_), ⟨3, by omega, hΔ⟩, fun k => ?_⟩
    · rcases (show k = 0 ∨ k = 1 ∨ k = 2 ∨ k = 3 by omega) with rfl | rfl | rfl | rfl <;> simp [zz] <;> grind
    · have b1 := D3_bd (hb 1) (hb 2) (hb 3) a b c
      have b2 := D3_bd (hb 0) (hb 2) (hb 3) a b c
      have b3 := D3_bd (hb 0) (hb 1) (hb 3) a b c
      have b4 := D3_bd (hb 0) (hb 1) (hb 2) a b c
      match k with
      | 0 => simp [zz]; omega
      | 1 => simp [zz]; omega
      | 2 => simp [zz]; omega
      | 3 => simp [zz]; omega
      | k + 4 => simp [zz]
  · obtain ⟨a, b, c, g, hΔ⟩ := ck_4 (by omega) h
    have e : (fun j => x 0 * W 0 j + 1 * (fun j => x 1 * W 1 j + 1 * (fun j => x 2 * W 2 j + 1 * (fun j => x 3 * W 3 j + x 4 * W 4 j) j) j) j) = fun _ => 0 := zero_row (fun j hj => by
      have := hx j hj
      rw [sm5] at this
      show x 0 * W 0 j + 1 * (x 1 * W 1 j + 1 * (x 2 * W 2 j + 1 * (x 3 * W 3 j + x 4 * W 4 j))) = 0
      omega) (fun j hj => by
      show x 0 * W 0 j + 1 * (x 1 * W 1 j + 1 * (x 2 * W 2 j + 1 * (x 3 * W 3 j + x 4 * W 4 j))) = 0
      rw [hw 0 j hj, hw 1 j hj, hw 2 j hj, hw 3 j hj, hw 4 j hj]
      omega)
    have r0 := congrArg (fun f => D4 (W 1) (W 2) (W 3) f a b c g) e
    have r1 := congrArg (fun f => D4 (W 0) (W 2) (W 3) f a b c g) e
    have r2 := congrArg (fun f => D4 (W 0) (W 1) (W 3) f a b c g) e
    have r3 := congrArg (fun f => D4 (W 0) (W 1) (W 2) f a b c g) e
    simp only [D4_lin, D4_z, D4_0, D4_1, D4_2] at r0 r1 r2 r3
    have s0 : D4 (W 1) (W 2) (W 3) (W 0) a b c g = - D4 (W 0) (W 1) (W 2) (W 3) a b c g := by unfold D4 D3 D2; grind
    have s1 : D4 (W 0) (W 2) (W 3) (W 1) a b c g = D4 (W 0) (W 1) (W 2) (W 3) a b c g := by unfold D4 D3 D2; grind
    have s2 : D4 (W 0) (W 1) (W 3) (W 2) a b c g = - D4 (W 0) (W 1) (W 2) (W 3) a b c g := by unfold D4 D3 D2; grind
    rw [s0] at r0
    rw [s1] at r1
    rw [s2] at r2
    refine ⟨zz [D4 (W 1) (W 2) (W 3) (W 4) a b c g, -D4 (W 0) (W 2) (W 3) (W 4) a b c g, D4 (W 0) (W 1) (W 3) (W 4) a b c g, -D4 (W 0) (W 1) (W 2) (W 4) a b c g, D4 (W 0) (W 1) (W 2) (W 3) a b c g], ck_scale hx (l := 4) (by omega) (hx0 4 (by omega)) (Δ := D4 (W 0) (W 1) (W 2) (W 3) a b c g) (fun k hk => ?_), ⟨4, by omega, hΔ⟩, fun k => ?_⟩
    · rcases (show k = 0 ∨ k = 1 ∨ k = 2 ∨ k = 3 ∨ k = 4 by omega) with rfl | rfl | rfl | rfl | rfl <;> simp [zz] <;> grind
    · have b1 := D4_bd (hb 1) (hb 2) (hb 3) (hb 4) a b c g
      have b2 := D4_bd (hb 0) (hb 2) (hb 3) (hb 4) a b c g
      have b3 := D4_bd (hb 0) (hb 1) (hb 3) (hb 4) a b c g
      have b4 := D4_bd (hb 0) (hb 1) (hb 2) (hb 4) a b c g
      have b5 := D4_bd (hb 0) (hb 1) (hb 2) (hb 3) a b c g
      match k with
      | 0 => simp [zz]; omega
      | 1 => simp [zz]; omega
      | 2 => simp [zz]; omega
      | 3 => simp [zz]; omega
      | 4 => simp [zz]; omega
      | k + 5 => simp [zz]
/-- a circuit's factors by the places of its planes -/
theorem facB_small {d N : Nat} {v : Nat → Row} (hA : Arr d N v) {c : Nat} (h : Circ v 9 c) (h3 : 3 ≤ pcb c 9 ∧ pcb c 9 ≤ 5) : ∀ i, i < 9 → -1944 ≤ facB v c i ∧ facB v c i ≤ 1944 := by
  have hbb := hA.2.2.2.1
  have hf := (facB_ok h (fun i j _ => hbb i j)).1
  have hne := facB_ne h (fun i j _ => hbb i j)
  have hW : ∀ k j, -3 ≤ rwf (rowsB v c 9) k j ∧ rwf (rowsB v c 9) k j ≤ 3 := by
    intro k j
    by_cases q : k < (rowsB v c 9).length
    · obtain ⟨a, -, -, e⟩ := rowsB_mem.mp (rwf_mem q)
      rw [e]; exact hbb a j
    · have : rwf (rowsB v c 9) k = fun _ => 0 := by unfold rwf; rw [List.getD_eq_getElem?_getD, List.getElem?_eq_none (by omega)]; rfl
      rw [this]; show (-3 : Int) ≤ 0 ∧ (0 : Int) ≤ 3; omega
  have hW0 : ∀ k j, 4 ≤ j → rwf (rowsB v c 9) k j = 0 := by
    intro k j hj
    by_cases q : k < (rowsB v c 9).length
    · obtain ⟨a, -, -, e⟩ := rowsB_mem.mp (rwf_mem q)
      rw [e]; exact hA.2.2.2.2.1 a j (by have := hA.2.1; omega)
    · have : rwf (rowsB v c 9) k = fun _ => 0 := by unfold rwf; rw [List.getD_eq_getElem?_getD, List.getElem?_eq_none (by omega)]; rfl
      rw [this]
  have hx : ∀ j, j < 4 → sm (fun k => facB v c (colB c 9 k) * rwf (rowsB v c 9) k j) (pcb c 9) = 0 := by
    intro j hj
    have e1 : lcb (fun k => facB v c (colB c 9 k)) (rowsB v c 9) j = sm (fun i => facB v c i * v i j) 9 := by
      rw [lcb_pcb]
      refine sm_ext (fun i hi => ?_)
      cases e : c.testBit i with
      | false => rw [hf.1.1 i e]; rfl
      | true => rw [if_pos rfl, colB_at hi e]
    rw [lcb_rwf, rowsB_pcb] at e1
    rw [e1]
    refine hf.1.2 j ?_
    rcases (show j = 0 ∨ j = 1 ∨ j = 2 ∨ j = 3 by omega) with rfl | rfl | rfl | rfl <;> simp [cf]
  obtain ⟨y, hy1, ⟨k0, hk0, hy2⟩, hy3⟩ := ck_small h3 h.ck hW hW0 hx (fun k hk => hne _ (colB_ok hk).1 (colB_ok hk).2.1)
  have hd := h.dp hy1
  obtain ⟨l, hl1, hl2, hl3⟩ := low_ex (colB_ok hk0).1 (colB_ok hk0).2.1
  have hl0 := h.all hd (m := colB c 9 k0) (colB_ok hk0).1 (by
    obtain ⟨-, g2, g3⟩ := colB_ok hk0
    show (if c.testBit (colB c 9 k0) then y (pcb c (colB c 9 k0)) else 0) ≠ 0
    rw [g2, g3]
    exact hy2) l hl1 hl2
  obtain ⟨hd0, hdv, hfac⟩ := fac_of h hd hl1 hl2 hl3 hl0 rfl
  intro i hi
  rw [fac_uni h hf hfac i hi]
  have hbnd : -1944 ≤ (if c.testBit i then y (pcb c i) else 0) ∧ (if c.testBit i then y (pcb c i) else 0) ≤ 1944 := by
    split
    · exact hy3 _
    · omega
  have h1 := Int.mul_ediv_cancel' (hdv i hi)
  simp only [if_pos hi]
  generalize (if c.testBit i = true then y (pcb c i) else 0) = X at h1 hbnd ⊢
  generalize hdd : (if (if c.testBit l = true then y (pcb c l) else 0) < 0 then -((gcdR (fun i => if c.testBit i = true then y (pcb c i) else 0) 9 : Nat) : Int) else ((gcdR (fun i => if c.testBit i = true then y (pcb c i) else 0) 9 : Nat) : Int)) = d at hd0 hdv h1 ⊢
  have h2 : (X / d).natAbs ≤ X.natAbs := by
    by_cases hx0 : X = 0
    · rw [hx0]; simp
    · have h3 : (d * (X / d)).natAbs = X.natAbs := by rw [h1]
      rw [Int.natAbs_mul] at h3
      have h4 : 1 ≤ d.natAbs := by omega
      have := Nat.mul_le_mul_right (X / d).natAbs h4
      omega
  omega
