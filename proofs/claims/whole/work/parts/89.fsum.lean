/-! form: both ways of replacing keep the functional -/
def s32 (f : Nat → Int32) : Nat → Int32
  | 0 => nI 0
  | n + 1 => s32 f n + f n
theorem s32_hi (g : Nat → Int32) (F : Nat → Int) (p : Nat) (w : Int32) : ∀ t, t ≤ p → s32 (fun k => upd g p w k * i32 (F k)) t = s32 (fun k => g k * i32 (F k)) t := by
  intro t
  induction t with
  | zero => intro _; rfl
  | succ t ih => intro h; rw [s32, s32, ih (by omega), upd_n _ _ (by omega)]
theorem a32_1 (a b c d : Int32) : a + c * b + (d - c) * b = a + d * b := by grind
theorem a32_2 (a b c : Int32) : a + b + c = a + c + b := by grind
theorem s32_upd (g : Nat → Int32) (F : Nat → Int) (p : Nat) (w : Int32) : ∀ t, p < t → s32 (fun k => upd g p w k * i32 (F k)) t = s32 (fun k => g k * i32 (F k)) t + (w - g p) * i32 (F p) := by
  intro t
  induction t with
  | zero => intro h; omega
  | succ t ih =>
    intro h
    rw [s32, s32]
    by_cases e : t = p
    · subst e
      rw [s32_hi g F t w t (Nat.le_refl _), upd_s, a32_1]
    · rw [ih (by omega), upd_n _ _ e, a32_2]
theorem s32_zero (g : Nat → Int32) (F : Nat → Int) : ∀ t, (∀ k, k < t → F k = 0) → s32 (fun k => g k * i32 (F k)) t = nI 0 := by
  intro t
  induction t with
  | zero => intro _; rfl
  | succ t ih =>
    intro h
    rw [s32, ih (fun k hk => h k (by omega)), h t (by omega), show i32 0 = (0 : Int32) from rfl, Int32.mul_zero]
    rfl
theorem tgt_lt {t x l : Nat} (ht : t < 512) (hx : t.testBit x = true) (hl : l < x) : (t ^^^ 2 ^ x) ||| 2 ^ l < t := by
  have hx9 := tb_lt (N := 9) ht hx
  have h1 := less_add t ht x hx9 hx
  rw [xor_less hx]
  have h2 : less t x ||| 2 ^ l ≤ less t x + 2 ^ l := by
    by_cases q : (less t x).testBit l = true
    · rw [or_mem q]; exact Nat.le_add_right _ _
    · have q : (less t x).testBit l = false := by simpa using q
      have hl9 : (less t x ||| 2 ^ l) < 512 := Nat.or_lt_two_pow (n := 9) (less_lt (N := 9) ht) (Nat.pow_lt_pow_right (by omega) (by omega))
      have h3 := less_add (less t x ||| 2 ^ l) hl9 l (by omega) (by rw [tb_or]; simp)
      have h4 : less (less t x ||| 2 ^ l) l = less t x := by
        apply Nat.eq_of_testBit_eq
        intro j
        rw [less_tb (less t x ||| 2 ^ l), tb_or]
        by_cases e : l = j
        · subst e; rw [q]; simp
        · simp [e]
      rw [h4] at h3
      omega
  have h5 : 2 ^ l < 2 ^ x := Nat.pow_lt_pow_right (by omega) hl
  omega
theorem sgn_par {a b : Nat} (h : a % 2 = b % 2) : sgn a = sgn b := by unfold sgn; rw [h]
theorem pas_tb (k l i j : Nat) : (pas k l i).testBit j = (decide (l ≤ j) && (k.testBit j && decide (j < i))) := by
  unfold pas
  rw [Nat.testBit_mul_two_pow, Nat.testBit_div_two_pow, Nat.testBit_and, Nat.testBit_two_pow_sub_one]
  by_cases h : l ≤ j
  · rw [show j - l + l = j by omega]
  · simp [h]
theorem pas_pc (l : Nat) (hl : l < 9) (i : Nat) (hi : i < 9) (hli : l ≤ i) (k : Nat) (hk : k < 512) : pc9 (pas k l i) + pcb k l = pcb k i := by
  have hp : pas k l i < 2 ^ 9 := by
    unfold pas
    exact Nat.lt_of_le_of_lt (Nat.div_mul_le_self _ _) (Nat.lt_of_le_of_lt Nat.and_le_left hk)
  rw [← pcb_pc9 9 (by omega) _ hp]
  have key : ∀ n, pcb (pas k l i) n + (if n ≤ l then pcb k n else pcb k l) = if n ≤ i then pcb k n else pcb k i := by
    intro n
    induction n with
    | zero => simp [pcb]
    | succ n ih =>
      simp only [pcb, pas_tb]
      by_cases q1 : n + 1 ≤ l
      · rw [if_pos q1, if_pos (show n + 1 ≤ i by omega)]
        rw [if_pos (show n ≤ l by omega), if_pos (show n ≤ i by omega)] at ih
        rw [decide_eq_false (show ¬ l ≤ n by omega)]
        simp
        omega
      · rw [if_neg q1]
        by_cases q2 : n + 1 ≤ i
        · rw [if_pos q2, decide_eq_true (show l ≤ n by omega), decide_eq_true (show n < i by omega)]
          rw [if_pos (show n ≤ i by omega)] at ih
          by_cases q3 : n ≤ l
          · obtain rfl : n = l := by omega
            rw [if_pos q3] at ih
            simp
            omega
          · rw [if_neg q3] at ih
            simp
            omega
        · rw [if_neg q2, decide_eq_false (show ¬ n < i by omega)]
          by_cases q3 : n ≤ l
          · obtain rfl : n = l := by omega
            obtain rfl : i = n := by omega
            rw [if_pos (Nat.le_refl _)] at ih
            simp
            omega
          · rw [if_neg q3] at ih
            by_cases q4 : n ≤ i
            · obtain rfl : n = i := by omega
              rw [if_pos q4] at ih
              simp
              omega
            · rw [if_neg q4] at ih
              simp
              omega
  have := key 9
  rwa [if_neg (by omega), if_neg (by omega)] at this
theorem a32_3 (a b c d e : Int32) : a + b * c + (d + e * b - d) * (1 : Int32) = a + b * c + e * b := by grind
theorem a32_4 (a x s g f z : Int32) : a + g * z + (x + s * g - x) * f = a + g * (z + s * f) := by grind
/-- one is replaced -/
theorem rpG_sum {F : Nat → Int} {g : Nat → Int32} {k l oth : Nat} (hk : k < 512) (hkl : k.testBit l = false) (ho : ∀ i, oth.testBit i = true → l < i ∧ k.testBit i = true) : ∀ n, rpG g k l oth n k = g k ∧ s32 (fun j => rpG g k l oth n j * i32 (F j)) k = s32 (fun j => g j * i32 (F j)) k + g k * i32 (sm (fun i => if oth.testBit i = true then sgn (pc9 (pas k l i)) * F ((k ^^^ 2 ^ i) ||| 2 ^ l) else 0) n) := by
  intro n
  induction n with
  | zero => exact ⟨rfl, by rw [show sm _ 0 = (0 : Int) from rfl, show i32 0 = (0 : Int32) from rfl, Int32.mul_zero, Int32.add_zero]; rfl⟩
  | succ n ih =>
    obtain ⟨i1, i2⟩ := ih
    rw [rpG, sm_s]
    cases e : oth.testBit n
    · rw [if_neg (by decide), if_neg (by decide), Int.add_zero]
      exact ⟨i1, i2⟩
    · obtain ⟨o1, o2⟩ := ho n e
      have ht := tgt_lt hk o2 o1
      rw [if_pos rfl, if_pos rfl]
      refine ⟨by rw [upd_n _ _ (by omega)]; exact i1, ?_⟩
      rw [s32_upd _ _ _ _ _ ht, i2, i1, ← i32_add, ← i32_mul, a32_4]
theorem tu_pcb : ∀ i, i < 10 → ∀ s, s < 512 → pc9 (s &&& (2 ^ i - 1)) = pcb s i := by decide +kernel
theorem tuB_sgn (f s : Nat) : tuB f s = sgn (tuN f s 9) := rfl
theorem tuN_1 {its wh ot l i : Nat} (hot : ot < 512) (hw : ∀ m, its.testBit m = (wh.testBit m || decide (l = m))) (hl : wh.testBit l = false) (hi : wh.testBit i = true) : ∀ n, n ≤ 9 → tuN (less its i) ot n + (if i < n then pcb ot i else 0) = tuN wh ot n + (if l < n then pcb ot l else 0) := by
  have hil : i ≠ l := fun z => by rw [z, hl] at hi; exact absurd hi (by decide)
  intro n
  induction n with
  | zero => intro _; rfl
  | succ n ih =>
    intro hn
    have h := ih (by omega)
    rw [tuN, tuN, tu_pcb n (by omega) ot hot, less_tb, hw]
    by_cases e1 : i = n
    · subst e1
      rw [if_neg (Nat.lt_irrefl _)] at h
      rw [if_pos (Nat.lt_succ_self _), if_pos hi]
      have e3 : (l < i + 1) ↔ (l < i) := by omega
      simp only [e3]
      simp
      omega
    · by_cases e2 : l = n
      · subst e2
        rw [if_neg (c := l < l) (Nat.lt_irrefl _)] at h
        rw [if_pos (c := l < l + 1) (Nat.lt_succ_self _), hl]
        have e3 : (i < l + 1) ↔ (i < l) := by omega
        simp only [e3]
        simp [e1]
        omega
      · have e3 : (i < n + 1) ↔ (i < n) := by omega
        have e4 : (l < n + 1) ↔ (l < n) := by omega
        simp only [e3, e4]
        simp [e1, e2]
        omega
theorem pcb_sum {wh ot j : Nat} (h : ∀ m, j.testBit m = (wh.testBit m || ot.testBit m)) (hd : ∀ m, wh.testBit m = true → ot.testBit m = false) : ∀ n, pcb wh n + pcb ot n = pcb j n := by
  intro n
  induction n with
  | zero => rfl
  | succ n ih =>
    simp only [pcb]
    rw [h n]
    cases e : wh.testBit n
    · simp; omega
    · rw [hd n e]; simp; omega
/-- the sign of what the reference lays -/
theorem tu_sign {its wh ot j l i : Nat} (hot : ot < 512) (hw : ∀ m, its.testBit m = (wh.testBit m || decide (l = m))) (hl : wh.testBit l = false) (hi : wh.testBit i = true) (hi9 : i < 9) (hl9 : l < 9) (hmin : ∀ m, wh.testBit m = true → l < m) (h : ∀ m, j.testBit m = (wh.testBit m || ot.testBit m)) (hd : ∀ m, wh.testBit m = true → ot.testBit m = false) : tuB wh ot * (if pcb wh i % 2 = 0 then 1 else -1) * tuB (less its i) ot = sgn (pcb j i + pcb j l) := by
  show tuB wh ot * sgn (pcb wh i) * _ = _
  rw [tuB_sgn, tuB_sgn, ← sgn_mul, ← sgn_mul]
  apply sgn_par
  have h1 := tuN_1 hot hw hl hi 9 (Nat.le_refl _)
  rw [if_pos hi9, if_pos hl9] at h1
  have h2 := pcb_sum h hd i
  have h3 := pcb_sum h hd l
  have h4 : pcb wh l = 0 := by
    rw [pcb_bits (C := 0) _ (fun m hm => ?_), pcb_z]
    rw [Nat.zero_testBit]
    cases e : wh.testBit m
    · rfl
    · have := hmin m e; omega
  omega
theorem a32_5 (a x p q r f g z : Int32) : a + g * z + (x + p * q * r - x) * f = a + (g * z + p * q * r * f) := by grind
theorem a32_6 (g u q r f z : Int32) : g * z + (g * u) * q * r * f = g * (z + u * q * r * f) := by grind
theorem spG_sum {F : Nat → Int} {g0 : Nat → Int32} {y : Int32} {u : Int} {its wh ot k : Nat} (ht : ∀ i, i < 9 → wh.testBit i = true → less its i ||| ot < k) : ∀ n, n ≤ 9 → s32 (fun j => spG g0 (y * i32 u) its wh ot n j * i32 (F j)) k = s32 (fun j => g0 j * i32 (F j)) k + y * i32 (sm (fun i => if wh.testBit i = true then u * (if pcb wh i % 2 = 0 then 1 else -1) * tuB (less its i) ot * F (less its i ||| ot) else 0) n) := by
  intro n
  induction n with
  | zero => intro _; rw [show sm _ 0 = (0 : Int) from rfl, show i32 0 = (0 : Int32) from rfl, Int32.mul_zero, Int32.add_zero]; rfl
  | succ n ih =>
    intro hn
    have i2 := ih (by omega)
    rw [spG, sm_s]
    cases e : wh.testBit n
    · rw [if_neg (by decide), if_neg (by decide), Int.add_zero]
      exact i2
    · rw [if_pos rfl, if_pos rfl, s32_upd _ _ _ _ _ (ht n (by omega) e), i2, ← i32_add, ← i32_mul, ← i32_mul, ← i32_mul, a32_5, a32_6]
