/-! CHOICES OF SIDES: acyclic ones are counted by ranks (deletion and contraction) -/
def sgb (t i : Nat) : Int := if t.testBit i then 1 else -1
/-- no sum of the vectors, each on its side, with factors that aren't negative, is 0 -/
def Ac (js : List Nat) (W : Nat → Row) (n t : Nat) : Prop := ∀ l : Nat → Int, (∀ i, i < n → 0 ≤ l i) → (∀ j ∈ js, sm (fun i => l i * (sgb t i * W i j)) n = 0) → ∀ i, i < n → l i = 0
noncomputable def ind (p : Prop) : Int := @ite Int p (Classical.propDecidable p) 1 0
theorem ind_t {p : Prop} (h : p) : ind p = 1 := if_pos h
theorem ind_f {p : Prop} (h : ¬ p) : ind p = 0 := if_neg h
theorem sm_split (f : Nat → Int) (a : Nat) : ∀ b, sm f (a + b) = sm f a + sm (fun k => f (a + k)) b := by
  intro b
  induction b with
  | zero => simp [sm]
  | succ b ih =>
    rw [show a + (b + 1) = (a + b) + 1 by omega, sm, ih, sm]
    omega
theorem sm_add (f g : Nat → Int) (n : Nat) : sm (fun i => f i + g i) n = sm f n + sm g n := by
  have := sm_lin 1 1 f g n
  rw [Int.one_mul, Int.one_mul] at this
  rw [← this]
  exact sm_ext (fun i _ => by omega)
theorem sgb_add_lt {t n i : Nat} (h : i < n) : sgb (2 ^ n + t) i = sgb t i := by
  unfold sgb
  rw [Nat.testBit_two_pow_add_gt h]
theorem sgb_add_eq {t n : Nat} (h : t < 2 ^ n) : sgb (2 ^ n + t) n = 1 := by
  unfold sgb
  rw [Nat.testBit_two_pow_add_eq, Nat.testBit_lt_two_pow h]
  rfl
theorem sgb_eq {t n : Nat} (h : t < 2 ^ n) : sgb t n = -1 := by
  unfold sgb
  rw [Nat.testBit_lt_two_pow h]
  rfl
theorem sgb_sq (t i : Nat) : sgb t i * sgb t i = 1 := by
  unfold sgb
  split <;> decide
section
variable {js : List Nat} {W : Nat → Row} {n t p : Nat}
/-- e on the positive side -/
theorem Ac_plus (ht : t < 2 ^ n) : Ac js W (n + 1) (2 ^ n + t) ↔ ∀ l : Nat → Int, (∀ i, i < n + 1 → 0 ≤ l i) → (∀ j ∈ js, sm (fun i => l i * (sgb t i * W i j)) n + l n * W n j = 0) → ∀ i, i < n + 1 → l i = 0 := by
  have e : ∀ (l : Nat → Int) (j : Nat), sm (fun i => l i * (sgb (2 ^ n + t) i * W i j)) (n + 1) = sm (fun i => l i * (sgb t i * W i j)) n + l n * W n j := by
    intro l j
    rw [sm, sgb_add_eq ht, Int.one_mul]
    congr 1
    exact sm_ext (fun i hi => by rw [sgb_add_lt hi])
  unfold Ac
  constructor
  · intro h l h1 h2
    exact h l h1 (fun j hj => by rw [e]; exact h2 j hj)
  · intro h l h1 h2
    exact h l h1 (fun j hj => by rw [← e]; exact h2 j hj)
theorem Ac_minus (ht : t < 2 ^ n) : Ac js W (n + 1) t ↔ ∀ l : Nat → Int, (∀ i, i < n + 1 → 0 ≤ l i) → (∀ j ∈ js, sm (fun i => l i * (sgb t i * W i j)) n - l n * W n j = 0) → ∀ i, i < n + 1 → l i = 0 := by
  have e : ∀ (l : Nat → Int) (j : Nat), sm (fun i => l i * (sgb t i * W i j)) (n + 1) = sm (fun i => l i * (sgb t i * W i j)) n - l n * W n j := by
    intro l j
    rw [sm, sgb_eq ht]
    grind
  unfold Ac
  constructor
  · intro h l h1 h2
    exact h l h1 (fun j hj => by rw [e]; exact h2 j hj)
  · intro h l h1 h2
    exact h l h1 (fun j hj => by rw [← e]; exact h2 j hj)
theorem ext0 (l : Nat → Int) (x : Int) (n : Nat) (f : Nat → Int) : sm (fun i => (if i = n then x else l i) * f i) n = sm (fun i => l i * f i) n := sm_ext (fun i hi => by rw [if_neg (by omega)])
theorem Ac_of_plus (ht : t < 2 ^ n) (h : Ac js W (n + 1) (2 ^ n + t)) : Ac js W n t := by
  rw [Ac_plus ht] at h
  intro l h1 h2 i hi
  have := h (fun i => if i = n then 0 else l i) (fun i hi => by
    by_cases q : i = n
    · rw [if_pos q]; omega
    · rw [if_neg q]; exact h1 i (by omega)) (fun j hj => by
    rw [ext0 l 0 n (fun i => sgb t i * W i j), h2 j hj]
    simp) i (by omega)
  rw [if_neg (by omega)] at this
  exact this
theorem Ac_of_minus (ht : t < 2 ^ n) (h : Ac js W (n + 1) t) : Ac js W n t := by
  rw [Ac_minus ht] at h
  intro l h1 h2 i hi
  have := h (fun i => if i = n then 0 else l i) (fun i hi => by
    by_cases q : i = n
    · rw [if_pos q]; omega
    · rw [if_neg q]; exact h1 i (by omega)) (fun j hj => by
    rw [ext0 l 0 n (fun i => sgb t i * W i j), h2 j hj]
    simp) i (by omega)
  rw [if_neg (by omega)] at this
  exact this
theorem not_all {n : Nat} {l : Nat → Int} (h : ¬ ∀ i, i < n → l i = 0) : ∃ i, i < n ∧ l i ≠ 0 := by
  refine Classical.byContradiction (fun z => h (fun i hi => ?_))
  exact Classical.byContradiction (fun z2 => z ⟨i, hi, z2⟩)
theorem Ac_some (ht : t < 2 ^ n) (hp : p ∈ js) (he : W n p ≠ 0) (h : Ac js W n t) : Ac js W (n + 1) (2 ^ n + t) ∨ Ac js W (n + 1) t := by
  refine Classical.byContradiction (fun z => ?_)
  rw [not_or, Ac_plus ht, Ac_minus ht] at z
  obtain ⟨z1, z2⟩ := z
  have z1' : ∃ l : Nat → Int, (∀ i, i < n + 1 → 0 ≤ l i) ∧ (∀ j ∈ js, sm (fun i => l i * (sgb t i * W i j)) n + l n * W n j = 0) ∧ ¬ ∀ i, i < n + 1 → l i = 0 := by
    refine Classical.byContradiction (fun q => z1 (fun l h1 h2 => ?_))
    exact Classical.byContradiction (fun q2 => q ⟨l, h1, h2, q2⟩)
  have z2' : ∃ l : Nat → Int, (∀ i, i < n + 1 → 0 ≤ l i) ∧ (∀ j ∈ js, sm (fun i => l i * (sgb t i * W i j)) n - l n * W n j = 0) ∧ ¬ ∀ i, i < n + 1 → l i = 0 := by
    refine Classical.byContradiction (fun q => z2 (fun l h1 h2 => ?_))
    exact Classical.byContradiction (fun q2 => q ⟨l, h1, h2, q2⟩)
  obtain ⟨l, l1, l2, l3⟩ := z1'
  obtain ⟨m, m1, m2, m3⟩ := z2'
  have ln : l n ≠ 0 := by
    intro q
    apply l3
    have := h l (fun i hi => l1 i (by omega)) (fun j hj => by have := l2 j hj; rw [q] at this; simpa using this)
    intro i hi
    by_cases e : i = n
    · rw [e]; exact q
    · exact this i (by omega)
  have mn : m n ≠ 0 := by
    intro q
    apply m3
    have := h m (fun i hi => m1 i (by omega)) (fun j hj => by have := m2 j hj; rw [q] at this; simpa using this)
    intro i hi
    by_cases e : i = n
    · rw [e]; exact q
    · exact this i (by omega)
  have ln0 := l1 n (by omega)
  have mn0 := m1 n (by omega)
  have key := h (fun i => m n * l i + l n * m i) (fun i hi => Int.add_nonneg (Int.mul_nonneg mn0 (l1 i (by omega))) (Int.mul_nonneg ln0 (m1 i (by omega)))) (fun j hj => by
    have e : sm (fun i => (m n * l i + l n * m i) * (sgb t i * W i j)) n = m n * sm (fun i => l i * (sgb t i * W i j)) n + l n * sm (fun i => m i * (sgb t i * W i j)) n := by
      rw [← sm_lin]
      exact sm_ext (fun i hi => by grind)
    have a1 := l2 j hj
    have a2 := m2 j hj
    rw [e]
    grind)
  have l0 : ∀ i, i < n → l i = 0 := by
    intro i hi
    have k1 := key i hi
    have k2 := Int.mul_nonneg mn0 (l1 i (by omega))
    have k3 := Int.mul_nonneg ln0 (m1 i (by omega))
    have k4 : m n * l i = 0 := by omega
    exact (Int.mul_eq_zero.mp k4).resolve_left mn
  have a1 := l2 p hp
  have : sm (fun i => l i * (sgb t i * W i p)) n = sm (fun _ => 0) n := sm_ext (fun i hi => by rw [l0 i hi]; omega)
  rw [this, sm_zero, Int.zero_add] at a1
  rcases Int.mul_eq_zero.mp a1 with q | q
  · exact ln q
  · exact he q
theorem el_sum (l : Nat → Int) (e : Row) (k : Nat) : sm (fun i => l i * (sgb t i * el e p (W i) k)) n = e p * sm (fun i => l i * (sgb t i * W i k)) n - sm (fun i => l i * (sgb t i * W i p)) n * e k := by
  have h := sm_lin (e p) (-(e k)) (fun i => l i * (sgb t i * W i k)) (fun i => l i * (sgb t i * W i p)) n
  have h2 : sm (fun i => l i * (sgb t i * el e p (W i) k)) n = sm (fun i => e p * (l i * (sgb t i * W i k)) + -(e k) * (l i * (sgb t i * W i p))) n := sm_ext (fun i hi => by simp only [el]; grind)
  rw [h2, h]
  grind
theorem Ac_con (ht : t < 2 ^ n) (hp : p ∈ js) (he : W n p ≠ 0) : Ac js (fun i => el (W n) p (W i)) n t ↔ Ac js W (n + 1) (2 ^ n + t) ∧ Ac js W (n + 1) t := by
  constructor
  · intro h
    have core : ∀ (s : Int), (s = 1 ∨ s = -1) → ∀ l : Nat → Int, (∀ i, i < n + 1 → 0 ≤ l i) → (∀ j ∈ js, sm (fun i => l i * (sgb t i * W i j)) n + s * (l n * W n j) = 0) → ∀ i, i < n + 1 → l i = 0 := by
      intro s hs l h1 h2
      have h3 := h l (fun i hi => h1 i (by omega)) (fun j hj => by
        rw [el_sum]
        have a1 := h2 j hj
        have a2 := h2 p hp
        grind)
      have a2 := h2 p hp
      have : sm (fun i => l i * (sgb t i * W i p)) n = sm (fun _ => 0) n := sm_ext (fun i hi => by rw [h3 i hi]; omega)
      rw [this, sm_zero, Int.zero_add] at a2
      have hln : l n = 0 := by
        rcases Int.mul_eq_zero.mp a2 with q | q
        · omega
        · exact (Int.mul_eq_zero.mp q).resolve_right he
      intro i hi
      by_cases q : i = n
      · rw [q]; exact hln
      · exact h3 i (by omega)
    refine ⟨(Ac_plus ht).mpr (fun l h1 h2 => core 1 (Or.inl rfl) l h1 (fun j hj => by rw [Int.one_mul]; exact h2 j hj)), (Ac_minus ht).mpr (fun l h1 h2 => core (-1) (Or.inr rfl) l h1 (fun j hj => by have := h2 j hj; omega))⟩
  · rintro ⟨hP, hM⟩
    have hA := Ac_of_plus ht hP
    rw [Ac_plus ht] at hP
    rw [Ac_minus ht] at hM
    intro l h1 h2
    have hX : ∀ j ∈ js, W n p * sm (fun i => l i * (sgb t i * W i j)) n - sm (fun i => l i * (sgb t i * W i p)) n * W n j = 0 := fun j hj => by rw [← el_sum]; exact h2 j hj
    by_cases x0 : sm (fun i => l i * (sgb t i * W i p)) n = 0
    · refine hA l h1 (fun j hj => ?_)
      have := hX j hj
      rw [x0] at this
      have h3 : W n p * sm (fun i => l i * (sgb t i * W i j)) n = 0 := by omega
      exact (Int.mul_eq_zero.mp h3).resolve_left he
    · exfalso
      generalize hXp : sm (fun i => l i * (sgb t i * W i p)) n = Xp at x0 hX
      -- factors: |W n p| l i, and |Xp| for the last
      have scal : ∀ (a b : Int), 0 ≤ a → 0 < b → (∀ j ∈ js, a * sm (fun i => l i * (sgb t i * W i j)) n + b * W n j = 0) → False := by
        intro a b ha hb hj
        have := hP (fun i => if i = n then b else a * l i) (fun i hi => by
          by_cases q : i = n
          · rw [if_pos q]; omega
          · rw [if_neg q]; exact Int.mul_nonneg ha (h1 i (by omega))) (fun j hj2 => by
          have e := ext0 (fun i => a * l i) b n (fun i => sgb t i * W i j)
          rw [e, if_pos rfl]
          have e2 : sm (fun i => a * l i * (sgb t i * W i j)) n = a * sm (fun i => l i * (sgb t i * W i j)) n := by
            rw [← sm_smul]
            exact sm_ext (fun i hi => by grind)
          rw [e2]
          exact hj j hj2) n (by omega)
        rw [if_pos rfl] at this
        omega
      have scalM : ∀ (a b : Int), 0 ≤ a → 0 < b → (∀ j ∈ js, a * sm (fun i => l i * (sgb t i * W i j)) n - b * W n j = 0) → False := by
        intro a b ha hb hj
        have := hM (fun i => if i = n then b else a * l i) (fun i hi => by
          by_cases q : i = n
          · rw [if_pos q]; omega
          · rw [if_neg q]; exact Int.mul_nonneg ha (h1 i (by omega))) (fun j hj2 => by
          have e := ext0 (fun i => a * l i) b n (fun i => sgb t i * W i j)
          rw [e, if_pos rfl]
          have e2 : sm (fun i => a * l i * (sgb t i * W i j)) n = a * sm (fun i => l i * (sgb t i * W i j)) n := by
            rw [← sm_smul]
            exact sm_ext (fun i hi => by grind)
          rw [e2]
          exact hj j hj2) n (by omega)
        rw [if_pos rfl] at this
        omega
      rcases Int.lt_or_gt_of_ne he with q1 | q1 <;> rcases Int.lt_or_gt_of_ne x0 with q2 | q2
      · exact scalM (-(W n p)) (-Xp) (by omega) (by omega) (fun j hj => by have := hX j hj; grind)
      · exact scal (-(W n p)) Xp (by omega) (by omega) (fun j hj => by have := hX j hj; grind)
      · exact scal (W n p) (-Xp) (by omega) (by omega) (fun j hj => by have := hX j hj; grind)
      · exact scalM (W n p) Xp (by omega) (by omega) (fun j hj => by have := hX j hj; grind)
end
noncomputable def NN (js : List Nat) (W : Nat → Row) (n : Nat) : Int := sm (fun t => ind (Ac js W n t)) (2 ^ n)
theorem pow_dbl (n : Nat) : 2 ^ (n + 1) = 2 ^ n + 2 ^ n := by rw [Nat.pow_succ]; omega
theorem NN_step {js : List Nat} {W : Nat → Row} {n p : Nat} (hp : p ∈ js) (he : W n p ≠ 0) : NN js W (n + 1) = NN js W n + NN js (fun i => el (W n) p (W i)) n := by
  unfold NN
  rw [pow_dbl, sm_split, ← sm_add, ← sm_add]
  refine sm_ext (fun t ht => ?_)
  have c1 := Ac_con ht hp he
  have c2 := Ac_some ht hp he
  have c3 := Ac_of_plus (js := js) (W := W) ht
  have c4 := Ac_of_minus (js := js) (W := W) ht
  by_cases q1 : Ac js W (n + 1) (2 ^ n + t) <;> by_cases q2 : Ac js W (n + 1) t
  · rw [ind_t q1, ind_t q2, ind_t (c3 q1), ind_t (c1.mpr ⟨q1, q2⟩)]
  · rw [ind_t q1, ind_f q2, ind_t (c3 q1), ind_f (fun z => q2 (c1.mp z).2)]
    rfl
  · rw [ind_f q1, ind_t q2, ind_t (c4 q2), ind_f (fun z => q1 (c1.mp z).1)]
  · rw [ind_f q1, ind_f q2, ind_f (fun z => (c2 z).elim q1 q2), ind_f (fun z => q2 (c1.mp z).2)]
theorem NN_zero {js : List Nat} {W : Nat → Row} {n : Nat} (he : ∀ j ∈ js, W n j = 0) : NN js W (n + 1) = 0 := by
  unfold NN
  rw [← sm_zero (2 ^ (n + 1))]
  refine sm_ext (fun t ht => ind_f (fun h => ?_))
  have := h (fun i => if i = n then 1 else 0) (fun i hi => by split <;> omega) (fun j hj => by
    have := sm_pick (fun i => sgb t i * W i j) n (n + 1) (by omega)
    rw [this, he j hj, Int.mul_zero]) n (by omega)
  rw [if_pos rfl] at this
  cases this
/-! the sum over all sets -/
def sgn (k : Nat) : Int := if k % 2 = 0 then 1 else -1
noncomputable def PP (js : List Nat) (W : Nat → Row) (n : Nat) : Int := sm (fun B => sgn (pcb B n + rkS js W n B)) (2 ^ n)
theorem sp_con {js : List Nat} {l : List Row} {e x : Row} {p : Nat} (hp : p ∈ js) (he : e p ≠ 0) : Sp 0 js (e :: l) x ↔ Sp 0 js (l.map (el e p)) (el e p x) := by
  constructor
  · rintro ⟨a, ha, c, hc⟩
    refine ⟨a, ha, fun k => c (k + 1), fun j hj => ?_⟩
    have h1 := hc j hj
    have h2 := hc p hp
    rw [Int.zero_dvd] at h1 h2 ⊢
    simp only [lcb] at h1 h2
    rw [lcb_el]
    simp only [el]
    grind
  · rintro ⟨a, ha, c, hc⟩
    rw [Int.zero_dvd] at ha
    refine ⟨a * e p, by rw [Int.zero_dvd]; exact fun z => (Int.mul_eq_zero.mp z).elim ha he, fun k => if k = 0 then a * x p - lcb c l p else e p * c (k - 1), fun j hj => ?_⟩
    have h1 := hc j hj
    rw [Int.zero_dvd, lcb_el] at h1
    rw [Int.zero_dvd]
    simp only [el] at h1
    have e2 : lcb (fun k => if k + 1 = 0 then a * x p - lcb c l p else e p * c (k + 1 - 1)) l j = e p * lcb c l j := by
      rw [← lcb_smul]
      exact lcb_ext (fun k _ => by rw [if_neg (by omega)]; rfl) j
    simp only [lcb, if_true, e2]
    grind
theorem rk_mem {js : List Nat} {l : List Row} {x : Row} (h : Sp 0 js l x) : rkC 0 js (x :: l) = rkC 0 js l := by
  refine rkC_eq dom0 (fun y hy => ?_) (fun y hy => Sp.mem dom0 js (List.mem_cons_of_mem _ hy))
  rcases List.mem_cons.mp hy with rfl | hy
  · exact h
  · exact Sp.mem dom0 js hy
theorem rk_swap {js : List Nat} {l : List Row} {x y : Row} : rkC 0 js (x :: y :: l) = rkC 0 js (y :: x :: l) := rkC_eq dom0 (fun z hz => Sp.mem dom0 js (by simp at hz ⊢; grind)) (fun z hz => Sp.mem dom0 js (by simp at hz ⊢; grind))
theorem rk_con {js : List Nat} {e : Row} {p : Nat} (hp : p ∈ js) (he : e p ≠ 0) : ∀ l : List Row, rkC 0 js (e :: l) = 1 + rkC 0 js (l.map (el e p)) := by
  intro l
  induction l with
  | nil =>
    have h0 : rkC 0 js [] = 0 := Nat.le_zero.mp (rkC_len dom0 js [])
    rw [List.map_nil, h0]
    have := rkC_cons dom0 js [] e (fun hs => by
      obtain ⟨a, ha, c, hc⟩ := hs
      have := hc p hp
      rw [Int.zero_dvd] at this ha
      simp only [lcb, Int.sub_zero] at this
      exact (Int.mul_eq_zero.mp this).elim ha he)
    omega
  | cons x l ih =>
    rw [rk_swap, List.map_cons]
    by_cases q : Sp 0 js (e :: l) x
    · rw [rk_mem q, rk_mem ((sp_con hp he).mp q), ih]
    · rw [rkC_cons dom0 js (e :: l) x q, rkC_cons dom0 js (l.map (el e p)) (el e p x) (fun z => q ((sp_con hp he).mpr z)), ih]
      omega
theorem rowsB_map (W : Nat → Row) (f : Row → Row) (B : Nat) : ∀ n, rowsB (fun i => f (W i)) B n = (rowsB W B n).map f := by
  intro n
  induction n with
  | zero => rfl
  | succ n ih =>
    simp only [rowsB, ih]
    split <;> simp
theorem rowsB_bits (W : Nat → Row) {B C : Nat} : ∀ n, (∀ i, i < n → B.testBit i = C.testBit i) → rowsB W B n = rowsB W C n := by
  intro n
  induction n with
  | zero => intro _; rfl
  | succ n ih =>
    intro h
    rw [rowsB, rowsB, ih (fun i hi => h i (by omega)), h n (by omega)]
theorem pcb_bits {B C : Nat} : ∀ n, (∀ i, i < n → B.testBit i = C.testBit i) → pcb B n = pcb C n := by
  intro n
  induction n with
  | zero => intro _; rfl
  | succ n ih =>
    intro h
    rw [pcb, pcb, ih (fun i hi => h i (by omega)), h n (by omega)]
theorem rk_snoc {js : List Nat} {l : List Row} {x : Row} : rkC 0 js (l ++ [x]) = rkC 0 js (x :: l) := rkC_eq dom0 (fun z hz => Sp.mem dom0 js (by simp at hz ⊢; grind)) (fun z hz => Sp.mem dom0 js (by simp at hz ⊢; grind))
theorem sgn_add2 (k : Nat) : sgn (k + 2) = sgn k := by unfold sgn; rw [Nat.add_mod_right]
theorem sgn_succ (k : Nat) : sgn (k + 1) = - sgn k := by
  unfold sgn
  rcases Nat.mod_two_eq_zero_or_one k with h | h
  · rw [if_pos h, if_neg (show ¬ (k + 1) % 2 = 0 by omega)]
  · rw [if_neg (show ¬ k % 2 = 0 by omega), if_pos (show (k + 1) % 2 = 0 by omega)]
    rfl
theorem PP_lo {js : List Nat} {W : Nat → Row} {n B : Nat} (hB : B < 2 ^ n) : sgn (pcb B (n + 1) + rkS js W (n + 1) B) = sgn (pcb B n + rkS js W n B) := by
  unfold rkS
  rw [pcb, rowsB, Nat.testBit_lt_two_pow hB]
  rfl
theorem PP_hi {js : List Nat} {W : Nat → Row} {n B : Nat} (hB : B < 2 ^ n) : pcb (2 ^ n + B) (n + 1) + rkS js W (n + 1) (2 ^ n + B) = pcb B n + 1 + rkC 0 js (W n :: rowsB W B n) := by
  unfold rkS
  have hb : (2 ^ n + B).testBit n = true := by rw [Nat.testBit_two_pow_add_eq, Nat.testBit_lt_two_pow hB]; rfl
  rw [pcb, rowsB, hb, if_pos rfl, rk_snoc, pcb_bits n (fun i hi => Nat.testBit_two_pow_add_gt hi B), rowsB_bits W n (fun i hi => Nat.testBit_two_pow_add_gt hi B)]
  rfl
theorem PP_step {js : List Nat} {W : Nat → Row} {n p : Nat} (hp : p ∈ js) (he : W n p ≠ 0) : PP js W (n + 1) = PP js W n + PP js (fun i => el (W n) p (W i)) n := by
  unfold PP
  rw [pow_dbl, sm_split, sm_ext (fun B hB => PP_lo hB)]
  congr 1
  refine sm_ext (fun B hB => ?_)
  rw [PP_hi hB, rk_con hp he]
  unfold rkS
  rw [rowsB_map W (el (W n) p) B n, show pcb B n + 1 + (1 + rkC 0 js ((rowsB W B n).map (el (W n) p))) = (pcb B n + rkC 0 js ((rowsB W B n).map (el (W n) p))) + 2 by omega, sgn_add2]
theorem PP_zero {js : List Nat} {W : Nat → Row} {n : Nat} (he : ∀ j ∈ js, W n j = 0) : PP js W (n + 1) = 0 := by
  unfold PP
  rw [pow_dbl, sm_split, sm_ext (fun B hB => PP_lo hB), ← sm_add, ← sm_zero (2 ^ n)]
  refine sm_ext (fun B hB => ?_)
  rw [PP_hi hB, rk_mem (Sp.zero dom0 (fun j hj => by rw [he j hj]; exact Int.dvd_refl 0)), show pcb B n + 1 + rkC 0 js (rowsB W B n) = (pcb B n + rkC 0 js (rowsB W B n)) + 1 by omega, sgn_succ]
  unfold rkS
  omega
theorem NN_PP (js : List Nat) : ∀ (n : Nat) (W : Nat → Row), NN js W n = PP js W n := by
  intro n
  induction n with
  | zero =>
    intro W
    have h1 : NN js W 0 = 1 := by
      show sm _ 1 = 1
      rw [sm, sm, ind_t (show Ac js W 0 0 from fun l _ _ i hi => absurd hi (Nat.not_lt_zero i))]
      rfl
    have h2 : PP js W 0 = 1 := by
      show sm _ 1 = 1
      have h0 : rkS js W 0 0 = 0 := Nat.le_zero.mp (rkC_len dom0 js [])
      rw [sm, sm, h0]
      rfl
    rw [h1, h2]
  | succ n ih =>
    intro W
    by_cases q : ∃ p, p ∈ js ∧ W n p ≠ 0
    · obtain ⟨p, hp, he⟩ := q
      rw [NN_step hp he, PP_step hp he, ih, ih]
    · have he : ∀ j ∈ js, W n j = 0 := fun j hj => Classical.byContradiction (fun z => q ⟨j, hj, z⟩)
      rw [NN_zero he, PP_zero he]
/-! how many at most -/
def Gm : Nat → Nat → Nat
  | 0, _ => 1
  | _ + 1, 0 => 0
  | n + 1, r + 1 => Gm n (r + 1) + Gm n r
theorem Ac_erase {js : List Nat} {W : Nat → Row} {n p : Nat} (h0 : ∀ i, W i p = 0) (t : Nat) : Ac js W n t ↔ Ac (js.erase p) W n t := by
  constructor
  · intro h l h1 h2
    refine h l h1 (fun j hj => ?_)
    by_cases e : j = p
    · subst e
      rw [← sm_zero n]
      exact sm_ext (fun i hi => by rw [h0 i]; simp)
    · exact h2 j ((List.mem_erase_of_ne e).mpr hj)
  · intro h l h1 h2
    exact h l h1 (fun j hj => h2 j (List.mem_of_mem_erase hj))
theorem NN_erase {js : List Nat} {W : Nat → Row} {n p : Nat} (h0 : ∀ i, W i p = 0) : NN js W n = NN (js.erase p) W n := by
  unfold NN
  refine sm_ext (fun t ht => ?_)
  by_cases q : Ac js W n t
  · rw [ind_t q, ind_t ((Ac_erase h0 t).mp q)]
  · rw [ind_f q, ind_f (fun z => q ((Ac_erase h0 t).mpr z))]
theorem NN_le : ∀ (n : Nat) (js : List Nat) (W : Nat → Row), NN js W n ≤ Gm n js.length := by
  intro n
  induction n with
  | zero =>
    intro js W
    show sm _ 1 ≤ _
    rw [sm, sm, ind_t (show Ac js W 0 0 from fun l _ _ i hi => absurd hi (Nat.not_lt_zero i))]
    simp [Gm]
  | succ n ih =>
    intro js W
    by_cases q : ∃ p, p ∈ js ∧ W n p ≠ 0
    · obtain ⟨p, hp, he⟩ := q
      have h1 := ih js W
      have h2 := ih (js.erase p) (fun i => el (W n) p (W i))
      rw [NN_step hp he, NN_erase (js := js) (W := fun i => el (W n) p (W i)) (p := p) (fun i => by simp only [el]; grind)]
      have hl := List.length_erase_of_mem hp
      have hpos : 0 < js.length := List.length_pos_of_mem hp
      obtain ⟨r, hr⟩ : ∃ r, js.length = r + 1 := ⟨js.length - 1, by omega⟩
      rw [hr] at h1 hl ⊢
      rw [hl] at h2
      rw [Gm]
      simp only [Nat.add_sub_cancel] at h2
      omega
    · have he : ∀ j ∈ js, W n j = 0 := fun j hj => Classical.byContradiction (fun z => q ⟨j, hj, z⟩)
      rw [NN_zero he]
      omega
theorem Gm_186 : ∀ n, n < 10 → Gm n 4 ≤ 186 := by decide
