/-! DEPENDENCES of sets of planes -/
def sm (f : Nat → Int) : Nat → Int
  | 0 => 0
  | n + 1 => sm f n + f n
theorem sm_ext {f g : Nat → Int} {n : Nat} (h : ∀ i, i < n → f i = g i) : sm f n = sm g n := by
  induction n with
  | zero => rfl
  | succ n ih => simp only [sm]; rw [ih (fun i hi => h i (by omega)), h n (by omega)]
theorem sm_lin (a b : Int) (f g : Nat → Int) (n : Nat) : sm (fun i => a * f i + b * g i) n = a * sm f n + b * sm g n := by
  induction n with
  | zero => simp [sm]
  | succ n ih => simp only [sm, ih]; grind
theorem sm_smul (a : Int) (f : Nat → Int) (n : Nat) : sm (fun i => a * f i) n = a * sm f n := by
  induction n with
  | zero => simp [sm]
  | succ n ih => simp only [sm, ih]; grind
theorem sm_zero (n : Nat) : sm (fun _ => 0) n = 0 := by
  induction n with
  | zero => rfl
  | succ n ih => simp only [sm, ih]; rfl
theorem sm_upd (f : Nat → Int) (p : Nat) (a : Int) : ∀ n, p < n → sm (fun i => if i = p then a else f i) n = sm f n + (a - f p) := by
  intro n
  induction n with
  | zero => intro h; omega
  | succ n ih =>
    intro h
    simp only [sm]
    by_cases e : n = p
    · subst e
      rw [if_pos rfl, sm_ext (g := f) (fun i hi => by rw [if_neg (by omega)])]
      omega
    · rw [if_neg e, ih (by omega)]
      omega
theorem sm_bd (f : Nat → Int) (B : Int) (n : Nat) (h : ∀ i, i < n → -B ≤ f i ∧ f i ≤ B) : -(n * B) ≤ sm f n ∧ sm f n ≤ n * B := by
  induction n with
  | zero => simp [sm]
  | succ n ih =>
    have h1 := ih (fun i hi => h i (by omega))
    have h2 := h n (by omega)
    have e : ((n + 1 : Nat) : Int) * B = n * B + B := by rw [Int.natCast_add, Int.add_mul]; simp
    simp only [sm]
    rw [e]
    omega
theorem lcb_app (c : Nat → Int) (l : List Row) (r : Row) (j : Nat) : lcb c (l ++ [r]) j = lcb c l j + c l.length * r j := by
  induction l generalizing c with
  | nil => simp [lcb]
  | cons a l ih => simp only [List.cons_append, lcb, ih, List.length_cons]; grind
theorem lcb_ext {c e : Nat → Int} {l : List Row} (h : ∀ k, k < l.length → c k = e k) (j : Nat) : lcb c l j = lcb e l j := by
  induction l generalizing c e with
  | nil => rfl
  | cons a l ih =>
    simp only [lcb]
    rw [h 0 (by simp), ih (fun k hk => h (k + 1) (by simp; exact hk))]
/-- sums over a list of rows as sums over planes, and back -/
theorem lcb_sm (v : Nat → Row) (s : Nat) (c : Nat → Int) : ∀ N, ∃ x : Nat → Int, (∀ i, s.testBit i = false → x i = 0) ∧ ∀ j, lcb c (rowsB v s N) j = sm (fun i => x i * v i j) N := by
  intro N
  induction N with
  | zero => exact ⟨fun _ => 0, fun _ _ => rfl, fun _ => rfl⟩
  | succ N ih =>
    obtain ⟨x, h1, h2⟩ := ih
    by_cases hb : s.testBit N = true
    · refine ⟨fun i => if i = N then c (rowsB v s N).length else x i, fun i hi => ?_, fun j => ?_⟩
      · have : i ≠ N := fun e => by subst e; rw [hb] at hi; cases hi
        simp only [this, if_false]
        exact h1 i hi
      · rw [rowsB, if_pos hb, lcb_app, h2 j]
        simp only [sm, if_true]
        rw [sm_ext (f := fun i => (if i = N then c (rowsB v s N).length else x i) * v i j) (g := fun i => x i * v i j) (fun i hi => by simp only [show i ≠ N by omega, if_false])]
    · refine ⟨fun i => if i = N then 0 else x i, fun i hi => ?_, fun j => ?_⟩
      · by_cases e : i = N
        · simp [e]
        · simp only [e, if_false]; exact h1 i hi
      · rw [rowsB, if_neg hb, h2 j]
        simp only [sm, if_true]
        rw [sm_ext (f := fun i => (if i = N then 0 else x i) * v i j) (g := fun i => x i * v i j) (fun i hi => by simp only [show i ≠ N by omega, if_false])]
        omega
theorem sm_lcb (v : Nat → Row) (s : Nat) (x : Nat → Int) (hx : ∀ i, s.testBit i = false → x i = 0) : ∀ N, ∃ c : Nat → Int, ∀ j, lcb c (rowsB v s N) j = sm (fun i => x i * v i j) N := by
  intro N
  induction N with
  | zero => exact ⟨fun _ => 0, fun _ => rfl⟩
  | succ N ih =>
    obtain ⟨c, h2⟩ := ih
    by_cases hb : s.testBit N = true
    · refine ⟨fun k => if k = (rowsB v s N).length then x N else c k, fun j => ?_⟩
      rw [rowsB, if_pos hb, lcb_app]
      simp only [if_true, sm]
      rw [lcb_ext (e := c) (fun k hk => by simp only [show k ≠ (rowsB v s N).length by omega, if_false]), h2 j]
    · refine ⟨c, fun j => ?_⟩
      rw [rowsB, if_neg hb, h2 j]
      simp only [sm]
      rw [hx N (by simpa using hb)]
      omega
theorem Sp_sm {js : List Nat} {v : Nat → Row} {s N : Nat} {y : Row} : Sp 0 js (rowsB v s N) y ↔ ∃ a : Int, a ≠ 0 ∧ ∃ x : Nat → Int, (∀ i, s.testBit i = false → x i = 0) ∧ ∀ j ∈ js, a * y j = sm (fun i => x i * v i j) N := by
  constructor
  · rintro ⟨a, ha, c, hc⟩
    obtain ⟨x, h1, h2⟩ := lcb_sm v s c N
    rw [Int.zero_dvd] at ha
    refine ⟨a, ha, x, h1, fun j hj => ?_⟩
    have := hc j hj
    rw [Int.zero_dvd] at this
    rw [← h2 j]
    omega
  · rintro ⟨a, ha, x, h1, h2⟩
    obtain ⟨c, hc⟩ := sm_lcb v s x h1 N
    refine ⟨a, by rw [Int.zero_dvd]; exact ha, c, fun j hj => ?_⟩
    rw [Int.zero_dvd, hc j, h2 j hj]
    omega
noncomputable def rkS (js : List Nat) (v : Nat → Row) (N s : Nat) : Nat := rkC 0 js (rowsB v s N)
/-- a sum that is 0 -/
def Dp (js : List Nat) (N s : Nat) (v : Nat → Row) (x : Nat → Int) : Prop := (∀ i, s.testBit i = false → x i = 0) ∧ ∀ j ∈ js, sm (fun i => x i * v i j) N = 0
/-- planes below N in a set -/
def pcb (s : Nat) : Nat → Nat
  | 0 => 0
  | i + 1 => pcb s i + (s.testBit i).toNat
theorem rowsB_pcb (v : Nat → Row) (s N : Nat) : (rowsB v s N).length = pcb s N := by
  induction N with
  | zero => rfl
  | succ N ih =>
    unfold rowsB pcb
    cases s.testBit N
    · simp [ih]
    · simp [ih]
theorem pcb_pc9 : ∀ N, N < 10 → ∀ s, s < 2 ^ N → pcb s N = pc9 s := by decide +kernel
theorem rkC_len {q : Int} (hq : Dom q) (js : List Nat) (l : List Row) : rkC q js l ≤ l.length := by
  induction l with
  | nil =>
    have : rkC q js [] ≤ 0 := by
      induction js with
      | nil => exact Nat.le_refl _
      | cons j js ih => rw [rkC_n (pv_all (fun r hr => by cases hr))]; exact ih
    exact this
  | cons x l ih =>
    by_cases h : Sp q js l x
    · have : rkC q js (x :: l) ≤ rkC q js l := rkC_mono hq js _ _ (fun y hy => by
        rcases List.mem_cons.mp hy with rfl | hy
        · exact h
        · exact Sp.mem hq js hy)
      simp only [List.length_cons]
      omega
    · rw [rkC_cons hq js l x h]
      simp only [List.length_cons]
      omega
theorem rkS_le (js : List Nat) (v : Nat → Row) (N s : Nat) : rkS js v N s ≤ pcb s N := by
  rw [← rowsB_pcb v]
  exact rkC_len dom0 js _
theorem rkS_mono {js : List Nat} {v : Nat → Row} {N s t : Nat} (h : ∀ i, i < N → s.testBit i = true → t.testBit i = true) : rkS js v N s ≤ rkS js v N t := by
  refine rkC_mono dom0 js _ _ (fun x hx => Sp.mem dom0 js ?_)
  obtain ⟨a, h1, h2, h3⟩ := rowsB_mem.mp hx
  exact rowsB_mem.mpr ⟨a, h1, h a h1 h2, h3⟩
theorem tb_or (s p i : Nat) : (s ||| 2 ^ p).testBit i = (s.testBit i || decide (p = i)) := by
  rw [Nat.testBit_or, Nat.testBit_two_pow]
theorem rkS_or {js : List Nat} {v : Nat → Row} {N s p : Nat} (hp : p < N) : (Sp 0 js (rowsB v s N) (v p) → rkS js v N (s ||| 2 ^ p) = rkS js v N s) ∧ (¬ Sp 0 js (rowsB v s N) (v p) → rkS js v N (s ||| 2 ^ p) = rkS js v N s + 1) := by
  have e : rkS js v N (s ||| 2 ^ p) = rkC 0 js (v p :: rowsB v s N) := by
    refine rkC_eq dom0 (fun x hx => Sp.mem dom0 js ?_) (fun x hx => Sp.mem dom0 js ?_)
    · obtain ⟨a, h1, h2, rfl⟩ := rowsB_mem.mp hx
      rw [tb_or] at h2
      by_cases e : p = a
      · subst e; exact List.mem_cons_self
      · simp only [e, decide_false, Bool.or_false] at h2
        exact List.mem_cons_of_mem _ (rowsB_mem.mpr ⟨a, h1, h2, rfl⟩)
    · rcases List.mem_cons.mp hx with rfl | hx
      · exact rowsB_mem.mpr ⟨p, hp, by rw [tb_or]; simp, rfl⟩
      · obtain ⟨a, h1, h2, rfl⟩ := rowsB_mem.mp hx
        exact rowsB_mem.mpr ⟨a, h1, by rw [tb_or, h2]; rfl, rfl⟩
  constructor
  · intro h
    rw [e]
    exact rkC_eq dom0 (fun x hx => by
      rcases List.mem_cons.mp hx with rfl | hx
      · exact h
      · exact Sp.mem dom0 js hx) (fun x hx => Sp.mem dom0 js (List.mem_cons_of_mem _ hx))
  · intro h
    rw [e]
    exact rkC_cons dom0 js _ _ h
/-- one plane less -/
def less (s p : Nat) : Nat := s ^^^ (s &&& 2 ^ p)
theorem less_tb (s p i : Nat) : (less s p).testBit i = (s.testBit i && !decide (p = i)) := by
  unfold less
  rw [Nat.testBit_xor, Nat.testBit_and, Nat.testBit_two_pow]
  cases s.testBit i <;> cases decide (p = i) <;> rfl
theorem less_or {s p : Nat} (h : s.testBit p = true) : less s p ||| 2 ^ p = s := by
  apply Nat.eq_of_testBit_eq
  intro i
  rw [tb_or, less_tb]
  by_cases e : p = i
  · subst e; simp [h]
  · simp [e]
theorem pcb_less {s p N : Nat} (hp : p < N) (h : s.testBit p = true) : pcb (less s p) N + 1 = pcb s N := by
  have key : ∀ n, pcb (less s p) n + (if p < n then 1 else 0) = pcb s n := by
    intro n
    induction n with
    | zero => rfl
    | succ n ih =>
      simp only [pcb, less_tb]
      by_cases e : p = n
      · subst e
        rw [if_neg (Nat.lt_irrefl _)] at ih
        rw [if_pos (Nat.lt_succ_self _)]
        simp [h]
        omega
      · by_cases e2 : p < n
        · rw [if_pos e2] at ih
          rw [if_pos (by omega)]
          simp [e]
          omega
        · rw [if_neg e2] at ih
          rw [if_neg (by omega)]
          simp [e]
          omega
  have := key N
  rw [if_pos hp] at this
  exact this
theorem pcb_pos {s N : Nat} (h : 0 < pcb s N) : ∃ i, i < N ∧ s.testBit i = true := by
  induction N with
  | zero => simp [pcb] at h
  | succ N ih =>
    by_cases hb : s.testBit N = true
    · exact ⟨N, by omega, hb⟩
    · simp only [pcb, Bool.not_eq_true] at h hb
      rw [hb] at h
      obtain ⟨i, h1, h2⟩ := ih (by simpa using h)
      exact ⟨i, by omega, h2⟩
/-- a sum that is 0 with a plane in it: the plane is in the span of the others, and the set's rank is less than its size -/
theorem Dp.sp {js : List Nat} {N s : Nat} {v : Nat → Row} {x : Nat → Int} (h : Dp js N s v x) {m : Nat} (hm : m < N) (hx : x m ≠ 0) : s.testBit m = true ∧ Sp 0 js (rowsB v (less s m) N) (v m) := by
  refine ⟨?_, ?_⟩
  · cases e : s.testBit m with
    | true => rfl
    | false => exact absurd (h.1 m e) hx
  · refine Sp_sm.mpr ⟨x m, hx, fun i => if i = m then 0 else - x i, fun i hi => ?_, fun j hj => ?_⟩
    · by_cases e : i = m
      · simp [e]
      · simp only [e, if_false]
        rw [less_tb] at hi
        have : decide (m = i) = false := by simp; exact fun z => e z.symm
        rw [this] at hi
        simp only [Bool.not_false, Bool.and_true] at hi
        rw [h.1 i hi]; rfl
    · have h1 := h.2 j hj
      have e1 : sm (fun i => (if i = m then 0 else - x i) * v i j) N = sm (fun i => if i = m then 0 else -1 * (x i * v i j)) N := sm_ext (fun i _ => by
        by_cases e : i = m
        · simp [e]
        · simp only [e, if_false]; grind)
      rw [e1, sm_upd _ _ _ N hm, sm_smul, h1]
      omega
theorem Dp.rank {js : List Nat} {N s : Nat} {v : Nat → Row} {x : Nat → Int} (h : Dp js N s v x) {m : Nat} (hm : m < N) (hx : x m ≠ 0) : rkS js v N s < pcb s N := by
  obtain ⟨h1, h2⟩ := h.sp hm hx
  have h3 := (rkS_or (js := js) (v := v) (s := less s m) hm).1 h2
  rw [less_or h1] at h3
  have h4 := rkS_le js v N (less s m)
  have h5 := pcb_less hm h1
  omega
