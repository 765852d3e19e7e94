/-! REGIONS: the choices of sides that no circuit strikes out are the acyclic ones -/
theorem sgb_pos {t i : Nat} (h : t.testBit i = true) : sgb t i = 1 := by unfold sgb; rw [h]; rfl
theorem sgb_neg {t i : Nat} (h : t.testBit i = false) : sgb t i = -1 := by unfold sgb; rw [h]; rfl
theorem abB_tb {v : Nat → Row} {c : Nat} : ∀ n i, (abB v c n).testBit i = (decide (i < n) && decide (0 < facB v c i)) := by
  intro n
  induction n with
  | zero => intro i; simp [abB]
  | succ n ih =>
    intro i
    rw [abB, Nat.testBit_or, ih i]
    by_cases q : 0 < facB v c n
    · rw [if_pos q]
      by_cases e : i = n
      · subst e; simp [q]
      · rw [Nat.testBit_two_pow_of_ne (fun z => e z.symm)]
        have : decide (i < n + 1) = decide (i < n) := by rw [decide_eq_decide]; omega
        rw [this]
        simp
    · rw [if_neg q]
      by_cases e : i = n
      · subst e; simp [q]
      · have : decide (i < n + 1) = decide (i < n) := by rw [decide_eq_decide]; omega
        rw [this]
        simp
/-- a circuit strikes the choice: all factors have its signs, or all have the opposite ones -/
def Str (v : Nat → Row) (t c : Nat) : Prop := ∃ s : Int, (s = 1 ∨ s = -1) ∧ ∀ i, i < 9 → c.testBit i = true → 0 < s * (sgb t i * facB v c i)
theorem hit_iff {d N : Nat} {v : Nat → Row} (hA : Arr d N v) {t c : Nat} (hc : c < 2 ^ N) (hr : rgB (rkV v) c N = true) : hitB v t c = true ↔ Str v t c := by
  have hp := pow9 hA.2.2.1
  have hC := (ring_circ hA.2.2.1 hc).mp hr
  have hne := facB_ne hC (fun i j _ => hA.2.2.2.1 i j)
  have hf := (facB_ok hC (fun i j _ => hA.2.2.2.1 i j)).1
  have hz : ∀ i, c.testBit i = false → facB v c i = 0 := hf.1.1
  have hb9 : ∀ i, c.testBit i = true → i < 9 := fun i hi => tb_lt (N := 9) (by omega) hi
  have ab_sub : ∀ i, (abB v c 9).testBit i = true → c.testBit i = true := by
    intro i hi
    rw [abB_tb, Bool.and_eq_true, decide_eq_true_eq, decide_eq_true_eq] at hi
    cases e : c.testBit i with
    | true => rfl
    | false => rw [hz i e] at hi; omega
  have ab_c : ∀ i, c.testBit i = true → ((abB v c 9).testBit i = true ↔ 0 < facB v c i) := by
    intro i hi
    rw [abB_tb, Bool.and_eq_true, decide_eq_true_eq, decide_eq_true_eq]
    exact ⟨fun z => z.2, fun z => ⟨hb9 i hi, z⟩⟩
  unfold hitB Str
  rw [Bool.or_eq_true, beq_iff_eq, beq_iff_eq]
  constructor
  · rintro (h | h)
    · refine ⟨1, Or.inl rfl, fun i hi hci => ?_⟩
      have h1 := congrArg (fun z => z.testBit i) h
      simp only [Nat.testBit_and, hci, Bool.and_true] at h1
      have h0 := hne i hi hci
      cases e : t.testBit i with
      | true =>
        rw [e] at h1
        have := (ab_c i hci).mp h1.symm
        rw [sgb_pos e]; omega
      | false =>
        rw [e] at h1
        have : ¬ 0 < facB v c i := fun z => by rw [(ab_c i hci).mpr z] at h1; cases h1
        rw [sgb_neg e]; omega
    · refine ⟨-1, Or.inr rfl, fun i hi hci => ?_⟩
      have h1 := congrArg (fun z => z.testBit i) h
      simp only [Nat.testBit_and, Nat.testBit_xor, hci, Bool.and_true, Bool.true_and] at h1
      have h0 := hne i hi hci
      cases e : t.testBit i with
      | true =>
        rw [e] at h1
        have : ¬ 0 < facB v c i := fun z => by rw [(ab_c i hci).mpr z] at h1; cases h1
        rw [sgb_pos e]; omega
      | false =>
        rw [e] at h1
        have h2 : (abB v c 9).testBit i = true := by
          cases e2 : (abB v c 9).testBit i with
          | true => rfl
          | false => rw [e2] at h1; cases h1
        have := (ab_c i hci).mp h2
        rw [sgb_neg e]; omega
  · rintro ⟨s, hs, h⟩
    rcases hs with rfl | rfl
    · left
      apply Nat.eq_of_testBit_eq
      intro i
      rw [Nat.testBit_and]
      cases e : c.testBit i with
      | false =>
        rw [Bool.and_false]
        cases e2 : (abB v c 9).testBit i with
        | false => rfl
        | true => rw [ab_sub i e2] at e; cases e
      | true =>
        rw [Bool.and_true]
        have h1 := h i (hb9 i e) e
        cases e1 : t.testBit i with
        | true =>
          rw [sgb_pos e1] at h1
          exact ((ab_c i e).mpr (by omega)).symm
        | false =>
          rw [sgb_neg e1] at h1
          cases e2 : (abB v c 9).testBit i with
          | false => rfl
          | true => have := (ab_c i e).mp e2; omega
    · right
      apply Nat.eq_of_testBit_eq
      intro i
      rw [Nat.testBit_and, Nat.testBit_xor, Nat.testBit_and]
      cases e : c.testBit i with
      | false => simp
      | true =>
        rw [Bool.and_true, Bool.true_and]
        have h1 := h i (hb9 i e) e
        cases e1 : t.testBit i with
        | true =>
          rw [sgb_pos e1] at h1
          cases e2 : (abB v c 9).testBit i with
          | false => rfl
          | true => have := (ab_c i e).mp e2; omega
        | false =>
          rw [sgb_neg e1] at h1
          rw [(ab_c i e).mpr (by omega)]
          rfl
/-- a dependent set contains a circuit -/
theorem circ_in {d N : Nat} {v : Nat → Row} (hA : Arr d N v) : ∀ (m s : Nat), pc9 s ≤ m → s < 2 ^ N → rkV v s < pc9 s → ∃ c, c < 2 ^ N ∧ rgB (rkV v) c N = true ∧ ∀ i, c.testBit i = true → s.testBit i = true := by
  have hp := pow9 hA.2.2.1
  intro m
  induction m with
  | zero => intro s h1 h2 h3; omega
  | succ m ih =>
    intro s h1 h2 h3
    by_cases q : rgB (rkV v) s N = true
    · exact ⟨s, h2, q, fun i hi => hi⟩
    · rw [rgB_iff] at q
      have : ∃ i, i < N ∧ s.testBit i = true ∧ rkV v (less s i) < pc9 (less s i) := by
        refine Classical.byContradiction (fun z => q ⟨h3, fun i hi hb hd => z ⟨i, hi, hb, hd⟩⟩)
      obtain ⟨i, hi, hb, hd⟩ := this
      have h4 := pc9_less s (by omega) i (by have := hA.2.2.1; omega) hb
      obtain ⟨c, c1, c2, c3⟩ := ih (less s i) (by omega) (less_lt h2) hd
      exact ⟨c, c1, c2, fun j hj => less_sub s i j (c3 j hj)⟩
def supp (l : Nat → Int) : Nat → Nat
  | 0 => 0
  | n + 1 => supp l n ||| (if l n ≠ 0 then 2 ^ n else 0)
theorem supp_tb (l : Nat → Int) : ∀ n i, (supp l n).testBit i = (decide (i < n) && decide (l i ≠ 0)) := by
  intro n
  induction n with
  | zero => intro i; simp [supp]
  | succ n ih =>
    intro i
    rw [supp, Nat.testBit_or, ih i]
    by_cases q : l n ≠ 0
    · rw [if_pos q]
      by_cases e : i = n
      · subst e; simp [q]
      · rw [Nat.testBit_two_pow_of_ne (fun z => e z.symm)]
        have : decide (i < n + 1) = decide (i < n) := by rw [decide_eq_decide]; omega
        rw [this]
        simp
    · rw [if_neg q]
      by_cases e : i = n
      · subst e; simp [q]
      · have : decide (i < n + 1) = decide (i < n) := by rw [decide_eq_decide]; omega
        rw [this]
        simp
theorem supp_lt (l : Nat → Int) : ∀ n, supp l n < 2 ^ n := by
  intro n
  induction n with
  | zero => simp [supp]
  | succ n ih =>
    rw [supp]
    apply Nat.or_lt_two_pow
    · rw [pow_dbl]; omega
    · have := Nat.two_pow_pos n
      have := pow_dbl n
      split <;> omega
theorem sm_hi (f : Nat → Int) {N : Nat} (hN : N ≤ 9) (h : ∀ i, N ≤ i → f i = 0) : sm f 9 = sm f N := sm_few f N 9 hN h
/-- the choice of the least ratio -/
theorem min_ratio (N : Nat) (a b : Nat → Int) (hb : ∃ i, i < N ∧ 0 < b i) : ∃ i, i < N ∧ 0 < b i ∧ ∀ j, j < N → 0 < b j → a i * b j ≤ a j * b i := by
  induction N with
  | zero => obtain ⟨i, hi, -⟩ := hb; omega
  | succ N ih =>
    by_cases q : ∃ i, i < N ∧ 0 < b i
    · obtain ⟨i, hi, hbi, hm⟩ := ih q
      by_cases qn : 0 < b N
      · by_cases z : a i * b N ≤ a N * b i
        · refine ⟨i, by omega, hbi, fun j hj hbj => ?_⟩
          by_cases e : j = N
          · rw [e]; exact z
          · exact hm j (by omega) hbj
        · refine ⟨N, by omega, qn, fun j hj hbj => ?_⟩
          by_cases e : j = N
          · rw [e]; exact Int.le_refl _
          · have h1 := hm j (by omega) hbj
            -- a N b i < a i b N, a i b j <= a j b i; so b i (a N b j) <= b i (a j b N)
            have h2 : b i * (a N * b j) ≤ b i * (a j * b N) := by
              have e1 : (a N * b i) * b j ≤ (a i * b N) * b j := Int.mul_le_mul_of_nonneg_right (by omega) (by omega)
              have e2 : (a i * b j) * b N ≤ (a j * b i) * b N := Int.mul_le_mul_of_nonneg_right h1 (by omega)
              calc b i * (a N * b j) = (a N * b i) * b j := by grind
                _ ≤ (a i * b N) * b j := e1
                _ = (a i * b j) * b N := by grind
                _ ≤ (a j * b i) * b N := e2
                _ = b i * (a j * b N) := by grind
            exact Int.le_of_mul_le_mul_left h2 hbi
      · exact ⟨i, by omega, hbi, fun j hj hbj => by
          by_cases e : j = N
          · subst e; exact absurd hbj qn
          · exact hm j (by omega) hbj⟩
    · obtain ⟨i, hi, hbi⟩ := hb
      have e : i = N := by
        by_cases z : i = N
        · exact z
        · exact absurd ⟨i, by omega, hbi⟩ q
      subst e
      refine ⟨i, by omega, hbi, fun j hj hbj => ?_⟩
      have : j = i := by
        by_cases z : j = i
        · exact z
        · exact absurd ⟨j, by omega, hbj⟩ q
      rw [this]
      exact Int.le_refl _
theorem pc9_sub {x y : Nat} (hx : x < 512) (hy : y < 512) (h : ∀ i, x.testBit i = true → y.testBit i = true) : pc9 x ≤ pc9 y := by
  rw [← pcb_pc9 9 (by omega) x hx, ← pcb_pc9 9 (by omega) y hy]
  have : ∀ n, pcb x n ≤ pcb y n := by
    intro n
    induction n with
    | zero => exact Nat.le_refl _
    | succ n ih =>
      rw [pcb, pcb]
      cases e : x.testBit n with
      | false => simp; omega
      | true => rw [h n e]; omega
  exact this 9
/-- where a sum is 0, a circuit strikes -/
theorem str_of {d N : Nat} {v : Nat → Row} (hA : Arr d N v) (t : Nat) : ∀ (m : Nat) (l : Nat → Int), pc9 (supp l N) ≤ m → (∀ i, i < N → 0 ≤ l i) → (∀ j ∈ cf 4, sm (fun i => l i * (sgb t i * v i j)) N = 0) → (∃ i, i < N ∧ l i ≠ 0) → ∃ c, c < 2 ^ N ∧ rgB (rkV v) c N = true ∧ Str v t c := by
  have hp := pow9 hA.2.2.1
  have h9 := hA.2.2.1
  intro m
  induction m with
  | zero =>
    intro l h1 h2 h3 h4
    exfalso
    obtain ⟨i, hi, hne⟩ := h4
    have := pc9_posb (supp l N) (by have := supp_lt l N; omega) i (by omega) (by rw [supp_tb]; simp [hi, hne])
    omega
  | succ m ih =>
    intro l h1 h2 h3 h4
    have hsl := supp_lt l N
    -- the support is dependent
    have hD : Dp (cf 4) 9 (supp l N) v (fun i => if i < N then l i * sgb t i else 0) := by
      refine ⟨fun i hi => ?_, fun j hj => ?_⟩
      · rw [supp_tb] at hi
        show (if i < N then l i * sgb t i else 0) = 0
        by_cases q : i < N
        · rw [if_pos q]
          have : l i = 0 := by
            refine Classical.byContradiction (fun z => ?_)
            rw [decide_eq_true q, decide_eq_true z] at hi
            cases hi
          rw [this, Int.zero_mul]
        · rw [if_neg q]
      · rw [sm_hi _ h9 (fun i hi => by show (if i < N then l i * sgb t i else 0) * v i j = 0; rw [if_neg (by omega), Int.zero_mul])]
        have e : sm (fun i => (if i < N then l i * sgb t i else 0) * v i j) N = sm (fun i => l i * (sgb t i * v i j)) N := sm_ext (fun i hi => by
          rw [if_pos hi]; grind)
        exact e.trans (h3 j hj)
    obtain ⟨i0, hi0, hne0⟩ := h4
    have hdep := hD.rank (m := i0) (by omega) (by
      show (if i0 < N then l i0 * sgb t i0 else 0) ≠ 0
      rw [if_pos hi0]
      intro z
      rcases Int.mul_eq_zero.mp z with z | z
      · exact hne0 z
      · unfold sgb at z; split at z <;> omega)
    rw [pcb_pc9 9 (by omega) _ (by omega)] at hdep
    obtain ⟨c, c1, c2, c3⟩ := circ_in hA 9 (supp l N) (pc9_le _ (by omega)) hsl hdep
    have hC := (ring_circ h9 c1).mp c2
    have hfne := facB_ne hC (fun i j _ => hA.2.2.2.1 i j)
    have hf := (facB_ok hC (fun i j _ => hA.2.2.2.1 i j)).1
    have hcN : ∀ i, c.testBit i = true → i < N := fun i hi => tb_lt c1 hi
    have hfN : ∀ i, N ≤ i → facB v c i = 0 := fun i hi => hf.1.1 i (tb_hi c1 hi)
    -- a sign such that some product is positive
    have hsz := (rg_size hA c1 c2).2
    obtain ⟨k, hk, hkc⟩ := pcb_pos (s := c) (N := 9) (by rw [pcb_pc9 9 (by omega) c (by omega)]; omega)
    have hkN := hcN k hkc
    have hk0 := hfne k hk hkc
    obtain ⟨s, hs, hsk⟩ : ∃ s : Int, (s = 1 ∨ s = -1) ∧ 0 < s * (sgb t k * facB v c k) := by
      have hx : sgb t k * facB v c k ≠ 0 := by
        intro z
        rcases Int.mul_eq_zero.mp z with z | z
        · unfold sgb at z; split at z <;> omega
        · exact hk0 z
      by_cases q : 0 < sgb t k * facB v c k
      · exact ⟨1, Or.inl rfl, by omega⟩
      · exact ⟨-1, Or.inr rfl, by omega⟩
    obtain ⟨i, hi, hbi, hmin⟩ := min_ratio N l (fun i => s * (sgb t i * facB v c i)) ⟨k, hkN, hsk⟩
    have hsum : ∀ j ∈ cf 4, sm (fun i => (s * (sgb t i * facB v c i)) * (sgb t i * v i j)) N = 0 := by
      intro j hj
      have h5 := hf.1.2 j hj
      rw [sm_hi _ h9 (fun i hi => by rw [hfN i hi, Int.zero_mul])] at h5
      have e : sm (fun i => (s * (sgb t i * facB v c i)) * (sgb t i * v i j)) N = s * sm (fun i => facB v c i * v i j) N := by
        rw [← sm_smul]
        exact sm_ext (fun i hi => by have := sgb_sq t i; grind)
      rw [e, h5, Int.mul_zero]
    by_cases q : ∀ j, j < N → (s * (sgb t i * facB v c i)) * l j - l i * (s * (sgb t j * facB v c j)) = 0
    · refine ⟨c, c1, c2, s, hs, fun j hj hjc => ?_⟩
      have hjN := hcN j hjc
      have h5 := q j hjN
      have h6 : 0 ≤ (s * (sgb t i * facB v c i)) * l j := Int.mul_nonneg (by omega) (h2 j hjN)
      have hjs : l j ≠ 0 := by
        have := c3 j hjc
        rw [supp_tb, Bool.and_eq_true, decide_eq_true_eq, decide_eq_true_eq] at this
        exact this.2
      have h7 : 0 < l j := by have := h2 j hjN; omega
      have h8 : 0 < (s * (sgb t i * facB v c i)) * l j := Int.mul_pos hbi h7
      have h10 : 0 < l i * (s * (sgb t j * facB v c j)) := by omega
      have hli := h2 i hi
      rcases Int.lt_trichotomy (s * (sgb t j * facB v c j)) 0 with z | z | z
      · have := Int.mul_nonpos_of_nonneg_of_nonpos hli (Int.le_of_lt z)
        omega
      · rw [z, Int.mul_zero] at h10; omega
      · exact z
    · -- a smaller support
      obtain ⟨j0, hj0, hj1⟩ := not_all q
      have hli0 : l i ≠ 0 := by
        have : c.testBit i = true := by
          cases e : c.testBit i with
          | true => rfl
          | false => rw [hf.1.1 i e, Int.mul_zero, Int.mul_zero] at hbi; omega
        have := c3 i this
        rw [supp_tb, Bool.and_eq_true, decide_eq_true_eq, decide_eq_true_eq] at this
        exact this.2
      refine ih (fun j => (s * (sgb t i * facB v c i)) * l j - l i * (s * (sgb t j * facB v c j))) ?_ (fun j hj => ?_) (fun j hj => ?_) ⟨j0, hj0, hj1⟩
      · have hlt := supp_lt (fun j => (s * (sgb t i * facB v c i)) * l j - l i * (s * (sgb t j * facB v c j))) N
        have hib : (supp l N).testBit i = true := by rw [supp_tb]; simp [hi, hli0]
        have hsub : ∀ j, (supp (fun j => (s * (sgb t i * facB v c i)) * l j - l i * (s * (sgb t j * facB v c j))) N).testBit j = true → (less (supp l N) i).testBit j = true := by
          intro j hj
          rw [supp_tb, Bool.and_eq_true, decide_eq_true_eq, decide_eq_true_eq] at hj
          obtain ⟨g1, g2⟩ := hj
          rw [less_tb, supp_tb]
          have hji : i ≠ j := by
            intro z
            subst z
            apply g2
            grind
          have hlj : l j ≠ 0 := by
            intro z
            apply g2
            have : c.testBit j = false := by
              cases e : c.testBit j with
              | false => rfl
              | true =>
                have := c3 j e
                rw [supp_tb, Bool.and_eq_true, decide_eq_true_eq, decide_eq_true_eq] at this
                exact absurd z this.2
            rw [z, hf.1.1 j this]
            simp
          simp [g1, hlj, hji]
        have h5 := pc9_sub (by omega) (by have := less_lt (i := i) hsl; omega) hsub
        have h6 := pc9_less (supp l N) (by omega) i (by omega) hib
        omega
      · by_cases z : 0 < s * (sgb t j * facB v c j)
        · have := hmin j hj z
          have e : (s * (sgb t i * facB v c i)) * l j = l j * (s * (sgb t i * facB v c i)) := Int.mul_comm _ _
          omega
        · have h5 : 0 ≤ (s * (sgb t i * facB v c i)) * l j := Int.mul_nonneg (by omega) (h2 j hj)
          have h6 := Int.mul_nonpos_of_nonneg_of_nonpos (h2 i hi) (show s * (sgb t j * facB v c j) ≤ 0 by omega)
          omega
      · have e : sm (fun k => ((s * (sgb t i * facB v c i)) * l k - l i * (s * (sgb t k * facB v c k))) * (sgb t k * v k j)) N = (s * (sgb t i * facB v c i)) * sm (fun k => l k * (sgb t k * v k j)) N + (-(l i)) * sm (fun k => (s * (sgb t k * facB v c k)) * (sgb t k * v k j)) N := by
          rw [← sm_lin]
          exact sm_ext (fun k hk => by grind)
        rw [e, h3 j hj, hsum j hj]
        simp
theorem pt_ac {d N : Nat} {v : Nat → Row} (hA : Arr d N v) {t : Nat} : ptB v N t = true ↔ Ac (cf 4) v N t := by
  have hp := pow9 hA.2.2.1
  have h9 := hA.2.2.1
  have hmem : ∀ c, c ∈ ringsB v N 5 ↔ c < 2 ^ N ∧ rgB (rkV v) c N = true := by
    intro c
    constructor
    · intro h
      have := ringsB_mem h
      exact ⟨this.1, this.2.2⟩
    · rintro ⟨g1, g2⟩
      have hsz := rg_size hA g1 g2
      have hd := hA.2.1
      have key : ∀ k, pc9 c ≤ k → c ∈ ringsB v N k := by
        intro k
        induction k with
        | zero => intro z; omega
        | succ k ih =>
          intro z
          rw [ringsB, List.mem_append]
          by_cases e : pc9 c = k + 1
          · right
            unfold rnB
            rw [List.mem_filter, List.mem_range]
            exact ⟨g1, by rw [e, g2]; simp⟩
          · exact Or.inl (ih (by omega))
      exact key 5 (by omega)
  unfold ptB ptL
  rw [List.all_eq_true]
  constructor
  · intro h l l1 l2
    refine Classical.byContradiction (fun z => ?_)
    obtain ⟨i, hi, hne⟩ := not_all z
    obtain ⟨c, c1, c2, c3⟩ := str_of hA t 9 l (pc9_le _ (by have := supp_lt l N; omega)) l1 l2 ⟨i, hi, hne⟩
    have := h c ((hmem c).mpr ⟨c1, c2⟩)
    rw [(hit_iff hA c1 c2).mpr c3] at this
    cases this
  · intro h c hc
    obtain ⟨c1, c2⟩ := (hmem c).mp hc
    cases e : hitB v t c with
    | false => rfl
    | true =>
      exfalso
      obtain ⟨s, hs, h1⟩ := (hit_iff hA c1 c2).mp e
      have hC := (ring_circ h9 c1).mp c2
      have hf := (facB_ok hC (fun i j _ => hA.2.2.2.1 i j)).1
      have hfN : ∀ i, N ≤ i → facB v c i = 0 := fun i hi => hf.1.1 i (tb_hi c1 hi)
      have hsz := (rg_size hA c1 c2).2
      obtain ⟨k, hk, hkc⟩ := pcb_pos (s := c) (N := 9) (by rw [pcb_pc9 9 (by omega) c (by omega)]; omega)
      have := h (fun i => s * (sgb t i * facB v c i)) (fun i hi => by
        cases e : c.testBit i with
        | true => have := h1 i (by omega) e; omega
        | false => rw [hf.1.1 i e]; simp) (fun j hj => by
        have h5 := hf.1.2 j hj
        rw [sm_hi _ h9 (fun i hi => by rw [hfN i hi, Int.zero_mul])] at h5
        have e : sm (fun i => (s * (sgb t i * facB v c i)) * (sgb t i * v i j)) N = s * sm (fun i => facB v c i * v i j) N := by
          rw [← sm_smul]
          exact sm_ext (fun i hi => by have := sgb_sq t i; grind)
        rw [e, h5, Int.mul_zero]) k (tb_lt c1 hkc)
      have h2 := h1 k hk hkc
      omega
theorem filter_sm (p : Nat → Bool) : ∀ m, (((List.range m).filter p).length : Int) = sm (fun t => if p t = true then 1 else 0) m := by
  intro m
  induction m with
  | zero => rfl
  | succ m ih =>
    rw [sm, ← ih, filter_succ]
    cases p m <;> simp
theorem reg_NN {d N : Nat} {v : Nat → Row} (hA : Arr d N v) : ((regL v N).length : Int) = NN (cf 4) v N := by
  unfold regL NN
  rw [filter_sm]
  refine sm_ext (fun t ht => ?_)
  by_cases q : Ac (cf 4) v N t
  · rw [ind_t q, if_pos ((pt_ac hA).mpr q)]
  · rw [ind_f q, if_neg (fun z => q ((pt_ac hA).mp z))]
theorem reg_186 {d N : Nat} {v : Nat → Row} (hA : Arr d N v) : (regL v N).length ≤ 186 := by
  have h1 := reg_NN hA
  have h2 := NN_le N (cf 4) v
  have h3 := Gm_186 N (by have := hA.2.2.1; omega)
  have h4 : (cf 4).length = 4 := rfl
  rw [h4] at h2
  omega
