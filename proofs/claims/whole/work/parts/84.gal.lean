/-! galleries: a region that isn't the other one has a wall between them -/
/-- plane i is, on its side, a sum of the others that are not in E -/
def Cn (js : List Nat) (W : Nat → Row) (n t E i : Nat) : Prop := ∃ l : Nat → Int, (∀ k, k < n → 0 ≤ l k) ∧ (∀ k, E.testBit k = true → k ≠ i → l k = 0) ∧ 0 < l i ∧ ∀ j ∈ js, sm (fun k => (if k = i then -l k else l k) * (sgb t k * W k j)) n = 0
theorem Cn_first {js : List Nat} {W : Nat → Row} {n t i : Nat} (hi : i < n) (h : Ac js W n t) (hn : ¬ Ac js W n (t ^^^ 2 ^ i)) : Cn js W n t 0 i := by
  unfold Ac at hn
  apply Classical.byContradiction
  intro hc
  apply hn
  intro l h1 h2
  have fl : ∀ k, sgb (t ^^^ 2 ^ i) k = if k = i then - sgb t k else sgb t k := by
    intro k
    unfold sgb
    rw [Nat.testBit_xor, Nat.testBit_two_pow]
    by_cases e : k = i
    · subst e; cases t.testBit k <;> simp
    · rw [if_neg e, decide_eq_false (fun q => e q.symm)]; simp
  have e : ∀ j ∈ js, sm (fun k => (if k = i then -l k else l k) * (sgb t k * W k j)) n = 0 := by
    intro j hj
    rw [← h2 j hj]
    refine sm_ext (fun k hk => ?_)
    rw [fl k]
    by_cases q : k = i
    · rw [if_pos q, if_pos q]; grind
    · rw [if_neg q, if_neg q]
  by_cases q : 0 < l i
  · exact absurd ⟨l, h1, fun k hk => by rw [Nat.zero_testBit] at hk; exact absurd hk (by decide), q, e⟩ hc
  · have q0 : l i = 0 := by have := h1 i hi; omega
    refine h l h1 (fun j hj => ?_)
    rw [← e j hj]
    refine sm_ext (fun k hk => ?_)
    by_cases q2 : k = i
    · subst q2; rw [if_pos rfl, q0]; rfl
    · rw [if_neg q2]
/-- no two of them are multiples of one another -/
def Nop (js : List Nat) (W : Nat → Row) (n : Nat) : Prop := ∀ i k, i < n → k < n → i ≠ k → ∀ a b : Int, a ≠ 0 → ¬ ∀ j ∈ js, a * W i j + b * W k j = 0
theorem Cn_step {js : List Nat} {W : Nat → Row} {n t E i m : Nat} (hA : Ac js W n t) (hP : Nop js W n) (hi : i < n) (hm : m < n) (hne : i ≠ m) (h1 : Cn js W n t E i) (h2 : Cn js W n t E m) : Cn js W n t (E ||| 2 ^ m) i := by
  obtain ⟨l, l1, l2, l3, l4⟩ := h1
  obtain ⟨g, g1, g2, g3, g4⟩ := h2
  let C : Nat → Int := fun k => g m * (if k = i then -l k else l k) + l m * (if k = m then -g k else g k)
  have hC : ∀ j ∈ js, sm (fun k => C k * (sgb t k * W k j)) n = 0 := by
    intro j hj
    rw [sm_ext (g := fun k => g m * ((if k = i then -l k else l k) * (sgb t k * W k j)) + l m * ((if k = m then -g k else g k) * (sgb t k * W k j))) (fun k _ => by show (_ + _) * _ = _; grind), sm_lin, l4 j hj, g4 j hj]
    omega
  have lm := l1 m hm
  have gi := g1 i hi
  have hoth : ∀ k, k ≠ i → k ≠ m → C k = g m * l k + l m * g k := fun k a b => by
    show _ * (if k = i then -l k else l k) + _ * (if k = m then -g k else g k) = _
    rw [if_neg a, if_neg b]
  have hCm : C m = 0 := by
    show _ * (if m = i then -l m else l m) + _ * (if m = m then -g m else g m) = 0
    rw [if_neg (fun e => hne e.symm), if_pos rfl]
    grind
  have hCi : C i = l m * g i - g m * l i := by
    show _ * (if i = i then -l i else l i) + _ * (if i = m then -g i else g i) = _
    rw [if_pos rfl, if_neg hne]
    grind
  have hnn : ∀ k, k < n → k ≠ i → k ≠ m → 0 ≤ C k := fun k hk a b => by
    rw [hoth k a b]
    exact Int.add_nonneg (Int.mul_nonneg (by omega) (l1 k hk)) (Int.mul_nonneg lm (g1 k hk))
  have pos : 0 < g m * l i - l m * g i := by
    apply Classical.byContradiction
    intro hneg
    have z := hA C (fun k hk => by
      by_cases a : k = i
      · subst a; rw [hCi]; omega
      · by_cases b : k = m
        · subst b; rw [hCm]; exact Int.le_refl _
        · exact hnn k hk a b) hC
    have zi := z i hi
    rw [hCi] at zi
    have p1 : 0 < g m * l i := Int.mul_pos g3 l3
    have hl0 : l m ≠ 0 := fun e => by rw [e, Int.zero_mul] at zi; omega
    have lk : ∀ k, k < n → k ≠ i → k ≠ m → l k = 0 := fun k hk a b => by
      have q := z k hk
      rw [hoth k a b] at q
      have q1 := Int.mul_nonneg (Int.le_of_lt g3) (l1 k hk)
      have q2 := Int.mul_nonneg lm (g1 k hk)
      have q3 : g m * l k = 0 := by omega
      rcases Int.mul_eq_zero.mp q3 with e | e
      · omega
      · exact e
    have s1 : ∀ x, sgb t x = 1 ∨ sgb t x = -1 := fun x => by unfold sgb; split <;> simp
    refine hP i m hi hm hne (-(l i * sgb t i)) (l m * sgb t m) (fun e => ?_) (fun j hj => ?_)
    · rcases s1 i with q | q <;> rw [q] at e <;> omega
    · have := l4 j hj
      rw [sm_two _ (fun _ => 0) i m hne n hi hm (fun k hk a b => by rw [if_neg a, lk k hk a b]; exact Int.zero_mul _), sm_zero] at this
      rw [if_pos rfl, if_neg (fun e => hne e.symm)] at this
      grind
  refine ⟨fun k => if k = i then g m * l i - l m * g i else C k, fun k hk => ?_, fun k hk hki => ?_, ?_, fun j hj => ?_⟩
  · show 0 ≤ if k = i then _ else _
    by_cases a : k = i
    · rw [if_pos a]; omega
    · rw [if_neg a]
      by_cases b : k = m
      · subst b; rw [hCm]; exact Int.le_refl _
      · exact hnn k hk a b
  · show (if k = i then _ else C k) = 0
    rw [if_neg hki]
    rw [tb_or] at hk
    by_cases b : k = m
    · subst b; exact hCm
    · rw [decide_eq_false (fun e => b e.symm), Bool.or_false] at hk
      rw [hoth k hki b, l2 k hk hki, g2 k hk b]
      omega
  · show 0 < if i = i then _ else _
    rw [if_pos rfl]; exact pos
  · rw [← hC j hj]
    refine sm_ext (fun k hk => ?_)
    show (if k = i then -(if k = i then _ else C k) else (if k = i then _ else C k)) * _ = C k * _
    by_cases a : k = i
    · rw [if_pos a, if_pos a, a, hCi]; congr 1; omega
    · rw [if_neg a, if_neg a]
theorem gal_ex {js : List Nat} {W : Nat → Row} {n s t : Nat} (hP : Nop js W n) (hs : s < 2 ^ n) (ht : t < 2 ^ n) (hn9 : n ≤ 9) (hA : Ac js W n s) (hB : Ac js W n t) (hne : s ≠ t) : ∃ i, i < n ∧ (s ^^^ t).testBit i = true ∧ Ac js W n (s ^^^ 2 ^ i) := by
  apply Classical.byContradiction
  intro hno
  have hT : s ^^^ t < 2 ^ n := Nat.xor_lt_two_pow hs ht
  have h0 : ∀ i, (s ^^^ t).testBit i = true → Cn js W n s 0 i := fun i hi => Cn_first (tb_lt hT hi) hA (fun q => hno ⟨i, tb_lt hT hi, hi, q⟩)
  have hM : Mtr (rkV W) n := mtr_V W hn9
  have key : ∀ i, (s ^^^ t).testBit i = true → Cn js W n s (s ^^^ t) i := hM.grow (s := 0) (t := s ^^^ t) (fun i h => by rw [Nat.zero_testBit] at h; exact absurd h (by decide)) hT (fun E => ∀ i, (s ^^^ t).testBit i = true → Cn js W n s E i) h0 (fun u m _ _ hm _ h i hi => by
    by_cases e : i = m
    · subst e
      obtain ⟨l, l1, l2, l3, l4⟩ := h i hi
      refine ⟨l, l1, fun k hk hki => l2 k ?_ hki, l3, l4⟩
      rw [tb_or, decide_eq_false (fun e => hki e.symm), Bool.or_false] at hk
      exact hk
    · exact Cn_step hA hP (tb_lt hT hi) (tb_lt hT hm) e (h i hi) (h m hm))
  obtain ⟨i, hi⟩ : ∃ i, (s ^^^ t).testBit i = true := by
    apply Classical.byContradiction
    intro z
    apply hne
    apply Nat.eq_of_testBit_eq
    intro i
    have : (s ^^^ t).testBit i = false := by
      cases q : (s ^^^ t).testBit i
      · rfl
      · exact absurd ⟨i, q⟩ z
    rw [Nat.testBit_xor] at this
    cases q1 : s.testBit i <;> cases q2 : t.testBit i <;> simp [q1, q2] at this ⊢
  obtain ⟨l, l1, l2, l3, l4⟩ := key i hi
  have := hB l l1 (fun j hj => by
    rw [← l4 j hj]
    refine sm_ext (fun k hk => ?_)
    by_cases a : k = i
    · subst a
      rw [if_pos rfl]
      rw [Nat.testBit_xor] at hi
      unfold sgb
      cases q1 : s.testBit k <;> cases q2 : t.testBit k <;> simp [q1, q2] at hi ⊢ <;> grind
    · rw [if_neg a]
      cases q : (s ^^^ t).testBit k
      · rw [Nat.testBit_xor] at q
        unfold sgb
        cases q1 : s.testBit k <;> cases q2 : t.testBit k <;> simp [q1, q2] at q ⊢
      · rw [l2 k q a]; simp) i (tb_lt hT hi)
  omega
theorem arr_nop {d N : Nat} {v : Nat → Row} (hA : Arr d N v) : Nop (cf 4) v N := by
  intro i k hi hk hik a b ha h
  have hN := hA.2.2.1
  have hp := or_lt (pow_ltN hi) hk
  have h512 := pow9 hN
  have h1 := hA.2.2.2.2.2.2 (2 ^ i ||| 2 ^ k) hp (by rw [pc9_two i (by omega) k (by omega) hik]; omega)
  have hD : Dp (cf 4) 9 (2 ^ i ||| 2 ^ k) v (fun t => 1 * (if t = i then a else 0) + 1 * (if t = k then b else 0)) := ⟨fun t ht => by
    rw [tb_or, Nat.testBit_two_pow] at ht
    have e1 : t ≠ i := fun e => by subst e; simp at ht
    have e2 : t ≠ k := fun e => by subst e; simp at ht
    simp [e1, e2], fun j hj => by
    rw [sm_ext (g := fun t => 1 * ((if t = i then a else 0) * v t j) + 1 * ((if t = k then b else 0) * v t j)) (fun t _ => by grind), sm_lin, sm_one v i _ j (by omega), sm_one v k _ j (by omega)]
    have := h j hj
    omega⟩
  have h2 := hD.rank (show i < 9 by omega) (by
    simp only [if_true, if_neg hik]
    omega)
  rw [pcb_pc9 9 (by omega) _ (by omega)] at h2
  unfold rkV at h1
  omega
/-- a region that isn't f has one that is nearer to f by one -/
theorem near {d N : Nat} {v : Nat → Row} (hA : Arr d N v) {r f : Nat} (hr : r < 2 ^ N) (hf : f < 2 ^ N) (h1 : ptB v N r = true) (h2 : ptB v N f = true) (hne : r ≠ f) : ∃ i, i < N ∧ (f ^^^ r).testBit i = true ∧ ptB v N (r ^^^ 2 ^ i) = true := by
  obtain ⟨i, g1, g2, g3⟩ := gal_ex (arr_nop hA) hr hf hA.2.2.1 ((pt_ac hA).mp h1) ((pt_ac hA).mp h2) hne
  exact ⟨i, g1, by rw [Nat.xor_comm]; exact g2, (pt_ac hA).mpr g3⟩
