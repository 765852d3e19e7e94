/-! the functional of a base set -/
theorem lwI_min : ∀ c, c < 512 → c ≠ 0 → ∀ j, j < 9 → j < lwI c → c.testBit j = false := by decide +kernel
noncomputable def Fn (r : Nat → Nat) (N : Nat) : Nat → Nat → Nat → Int
  | 0, _, s => if s = 0 then 1 else 0
  | n + 1, b, s => if r s = n + 1 ∧ pcb s N = n + 1 ∧ clB r s N = clB r b N then sm (fun i => if s.testBit i = true then sgn (pcb s i) * Fn r N n (rst b) (less s i) else 0) N else 0
theorem pcb_less_lo {s i : Nat} : ∀ j, j ≤ i → pcb (less s i) j = pcb s j := by
  intro j hj
  exact pcb_bits j (fun k hk => by rw [less_tb, decide_eq_false (by omega)]; simp)
theorem less_comm (s i j : Nat) : less (less s i) j = less (less s j) i := by
  apply Nat.eq_of_testBit_eq
  intro k
  rw [less_tb, less_tb, less_tb, less_tb, Bool.and_assoc, Bool.and_assoc, Bool.and_comm (!decide (i = k))]
theorem Sb_less (s i : Nat) : Sb (less s i) s := fun j hj => by rw [less_tb] at hj; simp at hj; exact hj.1
theorem sm_anti (A : Nat → Nat → Int) (N : Nat) (h : ∀ i j, i < N → j < N → A i j = -A j i) : sm (fun i => sm (fun j => A i j) N) N = 0 := by
  have h1 := sm_swap A N N
  have h2 : sm (fun j => sm (fun i => A i j) N) N = -1 * sm (fun i => sm (fun j => A i j) N) N := by
    rw [← sm_smul]
    refine sm_ext (fun j hj => ?_)
    rw [← sm_smul]
    refine sm_ext (fun i hi => ?_)
    rw [h i j hi hj]
    omega
  omega
theorem Fn_bd {r : Nat → Nat} {N : Nat} (hM : Mtr r N) (h1 : ∀ s, s < 2 ^ N → pcb s N = 1 → r s = 1) : ∀ (n b U : Nat), U < 2 ^ N → pcb U N = n + 1 → r U < n + 1 → sm (fun i => if U.testBit i = true then sgn (pcb U i) * Fn r N n b (less U i) else 0) N = 0 := by
  intro n
  induction n with
  | zero => intro b U hU hp hr; have := h1 U hU hp; omega
  | succ n ih =>
    intro b U hU hp hr
    have hcl : ∀ i, i < N → U.testBit i = true → r (less U i) = n + 1 → clB r (less U i) N = clB r U N := fun i hi hb q => by
      have := hM.mono (Sb_less U i) hU
      exact (cl_uniq hM hU (Sb_less U i) (by omega)).symm
    have hpl : ∀ i, i < N → U.testBit i = true → pcb (less U i) N = n + 1 := fun i hi hb => by
      have := pcb_less hi hb
      omega
    by_cases hc : clB r U N = clB r b N
    · have e1 : ∀ i, i < N → U.testBit i = true → Fn r N (n + 1) b (less U i) = sm (fun j => if (less U i).testBit j = true then sgn (pcb (less U i) j) * Fn r N n (rst b) (less (less U i) j) else 0) N := by
        intro i hi hb
        have hl := (Sb_less U i).lt hU
        rw [Fn]
        by_cases q : r (less U i) = n + 1 ∧ pcb (less U i) N = n + 1 ∧ clB r (less U i) N = clB r b N
        · rw [if_pos q]
        · rw [if_neg q]
          have q2 : r (less U i) ≠ n + 1 := fun z => q ⟨z, hpl i hi hb, (hcl i hi hb z).trans hc⟩
          have q3 := hM.le hl
          rw [hpl i hi hb] at q3
          exact (ih (rst b) (less U i) hl (hpl i hi hb) (by omega)).symm
      let A : Nat → Nat → Int := fun i j => if U.testBit i = true ∧ U.testBit j = true ∧ i ≠ j then sgn (pcb U i) * (sgn (pcb (less U i) j) * Fn r N n (rst b) (less (less U i) j)) else 0
      have e2 : sm (fun i => if U.testBit i = true then sgn (pcb U i) * Fn r N (n + 1) b (less U i) else 0) N = sm (fun i => sm (fun j => A i j) N) N := by
        refine sm_ext (fun i hi => ?_)
        by_cases hb : U.testBit i = true
        · rw [if_pos hb, e1 i hi hb, ← sm_smul]
          refine sm_ext (fun j hj => ?_)
          show _ = if _ then _ else _
          rw [less_tb]
          by_cases q : U.testBit j = true ∧ i ≠ j
          · rw [if_pos (by rw [q.1, decide_eq_false q.2]; rfl), if_pos ⟨hb, q⟩]
          · rw [if_neg (fun z => q (by simp at z; exact z)), if_neg (fun z => q z.2), Int.mul_zero]
        · rw [if_neg hb, sm_ext (g := fun _ => 0) (fun j hj => if_neg (fun z => hb z.1)), sm_zero]
      rw [e2]
      refine sm_anti A N ?_
      have half : ∀ i j, i < j → j < N → A i j = -A j i := by
        intro i j hij hj
        show (if _ then _ else _) = -(if _ then _ else _)
        by_cases q : U.testBit i = true ∧ U.testBit j = true
        · rw [if_pos ⟨q.1, q.2, by omega⟩, if_pos ⟨q.2, q.1, by omega⟩, less_comm U j i]
          rw [pcb_less_lo i (show i ≤ j by omega)]
          have := pcb_less hij q.1
          rw [← this, sgn_succ]
          grind
        · rw [if_neg (fun z => q ⟨z.1, z.2.1⟩), if_neg (fun z => q ⟨z.2.1, z.1⟩)]; rfl
      intro i j hi hj
      rcases Nat.lt_trichotomy i j with q | q | q
      · exact half i j q hj
      · subst q
        show (if _ then _ else _) = -(if _ then _ else _)
        rw [if_neg (fun z => z.2.2 rfl)]; rfl
      · have := half j i q hi
        omega
    · rw [sm_ext (g := fun _ => 0) (fun i hi => ?_), sm_zero]
      by_cases hb : U.testBit i = true
      · rw [if_pos hb, Fn, if_neg, Int.mul_zero]
        rintro ⟨q1, _, q3⟩
        exact hc ((hcl i hi hb q1).symm.trans q3)
      · rw [if_neg hb]
theorem Fn_dep {r : Nat → Nat} {N : Nat} (hM : Mtr r N) (h1 : ∀ s, s < 2 ^ N → pcb s N = 1 → r s = 1) {n b s : Nat} (hs : s < 2 ^ N) (h : r s < pcb s N) : Fn r N n b s = 0 := by
  cases n with
  | zero =>
    rw [Fn, if_neg]
    intro e
    have := hM.le hs
    have h2 : pcb s N = r s + (pcb s N - r s) := by omega
    have h0 : ∀ n, pcb 0 n = 0 := by
      intro n
      induction n with
      | zero => rfl
      | succ n ih => simp [pcb, ih]
    rw [e, h0] at h
    omega
  | succ n => rw [Fn, if_neg]; rintro ⟨q1, q2, _⟩; omega
theorem Fn_size {r : Nat → Nat} {N : Nat} (hM : Mtr r N) (h1 : ∀ s, s < 2 ^ N → pcb s N = 1 → r s = 1) {n b s : Nat} (h : pcb s N ≠ n) : Fn r N n b s = 0 := by
  cases n with
  | zero =>
    rw [Fn, if_neg]
    intro e
    have h0 : ∀ n, pcb 0 n = 0 := by
      intro n
      induction n with
      | zero => rfl
      | succ n ih => simp [pcb, ih]
    exact h (by rw [e, h0])
  | succ n => rw [Fn, if_neg]; rintro ⟨_, q2, _⟩; exact h q2
/-- the relation of a circuit -/
theorem Fn_rel {r : Nat → Nat} {N : Nat} (hM : Mtr r N) (h1 : ∀ s, s < 2 ^ N → pcb s N = 1 → r s = 1) (hN9 : N ≤ 9) {n b t c : Nat} (ht : t < 2 ^ N) (hc : c < 2 ^ N) (hc0 : c ≠ 0) (hti : r t = pcb t N) (hcd : r c < pcb c N) (hsb : Sb (rst c) t) : Fn r N n b t = sm (fun i => if (rst c).testBit i = true then sgn (pcb t i + pcb t (lwI c)) * Fn r N n b ((t ^^^ 2 ^ i) ||| 2 ^ lwI c) else 0) N := by
  have h512 := pow9 hN9
  obtain ⟨l1, l2, l3, l4⟩ := lwI_ok c (by omega) hc0
  have hlN := tb_lt hc l2
  have hlt : t.testBit (lwI c) = false := by
    cases e : t.testBit (lwI c)
    · rfl
    · exfalso
      have : Sb c t := fun i hi => by
        by_cases q : lwI c = i
        · rw [← q]; exact e
        · exact hsb i (by rw [l4, less_tb, hi, decide_eq_false q]; rfl)
      have := hM.sub_ind this ht hti
      omega
  by_cases hsz : pcb t N = n
  · have hU : t ||| 2 ^ lwI c < 2 ^ N := or_lt ht hlN
    have hcU : Sb c (t ||| 2 ^ lwI c) := fun i hi => by
      rw [tb_or]
      by_cases q : lwI c = i
      · simp [q]
      · rw [hsb i (by rw [l4, less_tb, hi, decide_eq_false q]; rfl)]; rfl
    have hUp : pcb (t ||| 2 ^ lwI c) N = n + 1 := by rw [pcb_or hM hlN hlt, hsz]
    have hUr : r (t ||| 2 ^ lwI c) < n + 1 := by
      have := hM.le hU
      rw [hUp] at this
      by_cases q : r (t ||| 2 ^ lwI c) = n + 1
      · have := hM.sub_ind hcU hU (by omega)
        omega
      · omega
    have key := Fn_bd hM h1 n b _ hU hUp hUr
    have hlU : less (t ||| 2 ^ lwI c) (lwI c) = t := by
      apply Nat.eq_of_testBit_eq
      intro j
      rw [less_tb, tb_or]
      by_cases e : lwI c = j
      · subst e; rw [hlt]; simp
      · simp [e]
    have hp0 : pcb (t ||| 2 ^ lwI c) (lwI c) = pcb t (lwI c) := pcb_bits _ (fun k hk => by rw [tb_or, decide_eq_false (by omega)]; simp)
    have hpi : ∀ i, lwI c < i → pcb (t ||| 2 ^ lwI c) i = pcb t i + 1 := fun i hi => by
      have := pcb_less (s := t ||| 2 ^ lwI c) hi (by rw [tb_or]; simp)
      rw [hlU] at this
      exact this.symm
    have hmin : ∀ i, (rst c).testBit i = true → lwI c < i := fun i hi => by
      rw [l4, less_tb] at hi
      simp at hi
      have hiN := tb_lt hc hi.1
      rcases Nat.lt_trichotomy i (lwI c) with q | q | q
      · rw [lwI_min c (by omega) hc0 i (by omega) q] at hi; exact absurd hi.1 (by decide)
      · exact absurd q.symm hi.2
      · exact q
    -- take the term of the lowest apart
    have e1 : sm (fun i => if (t ||| 2 ^ lwI c).testBit i = true then sgn (pcb (t ||| 2 ^ lwI c) i) * Fn r N n b (less (t ||| 2 ^ lwI c) i) else 0) N = sgn (pcb t (lwI c)) * Fn r N n b t + sm (fun i => if (rst c).testBit i = true then -(sgn (pcb t i) * Fn r N n b ((t ^^^ 2 ^ i) ||| 2 ^ lwI c)) else 0) N := by
      have e2 : sgn (pcb t (lwI c)) * Fn r N n b t = sm (fun i => (if i = lwI c then 1 else 0) * (sgn (pcb t (lwI c)) * Fn r N n b t)) N := (sm_pick (fun _ => sgn (pcb t (lwI c)) * Fn r N n b t) (lwI c) N hlN).symm
      rw [e2, ← sm_add]
      refine sm_ext (fun i hi => ?_)
      by_cases q : i = lwI c
      · subst q
        have q2 : (rst c).testBit (lwI c) = false := by rw [l4, less_tb]; simp
        rw [if_pos (by rw [tb_or]; simp), hlU, hp0, if_pos rfl, if_neg (by rw [q2]; decide)]
        omega
      · rw [if_neg q, Int.zero_mul, Int.zero_add]
        by_cases q2 : (rst c).testBit i = true
        · have q3 := hmin i q2
          have q4 := hsb i q2
          rw [if_pos (by rw [tb_or, q4]; rfl), if_pos q2, hpi i q3, sgn_succ]
          rw [show less (t ||| 2 ^ lwI c) i = (t ^^^ 2 ^ i) ||| 2 ^ lwI c from by
            rw [xor_less q4]
            apply Nat.eq_of_testBit_eq
            intro j
            rw [less_tb, tb_or, tb_or, less_tb]
            by_cases z : lwI c = j
            · subst z; simp; exact q
            · simp [z]]
          grind
        · rw [if_neg q2]
          by_cases q5 : (t ||| 2 ^ lwI c).testBit i = true
          · rw [if_pos q5, Fn_dep hM h1 ((Sb_less _ i).lt hU), Int.mul_zero]
            have hcl : Sb c (less (t ||| 2 ^ lwI c) i) := fun j hj => by
              rw [less_tb, hcU j hj]
              have : i ≠ j := fun z => by
                subst z
                exact q2 (by rw [l4, less_tb, hj, decide_eq_false (fun z => q z.symm)]; rfl)
              simp [this]
            by_cases z : r (less (t ||| 2 ^ lwI c) i) = pcb (less (t ||| 2 ^ lwI c) i) N
            · have := hM.sub_ind hcl ((Sb_less _ i).lt hU) z
              omega
            · have := hM.le ((Sb_less (t ||| 2 ^ lwI c) i).lt hU)
              omega
          · rw [if_neg q5]
    rw [e1] at key
    have s1 : sgn (pcb t (lwI c)) * sgn (pcb t (lwI c)) = 1 := by rcases sgn_pm (pcb t (lwI c)) with q | q <;> rw [q] <;> rfl
    have e3 : sm (fun i => if (rst c).testBit i = true then sgn (pcb t i + pcb t (lwI c)) * Fn r N n b ((t ^^^ 2 ^ i) ||| 2 ^ lwI c) else 0) N = (-1 * sgn (pcb t (lwI c))) * sm (fun i => if (rst c).testBit i = true then -(sgn (pcb t i) * Fn r N n b ((t ^^^ 2 ^ i) ||| 2 ^ lwI c)) else 0) N := by
      rw [← sm_smul]
      refine sm_ext (fun i hi => ?_)
      by_cases q : (rst c).testBit i = true
      · rw [if_pos q, if_pos q, sgn_mul]; grind
      · rw [if_neg q, if_neg q, Int.mul_zero]
    rw [e3]
    generalize sm (fun i => if (rst c).testBit i = true then -(sgn (pcb t i) * Fn r N n b ((t ^^^ 2 ^ i) ||| 2 ^ lwI c)) else 0) N = z at key ⊢
    generalize Fn r N n b t = y at key ⊢
    generalize sgn (pcb t (lwI c)) = x at key s1 ⊢
    have hz : z = -(x * y) := by omega
    rw [hz]
    calc y = 1 * y := (Int.one_mul y).symm
      _ = x * x * y := by rw [s1]
      _ = -1 * x * -(x * y) := by grind
  · rw [Fn_size hM h1 hsz, sm_ext (g := fun _ => 0) (fun i hi => ?_), sm_zero]
    by_cases q : (rst c).testBit i = true
    · have q4 := hsb i q
      have hne : i ≠ lwI c := fun z => by rw [z, hlt] at q4; exact absurd q4 (by decide)
      rw [if_pos q, Fn_size hM h1 ?_, Int.mul_zero]
      rw [xor_less q4, pcb_or hM hlN (by rw [less_tb, hlt]; rfl)]
      have := pcb_less hi q4
      omega
    · rw [if_neg q]
