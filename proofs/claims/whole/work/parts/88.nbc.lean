/-! sets without broken circuits, and their functionals -/
theorem less_add : ∀ s, s < 512 → ∀ i, i < 9 → s.testBit i = true → less s i + 2 ^ i = s := by decide +kernel
theorem pcb_z (n : Nat) : pcb 0 n = 0 := by
  induction n with
  | zero => rfl
  | succ n ih => simp [pcb, ih]
theorem pcb_eq0 {s N : Nat} (hs : s < 2 ^ N) (h : pcb s N = 0) : s = 0 := by
  apply Nat.eq_of_testBit_eq
  intro i
  rw [Nat.zero_testBit]
  cases e : s.testBit i
  · rfl
  · have := pcb_less (tb_lt hs e) e
    omega
/-- no broken circuit -/
def Nb (r : Nat → Nat) (N : Nat) (L : List Nat) (b : Nat) : Prop := b < 2 ^ N ∧ r b = pcb b N ∧ ∀ c ∈ L, ¬ Sb (rst c) b
theorem rst_sb {b : Nat} (h : b < 512) : Sb (rst b) b := by
  by_cases e : b = 0
  · subst e; exact Sb.rf _
  · rw [(lwI_ok b h e).2.2.2]; exact Sb_less _ _
theorem pcb_lw {b : Nat} (h : b < 512) (h0 : b ≠ 0) : pcb b (lwI b) = 0 := by
  have h9 := (lwI_ok b h h0).2.2.1
  rw [pcb_bits (C := 0) _ (fun j hj => by rw [lwI_min b h h0 j (by omega) hj, Nat.zero_testBit]), pcb_z]
theorem circ_sub {r : Nat → Nat} {N : Nat} (hM : Mtr r N) (hN9 : N ≤ 9) : ∀ s, s < 2 ^ N → r s < pcb s N → ∃ c, Sb c s ∧ rgB r c N = true := by
  intro s
  induction s using Nat.strongRecOn with
  | _ s ih =>
    intro hs hd
    by_cases h : ∃ i, i < N ∧ s.testBit i = true ∧ r (less s i) < pcb (less s i) N
    · obtain ⟨i, hi, hb, hr⟩ := h
      obtain ⟨c, c1, c2⟩ := ih (less s i) (less_lt_self hb) (less_lt hs) hr
      exact ⟨c, c1.tr (Sb_less s i), c2⟩
    · refine ⟨s, Sb.rf s, (rgB_iff N).mpr ⟨by rw [← pcb_pc9 N (by omega) s hs]; exact hd, fun i hi hb z => h ⟨i, hi, hb, ?_⟩⟩⟩
      rw [pcb_pc9 N (by omega) _ (less_lt hs)]
      exact z
theorem nb_low {r : Nat → Nat} {N : Nat} (hM : Mtr r N) (hN9 : N ≤ 9) {L : List Nat} (hL : ∀ c, c < 2 ^ N → rgB r c N = true → c ∈ L) {b : Nat} (hb : Nb r N L b) (h0 : b ≠ 0) {x : Nat} (hx : (clB r b N).testBit x = true) : lwI b ≤ x := by
  have h512 := pow9 hN9
  obtain ⟨b1, b2, b3⟩ := hb
  obtain ⟨x1, x2⟩ := (cl_mem' hM b1).mp hx
  apply Classical.byContradiction
  intro hlt
  have hbx : b.testBit x = false := lwI_min b (by omega) h0 x (by omega) (by omega)
  have hU := or_lt b1 x1
  obtain ⟨c, c1, c2⟩ := circ_sub hM hN9 (b ||| 2 ^ x) hU (by rw [pcb_or hM x1 hbx]; omega)
  have hc := c1.lt hU
  have hcd := ((rgB_iff N).mp c2).1
  rw [← pcb_pc9 N (by omega) c hc] at hcd
  have hcx : c.testBit x = true := by
    cases e : c.testBit x
    · exfalso
      have : Sb c b := fun i hi => by
        have := c1 i hi
        rw [tb_or] at this
        by_cases q : x = i
        · rw [q, hi] at e; exact absurd e (by decide)
        · simpa [q] using this
      have := hM.sub_ind this b1 b2
      omega
    · rfl
  have hc0 : c ≠ 0 := fun z => by rw [z, Nat.zero_testBit] at hcx; exact absurd hcx (by decide)
  obtain ⟨l1, l2, l3, l4⟩ := lwI_ok c (by omega) hc0
  have hl : lwI c = x := by
    rcases Nat.lt_trichotomy (lwI c) x with q | q | q
    · exfalso
      have := c1 _ l2
      rw [tb_or, decide_eq_false (by omega), Bool.or_false] at this
      rw [lwI_min b (by omega) h0 (lwI c) l3 (by omega)] at this
      exact absurd this (by decide)
    · exact q
    · rw [lwI_min c (by omega) hc0 x (by omega) q] at hcx; exact absurd hcx (by decide)
  refine b3 c (hL c hc c2) (fun j hj => ?_)
  rw [l4, hl, less_tb] at hj
  simp at hj
  have := c1 j hj.1
  rw [tb_or, decide_eq_false hj.2, Bool.or_false] at this
  exact this
theorem nb_rst {r : Nat → Nat} {N : Nat} (hM : Mtr r N) (hN9 : N ≤ 9) {L : List Nat} (hL : ∀ c, c < 2 ^ N → rgB r c N = true → c ∈ L) {b : Nat} (hb : Nb r N L b) : Nb r N L (rst b) := by
  have h512 := pow9 hN9
  have hs := rst_sb (b := b) (by have := hb.1; omega)
  exact ⟨hs.lt hb.1, hM.sub_ind hs hb.1 hb.2.1, fun c hc z => hb.2.2 c hc (z.tr hs)⟩
theorem nb_n0 {r : Nat → Nat} {N : Nat} (hM : Mtr r N) (hN9 : N ≤ 9) {L : List Nat} (hL : ∀ c, c < 2 ^ N → rgB r c N = true → c ∈ L) {b n : Nat} (h : pcb b N = n + 1) : b ≠ 0 := fun z => by rw [z, pcb_z] at h; omega
theorem Fn_nbc {r : Nat → Nat} {N : Nat} (hM : Mtr r N) (hN9 : N ≤ 9) {L : List Nat} (hL : ∀ c, c < 2 ^ N → rgB r c N = true → c ∈ L) : ∀ (n b k : Nat), Nb r N L b → Nb r N L k → pcb b N = n → pcb k N = n → Fn r N n b k = if k = b then 1 else 0 := by
  have h512 := pow9 hN9
  intro n
  induction n with
  | zero =>
    intro b k hb hk e1 e2
    rw [pcb_eq0 hb.1 e1, pcb_eq0 hk.1 e2]
    rfl
  | succ n ih =>
    intro b k hb hk e1 e2
    have hb0 : b ≠ 0 := nb_n0 hM hN9 hL e1
    have hk0 : k ≠ 0 := nb_n0 hM hN9 hL e2
    have hb9 : b < 512 := by have := hb.1; omega
    have hk9 : k < 512 := by have := hk.1; omega
    obtain ⟨l1, l2, l3, l4⟩ := lwI_ok b hb9 hb0
    obtain ⟨m1, m2, m3, m4⟩ := lwI_ok k hk9 hk0
    rw [Fn]
    by_cases hcl : clB r k N = clB r b N
    · rw [if_pos ⟨by rw [hk.2.1, e2], e2, hcl⟩]
      have hlk : lwI k = lwI b := by
        have q1 := nb_low hM hN9 hL hb hb0 (x := lwI k) (by rw [← hcl]; exact cl_sub hM hk.1 _ m2)
        have q2 := nb_low hM hN9 hL hk hk0 (x := lwI b) (by rw [hcl]; exact cl_sub hM hb.1 _ l2)
        omega
      have hlN := tb_lt hb.1 l2
      have hkl : k.testBit (lwI b) = true := by rw [← hlk]; exact m2
      rw [sm_only _ (lwI b) N hlN (fun i hi hne => ?_)]
      · rw [if_pos hkl, ← hlk, pcb_lw hk9 hk0, ← m4, show sgn 0 = 1 from rfl, Int.one_mul]
        have q1 := pcb_less hlN l2
        have q2 := pcb_less hlN hkl
        rw [ih (rst b) (rst k) (nb_rst hM hN9 hL hb) (nb_rst hM hN9 hL hk) (by rw [l4]; omega) (by rw [m4, hlk]; omega)]
        by_cases e : k = b
        · rw [e, if_pos rfl, if_pos rfl]
        · rw [if_neg e, if_neg]
          intro z
          apply e
          have z1 := less_or m2
          have z2 := less_or l2
          rw [← m4, hlk] at z1
          rw [← l4] at z2
          exact z1.symm.trans ((congrArg (· ||| 2 ^ lwI b) z).trans z2)
      · by_cases hki : k.testBit i = true
        · rw [if_pos hki]
          have hll : (less k i).testBit (lwI b) = true := by rw [less_tb, hkl, decide_eq_false hne]; rfl
          have : Fn r N n (rst b) (less k i) = 0 := by
            cases n with
            | zero =>
              rw [Fn, if_neg]
              intro z
              rw [z, Nat.zero_testBit] at hll
              exact absurd hll (by decide)
            | succ n =>
              rw [Fn, if_neg]
              rintro ⟨_, _, z⟩
              have hrb := nb_rst hM hN9 hL hb
              have q := cl_sub hM (less_lt hk.1) _ hll
              rw [z] at q
              have q2 := ((cl_mem' hM hrb.1).mp q).2
              rw [l4, less_or l2, ← l4, hrb.2.1, hb.2.1, l4] at q2
              have := pcb_less hlN l2
              omega
          rw [this, Int.mul_zero]
        · rw [if_neg hki]
    · rw [if_neg (fun z => hcl z.2.2), if_neg]
      intro z
      exact hcl (by rw [z])
theorem sm_ne0 {r : Nat → Nat} {N : Nat} (hM : Mtr r N) (hN9 : N ≤ 9) {L : List Nat} (hL : ∀ c, c < 2 ^ N → rgB r c N = true → c ∈ L) {f : Nat → Int} {n : Nat} (h : sm f n ≠ 0) : ∃ i, i < n ∧ f i ≠ 0 := by
  apply Classical.byContradiction
  intro z
  apply h
  rw [sm_ext (g := fun _ => 0) (fun i hi => ?_), sm_zero]
  apply Classical.byContradiction
  intro q
  exact z ⟨i, hi, q⟩
theorem Fn_lt {r : Nat → Nat} {N : Nat} (hM : Mtr r N) (hN9 : N ≤ 9) {L : List Nat} (hL : ∀ c, c < 2 ^ N → rgB r c N = true → c ∈ L) : ∀ (n b k : Nat), Nb r N L b → pcb b N = n → k < 2 ^ N → Fn r N n b k ≠ 0 → b ≤ k := by
  have h512 := pow9 hN9
  intro n
  induction n with
  | zero => intro b k hb e1 _ _; rw [pcb_eq0 hb.1 e1]; exact Nat.zero_le _
  | succ n ih =>
    intro b k hb e1 hk hne
    have hb0 : b ≠ 0 := nb_n0 hM hN9 hL e1
    have hb9 : b < 512 := by have := hb.1; omega
    obtain ⟨l1, l2, l3, l4⟩ := lwI_ok b hb9 hb0
    rw [Fn] at hne
    by_cases q : r k = n + 1 ∧ pcb k N = n + 1 ∧ clB r k N = clB r b N
    · rw [if_pos q] at hne
      obtain ⟨i, hi, hz⟩ := sm_ne0 hM hN9 hL hne
      by_cases hki : k.testBit i = true
      · rw [if_pos hki] at hz
        have hlN := tb_lt hb.1 l2
        have h2 := ih (rst b) (less k i) (nb_rst hM hN9 hL hb) (by rw [l4]; have := pcb_less hlN l2; omega) (less_lt hk) (fun z => hz (by rw [z, Int.mul_zero]))
        have h3 := nb_low hM hN9 hL hb hb0 (x := i) (by rw [← q.2.2]; exact cl_sub hM hk _ hki)
        have h4 := less_add k (by omega) i (by omega) hki
        have h5 := less_add b hb9 _ l3 l2
        rw [← l4] at h5
        have h6 : 2 ^ lwI b ≤ 2 ^ i := Nat.pow_le_pow_right (by omega) h3
        omega
      · rw [if_neg hki] at hz; exact absurd rfl hz
    · rw [if_neg q] at hne; exact absurd rfl hne
