/-! MATROIDS: closures; sign (Whitney) -/
def Sb (s t : Nat) : Prop := ∀ i, s.testBit i = true → t.testBit i = true
theorem Sb.rf (s : Nat) : Sb s s := fun _ h => h
theorem Sb.tr {s t u : Nat} (h : Sb s t) (g : Sb t u) : Sb s u := fun i hi => g i (h i hi)
theorem Sb.anti {s t : Nat} (h : Sb s t) (g : Sb t s) : s = t := by
  apply Nat.eq_of_testBit_eq
  intro i
  cases e : s.testBit i
  · cases e2 : t.testBit i
    · rfl
    · rw [g i e2] at e; exact absurd e (by decide)
  · exact (h i e).symm
theorem Sb_and {s t : Nat} : s &&& t = s ↔ Sb s t := ⟨fun h i hi => and_sub h i hi, fun h => sub_and h⟩
theorem Sb_xor {s t : Nat} : s ^^^ (s &&& t) = 0 ↔ Sb s t := sub_xor.trans Sb_and
theorem Sb.le {s t : Nat} (h : Sb s t) : s ≤ t := by
  rw [← Sb_and.mpr h]
  exact Nat.and_le_right
theorem Sb.lt {s t n : Nat} (h : Sb s t) (ht : t < n) : s < n := Nat.lt_of_le_of_lt h.le ht
theorem Sb_or (s i : Nat) : Sb s (s ||| 2 ^ i) := fun j hj => by rw [tb_or, hj]; rfl
theorem or_lt {s i N : Nat} (hs : s < 2 ^ N) (hi : i < N) : s ||| 2 ^ i < 2 ^ N := Nat.or_lt_two_pow hs (Nat.pow_lt_pow_right (by omega) hi)
theorem or_mem {s i : Nat} (h : s.testBit i = true) : s ||| 2 ^ i = s := by
  apply Nat.eq_of_testBit_eq
  intro j
  rw [tb_or]
  by_cases e : i = j
  · subst e; rw [h]; rfl
  · simp [e]
theorem Sb_or_le {s t i : Nat} (h : Sb s t) (hi : t.testBit i = true) : Sb (s ||| 2 ^ i) t := by
  intro j hj
  rw [tb_or] at hj
  by_cases e : i = j
  · subst e; exact hi
  · simp only [e, decide_false, Bool.or_false] at hj
    exact h j hj
theorem Sb_or_or {s t i : Nat} (h : Sb s t) : Sb (s ||| 2 ^ i) (t ||| 2 ^ i) := Sb_or_le (h.tr (Sb_or t i)) (by rw [tb_or]; simp)
/-- a rank -/
def Mtr (r : Nat → Nat) (N : Nat) : Prop := r 0 = 0 ∧ (∀ s i, s < 2 ^ N → i < N → r (s ||| 2 ^ i) = r s ∨ r (s ||| 2 ^ i) = r s + 1) ∧ ∀ s t i, Sb s t → t < 2 ^ N → i < N → r (s ||| 2 ^ i) = r s → r (t ||| 2 ^ i) = r t
theorem mtr_q {q : Int} (hq : Dom q) (js : List Nat) (v : Nat → Row) {N : Nat} (hN : N ≤ 9) : Mtr (fun s => rkC q js (rowsB v s 9)) N := by
  have e : ∀ s p, p < N → ∀ x, (x ∈ rowsB v (s ||| 2 ^ p) 9 → x ∈ v p :: rowsB v s 9) ∧ (x ∈ v p :: rowsB v s 9 → x ∈ rowsB v (s ||| 2 ^ p) 9) := by
    intro s p hp x
    constructor
    · intro hx
      obtain ⟨a, h1, h2, rfl⟩ := rowsB_mem.mp hx
      rw [tb_or] at h2
      by_cases e : p = a
      · subst e; exact List.mem_cons_self
      · simp only [e, decide_false, Bool.or_false] at h2
        exact List.mem_cons_of_mem _ (rowsB_mem.mpr ⟨a, h1, h2, rfl⟩)
    · intro hx
      rcases List.mem_cons.mp hx with rfl | hx
      · exact rowsB_mem.mpr ⟨p, by omega, by rw [tb_or]; simp, rfl⟩
      · obtain ⟨a, h1, h2, rfl⟩ := rowsB_mem.mp hx
        exact rowsB_mem.mpr ⟨a, h1, by rw [tb_or, h2]; rfl, rfl⟩
  have e1 : ∀ s p, p < N → rkC q js (rowsB v (s ||| 2 ^ p) 9) = rkC q js (v p :: rowsB v s 9) := fun s p hp => rkC_eq hq (fun x hx => Sp.mem hq js ((e s p hp x).1 hx)) (fun x hx => Sp.mem hq js ((e s p hp x).2 hx))
  have e2 : ∀ s p, Sp q js (rowsB v s 9) (v p) → rkC q js (v p :: rowsB v s 9) = rkC q js (rowsB v s 9) := fun s p h => rkC_eq hq (fun x hx => by
      rcases List.mem_cons.mp hx with rfl | hx
      · exact h
      · exact Sp.mem hq js hx) (fun x hx => Sp.mem hq js (List.mem_cons_of_mem _ hx))
  refine ⟨?_, ?_, ?_⟩
  · have h := rkC_len hq js (rowsB v 0 9)
    rw [rowsB_pcb] at h
    have : pcb 0 9 = 0 := by decide
    show rkC q js (rowsB v 0 9) = 0
    omega
  · intro s i hs hi
    show rkC q js (rowsB v (s ||| 2 ^ i) 9) = _ ∨ _
    rw [e1 s i hi]
    by_cases h : Sp q js (rowsB v s 9) (v i)
    · exact Or.inl (e2 s i h)
    · exact Or.inr ((e1 s i hi).trans (rkC_cons hq js _ _ h))
  · intro s t i hst ht hi h
    have h : rkC q js (rowsB v (s ||| 2 ^ i) 9) = rkC q js (rowsB v s 9) := h
    show rkC q js (rowsB v (t ||| 2 ^ i) 9) = rkC q js (rowsB v t 9)
    rw [e1 s i hi] at h
    rw [e1 t i hi]
    apply e2
    by_cases h2 : Sp q js (rowsB v s 9) (v i)
    · refine Sp.sub hq (fun y hy => ?_) h2
      obtain ⟨a, g1, g2, rfl⟩ := rowsB_mem.mp hy
      exact rowsB_mem.mpr ⟨a, g1, hst a g2, rfl⟩
    · rw [rkC_cons hq js _ _ h2] at h
      omega
theorem mtr_V (v : Nat → Row) {N : Nat} (hN : N ≤ 9) : Mtr (rkV v) N := mtr_q dom0 (cf 4) v hN
/-- adding bits one by one -/
theorem Mtr.grow {r : Nat → Nat} {N : Nat} (hM : Mtr r N) {s t : Nat} (hst : Sb s t) (ht : t < 2 ^ N) (P : Nat → Prop) (h0 : P s) (hs : ∀ u i, Sb s u → Sb u t → t.testBit i = true → u.testBit i = false → P u → P (u ||| 2 ^ i)) : P t := by
  have key : ∀ n, n ≤ N → P (s ||| (t % 2 ^ n)) := by
    intro n
    induction n with
    | zero => intro _; rw [Nat.pow_zero, Nat.mod_one, Nat.or_zero]; exact h0
    | succ n ih =>
      intro hn
      have g := ih (by omega)
      have tb : ∀ m i, (s ||| (t % 2 ^ m)).testBit i = (s.testBit i || (decide (i < m) && t.testBit i)) := by
        intro m i; rw [Nat.testBit_or, Nat.testBit_mod_two_pow]
      by_cases e : t.testBit n = true ∧ s.testBit n = false
      · have := hs (s ||| (t % 2 ^ n)) n (fun i hi => by rw [tb, hi]; rfl) (fun i hi => by
          rw [tb] at hi
          cases e2 : s.testBit i
          · rw [e2] at hi; simp at hi; exact hi.2
          · exact hst i e2) e.1 (by rw [tb, e.2]; simp) g
        have e3 : (s ||| (t % 2 ^ n)) ||| 2 ^ n = s ||| (t % 2 ^ (n + 1)) := by
          apply Nat.eq_of_testBit_eq
          intro i
          rw [tb_or, tb, tb]
          by_cases q : n = i
          · subst q; simp [e.1]
          · have : decide (i < n + 1) = decide (i < n) := by apply decide_eq_decide.mpr; omega
            simp [q, this]
        rw [← e3]; exact this
      · have e3 : s ||| (t % 2 ^ (n + 1)) = s ||| (t % 2 ^ n) := by
          apply Nat.eq_of_testBit_eq
          intro i
          rw [tb, tb]
          by_cases q : i = n
          · subst q
            cases e4 : t.testBit i
            · simp
            · cases e5 : s.testBit i
              · exact absurd ⟨e4, e5⟩ e
              · rfl
          · have : decide (i < n + 1) = decide (i < n) := by apply decide_eq_decide.mpr; omega
            rw [this]
        rw [e3]; exact g
  have h := key N (Nat.le_refl _)
  rw [Nat.mod_eq_of_lt ht] at h
  rwa [show s ||| t = t from by
    apply Nat.eq_of_testBit_eq
    intro i
    rw [Nat.testBit_or]
    cases e : s.testBit i
    · rfl
    · rw [hst i e]; rfl] at h
theorem Mtr.mono {r : Nat → Nat} {N : Nat} (hM : Mtr r N) {s t : Nat} (hst : Sb s t) (ht : t < 2 ^ N) : r s ≤ r t := hM.grow hst ht (fun u => r s ≤ r u) (Nat.le_refl _) (fun u i h1 h2 h3 _ h => by
  rcases hM.2.1 u i (h2.lt ht) (tb_lt ht h3) with e | e <;> omega)
theorem clB_tb {r : Nat → Nat} {N : Nat} (hM : Mtr r N) (s : Nat) : ∀ n i, (clB r s n).testBit i = (s.testBit i || (decide (i < n) && decide (r (s ||| 2 ^ i) = r s))) := by
  intro n
  induction n with
  | zero => intro i; simp [clB]
  | succ n ih =>
    intro i
    rw [clB, Nat.testBit_or, ih]
    by_cases e : i = n
    · subst e
      by_cases q : r (s ||| 2 ^ i) = r s
      · rw [if_pos q, Nat.testBit_two_pow]; simp [q]
      · rw [if_neg q]; simp [q]
    · have : decide (i < n + 1) = decide (i < n) := by apply decide_eq_decide.mpr; omega
      rw [this]
      have : (if r (s ||| 2 ^ n) = r s then 2 ^ n else 0).testBit i = false := by
        split
        · rw [Nat.testBit_two_pow]; simp; omega
        · simp
      rw [this, Bool.or_false]
theorem cl_mem' {r : Nat → Nat} {N : Nat} (hM : Mtr r N) {s i : Nat} (hs : s < 2 ^ N) : (clB r s N).testBit i = true ↔ i < N ∧ r (s ||| 2 ^ i) = r s := by
  rw [clB_tb hM]
  constructor
  · intro h
    cases e : s.testBit i
    · rw [e] at h; simpa using h
    · exact ⟨tb_lt hs e, by rw [or_mem e]⟩
  · rintro ⟨h1, h2⟩
    simp [h1, h2]
theorem cl_sub {r : Nat → Nat} {N : Nat} (hM : Mtr r N) {s : Nat} (hs : s < 2 ^ N) : Sb s (clB r s N) := fun i hi => (cl_mem' hM hs).mpr ⟨tb_lt hs hi, by rw [or_mem hi]⟩
theorem cl_lt {r : Nat → Nat} {N : Nat} (hM : Mtr r N) {s : Nat} (hs : s < 2 ^ N) : clB r s N < 2 ^ N := clB_lt hs N (Nat.le_refl _)
theorem cl_rk {r : Nat → Nat} {N : Nat} (hM : Mtr r N) {s : Nat} (hs : s < 2 ^ N) : r (clB r s N) = r s := hM.grow (cl_sub hM hs) (cl_lt hM hs) (fun u => r u = r s) rfl (fun u i h1 h2 h3 _ h => by
  have := hM.2.2 s u i h1 (h2.lt (cl_lt hM hs)) ((cl_mem' hM hs).mp h3).1 ((cl_mem' hM hs).mp h3).2
  omega)
theorem cl_flat {r : Nat → Nat} {N : Nat} (hM : Mtr r N) {s : Nat} (hs : s < 2 ^ N) : clB r (clB r s N) N = clB r s N := by
  have h1 := cl_lt hM hs
  refine Sb.anti (fun i hi => ?_) (cl_sub hM h1)
  obtain ⟨g1, g2⟩ := (cl_mem' hM h1).mp hi
  refine (cl_mem' hM hs).mpr ⟨g1, ?_⟩
  have g3 := hM.mono (Sb_or_or (i := i) (cl_sub hM hs)) (or_lt h1 g1)
  rw [g2, cl_rk hM hs] at g3
  have g4 := hM.mono (Sb_or s i) (or_lt hs g1)
  omega
/-- between a set and its closure -/
theorem cl_uniq {r : Nat → Nat} {N : Nat} (hM : Mtr r N) {s g : Nat} (hg : g < 2 ^ N) (hsg : Sb s g) (hr : r g = r s) : clB r g N = clB r s N := by
  have hs := hsg.lt hg
  apply Sb.anti
  · intro i hi
    obtain ⟨g1, g2⟩ := (cl_mem' hM hg).mp hi
    refine (cl_mem' hM hs).mpr ⟨g1, ?_⟩
    have g3 := hM.mono (Sb_or_or (i := i) hsg) (or_lt hg g1)
    have g4 := hM.mono (Sb_or s i) (or_lt hs g1)
    omega
  · intro i hi
    obtain ⟨g1, g2⟩ := (cl_mem' hM hs).mp hi
    exact (cl_mem' hM hg).mpr ⟨g1, hM.2.2 s g i hsg hg g1 g2⟩
theorem cl_mono {r : Nat → Nat} {N : Nat} (hM : Mtr r N) {s t : Nat} (ht : t < 2 ^ N) (h : Sb s t) : Sb (clB r s N) (clB r t N) := fun i hi => by
  obtain ⟨g1, g2⟩ := (cl_mem' hM (h.lt ht)).mp hi
  exact (cl_mem' hM ht).mpr ⟨g1, hM.2.2 s t i h ht g1 g2⟩
theorem flB_iff {r : Nat → Nat} {N : Nat} (hM : Mtr r N) {s : Nat} : flB r N s = true ↔ clB r s N = s := by
  unfold flB
  rw [beq_iff_eq]
theorem sm_s (f : Nat → Int) (n : Nat) : sm f (n + 1) = sm f n + f n := rfl
theorem sm_swap (f : Nat → Nat → Int) (n : Nat) : ∀ m, sm (fun i => sm (fun j => f i j) n) m = sm (fun j => sm (fun i => f i j) m) n := by
  intro m
  induction m with
  | zero => rw [show (fun j => sm (fun i => f i j) 0) = fun _ => (0 : Int) from rfl, sm_zero]; rfl
  | succ m ih =>
    show sm (fun i => sm (fun j => f i j) n) m + sm (fun j => f m j) n = _
    rw [ih, ← sm_add]
    rfl
theorem sm_only (f : Nat → Int) (p : Nat) : ∀ n, p < n → (∀ i, i < n → i ≠ p → f i = 0) → sm f n = f p := by
  intro n
  induction n with
  | zero => intro h; omega
  | succ n ih =>
    intro h g
    show sm f n + f n = _
    by_cases e : p = n
    · subst e
      rw [sm_ext (g := fun _ => 0) (fun i hi => g i (by omega) (by omega)), sm_zero]
      omega
    · rw [ih (by omega) (fun i hi => g i (by omega)), g n (by omega) (fun q => e q.symm)]
      omega
theorem alt_sum (s : Nat) : ∀ n, sm (fun B => @ite Int (Sb B s) (Classical.propDecidable _) (sgn (pcb B n)) (0)) (2 ^ n) = if s % 2 ^ n = 0 then 1 else 0 := by
  intro n
  induction n with
  | zero => rw [Nat.pow_zero, Nat.mod_one, if_pos rfl]; rw [show (1 : Nat) = 0 + 1 from rfl, sm_s]; rw [if_pos (c := Sb 0 s) (fun i h => by rw [Nat.zero_testBit] at h; exact absurd h (by decide))]; rfl
  | succ n ih =>
    have hm : ∀ B, B < 2 ^ n → ∀ i, (2 ^ n + B).testBit i = (decide (i = n) || B.testBit i) := by
      intro B hB i
      have := Nat.two_pow_add_eq_or_of_lt hB 1
      rw [Nat.mul_one] at this
      rw [this, Nat.testBit_or, Nat.testBit_two_pow]
      congr 1
      apply decide_eq_decide.mpr
      omega
    have lo : ∀ B, B < 2 ^ n → pcb B (n + 1) = pcb B n := fun B hB => by simp only [pcb]; rw [tb_hi hB (Nat.le_refl _)]; rfl
    have hi : ∀ B, B < 2 ^ n → pcb (2 ^ n + B) (n + 1) = pcb B n + 1 := fun B hB => by
      simp only [pcb]
      rw [hm B hB n]
      simp
      exact pcb_bits n (fun i hi => by rw [hm B hB i]; simp; omega)
    have e2 : ∀ B, B < 2 ^ n → (Sb (2 ^ n + B) s ↔ s.testBit n = true ∧ Sb B s) := fun B hB => by
      constructor
      · intro h
        exact ⟨h n (by rw [hm B hB n]; simp), fun i hi => h i (by rw [hm B hB i, hi]; simp)⟩
      · rintro ⟨h1, h2⟩ i hi
        rw [hm B hB i] at hi
        by_cases q : i = n
        · subst q; exact h1
        · simp [q] at hi; exact h2 i hi
    rw [pow_dbl, sm_split, sm_ext (fun B hB => by rw [lo B hB]), ih]
    rw [← pow_dbl]
    cases hn : s.testBit n
    · rw [sm_ext (g := fun _ => 0) (fun B hB => by rw [if_neg]; intro h; rw [e2 B hB, hn] at h; exact absurd h.1 (by decide)), sm_zero]
      rw [Int.add_zero, show s % 2 ^ (n + 1) = s % 2 ^ n from by
        apply Nat.eq_of_testBit_eq
        intro i
        rw [Nat.testBit_mod_two_pow, Nat.testBit_mod_two_pow]
        by_cases q : i = n
        · subst q; simp [hn]
        · have : decide (i < n + 1) = decide (i < n) := by apply decide_eq_decide.mpr; omega
          rw [this]]
    · rw [sm_ext (g := fun B => (-1) * (@ite Int (Sb B s) (Classical.propDecidable _) (sgn (pcb B n)) (0))) (fun B hB => by
        rw [hi B hB, sgn_succ]
        by_cases q : Sb B s
        · rw [if_pos ((e2 B hB).mpr ⟨hn, q⟩), if_pos q]; omega
        · rw [if_neg (fun h => q ((e2 B hB).mp h).2), if_neg q]; rfl), sm_smul, ih]
      rw [if_neg (c := s % 2 ^ (n + 1) = 0)]
      · omega
      · intro h
        have : (s % 2 ^ (n + 1)).testBit n = true := by rw [Nat.testBit_mod_two_pow, hn]; simp
        rw [h] at this
        simp at this
/-- the sum of the signs of what spans a flat -/
noncomputable def whi (r : Nat → Nat) (N F : Nat) : Int := sm (fun B => @ite Int (Sb B F ∧ r B = r F) (Classical.propDecidable _) (sgn (pcb B N)) (0)) (2 ^ N)
theorem whi_sum {r : Nat → Nat} {N : Nat} (hM : Mtr r N) {s : Nat} (hs : s < 2 ^ N) (hf : clB r s N = s) : sm (fun l => @ite Int (Sb l s ∧ clB r l N = l) (Classical.propDecidable _) (whi r N l) (0)) (s + 1) = if s = 0 then 1 else 0 := by
  have e1 : sm (fun l => @ite Int (Sb l s ∧ clB r l N = l) (Classical.propDecidable _) (whi r N l) (0)) (s + 1) = sm (fun l => sm (fun B => @ite Int ((Sb l s ∧ clB r l N = l) ∧ Sb B l ∧ r B = r l) (Classical.propDecidable _) (sgn (pcb B N)) (0)) (2 ^ N)) (s + 1) := by
    refine sm_ext (fun l hl => ?_)
    by_cases q : Sb l s ∧ clB r l N = l
    · rw [if_pos q]
      unfold whi
      refine sm_ext (fun B hB => ?_)
      by_cases q2 : Sb B l ∧ r B = r l
      · rw [if_pos q2, if_pos ⟨q, q2⟩]
      · rw [if_neg q2, if_neg (fun h => q2 h.2)]
    · rw [if_neg q, sm_ext (g := fun _ => 0) (fun B hB => if_neg (fun h => q h.1)), sm_zero]
  rw [e1, sm_swap, ← Nat.mod_eq_of_lt hs, ← alt_sum, Nat.mod_eq_of_lt hs]
  refine sm_ext (fun B hB => ?_)
  by_cases q : Sb B s
  · rw [if_pos q]
    have h1 : Sb (clB r B N) s := by have := cl_mono hM hs q; rwa [hf] at this
    rw [sm_only _ (clB r B N) (s + 1) (Nat.lt_succ_of_le h1.le)]
    · exact if_pos ⟨⟨h1, cl_flat hM hB⟩, cl_sub hM hB, (cl_rk hM hB).symm⟩
    · intro l hl hne
      refine if_neg (fun h => hne ?_)
      rw [← h.1.2]
      exact cl_uniq hM (h.1.1.lt hs) h.2.1 h.2.2.symm
  · rw [if_neg q, sm_ext (g := fun _ => 0) (fun l hl => if_neg (fun h => q (h.2.1.tr h.1.1))), sm_zero]
theorem polB_whi {d N : Nat} {v : Nat → Row} (hA : Arr d N v) {s : Nat} (hs : s < 2 ^ N) : polB (rkV v) d s (d - rkV v s) (s + 1) = whi (rkV v) N s := by
  rw [polB_sm, ← sm_few _ (s + 1) (2 ^ N) (by omega) (fun k hk => if_neg (fun h => by have := (Sb_xor.mp h.1).le; omega))]
  refine sm_ext (fun B hB => ?_)
  have hr := rkV_d hA s
  rw [← pcb_pc9 N (by have := hA.2.2.1; omega) B hB]
  by_cases q : Sb B s ∧ rkV v B = rkV v s
  · rw [if_pos q, if_pos ⟨Sb_xor.mpr q.1, by omega⟩]; rfl
  · rw [if_neg q, if_neg (fun h => q ⟨Sb_xor.mp h.1, by omega⟩)]
/-- the reference's numbers are these -/
theorem sg_whi {r : Nat → Nat} {N : Nat} (hM : Mtr r N) {s : Nat} (hs : s < 2 ^ N) {g : Nat → Int32} (hg : ∀ t, t < s + 1 → g t = sgV r N s g t) : ∀ t, Sb t s → g t = if clB r t N = t then i32 (whi r N t) else i32 0 := by
  intro t
  induction t using Nat.strongRecOn with
  | _ t ih =>
    intro hts
    rw [hg t (by have := hts.le; omega)]
    unfold sgV
    by_cases q : clB r t N = t
    · rw [if_pos ⟨Sb_xor.mpr hts, flB_iff hM |>.mpr q⟩, if_pos q]
      have key : ∀ n, n ≤ t → sgS g t n = i32 ((if t = 0 then 1 else 0) - sm (fun l => @ite Int (Sb l t ∧ clB r l N = l) (Classical.propDecidable _) (whi r N l) (0)) n) := by
        intro n
        induction n with
        | zero => intro _; simp only [sgS]; split <;> rfl
        | succ n ihn =>
          intro hn
          rw [sgS, ihn (by omega)]
          by_cases q2 : Sb n t
          · rw [if_pos (Sb_xor.mpr q2), ih n (by omega) (q2.tr hts)]
            rw [sm_s]
            by_cases q3 : clB r n N = n
            · rw [if_pos q3, if_pos (c := Sb n t ∧ clB r n N = n) ⟨q2, q3⟩, i32_sub]; congr 1; omega
            · rw [if_neg q3, if_neg (c := Sb n t ∧ clB r n N = n) (fun h => q3 h.2), i32_sub]; congr 1; omega
          · rw [if_neg (fun h => q2 (Sb_xor.mp h))]
            rw [sm_s]
            rw [if_neg (c := Sb n t ∧ clB r n N = n) (fun h => q2 h.1), show (nI 0 : Int32) = i32 0 from rfl, i32_sub]
            congr 1; omega
      rw [key t (Nat.le_refl _), ← whi_sum hM (hts.lt hs) q]
      rw [sm_s]
      rw [if_pos (c := Sb t t ∧ clB r t N = t) ⟨Sb.rf t, q⟩]
      congr 1
      omega
    · rw [if_neg (fun h => q ((flB_iff hM).mp h.2)), if_neg q]; rfl
theorem sg_eq {d N : Nat} {v : Nat → Row} (hA : Arr d N v) {s : Nat} (hs : s < 2 ^ N) (hf : flB (rkV v) N s = true) {g : Nat → Int32} (hg : ∀ t, t < s + 1 → g t = sgV (rkV v) N s g t) : g s + nI 1000 = i32 (polB (rkV v) d s (d - rkV v s) (s + 1) + (1000 : Nat)) := by
  have hM := mtr_V v hA.2.2.1
  rw [sg_whi hM hs hg s (Sb.rf s), if_pos ((flB_iff hM).mp hf), polB_whi hA hs, show nI 1000 = i32 1000 from rfl, i32_add]
  rfl
