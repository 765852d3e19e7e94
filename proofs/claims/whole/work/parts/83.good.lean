/-! good primes: maximal free sets suffice -/
theorem ind_iff {q : Int} (hq : Dom q) (js : List Nat) : ∀ (l : List Row), rkC q js l = l.length ↔ ∀ c : Nat → Int, (∀ j ∈ js, q ∣ lcb c l j) → ∀ k, k < l.length → q ∣ c k := by
  intro l
  induction l with
  | nil =>
    constructor
    · intro _ c _ k hk; exact absurd hk (Nat.not_lt_zero _)
    · intro _; have := rkC_len hq js []; simpa using this
  | cons x l ih =>
    have hle := rkC_len hq js l
    have hsp : Sp q js l x → rkC q js (x :: l) ≤ rkC q js l := fun h => rkC_mono hq js _ _ (fun y hy => by
      rcases List.mem_cons.mp hy with rfl | hy
      · exact h
      · exact Sp.mem hq js hy)
    rw [List.length_cons]
    constructor
    · intro h c hc
      have hns : ¬ Sp q js l x := fun h2 => by have := hsp h2; omega
      have h3 := rkC_cons hq js l x hns
      have h4 := ih.mp (by omega)
      have h0 : q ∣ c 0 := by
        apply Classical.byContradiction
        intro h0
        refine hns ⟨c 0, h0, fun k => (-1) * c (k + 1), fun j hj => ?_⟩
        rw [lcb_smul]
        have := hc j hj
        simp only [lcb] at this
        rwa [show c 0 * x j - -1 * lcb (fun k => c (k + 1)) l j = c 0 * x j + lcb (fun k => c (k + 1)) l j by omega]
      have h5 := h4 (fun k => c (k + 1)) (fun j hj => by
        have := hc j hj
        simp only [lcb] at this
        have g : q ∣ c 0 * x j := Int.dvd_mul_of_dvd_left h0
        have := Int.dvd_sub this g
        rwa [Int.add_comm, Int.add_sub_cancel] at this)
      intro k hk
      cases k with
      | zero => exact h0
      | succ k => exact h5 k (by omega)
    · intro h
      have hns : ¬ Sp q js l x := by
        rintro ⟨a, ha, c, hc⟩
        refine ha (h (fun k => if k = 0 then a else (-1) * c (k - 1)) (fun j hj => ?_) 0 (by omega))
        have e : (fun k => (if k + 1 = 0 then a else (-1) * c (k + 1 - 1))) = fun k => (-1) * c k := by funext k; simp
        simp only [lcb, if_true, e, lcb_smul]
        rw [show a * x j + -1 * lcb c l j = a * x j - lcb c l j by omega]
        exact hc j hj
      rw [rkC_cons hq js l x hns, ih.mpr (fun c hc k hk => ?_)]
      have := h (fun k => if k = 0 then 0 else c (k - 1)) (fun j hj => by
        have e : (fun k => (if k + 1 = 0 then (0 : Int) else c (k + 1 - 1))) = c := by funext k; simp
        simp only [lcb, if_true, e]
        rw [Int.zero_mul, Int.zero_add]
        exact hc j hj) (k + 1) (by omega)
      simpa using this
theorem rwf_rows (v : Nat → Row) {s N k : Nat} (hk : k < pcb s N) : rwf (rowsB v s N) k = v (colB s N k) := by
  rw [rowsB_cols]
  have : k < (colsB s N).length := by rw [colsB_len]; exact hk
  simp [rwf, colB, List.getD, this]
theorem zsm_lcb (v : Nat → Row) (s N p x j : Nat) : zsm v s N p x j (pcb s N) = lcb (dgt p x) (rowsB v s N) j := by
  rw [lcb_rwf, rowsB_pcb]
  exact sm_ext (fun k hk => by rw [rwf_rows v hk, Int.mul_comm])
theorem zrB_iff {v : Nat → Row} {s N p x : Nat} : ∀ {d : Nat}, zrB v s N p x d = true ↔ ∀ j, j < d → (p : Int) ∣ lcb (dgt p x) (rowsB v s N) j := by
  intro d
  induction d with
  | zero => exact ⟨fun _ j hj => by omega, fun _ => rfl⟩
  | succ d ih =>
    rw [zrB, Bool.and_eq_true, ih, decide_eq_true_eq, zsm_lcb]
    constructor
    · rintro ⟨h1, h2⟩ j hj
      by_cases e : j = d
      · subst e; exact h2
      · exact h1 j (by omega)
    · intro h
      exact ⟨fun j hj => h j (by omega), h d (by omega)⟩
theorem foB_iff {v : Nat → Row} {s N d p : Nat} : ∀ {m : Nat}, foB v s N d p m = true ↔ ∀ x, x < m → x ≠ 0 → ¬ ∀ j, j < d → (p : Int) ∣ lcb (dgt p x) (rowsB v s N) j := by
  intro m
  induction m with
  | zero => exact ⟨fun _ x hx => by omega, fun _ => rfl⟩
  | succ m ih =>
    rw [foB, Bool.and_eq_true, ih, Bool.or_eq_true, beq_iff_eq, Bool.not_eq_true', ← Bool.not_eq_true, zrB_iff]
    constructor
    · rintro ⟨h1, h2⟩ x hx h0
      by_cases e : x = m
      · subst e; exact h2.resolve_left h0
      · exact h1 x (by omega) h0
    · intro h
      refine ⟨fun x hx => h x (by omega), ?_⟩
      by_cases e : m = 0
      · exact Or.inl e
      · exact Or.inr (h m (by omega) e)
/-- the number with these digits -/
def xOf (p : Nat) (c : Nat → Int) : Nat → Nat
  | 0 => 0
  | m + 1 => (c m % p).toNat * p ^ m + xOf p c m
theorem xOf_lt {p : Nat} (hp : 0 < p) (c : Nat → Int) : ∀ m, xOf p c m < p ^ m := by
  intro m
  induction m with
  | zero => exact Nat.one_pos
  | succ m ih =>
    refine dig_lt ih ?_
    have h1 := Int.emod_nonneg (c m) (show (p : Int) ≠ 0 by omega)
    have h2 := Int.emod_lt_of_pos (c m) (show (0 : Int) < p by omega)
    omega
theorem xOf_dig {p : Nat} (hp : 0 < p) (c : Nat → Int) : ∀ m k, k < m → dgt p (xOf p c m) k = c k % p := by
  intro m
  induction m with
  | zero => intro k hk; omega
  | succ m ih =>
    intro k hk
    have h1 := Int.emod_nonneg (c m) (show (p : Int) ≠ 0 by omega)
    have h2 := Int.emod_lt_of_pos (c m) (show (0 : Int) < p by omega)
    unfold dgt
    rw [xOf]
    by_cases e : k = m
    · subst e
      rw [dig_eq (xOf_lt hp c k) (by omega)]
      omega
    · rw [dig_lo hp (by omega)]
      exact ih k (by omega)
theorem dig_zero {p : Nat} (hp : 0 < p) : ∀ m x, x < p ^ m → (∀ k, k < m → x / p ^ k % p = 0) → x = 0 := by
  intro m
  induction m with
  | zero => intro x h _; simpa using h
  | succ m ih =>
    intro x h g
    have hpm : 0 < p ^ m := Nat.pow_pos hp
    have h1 : x / p ^ m < p := by rw [Nat.div_lt_iff_lt_mul hpm]; rw [Nat.pow_succ, Nat.mul_comm] at h; exact h
    have h2 := g m (by omega)
    rw [Nat.mod_eq_of_lt h1] at h2
    refine ih x ?_ (fun k hk => g k (by omega))
    rcases Nat.div_eq_zero_iff.mp h2 with e | e <;> omega
theorem lcb_cong {q : Int} {c e : Nat → Int} (j : Nat) : ∀ {l : List Row}, (∀ k, k < l.length → q ∣ c k - e k) → q ∣ lcb c l j - lcb e l j := by
  intro l h
  have : lcb c l j - lcb e l j = lcb (fun k => c k - e k) l j := by
    have := lcb_lin 1 (-1) c e l j
    rw [show (fun k => c k - e k) = fun k => 1 * c k + -1 * e k from by funext k; omega, this]
    omega
  rw [this]
  rw [lcb_rwf]
  have : ∀ n, n ≤ l.length → q ∣ sm (fun k => (c k - e k) * rwf l k j) n := by
    intro n
    induction n with
    | zero => intro _; exact ⟨0, by simp [sm]⟩
    | succ n ih => intro hn; rw [sm_s]; exact Int.dvd_add (ih (by omega)) (Int.dvd_mul_of_dvd_left (h n (by omega)))
  exact this _ (Nat.le_refl _)
theorem mem_cl {d : Nat} : ∀ k, k ≤ d → ∀ j, j ∈ cl d k ↔ d - k ≤ j ∧ j < d := by
  intro k
  induction k with
  | zero => intro _ j; simp [cl]
  | succ k ih =>
    intro hk j
    rw [cl, List.mem_cons, ih (by omega)]
    omega
theorem foB_rk {p : Nat} (hp : p = 2 ∨ p = 3 ∨ p = 5 ∨ p = 7) {v : Nat → Row} {s N d : Nat} : foB v s N d p (p ^ pcb s N) = true ↔ rkC p (cl d d) (rowsB v s N) = pcb s N := by
  have hp0 : 0 < p := by omega
  rw [foB_iff, ← rowsB_pcb v s N, ind_iff (dom_of hp)]
  have hj : ∀ j, j ∈ cl d d ↔ j < d := fun j => by rw [mem_cl d (Nat.le_refl _)]; omega
  constructor
  · intro h c hc k hk
    apply Classical.byContradiction
    intro hn
    refine h (xOf p c (rowsB v s N).length) (xOf_lt hp0 c _) (fun e => hn ?_) (fun j hj2 => ?_)
    · have := xOf_dig hp0 c _ k hk
      rw [e] at this
      simp only [dgt, Nat.zero_div, Nat.zero_mod] at this
      exact Int.dvd_of_emod_eq_zero this.symm
    · have h1 := lcb_cong (q := p) (c := dgt p (xOf p c (rowsB v s N).length)) (e := c) j (l := rowsB v s N) (fun k hk => by
        rw [xOf_dig hp0 c _ k hk]
        have := Int.emod_add_mul_ediv (c k) p
        exact ⟨-(c k / p), by rw [Int.mul_neg]; omega⟩)
      have := Int.dvd_add h1 (hc j ((hj j).mpr hj2))
      rwa [Int.sub_add_cancel] at this
  · intro h x hx h0 hz
    refine h0 (dig_zero hp0 _ x hx (fun k hk => ?_))
    have := h (dgt p x) (fun j hj2 => hz j ((hj j).mp hj2)) k hk
    unfold dgt at this
    have h2 := Nat.mod_lt (x / p ^ k) hp0
    have := Int.natCast_dvd_natCast.mp this
    exact Nat.eq_zero_of_dvd_of_lt this h2
theorem gdB_iff {v : Nat → Row} {N d p : Nat} : ∀ {m : Nat}, gdB v N d p m = true ↔ ∀ t, t < m → bdB (rkV v) t = true ∨ foB v t N d p (p ^ pcb t N) = true := by
  intro m
  induction m with
  | zero => exact ⟨fun _ x hx => by omega, fun _ => rfl⟩
  | succ m ih =>
    rw [gdB, Bool.and_eq_true, ih, Bool.or_eq_true]
    constructor
    · rintro ⟨h1, h2⟩ x hx
      by_cases e : x = m
      · subst e; exact h2
      · exact h1 x (by omega)
    · intro h
      exact ⟨fun x hx => h x (by omega), h m (by omega)⟩
theorem gcB_iff {v : Nat → Row} {N d p : Nat} : ∀ {m : Nat}, gcB v N d p m = true ↔ ∀ t, t < m → pc9 t = rkV v (2 ^ N - 1) → bdB (rkV v) t = false → rkV v (2 ^ N - 1) ≤ rkC p (cl d d) (rowsB v t N) := by
  intro m
  induction m with
  | zero => exact ⟨fun _ x hx => by omega, fun _ => rfl⟩
  | succ m ih =>
    rw [gcB, Bool.and_eq_true, ih]
    constructor
    · rintro ⟨h1, h2⟩ x hx h3 h4
      by_cases e : x = m
      · subst e
        rw [h3, h4] at h2
        simpa using h2
      · exact h1 x (by omega) h3 h4
    · intro h
      refine ⟨fun x hx => h x (by omega), ?_⟩
      by_cases e1 : pc9 m = rkV v (2 ^ N - 1)
      · cases e2 : bdB (rkV v) m
        · have := h m (by omega) e1 e2
          simp [e1, this]
        · simp
      · simp [e1]
theorem pcb_or {r : Nat → Nat} {N : Nat} (hM : Mtr r N) {u i : Nat} (hi : i < N) (h : u.testBit i = false) : pcb (u ||| 2 ^ i) N = pcb u N + 1 := by
  have h1 := pcb_less (s := u ||| 2 ^ i) hi (by rw [tb_or]; simp)
  have : less (u ||| 2 ^ i) i = u := by
    apply Nat.eq_of_testBit_eq
    intro j
    rw [less_tb, tb_or]
    by_cases e : i = j
    · subst e; rw [h]; simp
    · simp [e]
  rw [this] at h1
  exact h1.symm
theorem Mtr.card {r : Nat → Nat} {N : Nat} (hM : Mtr r N) {s t : Nat} (hst : Sb s t) (ht : t < 2 ^ N) : r t + pcb s N ≤ r s + pcb t N := hM.grow hst ht (fun u => r u + pcb s N ≤ r s + pcb u N) (Nat.le_refl _) (fun u i h1 h2 h3 h4 h => by
  have hi := tb_lt ht h3
  rw [pcb_or hM hi h4]
  rcases hM.2.1 u i (h2.lt ht) hi with e | e <;> omega)
theorem Mtr.le {r : Nat → Nat} {N : Nat} (hM : Mtr r N) {s : Nat} (hs : s < 2 ^ N) : r s ≤ pcb s N := by
  have h0 : ∀ n, pcb 0 n = 0 := by
    intro n
    induction n with
    | zero => rfl
    | succ n ih => simp [pcb, ih]
  have := hM.card (s := 0) (t := s) (fun i h => by rw [Nat.zero_testBit] at h; exact absurd h (by decide)) hs
  rw [h0, hM.1] at this
  omega
theorem Mtr.sub_ind {r : Nat → Nat} {N : Nat} (hM : Mtr r N) {s t : Nat} (hst : Sb s t) (ht : t < 2 ^ N) (h : r t = pcb t N) : r s = pcb s N := by
  have h1 := hM.card hst ht
  have h2 := hM.le (hst.lt ht)
  omega
theorem Mtr.ext {r : Nat → Nat} {N : Nat} (hM : Mtr r N) {s t : Nat} (hst : Sb s t) (ht : t < 2 ^ N) (h : r s = pcb s N) : ∃ b, Sb s b ∧ Sb b t ∧ r b = pcb b N ∧ r b = r t := hM.grow hst ht (fun u => ∃ b, Sb s b ∧ Sb b u ∧ r b = pcb b N ∧ r b = r u) ⟨s, Sb.rf s, Sb.rf s, h, rfl⟩ (fun u i h1 h2 h3 h4 ⟨b, g1, g2, g3, g4⟩ => by
  have hi := tb_lt ht h3
  have hu := h2.lt ht
  rcases hM.2.1 u i hu hi with e | e
  · exact ⟨b, g1, g2.tr (Sb_or u i), g3, by omega⟩
  · have hb : b.testBit i = false := by
      cases q : b.testBit i
      · rfl
      · rw [g2 i q] at h4; exact h4
    rcases hM.2.1 b i (g2.lt hu) hi with e2 | e2
    · have := hM.2.2 b u i g2 hu hi e2
      omega
    · exact ⟨b ||| 2 ^ i, g1.tr (Sb_or b i), Sb_or_or g2, by rw [pcb_or hM hi hb]; omega, by omega⟩)
theorem rows_9 (v : Nat → Row) {s N : Nat} (hN : N ≤ 9) (h : s < 2 ^ N) : rowsB v s 9 = rowsB v s N := by
  have := rowsB_hi v h (9 - N)
  rwa [show N + (9 - N) = 9 by omega] at this
theorem good_eq {d N : Nat} {v : Nat → Row} (hA : Arr d N v) {p : Nat} (hp : p = 2 ∨ p = 3 ∨ p = 5 ∨ p = 7) : gdB v N d p (2 ^ N) = gcB v N d p (2 ^ N) := by
  have hN := hA.2.2.1
  have hpos := Nat.two_pow_pos N
  have hM := mtr_V v hN
  have hP := mtr_q (dom_of hp) (cl d d) v hN
  have hfull : ∀ t, t < 2 ^ N → Sb t (2 ^ N - 1) := fun t ht i hi => by
    rw [Nat.testBit_two_pow_sub_one]; exact decide_eq_true (tb_lt ht hi)
  rw [Bool.eq_iff_iff, gdB_iff, gcB_iff]
  constructor
  · intro h t ht h1 h2
    rcases h t ht with h3 | h3
    · rw [h2] at h3; exact absurd h3 (by decide)
    · rw [foB_rk hp] at h3
      rw [h3, pcb_pc9 N (by omega) t ht, h1]
      exact Nat.le_refl _
  · intro h t ht
    cases hb : bdB (rkV v) t
    · right
      rw [foB_rk hp]
      have h1 : rkV v t = pcb t N := by
        rw [bdB, decide_eq_false_iff_not] at hb
        have := hM.le ht
        rw [pcb_pc9 N (by omega) t ht] at this ⊢
        omega
      obtain ⟨b, g1, g2, g3, g4⟩ := hM.ext (hfull t ht) (by omega) h1
      have hb2 := g2.lt (show 2 ^ N - 1 < 2 ^ N by omega)
      have h5 := h b hb2 (by rw [← pcb_pc9 N (by omega) b hb2]; omega) (by rw [bdB, decide_eq_false_iff_not, ← pcb_pc9 N (by omega) b hb2]; omega)
      have h6 : rkC p (cl d d) (rowsB v b 9) ≤ pcb b N := hP.le hb2
      have h7 := hP.sub_ind g1 hb2 (by show rkC p (cl d d) (rowsB v b 9) = _; rw [rows_9 v hN hb2] at h6 ⊢; omega)
      have h7 : rkC p (cl d d) (rowsB v t 9) = pcb t N := h7
      rwa [rows_9 v hN ht] at h7
    · exact Or.inl rfl
