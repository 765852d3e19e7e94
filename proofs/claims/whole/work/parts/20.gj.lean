/-! elimination in the grid: what it keeps -/
def dt (G : Nat → Nat → Int) (z : Nat → Int) (r : Nat) : Int := sm (fun k => z k * G r k) 5
def JI (G0 G : Nat → Nat → Int) (c m : Nat) : Prop :=
  (∀ z, (∀ r, r < 4 → dt G z r = 0) ↔ (∀ r, r < 4 → dt G0 z r = 0)) ∧
  (∀ e, e < c → G e e ≠ 0 ∧ ∀ r, r < 4 → r ≠ e → G r e = 0) ∧
  (∀ r, r < 4 → ∀ k, m ≤ k → k < 5 → G r k = 0) ∧
  (1 ≤ c → ∀ r, r < 4 → r + 1 ≠ c → Prim (G r)) ∧ (2 ≤ c → ∀ r, r < 4 → Prim (G r))
theorem dt_ext {G : Nat → Nat → Int} {z : Nat → Int} {r : Nat} {f : Nat → Int} (h : ∀ k, k < 5 → G r k = f k) : dt G z r = sm (fun k => z k * f k) 5 := sm_ext (fun k hk => by rw [h k hk])
theorem dt_lin {G' : Nat → Nat → Int} {z s p : Nat → Int} {i : Nat} {μ A B : Int} (h : ∀ e, e < 5 → μ * G' i e = s e * A - p e * B) : μ * dt G' z i = A * sm (fun k => z k * s k) 5 - B * sm (fun k => z k * p k) 5 := by
  unfold dt
  rw [← sm_smul, sm_ext (g := fun k => A * (z k * s k) + (-B) * (z k * p k)) (fun k hk => by have := h k hk; grind), sm_lin]
  grind
theorem JI_step {G0 G G' : Nat → Nat → Int} {c m a : Nat} (h : JI G0 G c m) (hc : c < 4) (hcm : c < m) (ha1 : c ≤ a) (ha2 : a < 4) (ha3 : G a c ≠ 0) (h1 : ∀ e, e < 5 → G' c e = G a e)
    (h2 : ∀ i, i < 4 → i ≠ c → Prim (G' i) ∧ ∃ μ : Int, 1 ≤ μ ∧ ∀ e, e < 5 → μ * G' i e = (if i = a then G c e else G i e) * G a c - G a e * (if i = a then G c c else G i c)) : JI G0 G' (c + 1) m := by
  obtain ⟨k1, k2, k3, k4, k5⟩ := h
  refine ⟨fun z => ?_, fun e he => ?_, fun r hr k hk1 hk2 => ?_, fun _ r hr hrc => ?_, fun hc2 r hr => ?_⟩
  · rw [← k1 z]
    constructor
    · intro hz
      have ga : dt G z a = 0 := by rw [dt_ext (f := G' c) (fun k hk => (h1 k hk).symm)]; exact hz c hc
      have gs : ∀ i, i < 4 → i ≠ c → sm (fun k => z k * (if i = a then G c k else G i k)) 5 = 0 := by
        intro i hi hic
        obtain ⟨-, μ, i1, i2⟩ := h2 i hi hic
        have := dt_lin (z := z) i2
        rw [hz i hi] at this
        have g2 : sm (fun k => z k * G a k) 5 = 0 := ga
        rw [g2] at this
        have h0 : G a c * sm (fun k => z k * (if i = a then G c k else G i k)) 5 = 0 := by omega
        exact (Int.mul_eq_zero.mp h0).resolve_left ha3
      intro r hr
      by_cases e1 : r = a
      · rw [e1]; exact ga
      · by_cases e2 : r = c
        · have := gs a ha2 (fun z => e1 (by rw [e2, z]))
          simp only [if_true] at this
          rw [e2]
          exact this
        · have := gs r hr e2
          simp only [e1, if_false] at this
          exact this
    · intro hz r hr
      by_cases e2 : r = c
      · rw [e2, dt_ext (f := G a) h1]
        exact hz a ha2
      · obtain ⟨-, μ, i1, i2⟩ := h2 r hr e2
        have := dt_lin (z := z) i2
        have g2 : sm (fun k => z k * G a k) 5 = 0 := hz a ha2
        have g3 : sm (fun k => z k * (if r = a then G c k else G r k)) 5 = 0 := by
          by_cases e1 : r = a
          · simp only [e1, if_true]; exact hz c hc
          · simp only [e1, if_false]; exact hz r hr
        rw [g2, g3] at this
        have h0 : μ * dt G' z r = 0 := by omega
        exact (Int.mul_eq_zero.mp h0).resolve_left (by omega)
  · by_cases e1 : e = c
    · subst e1
      refine ⟨by rw [h1 e (by omega)]; exact ha3, fun r hr hre => ?_⟩
      obtain ⟨-, μ, i1, i2⟩ := h2 r hr hre
      have h3 := i2 e (by omega)
      have h0 : μ * G' r e = 0 := by rw [h3]; grind
      exact (Int.mul_eq_zero.mp h0).resolve_left (by omega)
    · obtain ⟨q1, q2⟩ := k2 e (by omega)
      have hae : G a e = 0 := q2 a ha2 (by omega)
      refine ⟨?_, fun r hr hre => ?_⟩
      · obtain ⟨-, μ, i1, i2⟩ := h2 e (by omega) e1
        have h3 := i2 e (by omega)
        rw [if_neg (show e ≠ a by omega), hae] at h3
        intro h0
        rw [h0] at h3
        have h4 : G e e * G a c = 0 := by omega
        rcases Int.mul_eq_zero.mp h4 with q | q
        · exact q1 q
        · exact ha3 q
      · by_cases e2 : r = c
        · rw [e2, h1 e (by omega)]; exact hae
        · obtain ⟨-, μ, i1, i2⟩ := h2 r hr e2
          have h3 := i2 e (by omega)
          have h5 : (if r = a then G c e else G r e) = 0 := by
            split
            · exact q2 c hc (by omega)
            · exact q2 r hr hre
          rw [h5, hae] at h3
          have h0 : μ * G' r e = 0 := by rw [h3]; omega
          exact (Int.mul_eq_zero.mp h0).resolve_left (by omega)
  · by_cases e2 : r = c
    · rw [e2, h1 k hk2]; exact k3 a ha2 k hk1 hk2
    · obtain ⟨-, μ, i1, i2⟩ := h2 r hr e2
      have h3 := i2 k hk2
      have h5 : (if r = a then G c k else G r k) = 0 := by
        split
        · exact k3 c hc k hk1 hk2
        · exact k3 r hr k hk1 hk2
      rw [h5, k3 a ha2 k hk1 hk2] at h3
      have h0 : μ * G' r k = 0 := by rw [h3]; omega
      exact (Int.mul_eq_zero.mp h0).resolve_left (by omega)
  · exact (h2 r hr (by omega)).1
  · by_cases e2 : r = c
    · subst e2
      exact (k4 (by omega) a ha2 (by omega)).ext (fun e he => h1 e he)
    · exact (h2 r hr e2).1
theorem sm5 (f : Nat → Int) : sm f 5 = f 0 + f 1 + f 2 + f 3 + f 4 := by simp [sm]
/-- a pivot is there, while the columns so far are free of one another -/
theorem JI_pivot {G0 G : Nat → Nat → Int} {c m : Nat} (h : JI G0 G c m) (hc : c < 4) (hI : ∀ z : Nat → Int, (∀ k, c < k → z k = 0) → (∀ r, r < 4 → dt G0 z r = 0) → z c = 0) : ∃ a, (c ≤ a ∧ a < 4) ∧ G a c ≠ 0 := by
  obtain ⟨k1, k2, -⟩ := h
  by_cases hex : ∃ a, (c ≤ a ∧ a < 4) ∧ G a c ≠ 0
  · exact hex
  · exfalso
    have hz : ∀ a, c ≤ a → a < 4 → G a c = 0 := fun a h1 h2 => by
      by_cases e : G a c = 0
      · exact e
      · exact absurd ⟨a, ⟨h1, h2⟩, e⟩ hex
    rcases (show c = 0 ∨ c = 1 ∨ c = 2 ∨ c = 3 by omega) with rfl | rfl | rfl | rfl
    · have := hI (fun k => if k = 0 then 1 else 0) (fun k hk => by rw [if_neg (by omega)]) ((k1 _).mp (fun r hr => by
        have := hz r (by omega) hr
        simp [dt, sm5, this]))
      simp at this
    · obtain ⟨a0, b0⟩ := k2 0 (by omega)
      have := hI (fun k => if k = 0 then - G 0 1 else if k = 1 then G 0 0 else 0) (fun k hk => by rw [if_neg (by omega), if_neg (by omega)]) ((k1 _).mp (fun r hr => by
        simp only [dt, sm5]
        simp
        by_cases e : r = 0
        · subst e; grind
        · rw [b0 r hr e, hz r (by omega) hr]; omega))
      simp at this
      exact a0 this
    · obtain ⟨a0, b0⟩ := k2 0 (by omega)
      obtain ⟨a1, b1⟩ := k2 1 (by omega)
      have := hI (fun k => if k = 0 then - (G 0 2 * G 1 1) else if k = 1 then - (G 1 2 * G 0 0) else if k = 2 then G 0 0 * G 1 1 else 0) (fun k hk => by rw [if_neg (by omega), if_neg (by omega), if_neg (by omega)]) ((k1 _).mp (fun r hr => by
        simp only [dt, sm5]
        simp
        by_cases e : r = 0
        · subst e; rw [b1 0 (by omega) (by omega)]; grind
        · by_cases e1 : r = 1
          · subst e1; rw [b0 1 (by omega) (by omega)]; grind
          · rw [b0 r hr e, b1 r hr e1, hz r (by omega) hr]; omega))
      simp at this
      rcases Int.mul_eq_zero.mp this with q | q
      · exact a0 q
      · exact a1 q
    · obtain ⟨a0, b0⟩ := k2 0 (by omega)
      obtain ⟨a1, b1⟩ := k2 1 (by omega)
      obtain ⟨a2, b2⟩ := k2 2 (by omega)
      have := hI (fun k => if k = 0 then - (G 0 3 * (G 1 1 * G 2 2)) else if k = 1 then - (G 1 3 * (G 0 0 * G 2 2)) else if k = 2 then - (G 2 3 * (G 0 0 * G 1 1)) else if k = 3 then G 0 0 * (G 1 1 * G 2 2) else 0) (fun k hk => by rw [if_neg (by omega), if_neg (by omega), if_neg (by omega), if_neg (by omega)]) ((k1 _).mp (fun r hr => by
        simp only [dt, sm5]
        simp
        rcases (show r = 0 ∨ r = 1 ∨ r = 2 ∨ r = 3 by omega) with rfl | rfl | rfl | rfl
        · rw [b1 0 (by omega) (by omega), b2 0 (by omega) (by omega)]; grind
        · rw [b0 1 (by omega) (by omega), b2 1 (by omega) (by omega)]; grind
        · rw [b0 2 (by omega) (by omega), b1 2 (by omega) (by omega)]; grind
        · rw [b0 3 (by omega) (by omega), b1 3 (by omega) (by omega), b2 3 (by omega) (by omega), hz 3 (by omega) (by omega)]; omega))
      simp at this
      rcases Int.mul_eq_zero.mp this with q | q
      · exact a0 q
      · rcases Int.mul_eq_zero.mp q with q | q
        · exact a1 q
        · exact a2 q
/-- the end: each row tells one factor by the last -/
theorem JI_end {G0 G : Nat → Nat → Int} {last : Nat} (h : JI G0 G last (last + 1)) (hl : last ≤ 4) {y : Nat → Int} (hy : ∀ r, r < 4 → dt G0 y r = 0) : ∀ c, c < last → y c * G c c + y last * G c last = 0 := by
  intro c hc
  obtain ⟨k1, k2, k3, -⟩ := h
  have h1 := (k1 y).mpr hy c (by omega)
  have h2 : ∀ k, k < 5 → k ≠ c → k ≠ last → G c k = 0 := by
    intro k hk e1 e2
    by_cases q : k < last
    · exact (k2 k q).2 c (by omega) (fun z => e1 z.symm)
    · exact k3 c (by omega) k (by omega) hk
  unfold dt at h1
  have key : ∀ n, n ≤ 5 → sm (fun k => y k * G c k) n = (if c < n then y c * G c c else 0) + (if last < n then y last * G c last else 0) := by
    intro n
    induction n with
    | zero => intro _; simp [sm]
    | succ n ih =>
      intro hn
      simp only [sm]
      rw [ih (by omega)]
      by_cases e1 : n = c
      · subst e1
        rw [if_neg (Nat.lt_irrefl _), if_pos (Nat.lt_succ_self _), if_neg (by omega), if_neg (by omega)]
        omega
      · by_cases e2 : n = last
        · subst e2
          rw [if_pos hc, if_pos (show c < n + 1 by omega), if_neg (Nat.lt_irrefl _), if_pos (Nat.lt_succ_self _)]
          omega
        · rw [h2 n (by omega) e1 e2]
          have a1 : (c < n + 1) = (c < n) := by rw [eq_iff_iff]; omega
          have a2 : (last < n + 1) = (last < n) := by rw [eq_iff_iff]; omega
          simp only [a1, a2]
          omega
  rw [key 5 (by omega), if_pos (by omega), if_pos (by omega)] at h1
  exact h1
theorem gcdR_two {w : Nat → Int} {c l : Nat} (hc : c < 5) (hl : l < 5) (h : ∀ k, k < 5 → k ≠ c → k ≠ l → w k = 0) (hw : gcdR w 5 = 1) (d : Int) (h1 : d ∣ w c) (h2 : d ∣ w l) : d ∣ 1 := by
  have := dvd_gcdR w d 5 (fun k hk => by
    by_cases e1 : k = c
    · rw [e1]; exact h1
    · by_cases e2 : k = l
      · rw [e2]; exact h2
      · rw [h k hk e1 e2]; exact Int.dvd_zero d)
  rw [hw] at this
  exact this
