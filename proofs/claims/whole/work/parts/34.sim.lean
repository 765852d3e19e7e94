/-! no plane empty, no two the same: what ranks tell of it -/
def Sim (N : Nat) (v : Nat → Row) : Prop := (∀ i, i < N → ∃ j, j < 4 ∧ v i j ≠ 0) ∧ ∀ i k, i < N → k < N → i ≠ k → ∃ j l, j < 4 ∧ l < 4 ∧ v i j * v k l ≠ v i l * v k j
theorem pc9_one : ∀ i, i < 9 → pc9 (2 ^ i) = 1 := by decide +kernel
theorem pc9_two : ∀ i, i < 9 → ∀ k, k < 9 → i ≠ k → pc9 (2 ^ i ||| 2 ^ k) = 2 := by decide +kernel
theorem sm_one (v : Nat → Row) (i : Nat) (a : Int) (j : Nat) (hi : i < 9) : sm (fun k => (if k = i then a else 0) * v k j) 9 = a * v i j := by
  have e : sm (fun k => (if k = i then a else 0) * v k j) 9 = sm (fun k => if k = i then a * v i j else 0) 9 := sm_ext (fun k _ => by
    by_cases e : k = i
    · subst e; simp
    · simp [e])
  rw [e, sm_upd (fun _ => 0) i (a * v i j) 9 hi, sm_zero]
  omega
theorem sim_of {N : Nat} {v : Nat → Row} (hN : N ≤ 9) (h : ∀ s, s < 2 ^ N → pc9 s ≤ 2 → rkV v s = pc9 s) : Sim N v := by
  have hz : ∀ i, i < N → ∃ j, j < 4 ∧ v i j ≠ 0 := by
    intro i hi
    by_cases hex : ∃ j, j < 4 ∧ v i j ≠ 0
    · exact hex
    · exfalso
      have h0 : ∀ j, j < 4 → v i j = 0 := fun j hj => by
        by_cases e : v i j = 0
        · exact e
        · exact absurd ⟨j, hj, e⟩ hex
      have hp := pow_ltN hi
      have h512 := pow9 hN
      have h1 := h (2 ^ i) hp (by rw [pc9_one i (by omega)]; omega)
      have hD : Dp (cf 4) 9 (2 ^ i) v (fun k => if k = i then 1 else 0) := ⟨fun k hk => by
        rw [Nat.testBit_two_pow] at hk
        have : k ≠ i := fun e => by subst e; simp at hk
        simp [this], fun j hj => by rw [sm_one v i 1 j (by omega), h0 j (cf_mem 4 (by omega) j hj)]; omega⟩
      have h2 := hD.rank (show i < 9 by omega) (by simp)
      rw [pcb_pc9 9 (by omega) _ (by omega)] at h2
      unfold rkV at h1
      omega
  refine ⟨hz, fun i k hi hk hik => ?_⟩
  by_cases hex : ∃ j l, j < 4 ∧ l < 4 ∧ v i j * v k l ≠ v i l * v k j
  · exact hex
  · exfalso
    have h0 : ∀ j l, j < 4 → l < 4 → v i j * v k l = v i l * v k j := fun j l hj hl => by
      by_cases e : v i j * v k l = v i l * v k j
      · exact e
      · exact absurd ⟨j, l, hj, hl, e⟩ hex
    obtain ⟨j0, hj0, hv0⟩ := hz i hi
    have hp := or_lt9 (pow_ltN hi) (pow_ltN hk)
    have h512 := pow9 hN
    have h1 := h _ hp (by rw [pc9_two i (by omega) k (by omega) hik]; omega)
    have hD : Dp (cf 4) 9 (2 ^ i ||| 2 ^ k) v (fun t => 1 * (if t = i then v k j0 else 0) + (-1) * (if t = k then v i j0 else 0)) := ⟨fun t ht => by
      rw [tb_or, Nat.testBit_two_pow] at ht
      have e1 : t ≠ i := fun e => by subst e; simp at ht
      have e2 : t ≠ k := fun e => by subst e; simp at ht
      simp [e1, e2], fun j hj => by
      have hj4 := cf_mem 4 (by omega) j hj
      rw [sm_ext (g := fun t => 1 * ((if t = i then v k j0 else 0) * v t j) + (-1) * ((if t = k then v i j0 else 0) * v t j)) (fun t _ => by grind), sm_lin, sm_one v i _ j (by omega), sm_one v k _ j (by omega)]
      have := h0 j0 j hj0 hj4
      grind⟩
    have h2 := hD.rank (show k < 9 by omega) (by
      simp only [if_true, if_neg (fun e : k = i => hik e.symm)]
      omega)
    rw [pcb_pc9 9 (by omega) _ (by omega)] at h2
    unfold rkV at h1
    omega
theorem of_sim {N : Nat} {v : Nat → Row} (hN : N ≤ 9) (hb : ∀ i j, -3 ≤ v i j ∧ v i j ≤ 3) (h : Sim N v) : ∀ s, s < 2 ^ N → pc9 s ≤ 2 → rkV v s = pc9 s := by
  intro s hs h2
  have h512 := pow9 hN
  have e9 : pcb s 9 = pc9 s := pcb_pc9 9 (by omega) s (by omega)
  have hle := rkV_le (v := v) (s := s) (by omega)
  by_cases e : rkV v s = pc9 s
  · exact e
  · exfalso
    have hiN : ∀ i, s.testBit i = true → i < N := fun i hi => by
      by_cases q : i < N
      · exact q
      · rw [tb_hi hs (by omega)] at hi; cases hi
    obtain ⟨x, hx1, ⟨m, hm1, hm2⟩, -⟩ := dep_bd (cf 4) 9 s v 3 (by omega) (by omega) (fun i _ j _ => hb i j) (fun i hi => by have := hiN i hi; omega) (by unfold rkV at e hle; omega)
    have hsum : ∀ r, r < 4 → dt (gr0 v s 9) (fun k => x (colB s 9 k)) r = 0 := by
      intro r hr
      rw [dt_gr0 (by omega), sm_ext (g := fun i => x i * v i r) (fun i hi => by
        by_cases q : s.testBit i = true
        · rw [if_pos q, colB_at hi q]
        · rw [if_neg q, hx1.1 i (by simpa using q)])]
      exact hx1.2 r (by rcases (show r = 0 ∨ r = 1 ∨ r = 2 ∨ r = 3 by omega) with rfl | rfl | rfl | rfl <;> simp [cf])
    have hmb : s.testBit m = true := by
      cases q : s.testBit m with
      | true => rfl
      | false => exact absurd (hx1.1 m q) hm2
    have hpm : pcb s m < pcb s 9 := by
      have h1 := colsB_at s 9 m hm1 hmb
      have := (List.getElem?_eq_some_iff.mp h1).1
      rw [colsB_len] at this
      exact this
    rcases (show pc9 s = 1 ∨ pc9 s = 2 by omega) with q | q
    · obtain ⟨o1, o2, o3⟩ := colB_ok (s := s) (N := 9) (k := 0) (by omega)
      have em : colB s 9 0 = m := by rw [← colB_at hm1 hmb, show pcb s m = 0 by omega]
      obtain ⟨j, hj, hv⟩ := h.1 m (hiN m hmb)
      have := hsum j hj
      simp only [dt, sm5, gr0, e9, q, em] at this
      simp at this
      rcases Int.mul_eq_zero.mp this with z | z
      · exact hm2 z
      · exact hv z
    · obtain ⟨o1, o2, o3⟩ := colB_ok (s := s) (N := 9) (k := 0) (by omega)
      obtain ⟨p1, p2, p3⟩ := colB_ok (s := s) (N := 9) (k := 1) (by omega)
      have hne : colB s 9 0 ≠ colB s 9 1 := fun z => by rw [z] at o3; omega
      have hs2 : ∀ r, r < 4 → x (colB s 9 0) * v (colB s 9 0) r + x (colB s 9 1) * v (colB s 9 1) r = 0 := by
        intro r hr
        have := hsum r hr
        simp only [dt, sm5, gr0, e9, q] at this
        simp at this
        exact this
      obtain ⟨j, l, hj, hl, hv⟩ := h.2 _ _ (hiN _ o2) (hiN _ p2) hne
      have a1 := hs2 j hj
      have a2 := hs2 l hl
      have hx0 : x (colB s 9 0) ≠ 0 ∨ x (colB s 9 1) ≠ 0 := by
        rcases (show pcb s m = 0 ∨ pcb s m = 1 by omega) with z | z
        · left; rw [← z, colB_at hm1 hmb]; exact hm2
        · right; rw [← z, colB_at hm1 hmb]; exact hm2
      rcases hx0 with z | z
      · apply hv
        have : x (colB s 9 0) * (v (colB s 9 0) j * v (colB s 9 1) l) = x (colB s 9 0) * (v (colB s 9 0) l * v (colB s 9 1) j) := by grind
        exact Int.eq_of_mul_eq_mul_left z this
      · apply hv
        have : x (colB s 9 1) * (v (colB s 9 0) j * v (colB s 9 1) l) = x (colB s 9 1) * (v (colB s 9 0) l * v (colB s 9 1) j) := by grind
        exact Int.eq_of_mul_eq_mul_left z this
