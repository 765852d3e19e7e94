/-! the factors of a circuit: named; and what its numbers tell -/
noncomputable def facB (v : Nat → Row) (c : Nat) : Nat → Int := @Classical.epsilon (Nat → Int) ⟨fun _ => 0⟩ (fun g => isFac v 9 c g ∧ ∀ i, -192805230237696 ≤ g i ∧ g i ≤ 192805230237696)
theorem bet43 : bet 4 3 ≤ 192805230237696 := by decide
theorem fac_ex {v : Nat → Row} {c : Nat} (h : Circ v 9 c) (hb : ∀ i j, i < 9 → -3 ≤ v i j ∧ v i j ≤ 3) : ∃ g, isFac v 9 c g ∧ ∀ i, -192805230237696 ≤ g i ∧ g i ≤ 192805230237696 := by
  obtain ⟨x, hx1, ⟨m, hm1, hm2⟩, hx3⟩ := dep_bd (cf 4) 9 c v 3 (by omega) (by omega) (fun i hi j _ => hb i j hi) h.1 h.2.1
  have hmc : c.testBit m = true := by
    cases e : c.testBit m with
    | true => rfl
    | false => exact absurd (hx1.1 m e) hm2
  obtain ⟨l, hl1, hl2, hl3⟩ := low_ex hm1 hmc
  have hl0 := h.all hx1 hm1 hm2 l hl1 hl2
  obtain ⟨hd0, hdv, hfac⟩ := fac_of h hx1 hl1 hl2 hl3 hl0 rfl
  refine ⟨_, hfac, fun i => ?_⟩
  have hbb := hx3 i
  have e4 : (cf 4).length = 4 := rfl
  rw [e4] at hbb
  have hbt := bet43
  show -192805230237696 ≤ (if i < 9 then _ else _) ∧ (if i < 9 then _ else _) ≤ 192805230237696
  by_cases hi : i < 9
  · rw [if_pos hi]
    generalize hd : (if x l < 0 then -(gcdR x 9 : Int) else gcdR x 9) = d at hd0 hdv ⊢
    have h1 := Int.mul_ediv_cancel' (hdv i hi)
    have h2 : (x i / d).natAbs ≤ (x i).natAbs := by
      by_cases hx0 : x i = 0
      · rw [hx0]; simp
      · have h3 : (d * (x i / d)).natAbs = (x i).natAbs := by rw [h1]
        rw [Int.natAbs_mul] at h3
        have h4 : 1 ≤ d.natAbs := by omega
        have := Nat.mul_le_mul_right (x i / d).natAbs h4
        omega
    omega
  · rw [if_neg hi]; omega
theorem facB_ok {v : Nat → Row} {c : Nat} (h : Circ v 9 c) (hb : ∀ i j, i < 9 → -3 ≤ v i j ∧ v i j ≤ 3) : isFac v 9 c (facB v c) ∧ ∀ i, -192805230237696 ≤ facB v c i ∧ facB v c i ≤ 192805230237696 :=
  @Classical.epsilon_spec_aux (Nat → Int) ⟨fun _ => 0⟩ (fun g => isFac v 9 c g ∧ ∀ i, -192805230237696 ≤ g i ∧ g i ≤ 192805230237696) (fac_ex h hb)
theorem facB_ne {v : Nat → Row} {c : Nat} (h : Circ v 9 c) (hb : ∀ i j, i < 9 → -3 ≤ v i j ∧ v i j ≤ 3) : ∀ i, i < 9 → c.testBit i = true → facB v c i ≠ 0 := by
  have hf := (facB_ok h hb).1
  obtain ⟨m, hm1, hm2⟩ := pcb_pos (show 0 < pcb c 9 by have := h.2.1; omega)
  obtain ⟨l, hl1, hl2, hl3⟩ := low_ex hm1 hm2
  have hp := hf.2.2 l hl1 hl2 hl3
  exact h.all hf.1 hl1 (by omega)
/-- lcm, as it is worked out -/
theorem lcm_step {a b y : Int} (ha : a ≠ 0) (hb : b ≠ 0) (h1 : a ∣ y) (h2 : b ∣ y) : a * b.tdiv (Int.gcd a b) ≠ 0 ∧ a * b.tdiv (Int.gcd a b) ∣ y ∧ b ∣ a * b.tdiv (Int.gcd a b) ∧ a ∣ a * b.tdiv (Int.gcd a b) := by
  have hg : (Int.gcd a b : Int) ≠ 0 := by
    intro e
    have : Int.gcd a b = 0 := by omega
    exact ha (Int.gcd_eq_zero_iff.mp this).1
  have e1 : (Int.gcd a b : Int) * b.tdiv (Int.gcd a b) = b := Int.mul_tdiv_cancel' (Int.gcd_dvd_right a b)
  have e2 : (a * b.tdiv (Int.gcd a b)).natAbs = Int.lcm a b := by
    have h3 : Int.gcd a b * (a * b.tdiv (Int.gcd a b)).natAbs = Int.gcd a b * Int.lcm a b := by
      rw [Int.gcd_mul_lcm]
      have h4 : ((Int.gcd a b : Int) * (a * b.tdiv (Int.gcd a b))).natAbs = (a * b).natAbs := by
        congr 1
        rw [← Int.mul_assoc, Int.mul_comm (Int.gcd a b : Int) a, Int.mul_assoc, e1]
      rw [Int.natAbs_mul, Int.natAbs_natCast, Int.natAbs_mul a b] at h4
      exact h4
    exact Nat.eq_of_mul_eq_mul_left (by omega) h3
  have e3 : b.tdiv (Int.gcd a b) ≠ 0 := fun e => hb (by rw [← e1, e, Int.mul_zero])
  refine ⟨Int.mul_ne_zero ha e3, ?_, ?_, Int.dvd_mul_right _ _⟩
  · rw [← Int.natAbs_dvd, e2]
    exact Int.coe_lcm_dvd h1 h2
  · rw [← Int.dvd_natAbs, e2]
    exact Int.dvd_lcm_right a b
/-- a diagonal number divides the last factor -/
theorem diag_dvd {d e yc yl : Int} (h : yc * d + yl * e = 0) (hp : ∀ t : Int, t ∣ d → t ∣ e → t ∣ 1) : d ∣ yl := by
  have hg : Int.gcd d e = 1 := by
    have h1 := hp (Int.gcd d e) (Int.gcd_dvd_left d e) (Int.gcd_dvd_right d e)
    have h2 := Int.le_of_dvd (by omega) h1
    by_cases h0 : Int.gcd d e = 0
    · rw [h0] at h1
      have := Int.zero_dvd.mp h1
      omega
    · omega
  have h2 : d ∣ e * yl := ⟨-yc, by grind⟩
  have h3 := Int.natAbs_dvd_natAbs.mpr h2
  rw [Int.natAbs_mul] at h3
  exact Int.natAbs_dvd_natAbs.mp (Nat.Coprime.dvd_of_dvd_mul_left (show Nat.gcd d.natAbs e.natAbs = 1 from by rw [← Int.gcd_eq_natAbs_gcd_natAbs]; exact hg) h3)
theorem abs_le_of {x w y z B : Int} (h : x * y = w * z) (hw : w ∣ y) (hy : y ≠ 0) (hz : -B ≤ z ∧ z ≤ B) : -B ≤ x ∧ x ≤ B := by
  obtain ⟨t, ht⟩ := hw
  have ht0 : t ≠ 0 := fun e => hy (by rw [ht, e, Int.mul_zero])
  have hw0 : w ≠ 0 := fun e => hy (by rw [ht, e, Int.zero_mul])
  have h2 : x * t = z := by
    have h3 : w * (x * t) = w * z := by rw [← h, ht]; grind
    exact Int.eq_of_mul_eq_mul_left hw0 h3
  have h4 : x.natAbs ≤ z.natAbs := by
    rw [← h2, Int.natAbs_mul]
    exact Nat.le_mul_of_pos_right _ (by omega)
  omega
