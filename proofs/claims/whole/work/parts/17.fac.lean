/-! FACTORS of a circuit: a sum that is 0, bounded; the primitive one -/
def bet : Nat → Int → Int
  | 0, _ => 1
  | k + 1, B => 9 * (B * bet k (2 * (B * B)))
theorem bet_pos : ∀ (k : Nat) (B : Int), 1 ≤ B → 1 ≤ bet k B := by
  intro k
  induction k with
  | zero => intro B _; exact Int.le_refl 1
  | succ k ih =>
    intro B hB
    have h1 : 1 ≤ B * B := by have := Int.mul_le_mul hB hB (by omega) (by omega); omega
    have h2 := ih (2 * (B * B)) (by omega)
    have h3 := Int.mul_le_mul hB h2 (by omega) (by omega)
    simp only [bet]
    omega
theorem el_bd {x r : Row} {B : Int} {j k : Nat} (hx1 : -B ≤ x j ∧ x j ≤ B) (hr1 : -B ≤ r j ∧ r j ≤ B) (hx2 : -B ≤ x k ∧ x k ≤ B) (hr2 : -B ≤ r k ∧ r k ≤ B) : -(2 * (B * B)) ≤ el x j r k ∧ el x j r k ≤ 2 * (B * B) := by
  have h1 := mul_bd hx1 hr2
  have h2 := mul_bd hr1 hx2
  simp only [el]
  omega
/-- rank below size: there is a sum that is 0, not all of it, with bounded numbers -/
theorem dep_bd : ∀ (js : List Nat) (N s : Nat) (v : Nat → Row) (B : Int), N ≤ 9 → 1 ≤ B → (∀ i, i < N → ∀ j ∈ js, -B ≤ v i j ∧ v i j ≤ B) → (∀ i, s.testBit i = true → i < N) → rkS js v N s < pcb s N → ∃ x : Nat → Int, Dp js N s v x ∧ (∃ m, m < N ∧ x m ≠ 0) ∧ ∀ i, -bet js.length B ≤ x i ∧ x i ≤ bet js.length B := by
  intro js
  induction js with
  | nil =>
    intro N s v B hN hB hv hs hr
    obtain ⟨m, h1, h2⟩ := pcb_pos (show 0 < pcb s N by omega)
    refine ⟨fun i => if i = m then 1 else 0, ⟨fun i hi => ?_, fun j hj => by cases hj⟩, ⟨m, h1, by simp⟩, fun i => ?_⟩
    · have : i ≠ m := fun e => by subst e; rw [h2] at hi; cases hi
      simp [this]
    · simp only [List.length_nil, bet]
      split <;> omega
  | cons j js ih =>
    intro N s v B hN hB hv hs hr
    have h1 : 1 ≤ B * B := by have := Int.mul_le_mul hB hB (by omega) (by omega); omega
    have hbp := bet_pos js.length (2 * (B * B)) (by omega)
    have hmul := Int.mul_le_mul hB hbp (by omega) (by omega)
    by_cases hp : ∃ p, p < N ∧ s.testBit p = true ∧ v p j ≠ 0
    · obtain ⟨p, hp1, hp2, hp3⟩ := hp
      have hrk : rkS (j :: js) v N s = 1 + rkS js (fun i => el (v p) j (v i)) N (less s p) := by
        refine el_rank dom0 (x := v p) (rowsB_mem.mpr ⟨p, hp1, hp2, rfl⟩) (by rw [Int.zero_dvd]; exact hp3) (fun y hy => ?_) (fun y hy => ?_)
        · obtain ⟨a, a1, a2, rfl⟩ := rowsB_mem.mp hy
          rw [less_tb] at a2
          simp only [Bool.and_eq_true] at a2
          exact Sp.mem dom0 js (List.mem_map.mpr ⟨v a, rowsB_mem.mpr ⟨a, a1, a2.1, rfl⟩, rfl⟩)
        · obtain ⟨a, a1, a2, rfl⟩ := rowsB_mem.mp hy
          by_cases e : a = p
          · subst e
            exact Sp.zero dom0 (fun k _ => ⟨0, by simp only [el]; grind⟩)
          · exact Sp.mem dom0 js (rowsB_mem.mpr ⟨a, a1, by rw [less_tb, a2]; simp; exact fun z => e z.symm, rfl⟩)
      have hpl := pcb_less hp1 hp2
      obtain ⟨x, hx1, ⟨m, hm1, hm2⟩, hx3⟩ := ih N (less s p) (fun i => el (v p) j (v i)) (2 * (B * B)) hN (by omega) (fun i hi k hk => el_bd (hv p hp1 j List.mem_cons_self) (hv i hi j List.mem_cons_self) (hv p hp1 k (List.mem_cons_of_mem _ hk)) (hv i hi k (List.mem_cons_of_mem _ hk))) (fun i hi => hs i (by rw [less_tb] at hi; simp only [Bool.and_eq_true] at hi; exact hi.1)) (by omega)
      have hxp : x p = 0 := hx1.1 p (by rw [less_tb]; simp)
      have hmp : m ≠ p := fun e => hm2 (by rw [e]; exact hxp)
      have hsum := sm_bd (fun i => x i * v i j) (bet js.length (2 * (B * B)) * B) N (fun i hi => mul_bd (hx3 i) (hv i hi j List.mem_cons_self))
      refine ⟨fun i => if i = p then - sm (fun i => x i * v i j) N else v p j * x i, ⟨fun i hi => ?_, fun k hk => ?_⟩, ⟨m, hm1, ?_⟩, fun i => ?_⟩
      · have e : i ≠ p := fun e => by subst e; rw [hp2] at hi; cases hi
        simp only [e, if_false]
        rw [hx1.1 i (by rw [less_tb, hi]; rfl), Int.mul_zero]
      · have e1 : sm (fun i => (if i = p then - sm (fun i => x i * v i j) N else v p j * x i) * v i k) N = sm (fun i => if i = p then (- sm (fun i => x i * v i j) N) * v p k else v p j * (x i * v i k)) N := sm_ext (fun i _ => by
          by_cases e : i = p
          · subst e; simp
          · simp only [e, if_false]; grind)
        rw [e1, sm_upd _ _ _ N hp1, sm_smul, hxp]
        rcases List.mem_cons.mp hk with rfl | hk
        · grind
        · have h2 := hx1.2 k hk
          have e2 : sm (fun i => x i * el (v p) j (v i) k) N = sm (fun i => v p j * (x i * v i k) + (- v p k) * (x i * v i j)) N := sm_ext (fun i _ => by simp only [el]; grind)
          rw [e2, sm_lin] at h2
          grind
      · simp only [hmp, if_false]
        exact Int.mul_ne_zero hp3 hm2
      · have hb3 : (N : Int) * (bet js.length (2 * (B * B)) * B) ≤ 9 * (B * bet js.length (2 * (B * B))) := by
          rw [Int.mul_comm (bet js.length (2 * (B * B))) B]
          exact Int.mul_le_mul_of_nonneg_right (by omega) (by omega)
        simp only [List.length_cons, bet]
        by_cases e : i = p
        · simp only [e, if_true]
          omega
        · simp only [e, if_false]
          have := mul_bd (hv p hp1 j List.mem_cons_self) (hx3 i)
          omega
    · have hz : ∀ a, a < N → s.testBit a = true → v a j = 0 := fun a h2 h3 => by
        by_cases e : v a j = 0
        · exact e
        · exact absurd ⟨a, h2, h3, e⟩ hp
      have hrk : rkS (j :: js) v N s = rkS js v N s := rkC_n (pv_all (fun r hr => by
        obtain ⟨a, a1, a2, rfl⟩ := rowsB_mem.mp hr
        rw [hz a a1 a2]
        exact Int.dvd_refl 0))
      have hB2 : 1 ≤ 2 * (B * B) := by omega
      have hBB : B ≤ 2 * (B * B) := by
        have := Int.mul_le_mul hB (Int.le_refl B) (by omega) (by omega)
        omega
      obtain ⟨x, hx1, hx2, hx3⟩ := ih N s v (2 * (B * B)) hN hB2 (fun i hi k hk => by have := hv i hi k (List.mem_cons_of_mem _ hk); omega) hs (by omega)
      refine ⟨x, ⟨hx1.1, fun k hk => ?_⟩, hx2, fun i => ?_⟩
      · rcases List.mem_cons.mp hk with rfl | hk
        · rw [sm_ext (g := fun _ => 0) (fun i hi => by
            cases e : s.testBit i with
            | true => rw [hz i hi e, Int.mul_zero]
            | false => rw [hx1.1 i e, Int.zero_mul]), sm_zero]
        · exact hx1.2 k hk
      · have := hx3 i
        have hbb : 1 * bet js.length (2 * (B * B)) ≤ B * bet js.length (2 * (B * B)) := Int.mul_le_mul_of_nonneg_right hB (by omega)
        simp only [List.length_cons, bet]
        omega
/-- a circuit, by ranks -/
def Circ (v : Nat → Row) (N c : Nat) : Prop := (∀ i, c.testBit i = true → i < N) ∧ rkS (cf 4) v N c < pcb c N ∧ ∀ i, i < N → c.testBit i = true → rkS (cf 4) v N (less c i) = pcb (less c i) N
theorem Circ.all {v : Nat → Row} {N c : Nat} (h : Circ v N c) {x : Nat → Int} (hx : Dp (cf 4) N c v x) {m : Nat} (hm : m < N) (hx0 : x m ≠ 0) : ∀ i, i < N → c.testBit i = true → x i ≠ 0 := by
  intro i hi hc e
  have h1 : Dp (cf 4) N (less c i) v x := ⟨fun k hk => by
    rw [less_tb] at hk
    by_cases e2 : i = k
    · subst e2; exact e
    · have : decide (i = k) = false := by simpa using e2
      rw [this] at hk
      exact hx.1 k (by simpa using hk), hx.2⟩
  have h2 := h1.rank hm hx0
  have h3 := h.2.2 i hi hc
  omega
/-- two sums that are 0 over a circuit are proportional -/
theorem Circ.prop {v : Nat → Row} {N c : Nat} (h : Circ v N c) {x y : Nat → Int} (hx : Dp (cf 4) N c v x) (hy : Dp (cf 4) N c v y) {m : Nat} (hm : m < N) (hc : c.testBit m = true) : ∀ i, i < N → y m * x i = x m * y i := by
  intro i hi
  by_cases e : y m * x i - x m * y i = 0
  · omega
  · exfalso
    have hz : Dp (cf 4) N c v (fun k => y m * x k + (- x m) * y k) := ⟨fun k hk => by show y m * x k + -x m * y k = 0; rw [hx.1 k hk, hy.1 k hk]; simp, fun j hj => by
      rw [sm_ext (g := fun k => y m * (x k * v k j) + (- x m) * (y k * v k j)) (fun k _ => by grind), sm_lin, hx.2 j hj, hy.2 j hj]
      omega⟩
    exact h.all hz hi (by grind) m hm hc (by grind)
def isFac (v : Nat → Row) (N c : Nat) (g : Nat → Int) : Prop := Dp (cf 4) N c v g ∧ (∀ d : Int, (∀ i, i < N → d ∣ g i) → d ∣ 1) ∧ ∀ i, i < N → c.testBit i = true → (∀ k, k < i → c.testBit k = false) → 0 < g i
theorem low_ex {c N m : Nat} (hm : m < N) (hc : c.testBit m = true) : ∃ i, i < N ∧ c.testBit i = true ∧ ∀ k, k < i → c.testBit k = false := by
  induction m using Nat.strongRecOn with
  | ind m ih =>
    by_cases e : ∃ k, k < m ∧ c.testBit k = true
    · obtain ⟨k, h1, h2⟩ := e
      exact ih k h1 (by omega) h2
    · refine ⟨m, hm, hc, fun k hk => ?_⟩
      cases e2 : c.testBit k with
      | false => rfl
      | true => exact absurd ⟨k, hk, e2⟩ e
theorem gcdR_zero (w : Nat → Int) : ∀ n, gcdR w n = 0 → ∀ i, i < n → w i = 0 := by
  intro n
  induction n with
  | zero => intro _ i hi; omega
  | succ n ih =>
    intro h i hi
    have h1 := Int.gcd_eq_zero_iff.mp h
    by_cases e : i = n
    · subst e; exact h1.2
    · exact ih (by omega) i (by omega)
theorem dvd_gcdR (w : Nat → Int) (d : Int) : ∀ n, (∀ i, i < n → d ∣ w i) → d ∣ (gcdR w n : Int) := by
  intro n
  induction n with
  | zero => intro _; exact Int.dvd_zero d
  | succ n ih =>
    intro h
    exact Int.dvd_coe_gcd (ih (fun i hi => h i (by omega))) (h n (by omega))
/-- any sum that is 0, not all of it, made primitive -/
theorem fac_of {v : Nat → Row} {N c : Nat} (h : Circ v N c) {x : Nat → Int} (hx : Dp (cf 4) N c v x) {l : Nat} (hl : l < N) (hlc : c.testBit l = true) (hlow : ∀ k, k < l → c.testBit k = false) (hx0 : x l ≠ 0) {d : Int} (hd : d = if x l < 0 then -(gcdR x N : Int) else gcdR x N) : d ≠ 0 ∧ (∀ i, i < N → d ∣ x i) ∧ isFac v N c (fun i => if i < N then x i / d else 0) := by
  have hg0 : gcdR x N ≠ 0 := fun e => hx0 (gcdR_zero x N e l hl)
  have hd0 : d ≠ 0 := by rw [hd]; split <;> omega
  have hdv : ∀ i, i < N → d ∣ x i := fun i hi => by
    have := gcdR_dvd x N i hi
    rw [hd]
    split
    · exact Int.neg_dvd.mpr this
    · exact this
  refine ⟨hd0, hdv, ⟨fun i hi => ?_, fun j hj => ?_⟩, fun e he => ?_, fun i hi hc hlo => ?_⟩
  · show (if i < N then x i / d else 0) = 0
    split
    · rw [hx.1 i hi]; exact Int.zero_ediv d
    · rfl
  · have h1 := hx.2 j hj
    have e1 : sm (fun i => x i * v i j) N = d * sm (fun i => (if i < N then x i / d else 0) * v i j) N := by
      rw [← sm_smul]
      exact sm_ext (fun i hi => by
        simp only [hi, if_true]
        have := Int.mul_ediv_cancel' (hdv i hi)
        grind)
    rw [e1] at h1
    exact (Int.mul_eq_zero.mp h1).resolve_left hd0
  · have h1 : d * e ∣ (gcdR x N : Int) := dvd_gcdR x (d * e) N (fun i hi => by
      have h2 := he i hi
      simp only [hi, if_true] at h2
      have h3 := Int.mul_dvd_mul_left d h2
      rwa [Int.mul_ediv_cancel' (hdv i hi)] at h3)
    have h2 : d * e ∣ d * 1 := by
      rw [Int.mul_one]
      have : d = gcdR x N ∨ d = -(gcdR x N : Int) := by rw [hd]; split <;> simp
      rcases this with q | q
      · rw [q]; rw [q] at h1; exact h1
      · have h3 : d * e ∣ -(gcdR x N : Int) := Int.dvd_neg.mpr h1
        rwa [← q] at h3
    exact Int.dvd_of_mul_dvd_mul_left hd0 h2
  · have e : i = l := by
      rcases Nat.lt_trichotomy i l with q | q | q
      · rw [hlow i q] at hc; cases hc
      · exact q
      · rw [hlo l q] at hlc; cases hlc
    subst e
    simp only [hl, if_true]
    have h1 := Int.mul_ediv_cancel' (hdv i hl)
    have hpos : (0 : Int) < gcdR x N := by omega
    by_cases hneg : x i < 0
    · rw [if_pos hneg] at hd
      by_cases hq : 0 < x i / d
      · exact hq
      · have : 0 ≤ d * (x i / d) := Int.mul_nonneg_of_nonpos_of_nonpos (by omega) (by omega)
        omega
    · rw [if_neg hneg] at hd
      by_cases hq : 0 < x i / d
      · exact hq
      · have : d * (x i / d) ≤ 0 := Int.mul_nonpos_of_nonneg_of_nonpos (by omega) (by omega)
        omega
theorem fac_uni {v : Nat → Row} {N c : Nat} (h : Circ v N c) {g f : Nat → Int} (hg : isFac v N c g) (hf : isFac v N c f) : ∀ i, i < N → g i = f i := by
  obtain ⟨m, hm1, hm2⟩ := pcb_pos (show 0 < pcb c N by have := h.2.1; omega)
  obtain ⟨l, hl1, hl2, hl3⟩ := low_ex hm1 hm2
  have p1 := hg.2.2 l hl1 hl2 hl3
  have p2 := hf.2.2 l hl1 hl2 hl3
  have hp := h.prop hg.1 hf.1 hl1 hl2
  have d1 : f l ∣ g l := by
    have : f l ∣ (gcdR (fun i => g l * f i) N : Int) := dvd_gcdR _ _ N (fun i hi => ⟨g i, by rw [← hp i hi]⟩)
    have h2 : ∀ n, (gcdR (fun i => g l * f i) n : Int) = g l * (gcdR f n : Int) := by
      intro n
      induction n with
      | zero => simp [gcdR]
      | succ n ih =>
        simp only [gcdR]
        rw [ih, Int.gcd_mul_left]
        have : ((g l).natAbs : Int) = g l := by omega
        rw [Int.natCast_mul, this]
    rw [h2] at this
    have h3 : (gcdR f N : Int) ∣ 1 := hf.2.1 _ (fun i hi => gcdR_dvd f N i hi)
    have h4 : g l * (gcdR f N : Int) ∣ g l * 1 := Int.mul_dvd_mul_left _ h3
    rw [Int.mul_one] at h4
    exact Int.dvd_trans this h4
  have d2 : g l ∣ f l := by
    have : g l ∣ (gcdR (fun i => f l * g i) N : Int) := dvd_gcdR _ _ N (fun i hi => ⟨f i, by rw [hp i hi]⟩)
    have h2 : ∀ n, (gcdR (fun i => f l * g i) n : Int) = f l * (gcdR g n : Int) := by
      intro n
      induction n with
      | zero => simp [gcdR]
      | succ n ih =>
        simp only [gcdR]
        rw [ih, Int.gcd_mul_left]
        have : ((f l).natAbs : Int) = f l := by omega
        rw [Int.natCast_mul, this]
    rw [h2] at this
    have h3 : (gcdR g N : Int) ∣ 1 := hg.2.1 _ (fun i hi => gcdR_dvd g N i hi)
    have h4 : f l * (gcdR g N : Int) ∣ f l * 1 := Int.mul_dvd_mul_left _ h3
    rw [Int.mul_one] at h4
    exact Int.dvd_trans this h4
  have e : g l = f l := by
    have := Int.le_of_dvd p1 d1
    have := Int.le_of_dvd p2 d2
    omega
  intro i hi
  have := hp i hi
  rw [e] at this
  exact Int.eq_of_mul_eq_mul_left (by omega) this
