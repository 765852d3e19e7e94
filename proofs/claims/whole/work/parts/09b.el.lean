/-! elimination, as ranks see it -/
theorem Sp.ext {q : Int} {js : List Nat} {l : List Row} {x y : Row} (h : ∀ j ∈ js, x j = y j) (hx : Sp q js l x) : Sp q js l y := by
  obtain ⟨a, ha, c, hc⟩ := hx
  exact ⟨a, ha, c, fun j hj => by rw [← h j hj]; exact hc j hj⟩
/-- a multiple of it is in the span -/
theorem Sp.div {q : Int} (hq : Dom q) {js : List Nat} {l : List Row} {x y : Row} {g : Int} (hg : ¬ q ∣ g) (h : ∀ j ∈ js, q ∣ g * y j - x j) (hx : Sp q js l x) : Sp q js l y := by
  obtain ⟨a, ha, c, hc⟩ := hx
  refine ⟨a * g, hq.mul ha hg, c, fun j hj => ?_⟩
  obtain ⟨u, hu⟩ := h j hj
  obtain ⟨w, hw⟩ := hc j hj
  exact ⟨a * u + w, by grind⟩
theorem Sp.mulr {q : Int} {js : List Nat} {l : List Row} {x y : Row} {g : Int} (h : ∀ j ∈ js, q ∣ x j - g * y j) (hy : Sp q js l y) : Sp q js l x := by
  obtain ⟨a, ha, c, hc⟩ := hy
  refine ⟨a, ha, fun k => g * c k, fun j hj => ?_⟩
  obtain ⟨u, hu⟩ := h j hj
  obtain ⟨w, hw⟩ := hc j hj
  rw [lcb_smul]
  exact ⟨a * u + g * w, by grind⟩
/-- any pivot, any rows with the span of the eliminated ones -/
theorem el_rank {q : Int} (hq : Dom q) {j : Nat} {js : List Nat} {l l' : List Row} {x : Row} (hx : x ∈ l) (hn : ¬ q ∣ x j) (h1 : ∀ y ∈ l', Sp q js (l.map (el x j)) y) (h2 : ∀ y ∈ l, Sp q js l' (el x j y)) : rkC q (j :: js) l = 1 + rkC q js l' := by
  cases e : pv q j l with
  | none => exact absurd (pv_none e x hx) hn
  | some p =>
    obtain ⟨b1, b2⟩ := pv_some e
    rw [rkC_s e]
    have e1 := rkC_eq hq (js := js) (l := l.map (el p j)) (l' := l.map (el x j)) (fun y hy => by
      have hz : q ∣ y j := by obtain ⟨r, hr, rfl⟩ := List.mem_map.mp hy; exact ⟨0, by simp only [el]; grind⟩
      exact (Sp.el_iff hq hx hn hz).mp ((Sp.el_iff hq b1 b2 hz).mpr (Sp.mem hq _ hy))) (fun y hy => by
      have hz : q ∣ y j := by obtain ⟨r, hr, rfl⟩ := List.mem_map.mp hy; exact ⟨0, by simp only [el]; grind⟩
      exact (Sp.el_iff hq b1 b2 hz).mp ((Sp.el_iff hq hx hn hz).mpr (Sp.mem hq _ hy)))
    have e2 := rkC_eq hq (js := js) (l := l') (l' := l.map (el x j)) h1 (fun y hy => by
      obtain ⟨r, hr, rfl⟩ := List.mem_map.mp hy
      exact h2 r hr)
    omega
/-- the rows from lo on, below n -/
def act (w : Nat → Row) (lo n : Nat) : List Row := (List.range (n - lo)).map (fun k => w (lo + k))
theorem act_mem {w : Nat → Row} {lo n : Nat} {x : Row} : x ∈ act w lo n ↔ ∃ a, lo ≤ a ∧ a < n ∧ x = w a := by
  unfold act
  rw [List.mem_map]
  constructor
  · rintro ⟨k, hk, rfl⟩
    rw [List.mem_range] at hk
    exact ⟨lo + k, by omega, by omega, rfl⟩
  · rintro ⟨a, h1, h2, rfl⟩
    exact ⟨a - lo, by rw [List.mem_range]; omega, by rw [show lo + (a - lo) = a by omega]⟩
/-- the last k of four columns -/
def cf : Nat → List Nat
  | 0 => []
  | k + 1 => (3 - k) :: cf k
theorem cf_mem : ∀ (k : Nat), k ≤ 4 → ∀ j ∈ cf k, j < 4 := by
  intro k hk j hj
  rcases (show k = 0 ∨ k = 1 ∨ k = 2 ∨ k = 3 ∨ k = 4 by omega) with rfl | rfl | rfl | rfl | rfl <;> simp [cf] at hj <;> omega
theorem rkC_cols {q : Int} (hq : Dom q) {js : List Nat} {l l' : List Row} (h : ∀ x ∈ l, ∃ y ∈ l', ∀ j ∈ js, y j = x j) (h' : ∀ x ∈ l', ∃ y ∈ l, ∀ j ∈ js, y j = x j) : rkC q js l = rkC q js l' :=
  rkC_eq hq (fun x hx => by obtain ⟨y, hy, e⟩ := h x hx; exact (Sp.mem hq js hy).ext e) (fun x hx => by obtain ⟨y, hy, e⟩ := h' x hx; exact (Sp.mem hq js hy).ext e)
/-- no row but is 0 in the column -/
theorem act_none {q : Int} {w : Nat → Row} {lo n j : Nat} {js : List Nat} (h : ∀ a, lo ≤ a → a < n → q ∣ w a j) : rkC q (j :: js) (act w lo n) = rkC q js (act w lo n) :=
  rkC_n (pv_all (fun r hr => by obtain ⟨a, h1, h2, rfl⟩ := act_mem.mp hr; exact h a h1 h2))
/-- one step of elimination: rows at, lo exchanged, the others made 0 in the column, up to factors -/
theorem act_step {q : Int} (hq : Dom q) {w u : Nat → Row} {lo n p j : Nat} {js : List Nat} (hp : lo ≤ p ∧ p < n) (hn : ¬ q ∣ w p j)
    (hu : ∀ a, lo < a → a < n → ∃ g : Int, (¬ q ∣ g) ∧ ∀ c ∈ js, q ∣ g * u a c - el (w p) j (if a = p then w lo else w a) c) : rkC q (j :: js) (act w lo n) = 1 + rkC q js (act u (lo + 1) n) := by
  refine el_rank hq (x := w p) (act_mem.mpr ⟨p, hp.1, hp.2, rfl⟩) hn (fun y hy => ?_) (fun y hy => ?_)
  · obtain ⟨a, h1, h2, rfl⟩ := act_mem.mp hy
    obtain ⟨g, hg, hc⟩ := hu a (by omega) h2
    refine Sp.div hq hg hc (Sp.mem hq js ?_)
    refine List.mem_map.mpr ⟨_, act_mem.mpr (?_ : ∃ b, lo ≤ b ∧ b < n ∧ (if a = p then w lo else w a) = w b), rfl⟩
    by_cases e : a = p
    · rw [if_pos e]; exact ⟨lo, Nat.le_refl _, by omega, rfl⟩
    · rw [if_neg e]; exact ⟨a, by omega, h2, rfl⟩
  · obtain ⟨a, h1, h2, rfl⟩ := act_mem.mp hy
    by_cases e : a = p
    · subst e
      exact Sp.zero hq (fun c _ => ⟨0, by simp only [el]; grind⟩)
    · -- a = lo stands at p, else at its own place
      by_cases e2 : a = lo
      · subst e2
        obtain ⟨g, hg, hc⟩ := hu p (by omega) hp.2
        rw [if_pos rfl] at hc
        refine Sp.mulr (g := g) (y := u p) (fun c hc1 => ?_) (Sp.mem hq js (act_mem.mpr ⟨p, by omega, hp.2, rfl⟩))
        obtain ⟨z, hz⟩ := hc c hc1
        exact ⟨-z, by grind⟩
      · obtain ⟨g, hg, hc⟩ := hu a (by omega) h2
        rw [if_neg e] at hc
        refine Sp.mulr (g := g) (y := u a) (fun c hc1 => ?_) (Sp.mem hq js (act_mem.mpr ⟨a, by omega, h2, rfl⟩))
        obtain ⟨z, hz⟩ := hc c hc1
        exact ⟨-z, by grind⟩
theorem dom0 : Dom 0 := by
  refine ⟨by decide, fun a b h => ?_⟩
  rw [Int.zero_dvd] at h
  rw [Int.zero_dvd, Int.zero_dvd]
  exact Int.mul_eq_zero.mp h
theorem mul_bd {x y B C : Int} (hx : -B ≤ x ∧ x ≤ B) (hy : -C ≤ y ∧ y ≤ C) : -(B * C) ≤ x * y ∧ x * y ≤ B * C := by
  have h1 : x.natAbs ≤ B.natAbs := by omega
  have h2 : y.natAbs ≤ C.natAbs := by omega
  have h3 := Nat.mul_le_mul h1 h2
  rw [← Int.natAbs_mul, ← Int.natAbs_mul] at h3
  have h4 : 0 ≤ B * C := Int.mul_nonneg (by omega) (by omega)
  omega
