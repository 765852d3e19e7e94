/-! places: points by their top digit -/
theorem sm_blk (f : Nat → Int) (a : Nat) : ∀ b, sm f (b * a) = sm (fun c => sm (fun k => f (c * a + k)) a) b := by
  intro b
  induction b with
  | zero => rw [Nat.zero_mul]; rfl
  | succ b ih => rw [Nat.succ_mul, sm_split, ih, sm_s]
theorem sm_1 (f : Nat → Int) : sm f 1 = f 0 := by simp [sm]
theorem filt_sm (P : Nat → Bool) : ∀ n, (((List.range n).filter P).length : Int) = sm (fun k => if P k = true then 1 else 0) n := by
  intro n
  induction n with
  | zero => rfl
  | succ n ih =>
    rw [List.range_succ, List.filter_append, List.length_append, sm_s, ← ih]
    cases h : P n
    · simp [h]
    · simp [h]
theorem dig_lo {p t m l j : Nat} (hp : 0 < p) (h : j < l) : (t * p ^ l + m) / p ^ j % p = m / p ^ j % p := by
  obtain ⟨e, rfl⟩ : ∃ e, l = j + (e + 1) := ⟨l - j - 1, by omega⟩
  rw [Nat.pow_add, show t * (p ^ j * p ^ (e + 1)) + m = m + p ^ j * (t * p ^ e * p) from by
    rw [Nat.pow_succ, Nat.add_comm]; congr 1; rw [Nat.mul_left_comm, Nat.mul_assoc]]
  rw [Nat.add_mul_div_left _ _ (Nat.pow_pos hp), Nat.add_mul_mod_self_right]
theorem dig_eq {p t m l : Nat} (hm : m < p ^ l) (ht : t < p) : (t * p ^ l + m) / p ^ l % p = t := by
  have hp : 0 < p ^ l := by omega
  rw [Nat.add_comm, Nat.add_mul_div_right _ _ hp, Nat.div_eq_of_lt hm, Nat.zero_add, Nat.mod_eq_of_lt ht]
theorem dig_lt {p t m l : Nat} (hm : m < p ^ l) (ht : t < p) : t * p ^ l + m < p ^ (l + 1) := by
  have : t * p ^ l + p ^ l ≤ p * p ^ l := by rw [← Nat.succ_mul]; exact Nat.mul_le_mul_right _ ht
  rw [Nat.pow_succ, Nat.mul_comm (p ^ l) p]
  omega
theorem dig_hi {p t m l j : Nat} (hm : m < p ^ l) (ht : t < p) (h : l < j) : (t * p ^ l + m) / p ^ j % p = 0 := by
  have h1 := dig_lt hm ht
  have h2 : p ^ (l + 1) ≤ p ^ j := Nat.pow_le_pow_right (by omega) h
  rw [Nat.div_eq_of_lt (by omega), Nat.zero_mod]
/-- every digit times t -/
def mD (p t : Nat) : Nat → Nat → Nat
  | 0, _ => 0
  | l + 1, k => (t * (k / p ^ l) % p) * p ^ l + mD p t l (k % p ^ l)
theorem mD_lt {p t : Nat} (hp : 0 < p) : ∀ l k, mD p t l k < p ^ l := by
  intro l
  induction l with
  | zero => intro k; exact Nat.one_pos
  | succ l ih => intro k; exact dig_lt (ih _) (Nat.mod_lt _ hp)
theorem mD_dig {p t : Nat} (hp : 0 < p) : ∀ l k j, k < p ^ l → j < l → mD p t l k / p ^ j % p = t * (k / p ^ j % p) % p := by
  intro l
  induction l with
  | zero => intro k j _ h; omega
  | succ l ih =>
    intro k j hk hj
    have hm := mD_lt (t := t) hp l (k % p ^ l)
    have hpl : 0 < p ^ l := Nat.pow_pos hp
    have hk2 : k % p ^ l < p ^ l := Nat.mod_lt _ hpl
    have ek : k / p ^ l * p ^ l + k % p ^ l = k := by rw [Nat.mul_comm]; exact Nat.div_add_mod k (p ^ l)
    have hq : k / p ^ l < p := by rw [Nat.div_lt_iff_lt_mul hpl]; rw [Nat.pow_succ, Nat.mul_comm] at hk; exact hk
    rw [mD]
    by_cases e : j = l
    · subst e
      rw [dig_eq hm (Nat.mod_lt _ hp), Nat.mod_eq_of_lt hq]
    · rw [dig_lo hp (by omega), ih _ j hk2 (by omega)]
      congr 2
      conv => rhs; rw [← ek]
      rw [dig_lo hp (by omega)]
theorem prm_1 {p t : Nat} (hp : p = 2 ∨ p = 3 ∨ p = 5 ∨ p = 7) (h1 : 1 ≤ t) (h2 : t < p) (f : Nat → Int) : sm (fun c => f (t * c % p)) p = sm f p := by
  rcases hp with rfl | rfl | rfl | rfl
  · obtain rfl : t = 1 := by omega
    simp [sm]
  · rcases (show t = 1 ∨ t = 2 by omega) with rfl | rfl <;> simp [sm] <;> omega
  · rcases (show t = 1 ∨ t = 2 ∨ t = 3 ∨ t = 4 by omega) with rfl | rfl | rfl | rfl <;> simp [sm] <;> omega
  · rcases (show t = 1 ∨ t = 2 ∨ t = 3 ∨ t = 4 ∨ t = 5 ∨ t = 6 by omega) with rfl | rfl | rfl | rfl | rfl | rfl <;> simp [sm] <;> omega
theorem prm_l {p t : Nat} (hp : p = 2 ∨ p = 3 ∨ p = 5 ∨ p = 7) (h1 : 1 ≤ t) (h2 : t < p) : ∀ (l : Nat) (F : Nat → Int), sm (fun k => F (mD p t l k)) (p ^ l) = sm F (p ^ l) := by
  intro l
  induction l with
  | zero => intro F; rfl
  | succ l ih =>
    intro F
    have hpl : 0 < p ^ l := Nat.pow_pos (by omega)
    rw [Nat.pow_succ, Nat.mul_comm (p ^ l) p, sm_blk, sm_blk]
    rw [← prm_1 hp h1 h2 (fun c => sm (fun k => F (c * p ^ l + k)) (p ^ l))]
    refine sm_ext (fun c hc => ?_)
    rw [← ih (fun k => F (t * c % p * p ^ l + k))]
    refine sm_ext (fun k hk => ?_)
    rw [mD, show (c * p ^ l + k) / p ^ l = c from by rw [Nat.add_comm, Nat.add_mul_div_right _ _ hpl, Nat.div_eq_of_lt hk, Nat.zero_add], show (c * p ^ l + k) % p ^ l = k from by rw [Nat.add_comm, Nat.add_mul_mod_self_right, Nat.mod_eq_of_lt hk]]
theorem fr_times {p : Nat} (hq : Dom (p : Int)) {t d : Nat} (ht : ¬ (p : Int) ∣ (t : Int)) (v : Nat → Row) {x y : Nat} (h : ∀ j, j < d → (p : Int) ∣ dgt p y j - t * dgt p x j) : ∀ N, frB v d p y N = frB v d p x N := by
  intro N
  induction N with
  | zero => rfl
  | succ N ih =>
    rw [frB, frB, ih]
    congr 1
    apply decide_eq_decide.mpr
    have e : (p : Int) ∣ sm (fun j => v N j * dgt p y j) d - t * sm (fun j => v N j * dgt p x j) d := by
      rw [← sm_smul]
      have : ∀ n, n ≤ d → (p : Int) ∣ sm (fun j => v N j * dgt p y j) n - sm (fun i => t * (v N i * dgt p x i)) n := by
        intro n
        induction n with
        | zero => intro _; exact ⟨0, by simp [sm]⟩
        | succ n ihn =>
          intro hn
          rw [sm_s, sm_s]
          obtain ⟨a, ha⟩ := ihn (by omega)
          obtain ⟨b, hb⟩ := h n (by omega)
          refine ⟨a + v N n * b, ?_⟩
          have e3 : v N n * dgt p y n = t * (v N n * dgt p x n) + p * (v N n * b) := by
            rw [show dgt p y n = t * dgt p x n + p * b by omega, Int.mul_add, Int.mul_left_comm, Int.mul_left_comm (v N n) (p : Int)]
          rw [Int.mul_add, ← ha, e3]
          omega
      exact this d (Nat.le_refl _)
    constructor
    · intro h1 h2
      apply h1
      have := Int.dvd_add e (Int.dvd_mul_of_dvd_right h2 : (p : Int) ∣ t * sm (fun j => v N j * dgt p x j) d)
      rwa [Int.sub_add_cancel] at this
    · intro h1 h2
      have := Int.dvd_sub h2 e
      rw [Int.sub_sub_self] at this
      rcases hq.2 _ _ this with g | g
      · exact ht g
      · exact h1 g
theorem fr_top {p : Nat} (hp : p = 2 ∨ p = 3 ∨ p = 5 ∨ p = 7) {t l d k N : Nat} {v : Nat → Row} (h1 : 1 ≤ t) (h2 : t < p) (hk : k < p ^ l) : frB v d p (t * p ^ l + mD p t l k) N = frB v d p (p ^ l + k) N := by
  have hp0 : 0 < p := by omega
  have hm := mD_lt (t := t) hp0 l k
  refine fr_times (dom_of hp) (t := t) (fun h => ?_) v (fun j hj => ?_) N
  · have := Int.le_of_dvd (by omega) h
    omega
  · have e : p ^ l + k = 1 * p ^ l + k := by rw [Nat.one_mul]
    rw [e]
    unfold dgt
    rcases Nat.lt_trichotomy j l with h | h | h
    · rw [dig_lo hp0 h, dig_lo hp0 h, mD_dig hp0 l k j hk h]
      have := Int.emod_add_mul_ediv ((t * (k / p ^ j % p) : Nat) : Int) p
      refine ⟨-(((t * (k / p ^ j % p) : Nat) : Int) / p), ?_⟩
      rw [Int.mul_neg]
      push_cast at this ⊢
      omega
    · subst h
      rw [dig_eq hm h2, dig_eq hk (by omega)]
      exact ⟨0, by simp⟩
    · rw [dig_hi hm h2 h, dig_hi hk (by omega) h]
      exact ⟨0, by simp⟩
theorem fr_0 {p : Nat} (v : Nat → Row) (d : Nat) : ∀ N, frB v d p 0 N = decide (N = 0) := by
  intro N
  cases N with
  | zero => rfl
  | succ N =>
    rw [frB, show decide (¬ (p : Int) ∣ sm (fun j => v N j * dgt p 0 j) d) = false from ?_]
    · simp
    · rw [decide_eq_false_iff_not, Classical.not_not, sm_ext (g := fun _ => 0) (fun i _ => by simp [dgt]), sm_zero]
      exact ⟨0, by simp⟩
theorem cfN_cnt {p : Nat} (hp : p = 2 ∨ p = 3 ∨ p = 5 ∨ p = 7) (v : Nat → Row) (N d : Nat) : ∀ l, (cfN v N d p l : Int) = sm (fun x => if frB v d p x N = true then 1 else 0) (p ^ l) := by
  have hp0 : 0 < p := by omega
  intro l
  induction l with
  | zero =>
    rw [Nat.pow_zero, show (1 : Nat) = 0 + 1 from rfl, sm_s, fr_0, cfN]
    by_cases e : N = 0
    · simp [e, sm]
    · simp [e, sm]
  | succ l ih =>
    rw [cfN, Nat.pow_succ, Nat.mul_comm (p ^ l) p, sm_blk, show p = 1 + (p - 1) from by omega, sm_split, show 1 + (p - 1) = p from by omega]
    rw [sm_1]
    have e0 : sm (fun k => if frB v d p (0 * p ^ l + k) N = true then (1 : Int) else 0) (p ^ l) = cfN v N d p l := by
      rw [ih]; exact sm_ext (fun k hk => by rw [Nat.zero_mul, Nat.zero_add])
    rw [e0]
    have e1 : ∀ c, c < p - 1 → sm (fun k => if frB v d p ((1 + c) * p ^ l + k) N = true then (1 : Int) else 0) (p ^ l) = 1 * (fcB v N d p l (p ^ l) : Int) := by
      intro c hc
      rw [fcB, filt_sm, ← prm_l hp (t := 1 + c) (by omega) (by omega) l, Int.one_mul]
      exact sm_ext (fun k hk => by rw [fr_top hp (by omega) (by omega) hk])
    rw [sm_ext (g := fun c => (fcB v N d p l (p ^ l) : Int) * 1) (fun c hc => by rw [e1 c hc]; omega), sm_smul]
    have e2 : ∀ n : Nat, sm (fun _ => (1 : Int)) n = n := by
      intro n
      induction n with
      | zero => rfl
      | succ n ih => rw [sm_s, ih]; omega
    rw [e2, Int.natCast_add, Int.natCast_mul, Int.mul_comm]
theorem cfN_eq {p : Nat} (hp : p = 2 ∨ p = 3 ∨ p = 5 ∨ p = 7) (v : Nat → Row) (N d : Nat) : cfN v N d p d = (plL v N d p).length := by
  have := cfN_cnt hp v N d d
  rw [← filt_sm] at this
  exact Int.ofNat_inj.mp this
