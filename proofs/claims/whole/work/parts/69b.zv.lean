/-! the value at -1 is the number of regions, but for its sign -/
theorem polB_sm (r : Nat → Nat) (d s j : Nat) : ∀ m, polB r d s j m = sm (fun t => if t ^^^ (t &&& s) = 0 ∧ (r t : Int) = (d : Int) - (j : Int) then (if pc9 t % 2 = 0 then 1 else -1) else 0) m := by
  intro m
  induction m with
  | zero => rfl
  | succ m ih => rw [polB, sm, ih]
theorem and_all {t N : Nat} (h : t < 2 ^ N) : t ^^^ (t &&& (2 ^ N - 1)) = 0 := by
  rw [Nat.and_two_pow_sub_one_eq_mod, Nat.mod_eq_of_lt h, Nat.xor_self]
theorem sgn_mul (a b : Nat) : sgn (a + b) = sgn a * sgn b := by
  unfold sgn
  rcases Nat.mod_two_eq_zero_or_one a with h | h <;> rcases Nat.mod_two_eq_zero_or_one b with g | g
  · rw [if_pos h, if_pos g, if_pos (show (a + b) % 2 = 0 by omega)]; rfl
  · rw [if_pos h, if_neg (show ¬ b % 2 = 0 by omega), if_neg (show ¬ (a + b) % 2 = 0 by omega)]; rfl
  · rw [if_neg (show ¬ a % 2 = 0 by omega), if_pos g, if_neg (show ¬ (a + b) % 2 = 0 by omega)]; rfl
  · rw [if_neg (show ¬ a % 2 = 0 by omega), if_neg (show ¬ b % 2 = 0 by omega), if_pos (show (a + b) % 2 = 0 by omega)]; rfl
theorem sgn_pm (a : Nat) : sgn a = 1 ∨ sgn a = -1 := by
  unfold sgn
  split
  · exact Or.inl rfl
  · exact Or.inr rfl
theorem val_sum {d N : Nat} {v : Nat → Row} (hA : Arr d N v) : polB (rkV v) d (2 ^ N - 1) 4 (2 ^ N) - polB (rkV v) d (2 ^ N - 1) 3 (2 ^ N) + polB (rkV v) d (2 ^ N - 1) 2 (2 ^ N) - polB (rkV v) d (2 ^ N - 1) 1 (2 ^ N) + polB (rkV v) d (2 ^ N - 1) 0 (2 ^ N) = sgn d * PP (cf 4) v N := by
  have h9 := hA.2.2.1
  have hp := pow9 h9
  have hd := hA.2.1
  unfold PP
  rw [polB_sm, polB_sm, polB_sm, polB_sm, polB_sm, ← sm_smul]
  have e : ∀ f g h k l : Nat → Int, sm f (2 ^ N) - sm g (2 ^ N) + sm h (2 ^ N) - sm k (2 ^ N) + sm l (2 ^ N) = sm (fun t => f t - g t + h t - k t + l t) (2 ^ N) := by
    intro f g h k l
    generalize 2 ^ N = m
    induction m with
    | zero => rfl
    | succ m ih => simp only [sm]; omega
  rw [e]
  refine sm_ext (fun t ht => ?_)
  rw [and_all ht]
  have hr := rkV_d hA t
  have e1 : rkS (cf 4) v N t = rkV v t := rkB_V h9 ht
  rw [e1, pcb_pc9 N (by omega) t ht, sgn_mul]
  have es : (if pc9 t % 2 = 0 then (1 : Int) else -1) = sgn (pc9 t) := rfl
  simp only [true_and, es]
  have hs : sgn d * (sgn (pc9 t) * sgn (rkV v t)) = sgn (pc9 t) * sgn (d + rkV v t) := by rw [sgn_mul]; grind
  rw [hs]
  obtain ⟨j, hj⟩ : ∃ j, d = rkV v t + j := ⟨d - rkV v t, by omega⟩
  have hsg : sgn (d + rkV v t) = sgn j := by
    rw [hj, show rkV v t + j + rkV v t = j + (rkV v t + rkV v t) by omega, sgn_mul, sgn_mul]
    rcases sgn_pm (rkV v t) with z | z <;> rw [z] <;> omega
  rw [hsg]
  have c4 : ((rkV v t : Int) = (d : Int) - ((4 : Nat) : Int)) = (j = 4) := propext (by omega)
  have c3 : ((rkV v t : Int) = (d : Int) - ((3 : Nat) : Int)) = (j = 3) := propext (by omega)
  have c2 : ((rkV v t : Int) = (d : Int) - ((2 : Nat) : Int)) = (j = 2) := propext (by omega)
  have c1 : ((rkV v t : Int) = (d : Int) - ((1 : Nat) : Int)) = (j = 1) := propext (by omega)
  have c0 : ((rkV v t : Int) = (d : Int) - ((0 : Nat) : Int)) = (j = 0) := propext (by omega)
  simp only [c4, c3, c2, c1, c0]
  rcases (show j = 0 ∨ j = 1 ∨ j = 2 ∨ j = 3 ∨ j = 4 by omega) with rfl | rfl | rfl | rfl | rfl
  · have : sgn 0 = 1 := rfl
    simp [this]
  · have : sgn 1 = -1 := rfl
    simp [this]
  · have : sgn 2 = 1 := rfl
    simp [this]
  · have : sgn 3 = -1 := rfl
    simp [this]
  · have : sgn 4 = 1 := rfl
    simp [this]
theorem zas {d N : Nat} {v : Nat → Row} (hA : Arr d N v) : absX (valB (rkV v) d N (i32 (-1)) 5) = nI (regL v N).length := by
  have h1 : valB (rkV v) d N (i32 (-1)) 5 = i32 (sgn d * PP (cf 4) v N) := by
    rw [← val_sum hA]
    simp only [valB]
    rw [show nI 0 = i32 0 from nI_i32 0]
    simp only [i32_mul, i32_add]
    congr 1
    simp only [show 4 - 0 = 4 from rfl, show 4 - 1 = 3 from rfl, show 4 - 2 = 2 from rfl, show 4 - 3 = 1 from rfl, show 4 - 4 = 0 from rfl]
    omega
  have h2 := reg_NN hA
  rw [NN_PP] at h2
  have h3 := reg_186 hA
  rw [h1, ← h2]
  unfold absX
  rcases sgn_pm d with z | z
  · rw [z, Int.one_mul, if_pos (by rw [show (0 : Int32) = i32 0 by decide, i32_le (by omega) (by omega)]; omega), nI_i32]
  · rw [z]
    by_cases q : (regL v N).length = 0
    · rw [q]; decide
    · rw [if_neg (by rw [show (0 : Int32) = i32 0 by decide, i32_le (by omega) (by omega)]; omega), show (0 : Int32) = i32 0 by decide, i32_sub, nI_i32]
      congr 1
      omega
