/-! THE CLASS: matrices -/
def Mw (f : Nat → Int64) (n wid : Nat) (w : Nat → Row) (B : Int) : Prop := ∀ a j, a < n → j < wid → f (a * 9 + j) = i64 (w a j) ∧ -B ≤ w a j ∧ w a j ≤ B
theorem Mw.set {f : Nat → Int64} {n wid : Nat} {w : Nat → Row} {B : Int} (h : Mw f n wid w B) (h9 : wid ≤ 9) {a c : Nat} (hc : c < wid) {x : Int} (hx : -B ≤ x ∧ x ≤ B) : Mw (vp_updL f (a * 9 + c) (i64 x)) n wid (set2 w a c x) B := by
  intro i j hi hj
  by_cases e : i = a ∧ j = c
  · obtain ⟨rfl, rfl⟩ := e
    simp only [vp_updL, set2, and_self, if_true]
    exact ⟨trivial, hx⟩
  · have e2 : i * 9 + j ≠ a * 9 + c := by omega
    simp only [vp_updL, set2, e, e2, if_false]
    exact h i j hi hj
theorem Mw.ext {f : Nat → Int64} {n wid : Nat} {w u : Nat → Row} {B : Int} (h : Mw f n wid w B) (e : ∀ i j, i < n → j < wid → u i j = w i j) : Mw f n wid u B := by
  intro i j hi hj
  rw [e i j hi hj]
  exact h i j hi hj
theorem Mw.mono {f : Nat → Int64} {n wid : Nat} {w : Nat → Row} {B C : Int} (h : Mw f n wid w B) (e : B ≤ C) : Mw f n wid w C := by
  intro i j hi hj
  obtain ⟨h1, h2, h3⟩ := h i j hi hj
  exact ⟨h1, by omega, by omega⟩
/-- the last k of d columns -/
def cl (d : Nat) : Nat → List Nat
  | 0 => []
  | k + 1 => (d - (k + 1)) :: cl d k
theorem cl_mem (d : Nat) : ∀ (k : Nat), k ≤ d → ∀ j ∈ cl d k, j < d := by
  intro k
  induction k with
  | zero => intro _ j hj; cases hj
  | succ k ih =>
    intro h j hj
    rcases List.mem_cons.mp hj with rfl | hj
    · omega
    · exact ih (by omega) j hj
theorem rkC_zc {q : Int} : ∀ (zs : List Nat) (l : List Row), (∀ r ∈ l, ∀ j ∈ zs, q ∣ r j) → rkC q zs l = 0 := by
  intro zs
  induction zs with
  | nil => intro l _; rfl
  | cons j zs ih =>
    intro l h
    rw [rkC_n (pv_all (fun r hr => h r hr j List.mem_cons_self))]
    exact ih l (fun r hr k hk => h r hr k (List.mem_cons_of_mem _ hk))
theorem rkC_app0 {q : Int} : ∀ (js zs : List Nat) (l : List Row), (∀ r ∈ l, ∀ j ∈ zs, q ∣ r j) → rkC q (js ++ zs) l = rkC q js l := by
  intro js
  induction js with
  | nil => intro zs l h; rw [List.nil_append, rkC_zc zs l h]; rfl
  | cons j js ih =>
    intro zs l h
    rw [List.cons_append]
    cases e : pv q j l with
    | none => rw [rkC_n e, rkC_n e, ih zs l h]
    | some x =>
      rw [rkC_s e, rkC_s e, ih zs (l.map (el x j))]
      intro r hr k hk
      obtain ⟨r0, hr0, rfl⟩ := List.mem_map.mp hr
      simp only [el]
      exact Int.dvd_sub (Int.dvd_mul_of_dvd_right (h r0 hr0 k hk)) (Int.dvd_mul_of_dvd_right (h x (pv_some e).1 k hk))
theorem rkC_cl {q : Int} {d : Nat} (h1 : 2 ≤ d) (h2 : d ≤ 4) {l : List Row} (h : ∀ r ∈ l, ∀ j, d ≤ j → r j = 0) : rkC q (cf 4) l = rkC q (cl d d) l := by
  rcases (show d = 2 ∨ d = 3 ∨ d = 4 by omega) with rfl | rfl | rfl
  · exact rkC_app0 [0, 1] [2, 3] l (fun r hr j hj => by
      rw [h r hr j (by simp at hj; omega)]
      exact Int.dvd_zero q)
  · exact rkC_app0 [0, 1, 2] [3] l (fun r hr j hj => by
      rw [h r hr j (by simp at hj; omega)]
      exact Int.dvd_zero q)
  · rfl
/-- u is made of the rows of w0, by a matrix whose rows are independent -/
def TrI (w0 u : Nat → Row) (n wid : Nat) : Prop := ∃ T : Nat → Nat → Int, (∀ a c, a < n → c < wid → u a c = sm (fun k => T a k * w0 k c) n) ∧ ∀ y : Nat → Int, (∀ k, k < n → sm (fun a => y a * T a k) n = 0) → ∀ a, a < n → y a = 0
theorem sm_pick (f : Nat → Int) (p : Nat) : ∀ n, p < n → sm (fun i => (if i = p then 1 else 0) * f i) n = f p := by
  intro n
  induction n with
  | zero => intro h; omega
  | succ n ih =>
    intro h
    simp only [sm]
    by_cases e : n = p
    · subst e
      have : sm (fun i => (if i = n then 1 else 0) * f i) n = sm (fun _ => 0) n := sm_ext (fun i hi => by rw [if_neg (by omega)]; simp)
      rw [this, sm_zero]
      simp
    · rw [ih (by omega), if_neg e]
      simp
theorem TrI.rf (w0 : Nat → Row) (n wid : Nat) : TrI w0 w0 n wid := by
  refine ⟨fun a k => if k = a then 1 else 0, fun a c ha hc => (sm_pick (fun k => w0 k c) a n ha).symm, fun y h a ha => ?_⟩
  have := h a ha
  rw [show (fun b => y b * (if a = b then (1 : Int) else 0)) = fun b => (if b = a then 1 else 0) * y b from by
    funext b
    by_cases e : b = a
    · subst e; simp
    · rw [if_neg e, if_neg (fun z => e z.symm)]; simp] at this
  rw [sm_pick y a n ha] at this
  exact this
theorem TrI.ext {w0 u u' : Nat → Row} {n wid : Nat} (h : TrI w0 u n wid) (e : ∀ a c, a < n → c < wid → u' a c = u a c) : TrI w0 u' n wid := by
  obtain ⟨T, h1, h2⟩ := h
  exact ⟨T, fun a c ha hc => by rw [e a c ha hc]; exact h1 a c ha hc, h2⟩
theorem sm_two (f g : Nat → Int) (p q : Nat) (hpq : p ≠ q) (n : Nat) (hp : p < n) (hq : q < n) (h : ∀ i, i < n → i ≠ p → i ≠ q → f i = g i) : sm f n = sm g n + (f p - g p) + (f q - g q) := by
  have e1 : sm f n = sm (fun i => if i = p then f p else (fun i => if i = q then f q else g i) i) n := sm_ext (fun i hi => by
    by_cases a : i = p
    · rw [if_pos a, a]
    · rw [if_neg a]
      by_cases b : i = q
      · simp only [if_pos b]; rw [b]
      · simp only [if_neg b]; exact h i hi a b)
  rw [e1, sm_upd _ p (f p) n hp, sm_upd g q (f q) n hq]
  simp only [if_neg hpq]
  omega
theorem TrI.swap {w0 u : Nat → Row} {n wid p r : Nat} (h : TrI w0 u n wid) (hp : p < n) (hr : r < n) : TrI w0 (fun i => if i = r then u p else if i = p then u r else u i) n wid := by
  obtain ⟨T, h1, h2⟩ := h
  refine ⟨fun i => if i = r then T p else if i = p then T r else T i, fun a c ha hc => ?_, fun y hy a ha => ?_⟩
  · dsimp only
    by_cases e : a = r
    · rw [if_pos e, if_pos e]; exact h1 p c hp hc
    · rw [if_neg e, if_neg e]
      by_cases e2 : a = p
      · rw [if_pos e2, if_pos e2]; exact h1 r c hr hc
      · rw [if_neg e2, if_neg e2]; exact h1 a c ha hc
  · by_cases epr : p = r
    · subst epr
      refine h2 y (fun k hk => ?_) a ha
      rw [← hy k hk]
      refine sm_ext (fun i hi => ?_)
      show y i * T i k = y i * (if i = p then T p else if i = p then T p else T i) k
      by_cases e : i = p
      · rw [if_pos e, e]
      · rw [if_neg e, if_neg e]
    · have key := h2 (fun i => if i = r then y p else if i = p then y r else y i) (fun k hk => by
        rw [← hy k hk]
        rw [sm_two (fun a => (if a = r then y p else if a = p then y r else y a) * T a k) (fun a => y a * (if a = r then T p else if a = p then T r else T a) k) p r epr n hp hr (fun i hi a b => by
          try dsimp only
          rw [if_neg b, if_neg a, if_neg b, if_neg a])]
        try dsimp only
        rw [if_neg epr, if_pos rfl, if_pos rfl, if_neg epr, if_pos rfl, if_pos rfl]
        omega)
      by_cases e : a = r
      · subst e
        have := key p hp
        try dsimp only at this
        rw [if_neg epr, if_pos rfl] at this
        exact this
      · by_cases e2 : a = p
        · subst e2
          have := key r hr
          try dsimp only at this
          rw [if_pos rfl] at this
          exact this
        · have := key a ha
          try dsimp only at this
          rw [if_neg e, if_neg e2] at this
          exact this
theorem TrI.row {w0 u : Nat → Row} {n wid p r : Nat} (h : TrI w0 u n wid) (hp : p < n) (hr : r < n) (hpr : p ≠ r) (g e : Int) (hg : g ≠ 0) (x : Row) (hx : ∀ c, c < wid → x c = g * u r c + e * u p c) : TrI w0 (va_up u r x) n wid := by
  obtain ⟨T, h1, h2⟩ := h
  refine ⟨va_up T r (fun k => g * T r k + e * T p k), fun a c ha hc => ?_, fun y hy a ha => ?_⟩
  · by_cases z : a = r
    · subst z
      rw [va_up_s, va_up_s, hx c hc, h1 a c ha hc, h1 p c hp hc, ← sm_lin]
      exact sm_ext (fun k hk => by grind)
    · rw [va_up_n _ _ z, va_up_n _ _ z]
      exact h1 a c ha hc
  · have key := h2 (fun i => if i = r then g * y r else if i = p then y p + e * y r else y i) (fun k hk => by
      rw [← hy k hk]
      rw [sm_two (fun a => (if a = r then g * y r else if a = p then y p + e * y r else y a) * T a k) (fun a => y a * va_up T r (fun k => g * T r k + e * T p k) a k) p r hpr n hp hr (fun i hi a b => by
        try dsimp only
        rw [if_neg b, if_neg a, va_up_n _ _ b])]
      try dsimp only
      rw [if_neg hpr, if_pos rfl, if_pos rfl, va_up_s, va_up_n _ _ hpr]
      grind)
    have kr := key r hr
    try dsimp only at kr
    rw [if_pos rfl] at kr
    have yr : y r = 0 := (Int.mul_eq_zero.mp kr).resolve_left hg
    by_cases z : a = r
    · rw [z]; exact yr
    · have ka := key a ha
      try dsimp only at ka
      rw [if_neg z] at ka
      by_cases z2 : a = p
      · subst z2
        rw [if_pos rfl, yr] at ka
        omega
      · rw [if_neg z2] at ka
        exact ka
theorem bnd_mono : ∀ {r : Nat}, r ≤ 4 → bnd r ≤ bnd 4 := by
  intro r h
  rcases (show r = 0 ∨ r = 1 ∨ r = 2 ∨ r = 3 ∨ r = 4 by omega) with rfl | rfl | rfl | rfl | rfl <;> decide
theorem TrI_step {w0 u : Nat → Row} {n wid r j : Nat} (h : TrI w0 u n wid) (hr : r < n) (hj : u r j ≠ 0) : ∀ {u2 : Nat → Row}, (∀ i c, i ≤ r → c < wid → u2 i c = u i c) → (∀ a c, r < a → a < n → c < wid → u2 a c = (if u a j = 0 then u a c else (u a c * u r j - u r c * u a j))) → TrI w0 u2 n wid := by
  intro u2 h1 h2
  have key : ∀ k, k ≤ n → TrI w0 (fun i => if r < i ∧ i < k then u2 i else u i) n wid := by
    intro k
    induction k with
    | zero => intro _; exact h.ext (fun a c ha hc => by rw [if_neg (by omega)])
    | succ k ih =>
      intro hk
      by_cases q : r < k
      · have g := ih (by omega)
        have g2 := g.row (p := r) (r := k) hr (by omega) (by omega) (if u k j = 0 then 1 else u r j) (if u k j = 0 then 0 else - u k j) (by split <;> first | decide | exact hj) (u2 k) (fun c hc => by
          try dsimp only
          rw [h2 k c q (by omega) hc, if_neg (by omega : ¬ (r < k ∧ k < k)), if_neg (by omega : ¬ (r < r ∧ r < k))]
          split
          · grind
          · grind)
        refine g2.ext (fun a c ha hc => ?_)
        by_cases z : a = k
        · subst z; rw [va_up_s, if_pos ⟨q, by omega⟩]
        · rw [va_up_n _ _ z]
          try dsimp only
          by_cases z2 : r < a ∧ a < k
          · rw [if_pos z2, if_pos ⟨z2.1, by omega⟩]
          · rw [if_neg z2, if_neg (by omega)]
      · exact (ih (by omega)).ext (fun a c ha hc => by rw [if_neg (by omega), if_neg (by omega)])
  refine (key n (Nat.le_refl _)).ext (fun a c ha hc => ?_)
  by_cases z : r < a
  · rw [if_pos ⟨z, ha⟩]
  · rw [if_neg (by omega)]
    exact h1 a c (by omega) hc
set_option maxRecDepth 100000 in
set_option maxHeartbeats 4000000 in
theorem kMA_sw (S : amS) (n wid : Nat) (hn : n ≤ 5) (h9 : wid ≤ 9) (hR : S.1 20 1 = nI n) (hW : S.1 20 3 = nI wid) (r p j : Nat) (hr : r < n) (hp : p < n) (w : Nat → Row) (B : Int) (Q : Option Value → amS → Prop) (hq : ∀ f, Mw f n wid (fun i => if i = p then w r else if i = r then w p else w i) B → Q (some (.int (nI 1))) (sL S 21 f)) : ∀ (e k : Nat) (f : Nat → Int64) (u : Nat → Row) (z : Value), k + e = wid → Mw f n wid u B → (∀ i c, i < n → c < wid → u i c = if c < k then (if i = p then w r c else if i = r then w p c else w i c) else w i c) → X shX mX5_bringUp 29 [.ref 20, .int (nI r), .int (nI j), .int (nI p), .int (nI k), z, .null] [] (sL S 21 f) Q := by
  intro e
  induction e with
  | zero =>
    intro k f u z h1 h2 h3
    obtain rfl : k = wid := by omega
    refine x_iload dX5_bringUp_29 rfl ?_
    refine x_aload_n dX5_bringUp_31 rfl ?_
    refine x_getIV dX5_bringUp_32 fl_X5_27 rfl (hW) ?_
    refine x_icmp_geN 96 dX5_bringUp_35 rfl (by omega) (by omega) (fun c35 => ?_) (fun c35 => ?_)
    · refine x_ic _ ic_1 dX5_bringUp_96 ?_
      refine x_zret1 dX5_bringUp_97 rfl ?_
      refine hq f (h2.ext (fun i c hi hc => ?_))
      rw [h3 i c hi hc, if_pos hc]
      by_cases q1 : i = p
      · rw [if_pos q1, if_pos q1]
      · rw [if_neg q1, if_neg q1]
        by_cases q2 : i = r
        · rw [if_pos q2, if_pos q2]
        · rw [if_neg q2, if_neg q2]
    · exact absurd c35 (by omega)
  | succ e ih =>
    intro k f u z h1 h2 h3
    have hk : k < wid := by omega
    obtain ⟨qa, qa2⟩ := h2 r k hr hk
    obtain ⟨qb, qb2⟩ := h2 p k hp hk
    refine x_iload dX5_bringUp_29 rfl ?_
    refine x_aload_n dX5_bringUp_31 rfl ?_
    refine x_getIV dX5_bringUp_32 fl_X5_27 rfl (hW) ?_
    refine x_icmp_geN 96 dX5_bringUp_35 rfl (by omega) (by omega) (fun c35 => ?_) (fun c35 => ?_)
    · exact absurd c35 (by omega)
    · refine x_aload_n dX5_bringUp_38 rfl ?_
      refine x_getR dX5_bringUp_39 fl_X5_11 rfl ?_
      refine x_iload_n dX5_bringUp_42 rfl ?_
      refine x_bi _ bi_9 dX5_bringUp_43 ?_
      refine x_imulN dX5_bringUp_45 ?_
      refine x_iload dX5_bringUp_46 rfl ?_
      refine x_iaddN dX5_bringUp_48 ?_
      refine x_laldN dX5_bringUp_49 rfl rfl (by omega) (qa) ?_
      refine x_lstore dX5_bringUp_50 rfl ?_
      refine x_aload_n dX5_bringUp_52 rfl ?_
      refine x_getR dX5_bringUp_53 fl_X5_11 rfl ?_
      refine x_iload_n dX5_bringUp_56 rfl ?_
      refine x_bi _ bi_9 dX5_bringUp_57 ?_
      refine x_imulN dX5_bringUp_59 ?_
      refine x_iload dX5_bringUp_60 rfl ?_
      refine x_iaddN dX5_bringUp_62 ?_
      refine x_aload_n dX5_bringUp_63 rfl ?_
      refine x_getR dX5_bringUp_64 fl_X5_11 rfl ?_
      refine x_iload_n dX5_bringUp_67 rfl ?_
      refine x_bi _ bi_9 dX5_bringUp_68 ?_
      refine x_imulN dX5_bringUp_70 ?_
      refine x_iload dX5_bringUp_71 rfl ?_
      refine x_iaddN dX5_bringUp_73 ?_
      refine x_laldN dX5_bringUp_74 rfl rfl (by omega) (qb) ?_
      refine x_lastN dX5_bringUp_75 rfl rfl (by omega) ?_
      refine x_aload_n dX5_bringUp_76 rfl ?_
      refine x_getR dX5_bringUp_77 fl_X5_11 rfl ?_
      refine x_iload_n dX5_bringUp_80 rfl ?_
      refine x_bi _ bi_9 dX5_bringUp_81 ?_
      refine x_imulN dX5_bringUp_83 ?_
      refine x_iload dX5_bringUp_84 rfl ?_
      refine x_iaddN dX5_bringUp_86 ?_
      refine x_lload dX5_bringUp_87 rfl ?_
      refine x_lastN dX5_bringUp_89 rfl rfl (by omega) ?_
      refine x_iincN dX5_bringUp_90 rfl rfl ?_
      refine x_goto 29 dX5_bringUp_93 rfl ?_
      rw [sL_sL, sL_sL, sL_at, sL_at]
      refine ih (k + 1) _ (set2 (set2 u r k (u p k)) p k (u r k)) _ (by omega) ((h2.set h9 hk qb2).set h9 hk qa2) (fun i c hi hc => ?_)
      have e0 := h3 i c hi hc
      have ea := h3 r k hr hk
      have eb := h3 p k hp hk
      simp only [set2]
      grind
set_option maxRecDepth 100000 in
set_option maxHeartbeats 4000000 in
theorem kMA_bu_l (S : amS) (n wid : Nat) (hn : n ≤ 5) (h9 : wid ≤ 9) (hR : S.1 20 1 = nI n) (hW : S.1 20 3 = nI wid) (r j : Nat) (hj : j < wid) (w : Nat → Row) (B : Int) (hB : 0 ≤ B ∧ B ≤ 4611686018427387904) (hm : Mw (S.2.2.2 21) n wid w B) (Q : Option Value → amS → Prop) (hq0 : (∀ a, r ≤ a → a < n → w a j = 0) → Q (some (.int (nI 0))) S) (hq1 : ∀ p f, r ≤ p → p < n → w p j ≠ 0 → Mw f n wid (fun i => if i = p then w r else if i = r then w p else w i) B → Q (some (.int (nI 1))) (sL S 21 f)) : ∀ (e p : Nat) (z4 z5 : Value), p + e = n → r ≤ p → (∀ a, r ≤ a → a < p → w a j = 0) → X shX mX5_bringUp 2 [.ref 20, .int (nI r), .int (nI j), .int (nI p), z4, z5, .null] [] S Q := by
  intro e
  induction e with
  | zero =>
    intro p z4 z5 h1 h2 h3
    obtain rfl : p = n := by omega
    refine x_iload_n dX5_bringUp_2 rfl ?_
    refine x_aload_n dX5_bringUp_3 rfl ?_
    refine x_getIV dX5_bringUp_4 fl_X5_15 rfl (hR) ?_
    refine x_icmp_geN 104 dX5_bringUp_7 rfl (by omega) (by omega) (fun c7 => ?_) (fun c7 => ?_)
    · refine x_ic _ ic_0 dX5_bringUp_104 ?_
      refine x_zret0 dX5_bringUp_105 rfl ?_
      exact hq0 h3
    · exact absurd c7 (by omega)
  | succ e ih =>
    intro p z4 z5 h1 h2 h3
    obtain ⟨qa, qa2⟩ := hm p j (by omega) hj
    refine x_iload_n dX5_bringUp_2 rfl ?_
    refine x_aload_n dX5_bringUp_3 rfl ?_
    refine x_getIV dX5_bringUp_4 fl_X5_15 rfl (hR) ?_
    refine x_icmp_geN 104 dX5_bringUp_7 rfl (by omega) (by omega) (fun c7 => ?_) (fun c7 => ?_)
    · exact absurd c7 (by omega)
    · refine x_aload_n dX5_bringUp_10 rfl ?_
      refine x_getR dX5_bringUp_11 fl_X5_11 rfl ?_
      refine x_iload_n dX5_bringUp_14 rfl ?_
      refine x_bi _ bi_9 dX5_bringUp_15 ?_
      refine x_imulN dX5_bringUp_17 ?_
      refine x_iload_n dX5_bringUp_18 rfl ?_
      refine x_iaddN dX5_bringUp_19 ?_
      refine x_laldN dX5_bringUp_20 rfl rfl (by omega) (qa) ?_
      refine x_lc _ lc_0 dX5_bringUp_21 ?_
      refine x_lcmp_eq 98 dX5_bringUp_22 dX5_bringUp_23 rfl (by omega) (by omega) (fun c23 => ?_) (fun c23 => ?_)
      · refine x_iincN dX5_bringUp_98 rfl rfl ?_
        refine x_goto 2 dX5_bringUp_101 rfl ?_
        refine ih (p + 1) _ _ (by omega) (by omega) (fun a ha1 ha2 => ?_)
        by_cases e : a = p
        · subst e; exact c23
        · exact h3 a ha1 (by omega)
      · refine x_ic _ ic_0 dX5_bringUp_26 ?_
        refine x_istore dX5_bringUp_27 rfl ?_
        refine x_st (sL_self S 21) ?_
        exact kMA_sw S n wid hn h9 hR hW r p j (by omega) (by omega) w B Q (fun f hf => hq1 p f h2 (by omega) c23 hf) wid 0 _ w _ (by omega) hm (fun i c _ _ => by rw [if_neg (Nat.not_lt_zero c)])
set_option maxRecDepth 100000 in
set_option maxHeartbeats 4000000 in
theorem kMA_bringUp (S : amS) (n wid : Nat) (hn : n ≤ 5) (h9 : wid ≤ 9) (hR : S.1 20 1 = nI n) (hW : S.1 20 3 = nI wid) (r j : Nat) (hr : r < n) (hj : j < wid) (w : Nat → Row) (B : Int) (hB : 0 ≤ B ∧ B ≤ 4611686018427387904) (hm : Mw (S.2.2.2 21) n wid w B) : X shX mX5_bringUp 0 [.ref 20, .int (nI r), .int (nI j), .null, .null, .null, .null] [] S (fun q S' => (q = some (.int (nI 0)) ∧ S' = S ∧ ∀ a, r ≤ a → a < n → w a j = 0) ∨ ∃ p f, q = some (.int (nI 1)) ∧ S' = sL S 21 f ∧ r ≤ p ∧ p < n ∧ w p j ≠ 0 ∧ Mw f n wid (fun i => if i = p then w r else if i = r then w p else w i) B) := by
  refine x_iload_n dX5_bringUp_0 rfl ?_
  refine x_istore_n dX5_bringUp_1 rfl ?_
  exact kMA_bu_l S n wid hn h9 hR hW r j hj w B hB hm _ (fun h => Or.inl ⟨rfl, rfl, h⟩) (fun p f h1 h2 h3 h4 => Or.inr ⟨p, f, rfl, rfl, h1, h2, h3, h4⟩) (n - r) r _ _ (by omega) (Nat.le_refl _) (fun a h1 h2 => absurd h1 (by omega))
set_option maxRecDepth 100000 in
set_option maxHeartbeats 4000000 in
theorem kMA_st_l (S : amS) (n wid : Nat) (hn : n ≤ 5) (h9 : wid ≤ 9) (hR : S.1 20 1 = nI n) (hW : S.1 20 3 = nI wid) (row by0 j : Nat) (hr : row < n) (hb : by0 < n) (hne : by0 ≠ row) (hj : j < wid) (w : Nat → Row) (B C : Int) (hB : 0 ≤ B) (hBC : B ≤ C) (hC : C ≤ 4611686018427387904) (hC2 : C = 2 * (B * B)) (hw : ∀ c, c < wid → (-B ≤ w row c ∧ w row c ≤ B) ∧ (-B ≤ w by0 c ∧ w by0 c ≤ B)) (Q : Option Value → amS → Prop) (hq : ∀ f, Mw f n wid (va_up w row (fun e => (w row e * w by0 j - w by0 e * w row j))) C → Q none (sL S 21 f)) : ∀ (e k : Nat) (f : Nat → Int64) (u : Nat → Row) (z : Value), k + e = wid → Mw f n wid u C → (∀ i c, i < n → c < wid → u i c = if i = row ∧ c < k then (w row c * w by0 j - w by0 c * w row j) else w i c) → X shX mX5_strike 37 [.ref 20, .int (nI row), .int (nI by0), .int (nI j), .int (nI 0), .long (i64 (w row j)), .null, .long (i64 (w by0 j)), .null, .int (nI k), z, .null] [] (sL S 21 f) Q := by
  intro e
  induction e with
  | zero =>
    intro k f u z h1 h2 h3
    obtain rfl : k = wid := by omega
    refine x_iload dX5_strike_37 rfl ?_
    refine x_aload_n dX5_strike_39 rfl ?_
    refine x_getIV dX5_strike_40 fl_X5_27 rfl (hW) ?_
    refine x_icmp_geN 113 dX5_strike_43 rfl (by omega) (by omega) (fun c43 => ?_) (fun c43 => ?_)
    · refine x_ret dX5_strike_113 rfl ?_
      refine hq f (h2.ext (fun i c hi hc => ?_))
      rw [h3 i c hi hc]
      by_cases q : i = row
      · subst q; rw [va_up_s, if_pos ⟨rfl, hc⟩]
      · rw [va_up_n _ _ q, if_neg (fun z => q z.1)]
    · exact absurd c43 (by omega)
  | succ e ih =>
    intro k f u z h1 h2 h3
    have hk : k < wid := by omega
    obtain ⟨qa, -⟩ := h2 row k hr hk
    obtain ⟨qb, -⟩ := h2 by0 k hb hk
    have ea := h3 row k hr hk
    rw [if_neg (by omega)] at ea
    have eb := h3 by0 k hb hk
    rw [if_neg (by omega)] at eb
    have b1 := mul_bd (hw k hk).1 (hw j hj).2
    have b2 := mul_bd (hw k hk).2 (hw j hj).1
    refine x_iload dX5_strike_37 rfl ?_
    refine x_aload_n dX5_strike_39 rfl ?_
    refine x_getIV dX5_strike_40 fl_X5_27 rfl (hW) ?_
    refine x_icmp_geN 113 dX5_strike_43 rfl (by omega) (by omega) (fun c43 => ?_) (fun c43 => ?_)
    · exact absurd c43 (by omega)
    · refine x_aload_n dX5_strike_46 rfl ?_
      refine x_getR dX5_strike_47 fl_X5_11 rfl ?_
      refine x_iload_n dX5_strike_50 rfl ?_
      refine x_bi _ bi_9 dX5_strike_51 ?_
      refine x_imulN dX5_strike_53 ?_
      refine x_iload dX5_strike_54 rfl ?_
      refine x_iaddN dX5_strike_56 ?_
      refine x_laldN dX5_strike_57 rfl rfl (by omega) ((qa.trans (congrArg i64 ea))) ?_
      refine x_lload dX5_strike_58 rfl ?_
      refine x_lmulI dX5_strike_60 ?_
      refine x_aload_n dX5_strike_61 rfl ?_
      refine x_getR dX5_strike_62 fl_X5_11 rfl ?_
      refine x_iload_n dX5_strike_65 rfl ?_
      refine x_bi _ bi_9 dX5_strike_66 ?_
      refine x_imulN dX5_strike_68 ?_
      refine x_iload dX5_strike_69 rfl ?_
      refine x_iaddN dX5_strike_71 ?_
      refine x_laldN dX5_strike_72 rfl rfl (by omega) ((qb.trans (congrArg i64 eb))) ?_
      refine x_lload dX5_strike_73 rfl ?_
      refine x_lmulI dX5_strike_75 ?_
      refine x_lsubI dX5_strike_76 ?_
      refine x_lstore dX5_strike_77 rfl ?_
      refine x_aload_n dX5_strike_79 rfl ?_
      refine x_getR dX5_strike_80 fl_X5_11 rfl ?_
      refine x_iload_n dX5_strike_83 rfl ?_
      refine x_bi _ bi_9 dX5_strike_84 ?_
      refine x_imulN dX5_strike_86 ?_
      refine x_iload dX5_strike_87 rfl ?_
      refine x_iaddN dX5_strike_89 ?_
      refine x_iload dX5_strike_90 rfl ?_
      refine x_topI ?_
      refine x_if_leI 104 dX5_strike_92 rfl (by omega) (fun c92 => ?_) (fun c92 => ?_)
      · refine x_lload dX5_strike_104 rfl ?_
        refine x_lastN dX5_strike_106 rfl rfl (by omega) ?_
        refine x_iincN dX5_strike_107 rfl rfl ?_
        refine x_goto 37 dX5_strike_110 rfl ?_
        rw [sL_sL, sL_at]
        refine ih (k + 1) _ (set2 u row k ((w row k * w by0 j - w by0 k * w row j))) _ (by omega) (h2.set h9 hk ⟨by omega, by omega⟩) (fun i c hi hc => ?_)
        simp only [set2]
        by_cases e1 : i = row ∧ c = k
        · obtain ⟨rfl, rfl⟩ := e1
          rw [if_pos ⟨rfl, rfl⟩, if_pos ⟨rfl, by omega⟩]
        · rw [if_neg e1, h3 i c hi hc]
          by_cases e2 : i = row ∧ c < k
          · rw [if_pos e2, if_pos ⟨e2.1, by omega⟩]
          · rw [if_neg e2, if_neg (by omega)]
      · exact absurd c92 (by omega)
set_option maxRecDepth 100000 in
set_option maxHeartbeats 4000000 in
theorem kMA_strike (S : amS) (n wid : Nat) (hn : n ≤ 5) (h9 : wid ≤ 9) (hR : S.1 20 1 = nI n) (hW : S.1 20 3 = nI wid) (row by0 j : Nat) (hr : row < n) (hb : by0 < n) (hne : by0 ≠ row) (hj : j < wid) (w : Nat → Row) (B C : Int) (hB : 0 ≤ B) (hBC : B ≤ C) (hC : C ≤ 4611686018427387904) (hC2 : C = 2 * (B * B)) (hw : ∀ c, c < wid → (-B ≤ w row c ∧ w row c ≤ B) ∧ (-B ≤ w by0 c ∧ w by0 c ≤ B)) (hm : Mw (S.2.2.2 21) n wid w C) : X shX mX5_strike 0 [.ref 20, .int (nI row), .int (nI by0), .int (nI j), .int (nI 0), .null, .null, .null, .null, .null, .null, .null] [] S (fun q S' => q = none ∧ ∃ f, S' = sL S 21 f ∧ Mw f n wid (va_up w row (fun e => if w row j = 0 then w row e else (w row e * w by0 j - w by0 e * w row j))) C) := by
  have hj1 := hw j hj
  refine x_aload_n dX5_strike_0 rfl ?_
  refine x_getR dX5_strike_1 fl_X5_11 rfl ?_
  refine x_iload_n dX5_strike_4 rfl ?_
  refine x_bi _ bi_9 dX5_strike_5 ?_
  refine x_imulN dX5_strike_7 ?_
  refine x_iload_n dX5_strike_8 rfl ?_
  refine x_iaddN dX5_strike_9 ?_
  refine x_laldN dX5_strike_10 rfl rfl (by omega) ((hm row j hr hj).1) ?_
  refine x_lstore dX5_strike_11 rfl ?_
  refine x_aload_n dX5_strike_13 rfl ?_
  refine x_getR dX5_strike_14 fl_X5_11 rfl ?_
  refine x_iload_n dX5_strike_17 rfl ?_
  refine x_bi _ bi_9 dX5_strike_18 ?_
  refine x_imulN dX5_strike_20 ?_
  refine x_iload_n dX5_strike_21 rfl ?_
  refine x_iaddN dX5_strike_22 ?_
  refine x_laldN dX5_strike_23 rfl rfl (by omega) ((hm by0 j hb hj).1) ?_
  refine x_lstore dX5_strike_24 rfl ?_
  refine x_lload dX5_strike_26 rfl ?_
  refine x_lc _ lc_0 dX5_strike_28 ?_
  refine x_lcmp_ne 34 dX5_strike_29 dX5_strike_30 rfl (by omega) (by omega) (fun c30 => ?_) (fun c30 => ?_)
  · refine x_ic _ ic_0 dX5_strike_34 ?_
    refine x_istore dX5_strike_35 rfl ?_
    refine x_st (sL_self S 21) ?_
    refine kMA_st_l S n wid hn h9 hR hW row by0 j hr hb hne hj w B C hB hBC hC hC2 hw _ (fun f hf => ⟨rfl, f, rfl, hf.ext (fun i c hi hc => ?_)⟩) wid 0 _ w _ (by omega) hm (fun i c _ _ => by rw [if_neg (fun z => Nat.not_lt_zero c z.2)])
    by_cases q : i = row
    · subst q; rw [va_up_s, va_up_s, if_neg c30]
    · rw [va_up_n _ _ q, va_up_n _ _ q]
  · refine x_ret dX5_strike_33 rfl ?_
    refine ⟨rfl, S.2.2.2 21, sL_self S 21, hm.ext (fun i c hi hc => ?_)⟩
    by_cases q : i = row
    · subst q; rw [va_up_s, if_pos c30]
    · rw [va_up_n _ _ q]
set_option maxRecDepth 100000 in
set_option maxHeartbeats 4000000 in
theorem kMA_in (S : amS) (n wid : Nat) (hn : n ≤ 5) (h9 : wid ≤ 9) (hR : S.1 20 1 = nI n) (hW : S.1 20 3 = nI wid) (r j : Nat) (hr : r < n) (hj : j < wid) (w : Nat → Row) (B C : Int) (hB : 0 ≤ B) (hBC : B ≤ C) (hC : C ≤ 4611686018427387904) (hC2 : C = 2 * (B * B)) (hw : ∀ i c, i < n → c < wid → -B ≤ w i c ∧ w i c ≤ B) (Q : Option Value → amS → Prop) (hq : ∀ f u, Mw f n wid u C → (∀ i c, i ≤ r → c < wid → u i c = w i c) → (∀ a c, r < a → a < n → c < wid → u a c = (if w a j = 0 then w a c else (w a c * w r j - w r c * w a j))) → X shX mX5_reduce 63 [.ref 20, .int (nI 0), .int (nI r), .int (nI j), .int (nI n)] [] (sL S 21 f) Q) : ∀ (e k : Nat) (f : Nat → Int64) (u : Nat → Row), k + e = n → r < k → Mw f n wid u C → (∀ i c, i < n → c < wid → i ≤ r ∨ k ≤ i → u i c = w i c) → (∀ a c, r < a → a < k → c < wid → u a c = (if w a j = 0 then w a c else (w a c * w r j - w r c * w a j))) → X shX mX5_reduce 39 [.ref 20, .int (nI 0), .int (nI r), .int (nI j), .int (nI k)] [] (sL S 21 f) Q := by
  intro e
  induction e with
  | zero =>
    intro k f u h1 h2 h3 h4 h5
    obtain rfl : k = n := by omega
    refine x_iload dX5_reduce_39 rfl ?_
    refine x_aload_n dX5_reduce_41 rfl ?_
    refine x_getIV dX5_reduce_42 fl_X5_15 rfl (hR) ?_
    refine x_icmp_geN 63 dX5_reduce_45 rfl (by omega) (by omega) (fun c45 => ?_) (fun c45 => ?_)
    · exact hq f u h3 (fun i c hi hc => h4 i c (by omega) hc (Or.inl hi)) h5
    · exact absurd c45 (by omega)
  | succ e ih =>
    intro k f u h1 h2 h3 h4 h5
    refine x_iload dX5_reduce_39 rfl ?_
    refine x_aload_n dX5_reduce_41 rfl ?_
    refine x_getIV dX5_reduce_42 fl_X5_15 rfl (hR) ?_
    refine x_icmp_geN 63 dX5_reduce_45 rfl (by omega) (by omega) (fun c45 => ?_) (fun c45 => ?_)
    · exact absurd c45 (by omega)
    · refine x_aload_n dX5_reduce_48 rfl ?_
      refine x_iload dX5_reduce_49 rfl ?_
      refine x_iload_n dX5_reduce_51 rfl ?_
      refine x_iload_n dX5_reduce_52 rfl ?_
      refine x_iload_n dX5_reduce_53 rfl ?_
      refine x_v4 (N := mX5_strike) dX5_reduce_54 ml_X5_45 nv_X5_strike rfl rfl (kMA_strike (sL S 21 f) n wid hn h9 hR hW k r j (by omega) hr (by omega) hj u B C hB hBC hC hC2 (fun c hc => ⟨by rw [h4 k c (by omega) hc (Or.inr (Nat.le_refl _))]; exact hw k c (by omega) hc, by rw [h4 r c hr hc (Or.inl (Nat.le_refl _))]; exact hw r c hr hc⟩) (by rw [sL_at]; exact h3)) ?_
      rintro _ _ ⟨rfl, f2, rfl, hm2⟩
      refine x_iincN dX5_reduce_57 rfl rfl ?_
      refine x_goto 39 dX5_reduce_60 rfl ?_
      rw [sL_sL]
      refine ih (k + 1) f2 _ (by omega) (by omega) hm2 (fun i c hi hc hz => ?_) (fun a c h6 h7 hc => ?_)
      · rw [va_up_n _ _ (by omega)]
        exact h4 i c hi hc (by omega)
      · by_cases q : a = k
        · subst q
          rw [va_up_s]
          try dsimp only
          rw [h4 a j (by omega) hj (Or.inr (Nat.le_refl _)), h4 a c (by omega) hc (Or.inr (Nat.le_refl _)), h4 r j hr hj (Or.inl (Nat.le_refl _)), h4 r c hr hc (Or.inl (Nat.le_refl _))]
        · rw [va_up_n _ _ q]
          exact h5 a c h6 (by omega) hc
set_option maxRecDepth 100000 in
set_option maxHeartbeats 4000000 in
theorem kMA_out (S : amS) (n wid d : Nat) (hd : 2 ≤ d ∧ d ≤ 4) (hdw : d ≤ wid) (hn : n ≤ 5) (h9 : wid ≤ 9) (hR : S.1 20 1 = nI n) (hW : S.1 20 3 = nI wid) (hD : S.1 20 2 = nI d) (w0 : Nat → Row) (Rk : Nat) : ∀ (e j r : Nat) (f : Nat → Int64) (u : Nat → Row) (z : Value), j + e = d → r ≤ j → r ≤ n → Mw f n wid u (bnd r) → TrI w0 u n wid → (∀ a c, r ≤ a → a < n → c < j → u a c = 0) → r + rkC (0 : Int) (cl d e) (act u r n) = Rk → X shX mX5_reduce 9 [.ref 20, .int (nI 0), .int (nI r), .int (nI j), z] [] (sL S 21 f) (fun v S' => v = some (.int (nI Rk)) ∧ ∃ f u, S' = sL S 21 f ∧ Mw f n wid u (bnd 4) ∧ TrI w0 u n wid ∧ ∀ a e, Rk ≤ a → a < n → e < d → u a e = 0) := by
  intro e
  induction e with
  | zero =>
    intro j r f u z h1 h2 h3 h4 h5 h6 h7
    obtain rfl : j = d := by omega
    simp only [cl, rkC, Nat.add_zero] at h7
    refine x_iload_n dX5_reduce_9 rfl ?_
    refine x_aload_n dX5_reduce_10 rfl ?_
    refine x_getIV dX5_reduce_11 fl_X5_24 rfl (hD) ?_
    refine x_icmp_geN 72 dX5_reduce_14 rfl (by omega) (by omega) (fun c14 => ?_) (fun c14 => ?_)
    · refine x_iload_n dX5_reduce_72 rfl ?_
      refine x_iretI dX5_reduce_73 rfl ?_
      subst h7
      exact ⟨rfl, f, u, rfl, h4.mono (bnd_mono (by omega)), h5, fun a e h8 h9 h10 => h6 a e h8 h9 h10⟩
    · exact absurd c14 (by omega)
  | succ e ih =>
    intro j r f u z h1 h2 h3 h4 h5 h6 h7
    have ej : d - (e + 1) = j := by omega
    rw [cl, ej] at h7
    have hcl := cl_mem d e (by omega)
    obtain ⟨b0, b1, b2, b3, b4⟩ := bnd_ok r (by omega)
    refine x_iload_n dX5_reduce_9 rfl ?_
    refine x_aload_n dX5_reduce_10 rfl ?_
    refine x_getIV dX5_reduce_11 fl_X5_24 rfl (hD) ?_
    refine x_icmp_geN 72 dX5_reduce_14 rfl (by omega) (by omega) (fun c14 => ?_) (fun c14 => ?_)
    · exact absurd c14 (by omega)
    · refine x_iload_n dX5_reduce_17 rfl ?_
      refine x_aload_n dX5_reduce_18 rfl ?_
      refine x_getIV dX5_reduce_19 fl_X5_15 rfl (hR) ?_
      refine x_icmp_geN 72 dX5_reduce_22 rfl (by omega) (by omega) (fun c22 => ?_) (fun c22 => ?_)
      · refine x_iload_n dX5_reduce_72 rfl ?_
        refine x_iretI dX5_reduce_73 rfl ?_
        obtain rfl : r = n := by omega
        have e0 : act u r r = [] := by unfold act; rw [Nat.sub_self]; rfl
        rw [e0] at h7
        have e1 : rkC (0 : Int) (j :: cl d e) [] = 0 := Nat.le_zero.mp (rkC_len dom0 _ [])
        rw [e1] at h7
        subst h7
        exact ⟨rfl, f, u, rfl, h4.mono (bnd_mono (by omega)), h5, fun a e h8 h9 h10 => absurd h9 (by omega)⟩
      · refine x_aload_n dX5_reduce_25 rfl ?_
        refine x_iload_n dX5_reduce_26 rfl ?_
        refine x_iload_n dX5_reduce_27 rfl ?_
        refine x_v2 (N := mX5_bringUp) dX5_reduce_28 ml_X5_41 nv_X5_bringUp rfl rfl (kMA_bringUp (sL S 21 f) n wid hn h9 hR hW r j (by omega) (by omega) u (bnd r) ⟨b0, by omega⟩ (by rw [sL_at]; exact h4)) ?_
        rintro _ _ (⟨rfl, rfl, hz⟩ | ⟨pp, f1, rfl, rfl, hp1, hp2, hp3, hm1⟩)
        · refine x_if_eqN 66 dX5_reduce_31 rfl (by omega) (fun c31 => ?_) (fun c31 => ?_)
          · refine x_iincN dX5_reduce_66 rfl rfl ?_
            refine x_goto 9 dX5_reduce_69 rfl ?_
            rw [act_none (q := (0 : Int)) (fun a h8 h9 => by rw [hz a h8 h9]; exact Int.dvd_zero _)] at h7
            exact ih (j + 1) r f u _ (by omega) (by omega) h3 h4 h5 (fun a c h8 h9 h10 => (Nat.lt_or_eq_of_le (Nat.le_of_lt_succ h10)).elim (fun q => h6 a c h8 h9 q) (fun q => by rw [q]; exact hz a h8 h9)) h7
          · exact absurd rfl c31
        · rw [sL_sL]
          obtain ⟨W, hWW⟩ : ∃ W : Nat → Row, W = fun i => if i = pp then u r else if i = r then u pp else u i := ⟨_, rfl⟩
          rw [← hWW] at hm1
          have e1 : W r = u pp := by
            rw [hWW]
            show (if r = pp then u r else if r = r then u pp else u r) = u pp
            by_cases q : r = pp
            · rw [if_pos q, q]
            · rw [if_neg q, if_pos rfl]
          have e2 : ∀ a, r < a → W a = (if a = pp then u r else u a) := by
            intro a ha
            rw [hWW]
            show (if a = pp then u r else if a = r then u pp else u a) = _
            rw [if_neg (show a ≠ r by omega)]
          refine x_if_eqN 66 dX5_reduce_31 rfl (by omega) (fun c31 => ?_) (fun c31 => ?_)
          · exact absurd c31 (by omega)
          · refine x_iload_n dX5_reduce_34 rfl ?_
            refine x_ic _ ic_1 dX5_reduce_35 ?_
            refine x_iaddN dX5_reduce_36 ?_
            refine x_istore dX5_reduce_37 rfl ?_
            refine kMA_in S n wid hn h9 hR hW r j (by omega) (by omega) W (bnd r) (bnd (r + 1)) b0 b2 b3 b4 (fun i c hi hc => (hm1 i c hi hc).2) _ ?_ (n - (r + 1)) (r + 1) f1 _ (by omega) (by omega) (hm1.mono b2) (fun i c _ _ _ => rfl) (fun a c h8 h9 => absurd h8 (by omega))
            intro f2 u2 t1 t2 t3
            refine x_iincN dX5_reduce_63 rfl rfl ?_
            refine x_iincN dX5_reduce_66 rfl rfl ?_
            refine x_goto 9 dX5_reduce_69 rfl ?_
            refine ih (j + 1) (r + 1) f2 u2 _ (by omega) (by omega) (by omega) t1 ?_ ?_ ?_
            · refine TrI_step (u := W) (r := r) (j := j) ?_ (by omega) ?_ (fun i c hi hc => t2 i c hi hc) (fun a c h8 h9 hc => t3 a c h8 h9 hc)
              · rw [hWW]; exact h5.swap (p := r) (r := pp) (by omega) hp2
              · rw [e1]; exact hp3
            · intro a c h8 h9 h10
              rw [t3 a c (by omega) h9 (by omega)]
              have g1 : ∀ i, r ≤ i → i < n → ∀ c, c < j → W i c = 0 := by
                intro i hi hi2 c hc
                rw [hWW]
                show (if i = pp then u r else if i = r then u pp else u i) c = 0
                split
                · exact h6 r c (Nat.le_refl _) (by omega) hc
                · split
                  · exact h6 pp c hp1 hp2 hc
                  · exact h6 i c hi hi2 hc
              by_cases q : c = j
              · subst q
                split
                · assumption
                · grind
              · rw [g1 a (by omega) h9 c (by omega), g1 r (Nat.le_refl _) (by omega) c (by omega)]
                simp
            · rw [act_step dom0 (u := u2) (lo := r) (p := pp) ⟨hp1, hp2⟩ (by rw [Int.zero_dvd]; exact hp3) (fun a h8 h9 => ?_)] at h7
              · omega
              · have e3 := fun c hc => t3 a c h8 h9 hc
                rw [e1, e2 a h8] at e3
                by_cases q : (if a = pp then u r else u a) j = 0
                · refine ⟨u pp j, by rw [Int.zero_dvd]; exact hp3, fun c hc => ?_⟩
                  have hcd := hcl c hc
                  rw [e3 c (by omega), if_pos q, Int.zero_dvd]
                  simp only [el]
                  rw [q]
                  grind
                · refine ⟨1, by decide, fun c hc => ?_⟩
                  have hcd := hcl c hc
                  rw [e3 c (by omega), if_neg q, Int.zero_dvd]
                  simp only [el]
                  grind
set_option maxRecDepth 100000 in
set_option maxHeartbeats 4000000 in
theorem kMB_sw (S : amS) (n wid : Nat) (hn : n ≤ 5) (h9 : wid ≤ 9) (hR : S.1 39 1 = nI n) (hW : S.1 39 3 = nI wid) (r p j : Nat) (hr : r < n) (hp : p < n) (w : Nat → Row) (B : Int) (Q : Option Value → amS → Prop) (hq : ∀ f, Mw f n wid (fun i => if i = p then w r else if i = r then w p else w i) B → Q (some (.int (nI 1))) (sL S 40 f)) : ∀ (e k : Nat) (f : Nat → Int64) (u : Nat → Row) (z : Value), k + e = wid → Mw f n wid u B → (∀ i c, i < n → c < wid → u i c = if c < k then (if i = p then w r c else if i = r then w p c else w i c) else w i c) → X shX mX5_bringUp 29 [.ref 39, .int (nI r), .int (nI j), .int (nI p), .int (nI k), z, .null] [] (sL S 40 f) Q := by
  intro e
  induction e with
  | zero =>
    intro k f u z h1 h2 h3
    obtain rfl : k = wid := by omega
    refine x_iload dX5_bringUp_29 rfl ?_
    refine x_aload_n dX5_bringUp_31 rfl ?_
    refine x_getIV dX5_bringUp_32 fl_X5_27 rfl (hW) ?_
    refine x_icmp_geN 96 dX5_bringUp_35 rfl (by omega) (by omega) (fun c35 => ?_) (fun c35 => ?_)
    · refine x_ic _ ic_1 dX5_bringUp_96 ?_
      refine x_zret1 dX5_bringUp_97 rfl ?_
      refine hq f (h2.ext (fun i c hi hc => ?_))
      rw [h3 i c hi hc, if_pos hc]
      by_cases q1 : i = p
      · rw [if_pos q1, if_pos q1]
      · rw [if_neg q1, if_neg q1]
        by_cases q2 : i = r
        · rw [if_pos q2, if_pos q2]
        · rw [if_neg q2, if_neg q2]
    · exact absurd c35 (by omega)
  | succ e ih =>
    intro k f u z h1 h2 h3
    have hk : k < wid := by omega
    obtain ⟨qa, qa2⟩ := h2 r k hr hk
    obtain ⟨qb, qb2⟩ := h2 p k hp hk
    refine x_iload dX5_bringUp_29 rfl ?_
    refine x_aload_n dX5_bringUp_31 rfl ?_
    refine x_getIV dX5_bringUp_32 fl_X5_27 rfl (hW) ?_
    refine x_icmp_geN 96 dX5_bringUp_35 rfl (by omega) (by omega) (fun c35 => ?_) (fun c35 => ?_)
    · exact absurd c35 (by omega)
    · refine x_aload_n dX5_bringUp_38 rfl ?_
      refine x_getR dX5_bringUp_39 fl_X5_11 rfl ?_
      refine x_iload_n dX5_bringUp_42 rfl ?_
      refine x_bi _ bi_9 dX5_bringUp_43 ?_
      refine x_imulN dX5_bringUp_45 ?_
      refine x_iload dX5_bringUp_46 rfl ?_
      refine x_iaddN dX5_bringUp_48 ?_
      refine x_laldN dX5_bringUp_49 rfl rfl (by omega) (qa) ?_
      refine x_lstore dX5_bringUp_50 rfl ?_
      refine x_aload_n dX5_bringUp_52 rfl ?_
      refine x_getR dX5_bringUp_53 fl_X5_11 rfl ?_
      refine x_iload_n dX5_bringUp_56 rfl ?_
      refine x_bi _ bi_9 dX5_bringUp_57 ?_
      refine x_imulN dX5_bringUp_59 ?_
      refine x_iload dX5_bringUp_60 rfl ?_
      refine x_iaddN dX5_bringUp_62 ?_
      refine x_aload_n dX5_bringUp_63 rfl ?_
      refine x_getR dX5_bringUp_64 fl_X5_11 rfl ?_
      refine x_iload_n dX5_bringUp_67 rfl ?_
      refine x_bi _ bi_9 dX5_bringUp_68 ?_
      refine x_imulN dX5_bringUp_70 ?_
      refine x_iload dX5_bringUp_71 rfl ?_
      refine x_iaddN dX5_bringUp_73 ?_
      refine x_laldN dX5_bringUp_74 rfl rfl (by omega) (qb) ?_
      refine x_lastN dX5_bringUp_75 rfl rfl (by omega) ?_
      refine x_aload_n dX5_bringUp_76 rfl ?_
      refine x_getR dX5_bringUp_77 fl_X5_11 rfl ?_
      refine x_iload_n dX5_bringUp_80 rfl ?_
      refine x_bi _ bi_9 dX5_bringUp_81 ?_
      refine x_imulN dX5_bringUp_83 ?_
      refine x_iload dX5_bringUp_84 rfl ?_
      refine x_iaddN dX5_bringUp_86 ?_
      refine x_lload dX5_bringUp_87 rfl ?_
      refine x_lastN dX5_bringUp_89 rfl rfl (by omega) ?_
      refine x_iincN dX5_bringUp_90 rfl rfl ?_
      refine x_goto 29 dX5_bringUp_93 rfl ?_
      rw [sL_sL, sL_sL, sL_at, sL_at]
      refine ih (k + 1) _ (set2 (set2 u r k (u p k)) p k (u r k)) _ (by omega) ((h2.set h9 hk qb2).set h9 hk qa2) (fun i c hi hc => ?_)
      have e0 := h3 i c hi hc
      have ea := h3 r k hr hk
      have eb := h3 p k hp hk
      simp only [set2]
      grind
set_option maxRecDepth 100000 in
set_option maxHeartbeats 4000000 in
theorem kMB_bu_l (S : amS) (n wid : Nat) (hn : n ≤ 5) (h9 : wid ≤ 9) (hR : S.1 39 1 = nI n) (hW : S.1 39 3 = nI wid) (r j : Nat) (hj : j < wid) (w : Nat → Row) (B : Int) (hB : 0 ≤ B ∧ B ≤ 4611686018427387904) (hm : Mw (S.2.2.2 40) n wid w B) (Q : Option Value → amS → Prop) (hq0 : (∀ a, r ≤ a → a < n → w a j = 0) → Q (some (.int (nI 0))) S) (hq1 : ∀ p f, r ≤ p → p < n → w p j ≠ 0 → Mw f n wid (fun i => if i = p then w r else if i = r then w p else w i) B → Q (some (.int (nI 1))) (sL S 40 f)) : ∀ (e p : Nat) (z4 z5 : Value), p + e = n → r ≤ p → (∀ a, r ≤ a → a < p → w a j = 0) → X shX mX5_bringUp 2 [.ref 39, .int (nI r), .int (nI j), .int (nI p), z4, z5, .null] [] S Q := by
  intro e
  induction e with
  | zero =>
    intro p z4 z5 h1 h2 h3
    obtain rfl : p = n := by omega
    refine x_iload_n dX5_bringUp_2 rfl ?_
    refine x_aload_n dX5_bringUp_3 rfl ?_
    refine x_getIV dX5_bringUp_4 fl_X5_15 rfl (hR) ?_
    refine x_icmp_geN 104 dX5_bringUp_7 rfl (by omega) (by omega) (fun c7 => ?_) (fun c7 => ?_)
    · refine x_ic _ ic_0 dX5_bringUp_104 ?_
      refine x_zret0 dX5_bringUp_105 rfl ?_
      exact hq0 h3
    · exact absurd c7 (by omega)
  | succ e ih =>
    intro p z4 z5 h1 h2 h3
    obtain ⟨qa, qa2⟩ := hm p j (by omega) hj
    refine x_iload_n dX5_bringUp_2 rfl ?_
    refine x_aload_n dX5_bringUp_3 rfl ?_
    refine x_getIV dX5_bringUp_4 fl_X5_15 rfl (hR) ?_
    refine x_icmp_geN 104 dX5_bringUp_7 rfl (by omega) (by omega) (fun c7 => ?_) (fun c7 => ?_)
    · exact absurd c7 (by omega)
    · refine x_aload_n dX5_bringUp_10 rfl ?_
      refine x_getR dX5_bringUp_11 fl_X5_11 rfl ?_
      refine x_iload_n dX5_bringUp_14 rfl ?_
      refine x_bi _ bi_9 dX5_bringUp_15 ?_
      refine x_imulN dX5_bringUp_17 ?_
      refine x_iload_n dX5_bringUp_18 rfl ?_
      refine x_iaddN dX5_bringUp_19 ?_
      refine x_laldN dX5_bringUp_20 rfl rfl (by omega) (qa) ?_
      refine x_lc _ lc_0 dX5_bringUp_21 ?_
      refine x_lcmp_eq 98 dX5_bringUp_22 dX5_bringUp_23 rfl (by omega) (by omega) (fun c23 => ?_) (fun c23 => ?_)
      · refine x_iincN dX5_bringUp_98 rfl rfl ?_
        refine x_goto 2 dX5_bringUp_101 rfl ?_
        refine ih (p + 1) _ _ (by omega) (by omega) (fun a ha1 ha2 => ?_)
        by_cases e : a = p
        · subst e; exact c23
        · exact h3 a ha1 (by omega)
      · refine x_ic _ ic_0 dX5_bringUp_26 ?_
        refine x_istore dX5_bringUp_27 rfl ?_
        refine x_st (sL_self S 40) ?_
        exact kMB_sw S n wid hn h9 hR hW r p j (by omega) (by omega) w B Q (fun f hf => hq1 p f h2 (by omega) c23 hf) wid 0 _ w _ (by omega) hm (fun i c _ _ => by rw [if_neg (Nat.not_lt_zero c)])
set_option maxRecDepth 100000 in
set_option maxHeartbeats 4000000 in
theorem kMB_bringUp (S : amS) (n wid : Nat) (hn : n ≤ 5) (h9 : wid ≤ 9) (hR : S.1 39 1 = nI n) (hW : S.1 39 3 = nI wid) (r j : Nat) (hr : r < n) (hj : j < wid) (w : Nat → Row) (B : Int) (hB : 0 ≤ B ∧ B ≤ 4611686018427387904) (hm : Mw (S.2.2.2 40) n wid w B) : X shX mX5_bringUp 0 [.ref 39, .int (nI r), .int (nI j), .null, .null, .null, .null] [] S (fun q S' => (q = some (.int (nI 0)) ∧ S' = S ∧ ∀ a, r ≤ a → a < n → w a j = 0) ∨ ∃ p f, q = some (.int (nI 1)) ∧ S' = sL S 40 f ∧ r ≤ p ∧ p < n ∧ w p j ≠ 0 ∧ Mw f n wid (fun i => if i = p then w r else if i = r then w p else w i) B) := by
  refine x_iload_n dX5_bringUp_0 rfl ?_
  refine x_istore_n dX5_bringUp_1 rfl ?_
  exact kMB_bu_l S n wid hn h9 hR hW r j hj w B hB hm _ (fun h => Or.inl ⟨rfl, rfl, h⟩) (fun p f h1 h2 h3 h4 => Or.inr ⟨p, f, rfl, rfl, h1, h2, h3, h4⟩) (n - r) r _ _ (by omega) (Nat.le_refl _) (fun a h1 h2 => absurd h1 (by omega))
set_option maxRecDepth 100000 in
set_option maxHeartbeats 4000000 in
theorem kMB_st_l (S : amS) (n wid : Nat) (hn : n ≤ 5) (h9 : wid ≤ 9) (hR : S.1 39 1 = nI n) (hW : S.1 39 3 = nI wid) (p : Nat) (hp : 2 ≤ p ∧ p ≤ 7) (row by0 j : Nat) (hr : row < n) (hb : by0 < n) (hne : by0 ≠ row) (hj : j < wid) (w : Nat → Row) (B C : Int) (hBp : B = p - 1) (hC : C = B) (hw : ∀ c, c < wid → (-B ≤ w row c ∧ w row c ≤ B) ∧ (-B ≤ w by0 c ∧ w by0 c ≤ B)) (Q : Option Value → amS → Prop) (hq : ∀ f, Mw f n wid (va_up w row (fun e => (w row e * w by0 j - w by0 e * w row j).tmod p)) C → Q none (sL S 40 f)) : ∀ (e k : Nat) (f : Nat → Int64) (u : Nat → Row) (z : Value), k + e = wid → Mw f n wid u C → (∀ i c, i < n → c < wid → u i c = if i = row ∧ c < k then (w row c * w by0 j - w by0 c * w row j).tmod p else w i c) → X shX mX5_strike 37 [.ref 39, .int (nI row), .int (nI by0), .int (nI j), .int (nI p), .long (i64 (w row j)), .null, .long (i64 (w by0 j)), .null, .int (nI k), z, .null] [] (sL S 40 f) Q := by
  intro e
  induction e with
  | zero =>
    intro k f u z h1 h2 h3
    obtain rfl : k = wid := by omega
    refine x_iload dX5_strike_37 rfl ?_
    refine x_aload_n dX5_strike_39 rfl ?_
    refine x_getIV dX5_strike_40 fl_X5_27 rfl (hW) ?_
    refine x_icmp_geN 113 dX5_strike_43 rfl (by omega) (by omega) (fun c43 => ?_) (fun c43 => ?_)
    · refine x_ret dX5_strike_113 rfl ?_
      refine hq f (h2.ext (fun i c hi hc => ?_))
      rw [h3 i c hi hc]
      by_cases q : i = row
      · subst q; rw [va_up_s, if_pos ⟨rfl, hc⟩]
      · rw [va_up_n _ _ q, if_neg (fun z => q z.1)]
    · exact absurd c43 (by omega)
  | succ e ih =>
    intro k f u z h1 h2 h3
    have hk : k < wid := by omega
    obtain ⟨qa, -⟩ := h2 row k hr hk
    obtain ⟨qb, -⟩ := h2 by0 k hb hk
    have ea := h3 row k hr hk
    rw [if_neg (by omega)] at ea
    have eb := h3 by0 k hb hk
    rw [if_neg (by omega)] at eb
    have b1 := mul_bd (hw k hk).1 (hw j hj).2
    have b2 := mul_bd (hw k hk).2 (hw j hj).1
    have b3 : B * B ≤ 36 := by
      subst hBp
      rcases (show p = 2 ∨ p = 3 ∨ p = 4 ∨ p = 5 ∨ p = 6 ∨ p = 7 by omega) with rfl | rfl | rfl | rfl | rfl | rfl <;> decide
    have b4 : -C ≤ (w row k * w by0 j - w by0 k * w row j).tmod p ∧ (w row k * w by0 j - w by0 k * w row j).tmod p ≤ C := by
      have z1 := Int.tmod_lt_of_pos (w row k * w by0 j - w by0 k * w row j) (b := (p : Int)) (by omega)
      have z2 := Int.lt_tmod_of_pos (w row k * w by0 j - w by0 k * w row j) (b := (p : Int)) (by omega)
      omega
    refine x_iload dX5_strike_37 rfl ?_
    refine x_aload_n dX5_strike_39 rfl ?_
    refine x_getIV dX5_strike_40 fl_X5_27 rfl (hW) ?_
    refine x_icmp_geN 113 dX5_strike_43 rfl (by omega) (by omega) (fun c43 => ?_) (fun c43 => ?_)
    · exact absurd c43 (by omega)
    · refine x_aload_n dX5_strike_46 rfl ?_
      refine x_getR dX5_strike_47 fl_X5_11 rfl ?_
      refine x_iload_n dX5_strike_50 rfl ?_
      refine x_bi _ bi_9 dX5_strike_51 ?_
      refine x_imulN dX5_strike_53 ?_
      refine x_iload dX5_strike_54 rfl ?_
      refine x_iaddN dX5_strike_56 ?_
      refine x_laldN dX5_strike_57 rfl rfl (by omega) ((qa.trans (congrArg i64 ea))) ?_
      refine x_lload dX5_strike_58 rfl ?_
      refine x_lmulI dX5_strike_60 ?_
      refine x_aload_n dX5_strike_61 rfl ?_
      refine x_getR dX5_strike_62 fl_X5_11 rfl ?_
      refine x_iload_n dX5_strike_65 rfl ?_
      refine x_bi _ bi_9 dX5_strike_66 ?_
      refine x_imulN dX5_strike_68 ?_
      refine x_iload dX5_strike_69 rfl ?_
      refine x_iaddN dX5_strike_71 ?_
      refine x_laldN dX5_strike_72 rfl rfl (by omega) ((qb.trans (congrArg i64 eb))) ?_
      refine x_lload dX5_strike_73 rfl ?_
      refine x_lmulI dX5_strike_75 ?_
      refine x_lsubI dX5_strike_76 ?_
      refine x_lstore dX5_strike_77 rfl ?_
      refine x_aload_n dX5_strike_79 rfl ?_
      refine x_getR dX5_strike_80 fl_X5_11 rfl ?_
      refine x_iload_n dX5_strike_83 rfl ?_
      refine x_bi _ bi_9 dX5_strike_84 ?_
      refine x_imulN dX5_strike_86 ?_
      refine x_iload dX5_strike_87 rfl ?_
      refine x_iaddN dX5_strike_89 ?_
      refine x_iload dX5_strike_90 rfl ?_
      refine x_topI ?_
      refine x_if_leI 104 dX5_strike_92 rfl (by omega) (fun c92 => ?_) (fun c92 => ?_)
      · exact absurd c92 (by omega)
      · refine x_lload dX5_strike_95 rfl ?_
        refine x_iload dX5_strike_97 rfl ?_
        refine x_topI ?_
        refine x_i2lI dX5_strike_99 (by omega) (by omega) ?_
        refine x_lremI dX5_strike_100 (by omega) (by omega) (by omega) ?_
        refine x_goto 106 dX5_strike_101 rfl ?_
        refine x_lastN dX5_strike_106 rfl rfl (by omega) ?_
        refine x_iincN dX5_strike_107 rfl rfl ?_
        refine x_goto 37 dX5_strike_110 rfl ?_
        rw [sL_sL, sL_at]
        refine ih (k + 1) _ (set2 u row k ((w row k * w by0 j - w by0 k * w row j).tmod p)) _ (by omega) (h2.set h9 hk b4) (fun i c hi hc => ?_)
        simp only [set2]
        by_cases e1 : i = row ∧ c = k
        · obtain ⟨rfl, rfl⟩ := e1
          rw [if_pos ⟨rfl, rfl⟩, if_pos ⟨rfl, by omega⟩]
        · rw [if_neg e1, h3 i c hi hc]
          by_cases e2 : i = row ∧ c < k
          · rw [if_pos e2, if_pos ⟨e2.1, by omega⟩]
          · rw [if_neg e2, if_neg (by omega)]
set_option maxRecDepth 100000 in
set_option maxHeartbeats 4000000 in
theorem kMB_strike (S : amS) (n wid : Nat) (hn : n ≤ 5) (h9 : wid ≤ 9) (hR : S.1 39 1 = nI n) (hW : S.1 39 3 = nI wid) (p : Nat) (hp : 2 ≤ p ∧ p ≤ 7) (row by0 j : Nat) (hr : row < n) (hb : by0 < n) (hne : by0 ≠ row) (hj : j < wid) (w : Nat → Row) (B C : Int) (hBp : B = p - 1) (hC : C = B) (hw : ∀ c, c < wid → (-B ≤ w row c ∧ w row c ≤ B) ∧ (-B ≤ w by0 c ∧ w by0 c ≤ B)) (hm : Mw (S.2.2.2 40) n wid w C) : X shX mX5_strike 0 [.ref 39, .int (nI row), .int (nI by0), .int (nI j), .int (nI p), .null, .null, .null, .null, .null, .null, .null] [] S (fun q S' => q = none ∧ ∃ f, S' = sL S 40 f ∧ Mw f n wid (va_up w row (fun e => if w row j = 0 then w row e else (w row e * w by0 j - w by0 e * w row j).tmod p)) C) := by
  have hj1 := hw j hj
  have b3 : (p : Int) ≤ 7 := by omega
  refine x_aload_n dX5_strike_0 rfl ?_
  refine x_getR dX5_strike_1 fl_X5_11 rfl ?_
  refine x_iload_n dX5_strike_4 rfl ?_
  refine x_bi _ bi_9 dX5_strike_5 ?_
  refine x_imulN dX5_strike_7 ?_
  refine x_iload_n dX5_strike_8 rfl ?_
  refine x_iaddN dX5_strike_9 ?_
  refine x_laldN dX5_strike_10 rfl rfl (by omega) ((hm row j hr hj).1) ?_
  refine x_lstore dX5_strike_11 rfl ?_
  refine x_aload_n dX5_strike_13 rfl ?_
  refine x_getR dX5_strike_14 fl_X5_11 rfl ?_
  refine x_iload_n dX5_strike_17 rfl ?_
  refine x_bi _ bi_9 dX5_strike_18 ?_
  refine x_imulN dX5_strike_20 ?_
  refine x_iload_n dX5_strike_21 rfl ?_
  refine x_iaddN dX5_strike_22 ?_
  refine x_laldN dX5_strike_23 rfl rfl (by omega) ((hm by0 j hb hj).1) ?_
  refine x_lstore dX5_strike_24 rfl ?_
  refine x_lload dX5_strike_26 rfl ?_
  refine x_lc _ lc_0 dX5_strike_28 ?_
  refine x_lcmp_ne 34 dX5_strike_29 dX5_strike_30 rfl (by omega) (by omega) (fun c30 => ?_) (fun c30 => ?_)
  · refine x_ic _ ic_0 dX5_strike_34 ?_
    refine x_istore dX5_strike_35 rfl ?_
    refine x_st (sL_self S 40) ?_
    refine kMB_st_l S n wid hn h9 hR hW p hp row by0 j hr hb hne hj w B C hBp hC hw _ (fun f hf => ⟨rfl, f, rfl, hf.ext (fun i c hi hc => ?_)⟩) wid 0 _ w _ (by omega) hm (fun i c _ _ => by rw [if_neg (fun z => Nat.not_lt_zero c z.2)])
    by_cases q : i = row
    · subst q; rw [va_up_s, va_up_s, if_neg c30]
    · rw [va_up_n _ _ q, va_up_n _ _ q]
  · refine x_ret dX5_strike_33 rfl ?_
    refine ⟨rfl, S.2.2.2 40, sL_self S 40, hm.ext (fun i c hi hc => ?_)⟩
    by_cases q : i = row
    · subst q; rw [va_up_s, if_pos c30]
    · rw [va_up_n _ _ q]
set_option maxRecDepth 100000 in
set_option maxHeartbeats 4000000 in
theorem kMB_in (S : amS) (n wid : Nat) (hn : n ≤ 5) (h9 : wid ≤ 9) (hR : S.1 39 1 = nI n) (hW : S.1 39 3 = nI wid) (p : Nat) (hp : 2 ≤ p ∧ p ≤ 7) (r j : Nat) (hr : r < n) (hj : j < wid) (w : Nat → Row) (B C : Int) (hBp : B = p - 1) (hC : C = B) (hw : ∀ i c, i < n → c < wid → -B ≤ w i c ∧ w i c ≤ B) (Q : Option Value → amS → Prop) (hq : ∀ f u, Mw f n wid u C → (∀ i c, i ≤ r → c < wid → u i c = w i c) → (∀ a c, r < a → a < n → c < wid → u a c = (if w a j = 0 then w a c else (w a c * w r j - w r c * w a j).tmod p)) → X shX mX5_reduce 63 [.ref 39, .int (nI p), .int (nI r), .int (nI j), .int (nI n)] [] (sL S 40 f) Q) : ∀ (e k : Nat) (f : Nat → Int64) (u : Nat → Row), k + e = n → r < k → Mw f n wid u C → (∀ i c, i < n → c < wid → i ≤ r ∨ k ≤ i → u i c = w i c) → (∀ a c, r < a → a < k → c < wid → u a c = (if w a j = 0 then w a c else (w a c * w r j - w r c * w a j).tmod p)) → X shX mX5_reduce 39 [.ref 39, .int (nI p), .int (nI r), .int (nI j), .int (nI k)] [] (sL S 40 f) Q := by
  intro e
  induction e with
  | zero =>
    intro k f u h1 h2 h3 h4 h5
    obtain rfl : k = n := by omega
    refine x_iload dX5_reduce_39 rfl ?_
    refine x_aload_n dX5_reduce_41 rfl ?_
    refine x_getIV dX5_reduce_42 fl_X5_15 rfl (hR) ?_
    refine x_icmp_geN 63 dX5_reduce_45 rfl (by omega) (by omega) (fun c45 => ?_) (fun c45 => ?_)
    · exact hq f u h3 (fun i c hi hc => h4 i c (by omega) hc (Or.inl hi)) h5
    · exact absurd c45 (by omega)
  | succ e ih =>
    intro k f u h1 h2 h3 h4 h5
    refine x_iload dX5_reduce_39 rfl ?_
    refine x_aload_n dX5_reduce_41 rfl ?_
    refine x_getIV dX5_reduce_42 fl_X5_15 rfl (hR) ?_
    refine x_icmp_geN 63 dX5_reduce_45 rfl (by omega) (by omega) (fun c45 => ?_) (fun c45 => ?_)
    · exact absurd c45 (by omega)
    · refine x_aload_n dX5_reduce_48 rfl ?_
      refine x_iload dX5_reduce_49 rfl ?_
      refine x_iload_n dX5_reduce_51 rfl ?_
      refine x_iload_n dX5_reduce_52 rfl ?_
      refine x_iload_n dX5_reduce_53 rfl ?_
      refine x_v4 (N := mX5_strike) dX5_reduce_54 ml_X5_45 nv_X5_strike rfl rfl (kMB_strike (sL S 40 f) n wid hn h9 hR hW p hp k r j (by omega) hr (by omega) hj u B C hBp hC (fun c hc => ⟨by rw [h4 k c (by omega) hc (Or.inr (Nat.le_refl _))]; exact hw k c (by omega) hc, by rw [h4 r c hr hc (Or.inl (Nat.le_refl _))]; exact hw r c hr hc⟩) (by rw [sL_at]; exact h3)) ?_
      rintro _ _ ⟨rfl, f2, rfl, hm2⟩
      refine x_iincN dX5_reduce_57 rfl rfl ?_
      refine x_goto 39 dX5_reduce_60 rfl ?_
      rw [sL_sL]
      refine ih (k + 1) f2 _ (by omega) (by omega) hm2 (fun i c hi hc hz => ?_) (fun a c h6 h7 hc => ?_)
      · rw [va_up_n _ _ (by omega)]
        exact h4 i c hi hc (by omega)
      · by_cases q : a = k
        · subst q
          rw [va_up_s]
          try dsimp only
          rw [h4 a j (by omega) hj (Or.inr (Nat.le_refl _)), h4 a c (by omega) hc (Or.inr (Nat.le_refl _)), h4 r j hr hj (Or.inl (Nat.le_refl _)), h4 r c hr hc (Or.inl (Nat.le_refl _))]
        · rw [va_up_n _ _ q]
          exact h5 a c h6 (by omega) hc
set_option maxRecDepth 100000 in
set_option maxHeartbeats 4000000 in
theorem kMB_out (S : amS) (n wid d : Nat) (hd : 2 ≤ d ∧ d ≤ 4) (hdw : d ≤ wid) (hn : n ≤ 5) (h9 : wid ≤ 9) (hR : S.1 39 1 = nI n) (hW : S.1 39 3 = nI wid) (hD : S.1 39 2 = nI d) (p : Nat) (hp : 2 ≤ p ∧ p ≤ 7) (hdom : Dom p) (w0 : Nat → Row) (Rk : Nat) : ∀ (e j r : Nat) (f : Nat → Int64) (u : Nat → Row) (z : Value), j + e = d → r ≤ j → r ≤ n → Mw f n wid u (p - 1 : Int) → r + rkC (p : Int) (cl d e) (act u r n) = Rk → X shX mX5_reduce 9 [.ref 39, .int (nI p), .int (nI r), .int (nI j), z] [] (sL S 40 f) (fun v S' => v = some (.int (nI Rk)) ∧ ∃ f, S' = sL S 40 f) := by
  intro e
  induction e with
  | zero =>
    intro j r f u z h1 h2 h3 h4 h7
    obtain rfl : j = d := by omega
    simp only [cl, rkC, Nat.add_zero] at h7
    refine x_iload_n dX5_reduce_9 rfl ?_
    refine x_aload_n dX5_reduce_10 rfl ?_
    refine x_getIV dX5_reduce_11 fl_X5_24 rfl (hD) ?_
    refine x_icmp_geN 72 dX5_reduce_14 rfl (by omega) (by omega) (fun c14 => ?_) (fun c14 => ?_)
    · refine x_iload_n dX5_reduce_72 rfl ?_
      refine x_iretI dX5_reduce_73 rfl ?_
      subst h7
      exact ⟨rfl, f, rfl⟩
    · exact absurd c14 (by omega)
  | succ e ih =>
    intro j r f u z h1 h2 h3 h4 h7
    have ej : d - (e + 1) = j := by omega
    rw [cl, ej] at h7
    have hcl := cl_mem d e (by omega)
    refine x_iload_n dX5_reduce_9 rfl ?_
    refine x_aload_n dX5_reduce_10 rfl ?_
    refine x_getIV dX5_reduce_11 fl_X5_24 rfl (hD) ?_
    refine x_icmp_geN 72 dX5_reduce_14 rfl (by omega) (by omega) (fun c14 => ?_) (fun c14 => ?_)
    · exact absurd c14 (by omega)
    · refine x_iload_n dX5_reduce_17 rfl ?_
      refine x_aload_n dX5_reduce_18 rfl ?_
      refine x_getIV dX5_reduce_19 fl_X5_15 rfl (hR) ?_
      refine x_icmp_geN 72 dX5_reduce_22 rfl (by omega) (by omega) (fun c22 => ?_) (fun c22 => ?_)
      · refine x_iload_n dX5_reduce_72 rfl ?_
        refine x_iretI dX5_reduce_73 rfl ?_
        obtain rfl : r = n := by omega
        have e0 : act u r r = [] := by unfold act; rw [Nat.sub_self]; rfl
        rw [e0] at h7
        have e1 : rkC (p : Int) (j :: cl d e) [] = 0 := Nat.le_zero.mp (rkC_len hdom _ [])
        rw [e1] at h7
        subst h7
        exact ⟨rfl, f, rfl⟩
      · refine x_aload_n dX5_reduce_25 rfl ?_
        refine x_iload_n dX5_reduce_26 rfl ?_
        refine x_iload_n dX5_reduce_27 rfl ?_
        refine x_v2 (N := mX5_bringUp) dX5_reduce_28 ml_X5_41 nv_X5_bringUp rfl rfl (kMB_bringUp (sL S 40 f) n wid hn h9 hR hW r j (by omega) (by omega) u (p - 1 : Int) ⟨by omega, by omega⟩ (by rw [sL_at]; exact h4)) ?_
        rintro _ _ (⟨rfl, rfl, hz⟩ | ⟨pp, f1, rfl, rfl, hp1, hp2, hp3, hm1⟩)
        · refine x_if_eqN 66 dX5_reduce_31 rfl (by omega) (fun c31 => ?_) (fun c31 => ?_)
          · refine x_iincN dX5_reduce_66 rfl rfl ?_
            refine x_goto 9 dX5_reduce_69 rfl ?_
            rw [act_none (q := (p : Int)) (fun a h8 h9 => by rw [hz a h8 h9]; exact Int.dvd_zero _)] at h7
            exact ih (j + 1) r f u _ (by omega) (by omega) h3 h4 h7
          · exact absurd rfl c31
        · rw [sL_sL]
          obtain ⟨W, hWW⟩ : ∃ W : Nat → Row, W = fun i => if i = pp then u r else if i = r then u pp else u i := ⟨_, rfl⟩
          rw [← hWW] at hm1
          have e1 : W r = u pp := by
            rw [hWW]
            show (if r = pp then u r else if r = r then u pp else u r) = u pp
            by_cases q : r = pp
            · rw [if_pos q, q]
            · rw [if_neg q, if_pos rfl]
          have e2 : ∀ a, r < a → W a = (if a = pp then u r else u a) := by
            intro a ha
            rw [hWW]
            show (if a = pp then u r else if a = r then u pp else u a) = _
            rw [if_neg (show a ≠ r by omega)]
          refine x_if_eqN 66 dX5_reduce_31 rfl (by omega) (fun c31 => ?_) (fun c31 => ?_)
          · exact absurd c31 (by omega)
          · refine x_iload_n dX5_reduce_34 rfl ?_
            refine x_ic _ ic_1 dX5_reduce_35 ?_
            refine x_iaddN dX5_reduce_36 ?_
            refine x_istore dX5_reduce_37 rfl ?_
            refine kMB_in S n wid hn h9 hR hW p hp r j (by omega) (by omega) W (p - 1 : Int) (p - 1 : Int) rfl rfl (fun i c hi hc => (hm1 i c hi hc).2) _ ?_ (n - (r + 1)) (r + 1) f1 _ (by omega) (by omega) hm1 (fun i c _ _ _ => rfl) (fun a c h8 h9 => absurd h8 (by omega))
            intro f2 u2 t1 t2 t3
            refine x_iincN dX5_reduce_63 rfl rfl ?_
            refine x_iincN dX5_reduce_66 rfl rfl ?_
            refine x_goto 9 dX5_reduce_69 rfl ?_
            refine ih (j + 1) (r + 1) f2 u2 _ (by omega) (by omega) (by omega) t1 ?_
            have pb : ∀ x : Int, (-(p - 1 : Int) ≤ x ∧ x ≤ (p - 1 : Int)) → x ≠ 0 → ¬ (p : Int) ∣ x := fun x hx hx0 hd => hx0 (Int.eq_zero_of_dvd_of_natAbs_lt_natAbs hd (by omega))
            have bp := (h4 pp j hp2 (by omega)).2
            rw [act_step hdom (u := u2) (lo := r) (p := pp) ⟨hp1, hp2⟩ (pb _ bp hp3) (fun a h8 h9 => ?_)] at h7
            · omega
            · have e3 := fun c hc => t3 a c h8 h9 hc
              rw [e1, e2 a h8] at e3
              by_cases q : (if a = pp then u r else u a) j = 0
              · refine ⟨u pp j, pb _ bp hp3, fun c hc => ?_⟩
                have hcd := hcl c hc
                rw [e3 c (by omega), if_pos q]
                simp only [el]
                rw [q]
                exact ⟨0, by grind⟩
              · refine ⟨1, hdom.1, fun c hc => ?_⟩
                have hcd := hcl c hc
                rw [e3 c (by omega), if_neg q]
                simp only [el]
                have e4 := Int.mul_tdiv_add_tmod ((if a = pp then u r else u a) c * u pp j - u pp c * (if a = pp then u r else u a) j) p
                generalize ((if a = pp then u r else u a) c * u pp j - u pp c * (if a = pp then u r else u a) j).tmod p = tm at e4 ⊢
                generalize hK : ((if a = pp then u r else u a) c * u pp j - u pp c * (if a = pp then u r else u a) j).tdiv p = K at e4
                exact ⟨-K, by grind⟩
