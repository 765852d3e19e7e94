/-! THE REFERENCE, third part: the matrix 'work' -/
theorem sL_sL (S : amS) (o : Nat) (f g : Nat → Int64) : sL (sL S o f) o g = sL S o g := by
  show (S.1, S.2.1, S.2.2.1, va_up (va_up S.2.2.2 o f) o g) = (S.1, S.2.1, S.2.2.1, va_up S.2.2.2 o g)
  rw [bx_uu]
theorem sL_at (S : amS) (o : Nat) (f : Nat → Int64) : (sL S o f).2.2.2 o = f := va_up_s _ _ _
theorem sL_self (S : amS) (o : Nat) : S = sL S o (S.2.2.2 o) := by
  have : va_up S.2.2.2 o (S.2.2.2 o) = S.2.2.2 := by
    funext j
    by_cases h : j = o
    · subst h; exact va_up_s _ _ _
    · exact va_up_n _ _ h
  show S = (S.1, S.2.1, S.2.2.1, va_up S.2.2.2 o (S.2.2.2 o))
  rw [this]
theorem sA_sA (S : amS) (o : Nat) (f g : Nat → Int32) : sA (sA S o f) o g = sA S o g := by
  show (S.1, va_up (va_up S.2.1 o f) o g, S.2.2) = (S.1, va_up S.2.1 o g, S.2.2)
  rw [bx_uu]
theorem sA_at (S : amS) (o : Nat) (f : Nat → Int32) : (sA S o f).2.1 o = f := va_up_s _ _ _
theorem sA_self (S : amS) (o : Nat) : S = sA S o (S.2.1 o) := by
  have : va_up S.2.1 o (S.2.1 o) = S.2.1 := by
    funext j
    by_cases h : j = o
    · subst h; exact va_up_s _ _ _
    · exact va_up_n _ _ h
  show S = (S.1, va_up S.2.1 o (S.2.1 o), S.2.2)
  rw [this]
/-- rows of k columns: f holds the matrix w of n rows, no entry above B -/
def Mx (k : Nat) (f : Nat → Int64) (n : Nat) (w : Nat → Nat → Int) (B : Int) : Prop := ∀ a c, a < n → c < k → f (k * a + c) = i64 (w a c) ∧ -B ≤ w a c ∧ w a c ≤ B
def set2 (w : Nat → Nat → Int) (a c : Nat) (x : Int) : Nat → Nat → Int := fun i j => if i = a ∧ j = c then x else w i j
theorem Mx_ix {k a c a' c' : Nat} (hc : c < k) (hc' : c' < k) (h : k * a + c = k * a' + c') : a = a' ∧ c = c' := by
  have h1 : (k * a + c) / k = a := by rw [Nat.mul_add_div (by omega), Nat.div_eq_of_lt hc]; rfl
  have h2 : (k * a' + c') / k = a' := by rw [Nat.mul_add_div (by omega), Nat.div_eq_of_lt hc']; rfl
  have h3 : a = a' := by rw [← h1, ← h2, h]
  subst h3
  exact ⟨rfl, by omega⟩
theorem Mx.set {k : Nat} {f : Nat → Int64} {n : Nat} {w : Nat → Nat → Int} {B : Int} (h : Mx k f n w B) {a c : Nat} (hc : c < k) {x : Int} (hx : -B ≤ x ∧ x ≤ B) : Mx k (vp_updL f (k * a + c) (i64 x)) n (set2 w a c x) B := by
  intro i j hi hj
  by_cases e : i = a ∧ j = c
  · obtain ⟨rfl, rfl⟩ := e
    simp only [vp_updL, set2, and_self, if_true]
    exact ⟨trivial, hx⟩
  · have e2 : k * i + j ≠ k * a + c := fun z => e (Mx_ix hj hc z)
    simp only [vp_updL, set2, e, e2, if_false]
    exact h i j hi hj
theorem Mx.ext {k : Nat} {f : Nat → Int64} {n : Nat} {w u : Nat → Nat → Int} {B : Int} (h : Mx k f n w B) (e : ∀ i j, i < n → j < k → u i j = w i j) : Mx k f n u B := by
  intro i j hi hj
  rw [e i j hi hj]
  exact h i j hi hj
theorem Mx.mono {k : Nat} {f : Nat → Int64} {n : Nat} {w : Nat → Nat → Int} {B C : Int} (h : Mx k f n w B) (e : B ≤ C) : Mx k f n w C := by
  intro i j hi hj
  obtain ⟨h1, h2, h3⟩ := h i j hi hj
  exact ⟨h1, by omega, by omega⟩
def gcdR (w : Nat → Int) : Nat → Nat
  | 0 => 0
  | j + 1 => Int.gcd (gcdR w j) (w j)
theorem gcdR_dvd (w : Nat → Int) : ∀ (j c : Nat), c < j → (gcdR w j : Int) ∣ w c := by
  intro j
  induction j with
  | zero => intro c h; omega
  | succ j ih =>
    intro c h
    by_cases hc : c = j
    · subst hc
      exact Int.gcd_dvd_right _ _
    · exact Int.dvd_trans (Int.gcd_dvd_left _ _) (ih c (by omega))
theorem gcd_le {a b : Int} {B : Int} (hB : 0 ≤ B) (ha : -B ≤ a ∧ a ≤ B) (hb : -B ≤ b ∧ b ≤ B) : (Int.gcd a b : Int) ≤ B := by
  by_cases h : a = 0
  · subst h
    have : Int.gcd 0 b = b.natAbs := Int.gcd_zero_left b
    omega
  · have h1 : Int.gcd a b ∣ a.natAbs := Int.gcd_dvd_natAbs_left a b
    have := Nat.le_of_dvd (by omega) h1
    omega
theorem gcdR_le (w : Nat → Int) {B : Int} (hB : 0 ≤ B) : ∀ j, (∀ c, c < j → -B ≤ w c ∧ w c ≤ B) → (gcdR w j : Int) ≤ B := by
  intro j
  induction j with
  | zero => intro _; exact hB
  | succ j ih =>
    intro h
    have h1 := ih (fun c hc => h c (by omega))
    exact gcd_le hB ⟨by omega, h1⟩ (h j (by omega))
set_option maxRecDepth 100000 in
set_option maxHeartbeats 4000000 in
theorem k_swap_l (S : amS) (n a b : Nat) (w : Nat → Nat → Int) (B : Int) (hn : n ≤ 9) (ha : a < n) (hb : b < n) : ∀ (k j : Nat) (f : Nat → Int64) (u : Nat → Nat → Int) (z : Value), j + k = 4 → Mx 4 f n u B → (∀ i c, i < n → c < 4 → u i c = if c < j then (if i = a then w b c else if i = b then w a c else w i c) else w i c) → X shM mX11_swapRows 2 [.ref 0, .int (nI a), .int (nI b), .int (nI j), z, .null] [] (sL S 7 f) (fun r S' => r = none ∧ ∃ f', S' = sL S 7 f' ∧ Mx 4 f' n (fun i => if i = a then w b else if i = b then w a else w i) B) := by
  intro k
  induction k with
  | zero =>
    intro j f u z h1 h2 h3
    obtain rfl : j = 4 := by omega
    refine x_iload_n dX11_swapRows_2 rfl ?_
    refine x_ic _ ic_4 dX11_swapRows_3 ?_
    refine x_icmp_geN 57 dX11_swapRows_4 rfl (by omega) (by omega) (fun c4 => ?_) (fun c4 => ?_)
    · refine x_ret dX11_swapRows_57 rfl ?_
      exact ⟨rfl, f, rfl, h2.ext (fun i c hi hc => by have e0 := h3 i c hi hc; grind)⟩
    · exact absurd c4 (by omega)
  | succ k ih =>
    intro j f u z h1 h2 h3
    have hj : j < 4 := by omega
    obtain ⟨qa, qa2⟩ := h2 a j ha hj
    obtain ⟨qb, qb2⟩ := h2 b j hb hj
    refine x_iload_n dX11_swapRows_2 rfl ?_
    refine x_ic _ ic_4 dX11_swapRows_3 ?_
    refine x_icmp_geN 57 dX11_swapRows_4 rfl (by omega) (by omega) (fun c4 => ?_) (fun c4 => ?_)
    · exact absurd c4 (by omega)
    · refine x_aload_n dX11_swapRows_7 rfl ?_
      refine x_getR dX11_swapRows_8 fl_X11_32 rfl ?_
      refine x_ic _ ic_4 dX11_swapRows_11 ?_
      refine x_iload_n dX11_swapRows_12 rfl ?_
      refine x_imulN dX11_swapRows_13 ?_
      refine x_iload_n dX11_swapRows_14 rfl ?_
      refine x_iaddN dX11_swapRows_15 ?_
      refine x_laldN dX11_swapRows_16 rfl rfl (by omega) (qa) ?_
      refine x_lstore dX11_swapRows_17 rfl ?_
      refine x_aload_n dX11_swapRows_19 rfl ?_
      refine x_getR dX11_swapRows_20 fl_X11_32 rfl ?_
      refine x_ic _ ic_4 dX11_swapRows_23 ?_
      refine x_iload_n dX11_swapRows_24 rfl ?_
      refine x_imulN dX11_swapRows_25 ?_
      refine x_iload_n dX11_swapRows_26 rfl ?_
      refine x_iaddN dX11_swapRows_27 ?_
      refine x_aload_n dX11_swapRows_28 rfl ?_
      refine x_getR dX11_swapRows_29 fl_X11_32 rfl ?_
      refine x_ic _ ic_4 dX11_swapRows_32 ?_
      refine x_iload_n dX11_swapRows_33 rfl ?_
      refine x_imulN dX11_swapRows_34 ?_
      refine x_iload_n dX11_swapRows_35 rfl ?_
      refine x_iaddN dX11_swapRows_36 ?_
      refine x_laldN dX11_swapRows_37 rfl rfl (by omega) (qb) ?_
      refine x_lastN dX11_swapRows_38 rfl rfl (by omega) ?_
      refine x_aload_n dX11_swapRows_39 rfl ?_
      refine x_getR dX11_swapRows_40 fl_X11_32 rfl ?_
      refine x_ic _ ic_4 dX11_swapRows_43 ?_
      refine x_iload_n dX11_swapRows_44 rfl ?_
      refine x_imulN dX11_swapRows_45 ?_
      refine x_iload_n dX11_swapRows_46 rfl ?_
      refine x_iaddN dX11_swapRows_47 ?_
      refine x_lload dX11_swapRows_48 rfl ?_
      refine x_lastN dX11_swapRows_50 rfl rfl (by omega) ?_
      refine x_iincN dX11_swapRows_51 rfl rfl ?_
      refine x_goto 2 dX11_swapRows_54 rfl ?_
      rw [sL_sL, sL_sL, sL_at, sL_at]
      refine ih (j + 1) _ (set2 (set2 u a j (u b j)) b j (u a j)) _ (by omega) ((h2.set hj qb2).set hj qa2) (fun i c hi hc => ?_)
      have e0 := h3 i c hi hc
      have ea := h3 a j ha hj
      have eb := h3 b j hb hj
      simp only [set2]
      grind
set_option maxRecDepth 100000 in
set_option maxHeartbeats 4000000 in
theorem k_swapRows (S : amS) (n a b : Nat) (w : Nat → Nat → Int) (B : Int) (hn : n ≤ 9) (ha : a < n) (hb : b < n) (hm : Mx 4 (S.2.2.2 7) n w B) : X shM mX11_swapRows 0 [.ref 0, .int (nI a), .int (nI b), .null, .null, .null] [] S (fun r S' => r = none ∧ ∃ f', S' = sL S 7 f' ∧ Mx 4 f' n (fun i => if i = a then w b else if i = b then w a else w i) B) := by
  refine x_ic _ ic_0 dX11_swapRows_0 ?_
  refine x_istore_n dX11_swapRows_1 rfl ?_
  refine x_st (sL_self S 7) ?_
  exact k_swap_l S n a b w B hn ha hb 4 0 _ w .null (by omega) hm (fun i c _ _ => by rw [if_neg (Nat.not_lt_zero c)])
set_option maxRecDepth 100000 in
set_option maxHeartbeats 4000000 in
theorem k_shr_1 (S : amS) (n row : Nat) (w : Nat → Nat → Int) (B : Int) (hB : 0 ≤ B ∧ B ≤ 4611686018427387904) (hn : n ≤ 9) (hr : row < n) (hm : Mx 4 (S.2.2.2 7) n w B) (Q : Option Value → amS → Prop) (hq : X shM mX11_shrink 33 [.ref 0, .int (nI row), .long (i64 (gcdR (w row) 4)), .null, .int (nI 4)] [] S Q) : ∀ (k j : Nat), j + k = 4 → X shM mX11_shrink 5 [.ref 0, .int (nI row), .long (i64 (gcdR (w row) j)), .null, .int (nI j)] [] S Q := by
  intro k
  induction k with
  | zero =>
    intro j h1
    obtain rfl : j = 4 := by omega
    refine x_iload dX11_shrink_5 rfl ?_
    refine x_ic _ ic_4 dX11_shrink_7 ?_
    refine x_icmp_geN 33 dX11_shrink_8 rfl (by omega) (by omega) (fun c8 => ?_) (fun c8 => ?_)
    · exact hq
    · exact absurd c8 (by omega)
  | succ k ih =>
    intro j h1
    have hj : j < 4 := by omega
    obtain ⟨qa, qa2⟩ := hm row j hr hj
    have hg := gcdR_le (w row) hB.1 j (fun c hc => (hm row c hr (by omega)).2)
    refine x_iload dX11_shrink_5 rfl ?_
    refine x_ic _ ic_4 dX11_shrink_7 ?_
    refine x_icmp_geN 33 dX11_shrink_8 rfl (by omega) (by omega) (fun c8 => ?_) (fun c8 => ?_)
    · exact absurd c8 (by omega)
    · refine x_lload_n dX11_shrink_11 rfl ?_
      refine x_aload_n dX11_shrink_12 rfl ?_
      refine x_getR dX11_shrink_13 fl_X11_32 rfl ?_
      refine x_ic _ ic_4 dX11_shrink_16 ?_
      refine x_iload_n dX11_shrink_17 rfl ?_
      refine x_imulN dX11_shrink_18 ?_
      refine x_iload dX11_shrink_19 rfl ?_
      refine x_iaddN dX11_shrink_21 ?_
      refine x_laldN dX11_shrink_22 rfl rfl (by omega) (qa) ?_
      refine x_s2d (N := mX11_common) dX11_shrink_23 ml_X11_93 ns_X11_common rfl (k_common S (gcdR (w row) j) (w row j) ⟨by omega, by omega⟩ ⟨by omega, by omega⟩) ?_
      refine x_lstore_n dX11_shrink_26 rfl ?_
      refine x_iincN dX11_shrink_27 rfl rfl ?_
      refine x_goto 5 dX11_shrink_30 rfl ?_
      exact ih (j + 1) (by omega)
set_option maxRecDepth 100000 in
set_option maxHeartbeats 4000000 in
theorem k_shr_2 (S : amS) (n row : Nat) (w : Nat → Nat → Int) (B : Int) (hB : 0 ≤ B ∧ B ≤ 4611686018427387904) (hn : n ≤ 9) (hr : row < n) (hm : Mx 4 (S.2.2.2 7) n w B) (g : Nat) (hg : 1 < g) (hgB : (g : Int) ≤ B) (hd : ∀ c, c < 4 → (g : Int) ∣ w row c) : ∀ (k j : Nat) (f : Nat → Int64) (u : Nat → Nat → Int), j + k = 4 → Mx 4 f n u B → (∀ i c, i < n → c < 4 → u i c = if i = row ∧ c < j then (w row c).tdiv g else w i c) → X shM mX11_shrink 36 [.ref 0, .int (nI row), .long (i64 g), .null, .int (nI j)] [] (sL S 7 f) (fun r S' => r = none ∧ ∃ f' w' g, S' = sL S 7 f' ∧ 1 ≤ g ∧ (∀ c, c < 4 → w row c = g * w' c) ∧ Mx 4 f' n (va_up w row w') B) := by
  intro k
  induction k with
  | zero =>
    intro j f u h1 h2 h3
    obtain rfl : j = 4 := by omega
    refine x_iload dX11_shrink_36 rfl ?_
    refine x_ic _ ic_4 dX11_shrink_38 ?_
    refine x_icmp_geN 69 dX11_shrink_39 rfl (by omega) (by omega) (fun c39 => ?_) (fun c39 => ?_)
    · refine x_ret dX11_shrink_69 rfl ?_
      refine ⟨rfl, f, fun c => (w row c).tdiv g, (g : Int), rfl, by omega, fun c hc => (Int.mul_tdiv_cancel' (hd c hc)).symm, h2.ext (fun i c hi hc => ?_)⟩
      rw [h3 i c hi hc]
      by_cases e : i = row
      · subst e; rw [va_up_s, if_pos ⟨rfl, by omega⟩]
      · rw [va_up_n _ _ e, if_neg (fun z => e z.1)]
    · exact absurd c39 (by omega)
  | succ k ih =>
    intro j f u h1 h2 h3
    have hj : j < 4 := by omega
    obtain ⟨qa, qa2⟩ := h2 row j hr hj
    obtain ⟨-, qb2⟩ := hm row j hr hj
    have e0 := h3 row j hr hj
    rw [if_neg (fun z => Nat.lt_irrefl _ z.2)] at e0
    have hbd := tdiv_bd (w row j) g
    refine x_iload dX11_shrink_36 rfl ?_
    refine x_ic _ ic_4 dX11_shrink_38 ?_
    refine x_icmp_geN 69 dX11_shrink_39 rfl (by omega) (by omega) (fun c39 => ?_) (fun c39 => ?_)
    · exact absurd c39 (by omega)
    · refine x_lload_n dX11_shrink_42 rfl ?_
      refine x_lc _ lc_1 dX11_shrink_43 ?_
      refine x_lcmp_le 69 dX11_shrink_44 dX11_shrink_45 rfl (by omega) (by omega) (fun c45 => ?_) (fun c45 => ?_)
      · exact absurd c45 (by omega)
      · refine x_aload_n dX11_shrink_48 rfl ?_
        refine x_getR dX11_shrink_49 fl_X11_32 rfl ?_
        refine x_ic _ ic_4 dX11_shrink_52 ?_
        refine x_iload_n dX11_shrink_53 rfl ?_
        refine x_imulN dX11_shrink_54 ?_
        refine x_iload dX11_shrink_55 rfl ?_
        refine x_iaddN dX11_shrink_57 ?_
        refine x_dup2 dX11_shrink_58 rfl rfl ?_
        refine x_laldN dX11_shrink_59 rfl rfl (by omega) ((qa.trans (congrArg i64 e0))) ?_
        refine x_lload_n dX11_shrink_60 rfl ?_
        refine x_ldivI dX11_shrink_61 (⟨by omega, by omega⟩) (⟨by omega, by omega⟩) (by omega) ?_
        refine x_lastN dX11_shrink_62 rfl rfl (by omega) ?_
        refine x_iincN dX11_shrink_63 rfl rfl ?_
        refine x_goto 36 dX11_shrink_66 rfl ?_
        rw [sL_sL, sL_at]
        refine ih (j + 1) _ (set2 u row j ((w row j).tdiv g)) (by omega) (h2.set hj ⟨by omega, by omega⟩) (fun i c hi hc => ?_)
        simp only [set2]
        by_cases e1 : i = row ∧ c = j
        · obtain ⟨rfl, rfl⟩ := e1
          rw [if_pos ⟨rfl, rfl⟩, if_pos ⟨rfl, Nat.lt_succ_self c⟩]
        · rw [if_neg e1, h3 i c hi hc]
          by_cases e2 : i = row ∧ c < j
          · rw [if_pos e2, if_pos ⟨e2.1, by omega⟩]
          · rw [if_neg e2, if_neg (fun z => by rcases Nat.lt_or_ge c j with q | q; exact e2 ⟨z.1, q⟩; exact e1 ⟨z.1, by omega⟩)]
set_option maxRecDepth 100000 in
set_option maxHeartbeats 4000000 in
theorem k_shrink (S : amS) (n row : Nat) (w : Nat → Nat → Int) (B : Int) (hB : 0 ≤ B ∧ B ≤ 4611686018427387904) (hn : n ≤ 9) (hr : row < n) (hm : Mx 4 (S.2.2.2 7) n w B) : X shM mX11_shrink 0 [.ref 0, .int (nI row), .null, .null, .null] [] S (fun r S' => r = none ∧ ∃ f' w' g, S' = sL S 7 f' ∧ 1 ≤ g ∧ (∀ c, c < 4 → w row c = g * w' c) ∧ Mx 4 f' n (va_up w row w') B) := by
  refine x_lc _ lc_0 dX11_shrink_0 ?_
  refine x_lstore_n dX11_shrink_1 rfl ?_
  refine x_ic _ ic_0 dX11_shrink_2 ?_
  refine x_istore dX11_shrink_3 rfl ?_
  refine k_shr_1 S n row w B hB hn hr hm _ ?_ 4 0 (by omega)
  have hg := gcdR_le (w row) hB.1 4 (fun c hc => (hm row c hr (by omega)).2)
  have hd := gcdR_dvd (w row) 4
  generalize gcdR (w row) 4 = g at hg hd
  refine x_ic _ ic_0 dX11_shrink_33 ?_
  refine x_istore dX11_shrink_34 rfl ?_
  by_cases h1 : 1 < g
  · refine x_st (sL_self S 7) ?_
    exact k_shr_2 S n row w B hB hn hr hm g h1 hg hd 4 0 _ w (by omega) hm (fun i c _ _ => by rw [if_neg (fun z => Nat.not_lt_zero c z.2)])
  · refine x_iload dX11_shrink_36 rfl ?_
    refine x_ic _ ic_4 dX11_shrink_38 ?_
    refine x_icmp_geN 69 dX11_shrink_39 rfl (by omega) (by omega) (fun c => ?_) (fun c => ?_)
    · omega
    · refine x_lload_n dX11_shrink_42 rfl ?_
      refine x_lc _ lc_1 dX11_shrink_43 ?_
      refine x_lcmp_le 69 dX11_shrink_44 dX11_shrink_45 rfl (by omega) (by omega) (fun c2 => ?_) (fun c2 => ?_)
      · refine x_ret dX11_shrink_69 rfl ?_
        refine ⟨rfl, S.2.2.2 7, w row, 1, sL_self S 7, by omega, fun c _ => by omega, hm.ext (fun i c hi hc => ?_)⟩
        by_cases e : i = row
        · subst e; rw [va_up_s]
        · rw [va_up_n _ _ e]
      · omega
