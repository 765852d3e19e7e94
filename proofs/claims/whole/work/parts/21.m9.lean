/-! THE REFERENCE: findFactors, first half -/
def colsB (s : Nat) : Nat → List Nat
  | 0 => []
  | i + 1 => if s.testBit i then colsB s i ++ [i] else colsB s i
/-- the k-th plane of a set -/
def colB (s N k : Nat) : Nat := (colsB s N).getD k 0
theorem colsB_len (s N : Nat) : (colsB s N).length = pcb s N := by
  induction N with
  | zero => rfl
  | succ N ih =>
    unfold colsB pcb
    cases s.testBit N
    · simp [ih]
    · simp [ih]
theorem colsB_at (s : Nat) : ∀ N i, i < N → s.testBit i = true → (colsB s N)[pcb s i]? = some i := by
  intro N
  induction N with
  | zero => intro i h; omega
  | succ N ih =>
    intro i hi hs
    unfold colsB
    by_cases e : i = N
    · subst e
      rw [if_pos hs, ← colsB_len s i]
      simp
    · have h1 := ih i (by omega) hs
      split
      · rw [List.getElem?_append_left (List.getElem?_eq_some_iff.mp h1).1]; exact h1
      · exact h1
theorem colsB_mem (s : Nat) : ∀ N k i, (colsB s N)[k]? = some i → i < N ∧ s.testBit i = true ∧ pcb s i = k := by
  intro N
  induction N with
  | zero => intro k i h; simp [colsB] at h
  | succ N ih =>
    intro k i h
    unfold colsB at h
    by_cases hb : s.testBit N = true
    · rw [if_pos hb] at h
      by_cases hk : k < (colsB s N).length
      · rw [List.getElem?_append_left hk] at h
        obtain ⟨h1, h2, h3⟩ := ih k i h
        exact ⟨by omega, h2, h3⟩
      · rw [List.getElem?_append_right (by omega)] at h
        have h2 : k - (colsB s N).length = 0 := by
          have := (List.getElem?_eq_some_iff.mp h).1
          simp at this
          omega
        rw [h2] at h
        simp at h
        subst h
        exact ⟨by omega, hb, by rw [← colsB_len]; omega⟩
    · rw [if_neg hb] at h
      obtain ⟨h1, h2, h3⟩ := ih k i h
      exact ⟨by omega, h2, h3⟩
theorem colB_at {s N i : Nat} (hi : i < N) (hs : s.testBit i = true) : colB s N (pcb s i) = i := by
  simp [colB, List.getD, colsB_at s N i hi hs]
theorem colB_ok {s N k : Nat} (hk : k < pcb s N) : colB s N k < N ∧ s.testBit (colB s N k) = true ∧ pcb s (colB s N k) = k := by
  rw [← colsB_len] at hk
  have h1 : (colsB s N)[k]? = some (colB s N k) := by simp [colB, List.getD, hk]
  exact colsB_mem s N k _ h1
theorem lcb_pcb (v : Nat → Row) (s : Nat) (z : Nat → Int) (j : Nat) : ∀ N, lcb z (rowsB v s N) j = sm (fun i => (if s.testBit i then z (pcb s i) else 0) * v i j) N := by
  intro N
  induction N with
  | zero => rfl
  | succ N ih =>
    unfold rowsB
    simp only [sm]
    by_cases hb : s.testBit N = true
    · rw [if_pos hb, if_pos hb, lcb_app, ih, rowsB_pcb]
    · rw [if_neg hb, if_neg hb, ih]
      omega
theorem rowsB_cols (v : Nat → Row) (s N : Nat) : rowsB v s N = (colsB s N).map v := by
  induction N with
  | zero => rfl
  | succ N ih =>
    unfold rowsB colsB
    split
    · rw [List.map_append, ih]; rfl
    · exact ih
theorem sm_shift (f : Nat → Int) : ∀ n, sm f (n + 1) = f 0 + sm (fun k => f (k + 1)) n := by
  intro n
  induction n with
  | zero => simp [sm]
  | succ n ih => rw [sm, ih]; simp only [sm]; omega
theorem lcb_rwf : ∀ (l : List Row) (z : Nat → Int) (j : Nat), lcb z l j = sm (fun k => z k * rwf l k j) l.length := by
  intro l
  induction l with
  | nil => intro z j; rfl
  | cons r l ih =>
    intro z j
    rw [List.length_cons, sm_shift]
    simp only [lcb]
    rw [ih (fun k => z (k + 1)) j]
    rfl
theorem lcb_sum (z : Nat → Int) (l : List Row) (j : Nat) : ∀ n, l.length ≤ n → lcb z l j = sm (fun k => z k * (if k < l.length then rwf l k j else 0)) n := by
  intro n
  induction n with
  | zero => intro h; have : l = [] := List.eq_nil_of_length_eq_zero (by omega); subst this; rfl
  | succ n ih =>
    intro h
    by_cases e : l.length ≤ n
    · simp only [sm]
      rw [ih e, if_neg (by omega)]
      omega
    · have e2 : l.length = n + 1 := by omega
      rw [lcb_rwf l z j, e2]
      exact sm_ext (fun k hk => by rw [if_pos hk])
/-- the grid at first -/
def gr0 (v : Nat → Row) (s N : Nat) : Nat → Nat → Int := fun r k => if k < pcb s N then v (colB s N k) r else 0
theorem dt_gr0 {v : Nat → Row} {s N : Nat} (hm : pcb s N ≤ 5) (z : Nat → Int) (r : Nat) : dt (gr0 v s N) z r = sm (fun i => (if s.testBit i then z (pcb s i) else 0) * v i r) N := by
  rw [← lcb_pcb, lcb_sum z (rowsB v s N) r 5 (by rw [rowsB_pcb]; exact hm)]
  refine sm_ext (fun k hk => ?_)
  simp only [gr0, rowsB_pcb]
  by_cases e : k < pcb s N
  · rw [if_pos e, if_pos e]
    have h2 : rwf (rowsB v s N) k = v (colB s N k) := by
      rw [rowsB_cols]
      have h3 : k < (colsB s N).length := by rw [colsB_len]; exact e
      simp [rwf, colB, List.getD, h3]
    rw [h2]
  · rw [if_neg e, if_neg e]
theorem upd_upd (f : Nat → Int32) (k : Nat) (a b : Int32) : upd (upd f k a) k b = upd f k b := by
  funext j
  simp only [upd]
  split <;> rfl
theorem upd_s (f : Nat → Int32) (k : Nat) (a : Int32) : upd f k a k = a := by simp [upd]
theorem upd_n (f : Nat → Int32) {k j : Nat} (a : Int32) (h : j ≠ k) : upd f k a j = f j := by simp [upd, h]
/-- the state while the planes are told apart -/
def ffS (S : amS) (f : Nat → Int64) (g : Nat → Int32) (m : Nat) : amS := (va_up S.1 0 (upd (S.1 0) 18 (nI m)), va_up S.2.1 11 g, S.2.2.1, va_up S.2.2.2 10 f)
theorem ffS_1 (S : amS) (f f' : Nat → Int64) (g : Nat → Int32) (m : Nat) : sL (ffS S f g m) 10 f' = ffS S f' g m := by
  show (_, _, _, va_up (va_up S.2.2.2 10 f) 10 f') = _
  rw [bx_uu]; rfl
theorem ffS_2 (S : amS) (f : Nat → Int64) (g g' : Nat → Int32) (m : Nat) : sA (ffS S f g m) 11 g' = ffS S f g' m := by
  show (_, va_up (va_up S.2.1 11 g) 11 g', _) = _
  rw [bx_uu]; rfl
theorem ffS_3 (S : amS) (f : Nat → Int64) (g : Nat → Int32) (m m' : Nat) : sF (ffS S f g m) 0 (upd ((ffS S f g m).1 0) 18 (nI m')) = ffS S f g m' := by
  show (va_up (va_up S.1 0 (upd (S.1 0) 18 (nI m))) 0 (upd (va_up S.1 0 (upd (S.1 0) 18 (nI m)) 0) 18 (nI m')), _) = _
  rw [bx_uu, va_up_s, upd_upd]; rfl
theorem ffS_0 (S : amS) : sF S 0 (upd (S.1 0) 18 (nI 0)) = ffS S (S.2.2.2 10) (S.2.1 11) 0 := by
  have h1 := sL_self S 10
  have h2 := sA_self S 11
  show (va_up S.1 0 (upd (S.1 0) 18 (nI 0)), S.2.1, S.2.2.1, S.2.2.2) = (va_up S.1 0 (upd (S.1 0) 18 (nI 0)), va_up S.2.1 11 (S.2.1 11), S.2.2.1, va_up S.2.2.2 10 (S.2.2.2 10))
  have e1 : va_up S.2.1 11 (S.2.1 11) = S.2.1 := (congrArg (fun T : amS => T.2.1) h2).symm
  have e2 : va_up S.2.2.2 10 (S.2.2.2 10) = S.2.2.2 := (congrArg (fun T : amS => T.2.2.2) h1).symm
  rw [e1, e2]
set_option maxRecDepth 100000 in
set_option maxHeartbeats 4000000 in
theorem k_ff_a (S : amS) (s : Nat) (hs : s < 512) (Q : Option Value → amS → Prop) (hq : ∀ f g, (∀ i, i < 9 → f i = i64 0) → (∀ k, k < pcb s 9 → g k = nI (colB s 9 k)) → X shM mX11_findFactors 54 [.ref 0, .int (nI s), .int (nI 9), .null, .null, .null, .null, .null] [] (ffS S f g (pcb s 9)) Q) : ∀ (k i : Nat) (f : Nat → Int64) (g : Nat → Int32), i + k = 9 → (∀ e, e < i → f e = i64 0) → (∀ e, e < pcb s i → g e = nI (colB s i e)) → X shM mX11_findFactors 7 [.ref 0, .int (nI s), .int (nI i), .null, .null, .null, .null, .null] [] (ffS S f g (pcb s i)) Q := by
  have hpl : ∀ i, pcb s i ≤ i := by
    intro i
    induction i with
    | zero => exact Nat.le_refl _
    | succ i ih => simp only [pcb]; cases s.testBit i <;> simp <;> omega
  intro k
  induction k with
  | zero =>
    intro i f g h1 h2 h3
    obtain rfl : i = 9 := by omega
    refine x_iload_n dX11_findFactors_7 rfl ?_
    refine x_bi _ bi_9 dX11_findFactors_8 ?_
    refine x_icmp_geN 54 dX11_findFactors_10 rfl (by omega) (by omega) (fun c10 => ?_) (fun c10 => ?_)
    · exact hq f g h2 h3
    · exact absurd c10 (by omega)
  | succ k ih =>
    intro i f g h1 h2 h3
    have hp := hpl i
    have hcs : ∀ e, e < pcb s i → colB s (i + 1) e = colB s i e := by
      intro e he
      unfold colB
      rw [colsB]
      split
      · rw [List.getD, List.getD, List.getElem?_append_left (by rw [colsB_len]; exact he)]
      · rfl
    refine x_iload_n dX11_findFactors_7 rfl ?_
    refine x_bi _ bi_9 dX11_findFactors_8 ?_
    refine x_icmp_geN 54 dX11_findFactors_10 rfl (by omega) (by omega) (fun c10 => ?_) (fun c10 => ?_)
    · exact absurd c10 (by omega)
    · refine x_aload_n dX11_findFactors_13 rfl ?_
      refine x_getR dX11_findFactors_14 fl_X11_42 rfl ?_
      refine x_iload_n dX11_findFactors_17 rfl ?_
      refine x_lc _ lc_0 dX11_findFactors_18 ?_
      refine x_lastN dX11_findFactors_19 rfl rfl (by omega) ?_
      rw [ffS_1]
      refine x_iload_n dX11_findFactors_20 rfl ?_
      refine x_iload_n dX11_findFactors_21 rfl ?_
      refine x_s2d (N := mX11_has) dX11_findFactors_22 ml_X11_97 ns_X11_has rfl (k_has _ s i hs (by omega)) ?_
      refine x_if_eqB 48 dX11_findFactors_25 rfl (fun c25 => ?_) (fun c25 => ?_)
      · have e1 : pcb s (i + 1) = pcb s i := by simp [pcb, c25]
        refine x_iincN dX11_findFactors_48 rfl rfl ?_
        refine x_goto 7 dX11_findFactors_51 rfl ?_
        rw [← e1]
        refine ih (i + 1) _ g (by omega) (fun e he => ?_) (fun e he => ?_)
        · by_cases q : e = i
          · subst q; simp [vp_updL]
          · simp only [vp_updL, q, if_false]; show (ffS S f g (pcb s i)).2.2.2 10 e = i64 0; exact h2 e (by omega)
        · rw [e1] at he; rw [hcs e he]; exact h3 e he
      · refine x_aload_n dX11_findFactors_28 rfl ?_
        refine x_getR dX11_findFactors_29 fl_X11_45 rfl ?_
        refine x_aload_n dX11_findFactors_32 rfl ?_
        refine x_getIV dX11_findFactors_33 fl_X11_136 rfl (rfl) ?_
        refine x_iload_n dX11_findFactors_36 rfl ?_
        refine x_iastN dX11_findFactors_37 rfl rfl (by omega) ?_
        rw [ffS_2]
        refine x_aload_n dX11_findFactors_38 rfl ?_
        refine x_dup dX11_findFactors_39 rfl ?_
        refine x_getIV dX11_findFactors_40 fl_X11_136 rfl (rfl) ?_
        refine x_ic _ ic_1 dX11_findFactors_43 ?_
        refine x_iaddN dX11_findFactors_44 ?_
        refine x_put dX11_findFactors_45 fp_X11_136 rfl rfl rfl ?_
        rw [ffS_3]
        refine x_iincN dX11_findFactors_48 rfl rfl ?_
        refine x_goto 7 dX11_findFactors_51 rfl ?_
        have e1 : pcb s (i + 1) = pcb s i + 1 := by simp [pcb, c25]
        rw [← e1]
        refine ih (i + 1) _ _ (by omega) (fun e he => ?_) (fun e he => ?_)
        · by_cases q : e = i
          · subst q; simp [vp_updL]
          · simp only [vp_updL, q, if_false]; show (ffS S f g (pcb s i)).2.2.2 10 e = i64 0; exact h2 e (by omega)
        · by_cases q : e = pcb s i
          · subst q
            rw [upd_s, colB_at (by omega) c25]
          · rw [upd_n _ _ q, hcs e (by omega)]; exact h3 e (by omega)
