/-! THE REFERENCE: rankBy -/
def rowsB (v : Nat → Row) (s : Nat) : Nat → List Row
  | 0 => []
  | i + 1 => if s.testBit i then rowsB v s i ++ [v i] else rowsB v s i
def rwf (l : List Row) : Nat → Row := fun a => l.getD a (fun _ => 0)
theorem rowsB_len (v : Nat → Row) (s i : Nat) : (rowsB v s i).length ≤ i := by
  induction i with
  | zero => exact Nat.le_refl _
  | succ i ih =>
    unfold rowsB
    split
    · simp; exact ih
    · omega
theorem rowsB_mem {v : Nat → Row} {s i : Nat} {x : Row} : x ∈ rowsB v s i ↔ ∃ a, a < i ∧ s.testBit a = true ∧ x = v a := by
  induction i with
  | zero => simp [rowsB]
  | succ i ih =>
    unfold rowsB
    split
    next h =>
      rw [List.mem_append, ih, List.mem_singleton]
      constructor
      · rintro (⟨a, h1, h2, h3⟩ | h1)
        · exact ⟨a, by omega, h2, h3⟩
        · exact ⟨i, by omega, h, h1⟩
      · rintro ⟨a, h1, h2, h3⟩
        by_cases e : a = i
        · subst e; exact Or.inr h3
        · exact Or.inl ⟨a, by omega, h2, h3⟩
    next h =>
      rw [ih]
      constructor
      · rintro ⟨a, h1, h2, h3⟩; exact ⟨a, by omega, h2, h3⟩
      · rintro ⟨a, h1, h2, h3⟩
        have : a ≠ i := fun e => by subst e; exact h h2
        exact ⟨a, by omega, h2, h3⟩
theorem rwf_app_lt {l : List Row} {x : Row} {a : Nat} (h : a < l.length) : rwf (l ++ [x]) a = rwf l a := by
  simp [rwf, List.getD, List.getElem?_append_left h]
theorem rwf_app_eq {l : List Row} {x : Row} : rwf (l ++ [x]) l.length = x := by
  simp [rwf, List.getD]
theorem rwf_mem {l : List Row} {a : Nat} (h : a < l.length) : rwf l a ∈ l := by
  simp [rwf, List.getD, h]
theorem mem_rwf {l : List Row} {x : Row} (h : x ∈ l) : ∃ a, a < l.length ∧ x = rwf l a := by
  obtain ⟨a, ha⟩ := List.getElem?_of_mem h
  have hl := (List.getElem?_eq_some_iff.mp ha).1
  exact ⟨a, hl, by simp [rwf, List.getD, ha]⟩
def bnd : Nat → Int
  | 0 => 3
  | t + 1 => 2 * (bnd t * bnd t)
set_option maxRecDepth 100000 in
set_option maxHeartbeats 4000000 in
theorem k_rb_2 (S : amS) (N s : Nat) (v : Nat → Row) (hN : N ≤ 9) (hs : s < 512) (hM : S.2.1 1 37 = nI N) (hv : ∀ i j, i < N → j < 4 → S.2.1 1 (4 * i + j) = i32 (v i j)) (hb : ∀ i j, i < N → -3 ≤ v i j ∧ v i j ≤ 3) (i m : Nat) (hi : i < N) (hm : m ≤ i) (w : Nat → Nat → Int) (Q : Option Value → amS → Prop) (hq : ∀ f, Mx 4 f m w 3 → (∀ c, c < 4 → f (4 * m + c) = i64 (v i c)) → X shM mX11_rankBy 61 [.ref 0, .int (nI s), .int (nI m), .int (nI i), .int (nI 4), .null, .null, .null, .null, .null, .null, .null] [] (sL S 7 f) Q) : ∀ (k j : Nat) (f : Nat → Int64), j + k = 4 → Mx 4 f m w 3 → (∀ c, c < j → f (4 * m + c) = i64 (v i c)) → X shM mX11_rankBy 26 [.ref 0, .int (nI s), .int (nI m), .int (nI i), .int (nI j), .null, .null, .null, .null, .null, .null, .null] [] (sL S 7 f) Q := by
  intro k
  induction k with
  | zero =>
    intro j f h1 h2 h3
    obtain rfl : j = 4 := by omega
    refine x_iload dX11_rankBy_26 rfl ?_
    refine x_ic _ ic_4 dX11_rankBy_28 ?_
    refine x_icmp_geN 61 dX11_rankBy_29 rfl (by omega) (by omega) (fun c29 => ?_) (fun c29 => ?_)
    · exact hq f h2 h3
    · exact absurd c29 (by omega)
  | succ k ih =>
    intro j f h1 h2 h3
    have hj : j < 4 := by omega
    have hbb := hb i j hi
    refine x_iload dX11_rankBy_26 rfl ?_
    refine x_ic _ ic_4 dX11_rankBy_28 ?_
    refine x_icmp_geN 61 dX11_rankBy_29 rfl (by omega) (by omega) (fun c29 => ?_) (fun c29 => ?_)
    · exact absurd c29 (by omega)
    · refine x_aload_n dX11_rankBy_32 rfl ?_
      refine x_getR dX11_rankBy_33 fl_X11_32 rfl ?_
      refine x_ic _ ic_4 dX11_rankBy_36 ?_
      refine x_iload_n dX11_rankBy_37 rfl ?_
      refine x_imulN dX11_rankBy_38 ?_
      refine x_iload dX11_rankBy_39 rfl ?_
      refine x_iaddN dX11_rankBy_41 ?_
      refine x_aload_n dX11_rankBy_42 rfl ?_
      refine x_getR dX11_rankBy_43 fl_X11_7 rfl ?_
      refine x_ic _ ic_4 dX11_rankBy_46 ?_
      refine x_iload_n dX11_rankBy_47 rfl ?_
      refine x_imulN dX11_rankBy_48 ?_
      refine x_iload dX11_rankBy_49 rfl ?_
      refine x_iaddN dX11_rankBy_51 ?_
      refine x_ialdN dX11_rankBy_52 rfl rfl (by omega) (hv i j hi hj) ?_
      refine x_i2lI dX11_rankBy_53 (by omega) (by omega) ?_
      refine x_lastN dX11_rankBy_54 rfl rfl (by omega) ?_
      refine x_iincN dX11_rankBy_55 rfl rfl ?_
      refine x_goto 26 dX11_rankBy_58 rfl ?_
      rw [sL_sL, sL_at]
      refine ih (j + 1) _ (by omega) (fun a c ha hc => ?_) (fun c hc => ?_)
      · have e : 4 * a + c ≠ 4 * m + j := by omega
        simp only [vp_updL, e, if_false]
        exact h2 a c ha hc
      · by_cases e : c = j
        · subst e; simp [vp_updL]
        · simp only [vp_updL, show 4 * m + c ≠ 4 * m + j by omega, if_false]
          exact h3 c (by omega)
set_option maxRecDepth 100000 in
set_option maxHeartbeats 4000000 in
theorem k_rb_1 (S : amS) (N s : Nat) (v : Nat → Row) (hN : N ≤ 9) (hs : s < 512) (hM : S.2.1 1 37 = nI N) (hv : ∀ i j, i < N → j < 4 → S.2.1 1 (4 * i + j) = i32 (v i j)) (hb : ∀ i j, i < N → -3 ≤ v i j ∧ v i j ≤ 3) (Q : Option Value → amS → Prop) (hq : ∀ f z4, Mx 4 f (rowsB v s N).length (rwf (rowsB v s N)) 3 → X shM mX11_rankBy 70 [.ref 0, .int (nI s), .int (nI (rowsB v s N).length), .int (nI N), z4, .null, .null, .null, .null, .null, .null, .null] [] (sL S 7 f) Q) : ∀ (k i : Nat) (f : Nat → Int64) (z4 : Value), i + k = N → Mx 4 f (rowsB v s i).length (rwf (rowsB v s i)) 3 → X shM mX11_rankBy 4 [.ref 0, .int (nI s), .int (nI (rowsB v s i).length), .int (nI i), z4, .null, .null, .null, .null, .null, .null, .null] [] (sL S 7 f) Q := by
  intro k
  induction k with
  | zero =>
    intro i f z4 h1 h2
    obtain rfl : i = N := by omega
    refine x_iload_n dX11_rankBy_4 rfl ?_
    refine x_aload_n dX11_rankBy_5 rfl ?_
    refine x_getR dX11_rankBy_6 fl_X11_7 rfl ?_
    refine x_bi _ bi_37 dX11_rankBy_9 ?_
    refine x_ialdN dX11_rankBy_11 rfl rfl (by omega) (hM) ?_
    refine x_icmp_geN 70 dX11_rankBy_12 rfl (by omega) (by omega) (fun c12 => ?_) (fun c12 => ?_)
    · exact hq f z4 h2
    · exact absurd c12 (by omega)
  | succ k ih =>
    intro i f z4 h1 h2
    have hl := rowsB_len v s i
    have hi : i < N := by omega
    refine x_iload_n dX11_rankBy_4 rfl ?_
    refine x_aload_n dX11_rankBy_5 rfl ?_
    refine x_getR dX11_rankBy_6 fl_X11_7 rfl ?_
    refine x_bi _ bi_37 dX11_rankBy_9 ?_
    refine x_ialdN dX11_rankBy_11 rfl rfl (by omega) (hM) ?_
    refine x_icmp_geN 70 dX11_rankBy_12 rfl (by omega) (by omega) (fun c12 => ?_) (fun c12 => ?_)
    · exact absurd c12 (by omega)
    · refine x_iload_n dX11_rankBy_15 rfl ?_
      refine x_iload_n dX11_rankBy_16 rfl ?_
      refine x_s2d (N := mX11_has) dX11_rankBy_17 ml_X11_97 ns_X11_has rfl (k_has (sL S 7 f) s i hs (by omega)) ?_
      refine x_if_eqB 64 dX11_rankBy_20 rfl (fun c20 => ?_) (fun c20 => ?_)
      · have e0 : rowsB v s (i + 1) = rowsB v s i := by simp [rowsB, c20]
        refine x_iincN dX11_rankBy_64 rfl rfl ?_
        refine x_goto 4 dX11_rankBy_67 rfl ?_
        have := ih (i + 1) f z4 (by omega) (by rw [e0]; exact h2)
        rw [e0] at this
        exact this
      · refine x_ic _ ic_0 dX11_rankBy_23 ?_
        refine x_istore dX11_rankBy_24 rfl ?_
        refine k_rb_2 S N s v hN hs hM hv hb i _ hi hl (rwf (rowsB v s i)) Q ?_ 4 0 f (by omega) h2 (fun c hc => absurd hc (Nat.not_lt_zero c))
        intro f1 g1 g2
        have e0 : rowsB v s (i + 1) = rowsB v s i ++ [v i] := by simp [rowsB, c20]
        have e1 : (rowsB v s (i + 1)).length = (rowsB v s i).length + 1 := by rw [e0]; simp
        refine x_iincN dX11_rankBy_61 rfl rfl ?_
        refine x_iincN dX11_rankBy_64 rfl rfl ?_
        refine x_goto 4 dX11_rankBy_67 rfl ?_
        have := ih (i + 1) f1 (.int (nI 4)) (by omega) (by
          rw [e1, e0]
          intro a c ha hc
          by_cases e : a < (rowsB v s i).length
          · rw [rwf_app_lt e]; exact g1 a c e hc
          · obtain rfl : a = (rowsB v s i).length := by omega
            rw [rwf_app_eq]
            exact ⟨g2 c hc, by have := hb i c hi; omega⟩)
        rw [e1] at this
        exact this
