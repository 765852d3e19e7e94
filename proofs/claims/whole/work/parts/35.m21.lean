/-! THE REFERENCE: changes of the arrangement -/
def nRow (f : Nat → Int32) (a : Ar) : Prop := f 36 = nI a.1 ∧ f 37 = nI a.2.1 ∧ ∀ i j, i < a.2.1 → j < 4 → f (4 * i + j) = i32 (a.2.2 i j)
theorem nRow_copy {f g : Nat → Int32} {a : Ar} (h : nRow f a) (hN : a.2.1 ≤ 9) (e : ∀ u, u < 38 → g u = f u) : nRow g a := by
  refine ⟨by rw [e 36 (by omega)]; exact h.1, by rw [e 37 (by omega)]; exact h.2.1, fun i j hi hj => ?_⟩
  rw [e _ (by omega)]
  exact h.2.2 i j hi hj
/-- nothing but the row 'now' and the scratch row is different -/
def On (S S' : amS) : Prop := S'.1 = S.1 ∧ ∀ i, i ≠ 1 → i ≠ 13 → S'.2.1 i = S.2.1 i
theorem On.rf (S : amS) : On S S := ⟨rfl, fun _ _ _ => rfl⟩
theorem On.tr {S0 S1 S2 : amS} (h : On S0 S1) (h' : On S1 S2) : On S0 S2 := ⟨h'.1.trans h.1, fun i a b => (h'.2 i a b).trans (h.2 i a b)⟩
theorem On.sA {S0 S : amS} (h : On S0 S) {o : Nat} (f : Nat → Int32) (ho : o = 1 ∨ o = 13) : On S0 (sA S o f) := ⟨h.1, fun i a b => by
  show va_up S.2.1 o f i = _
  rw [va_up_n _ _ (by omega)]
  exact h.2 i a b⟩
def aSpace (n : Nat) : Ar := (n, 0, fun _ _ => 0)
def aAdd (a : Ar) (r : Row) : Ar := (a.1, a.2.1 + 1, fun i j => if i = a.2.1 then r j else a.2.2 i j)
def aTurn (a : Ar) (i : Nat) : Ar := (a.1, a.2.1, fun k j => if k = i then - a.2.2 k j else a.2.2 k j)
def aDrop (a : Ar) (i : Nat) : Ar := (a.1, a.2.1 - 1, fun k j => if k < i then a.2.2 k j else a.2.2 (k + 1) j)
def aSwap (a : Ar) (i j : Nat) : Ar := (a.1, a.2.1, fun k => if k = i then a.2.2 j else if k = j then a.2.2 i else a.2.2 k)
theorem arr_map {d N M : Nat} {v u : Nat → Row} (h : Arr d N v) (hM : M ≤ N) (f : Nat → Nat) (s : Nat → Int) (hs : ∀ k, s k = 1 ∨ s k = -1) (hf : ∀ k, k < M → f k < N) (hi : ∀ k l, k < M → l < M → f k = f l → k = l) (hv : ∀ k, k < M → ∀ j, u k j = s k * v (f k) j) (hz : ∀ k, M ≤ k → ∀ j, u k j = 0) : Arr d M u := by
  obtain ⟨a1, a2, a3, a4, a5, a6, a7⟩ := h
  have hb : ∀ i j, -3 ≤ u i j ∧ u i j ≤ 3 := by
    intro i j
    by_cases q : i < M
    · rw [hv i q j]
      have := a4 (f i) j
      rcases hs i with e | e <;> rw [e] <;> omega
    · rw [hz i (by omega) j]; omega
  refine ⟨a1, a2, by omega, hb, fun i j hj => ?_, hz, ?_⟩
  · by_cases q : i < M
    · rw [hv i q j, a5 _ j hj, Int.mul_zero]
    · exact hz i (by omega) j
  · have hS := sim_of a3 a7
    have hne : ∀ k, s k ≠ 0 := fun k => by rcases hs k with e | e <;> rw [e] <;> decide
    refine of_sim (by omega) hb ⟨fun i hi' => ?_, fun i k hi' hk hik => ?_⟩
    · obtain ⟨j, hj, e⟩ := hS.1 (f i) (hf i hi')
      refine ⟨j, hj, ?_⟩
      rw [hv i hi' j]
      exact Int.mul_ne_zero (hne i) e
    · obtain ⟨j, l, hj, hl, e⟩ := hS.2 (f i) (f k) (hf i hi') (hf k hk) (fun z => hik (hi i k hi' hk z))
      refine ⟨j, l, hj, hl, ?_⟩
      rw [hv i hi' j, hv k hk l, hv i hi' l, hv k hk j]
      intro z
      apply e
      have hp : s i * s k ≠ 0 := Int.mul_ne_zero (hne i) (hne k)
      have : (s i * s k) * (v (f i) j * v (f k) l) = (s i * s k) * (v (f i) l * v (f k) j) := by grind
      exact Int.eq_of_mul_eq_mul_left hp this
theorem arr_space {n : Nat} (h : 2 ≤ n) (h' : n ≤ 4) : Arr n 0 (fun _ _ => 0) := by
  refine ⟨h, h', by omega, fun _ _ => (by decide : (-3 : Int) ≤ 0 ∧ (0 : Int) ≤ 3), fun _ _ _ => rfl, fun _ _ _ => rfl, ?_⟩
  exact of_sim (by omega) (fun _ _ => (by decide : (-3 : Int) ≤ 0 ∧ (0 : Int) ≤ 3)) ⟨fun i hi => by omega, fun i k hi => by omega⟩
theorem arr_turn {a : Ar} (h : Arr a.1 a.2.1 a.2.2) (i : Nat) : Arr (aTurn a i).1 (aTurn a i).2.1 (aTurn a i).2.2 := by
  refine arr_map h (Nat.le_refl _) (fun k => k) (fun k => if k = i then -1 else 1) (fun k => by split <;> simp) (fun _ hk => hk) (fun _ _ _ _ e => e) (fun k _ j => ?_) (fun k hk j => ?_)
  · show (if k = i then - a.2.2 k j else a.2.2 k j) = (if k = i then -1 else 1) * a.2.2 k j
    split <;> omega
  · show (if k = i then - a.2.2 k j else a.2.2 k j) = 0
    rw [h.2.2.2.2.2.1 k hk j]
    split <;> rfl
theorem arr_drop {a : Ar} (h : Arr a.1 a.2.1 a.2.2) {i : Nat} (hi : i < a.2.1) : Arr (aDrop a i).1 (aDrop a i).2.1 (aDrop a i).2.2 := by
  refine arr_map h (Nat.sub_le _ _) (fun k => if k < i then k else k + 1) (fun _ => 1) (fun k => Or.inl rfl) (fun k hk => ?_) (fun k l _ _ e => ?_) (fun k _ j => ?_) (fun k hk j => ?_)
  · have : k < a.2.1 - 1 := hk
    show (if k < i then k else k + 1) < a.2.1
    split <;> omega
  · have e' : (if k < i then k else k + 1) = (if l < i then l else l + 1) := e
    split at e' <;> split at e' <;> omega
  · show (if k < i then a.2.2 k j else a.2.2 (k + 1) j) = 1 * a.2.2 (if k < i then k else k + 1) j
    split <;> omega
  · have : a.2.1 - 1 ≤ k := hk
    show (if k < i then a.2.2 k j else a.2.2 (k + 1) j) = 0
    rw [if_neg (by omega)]
    exact h.2.2.2.2.2.1 (k + 1) (by omega) j
theorem arr_swap {a : Ar} (h : Arr a.1 a.2.1 a.2.2) {i l : Nat} (hi : i < a.2.1) (hl : l < a.2.1) : Arr (aSwap a i l).1 (aSwap a i l).2.1 (aSwap a i l).2.2 := by
  refine arr_map h (Nat.le_refl _) (fun k => if k = i then l else if k = l then i else k) (fun _ => 1) (fun k => Or.inl rfl) (fun k hk => ?_) (fun k m _ _ e => ?_) (fun k _ j => ?_) (fun k hk j => ?_)
  · have : k < a.2.1 := hk
    show (if k = i then l else if k = l then i else k) < a.2.1
    split
    · omega
    · split <;> omega
  · have e' : (if k = i then l else if k = l then i else k) = (if m = i then l else if m = l then i else m) := e
    grind
  · show (if k = i then a.2.2 l else if k = l then a.2.2 i else a.2.2 k) j = 1 * a.2.2 (if k = i then l else if k = l then i else k) j
    grind
  · have : a.2.1 ≤ k := hk
    show (if k = i then a.2.2 l else if k = l then a.2.2 i else a.2.2 k) j = 0
    rw [if_neg (by omega), if_neg (by omega)]
    exact h.2.2.2.2.2.1 k this j
/-- two rows are of one plane -/
def same (x y : Row) : Prop := ∀ j l, j < 4 → l < 4 → x j * y l = x l * y j
theorem arr_add {a : Ar} (h : Arr a.1 a.2.1 a.2.2) {r : Row} (hN : a.2.1 < 9) (hb : ∀ j, -3 ≤ r j ∧ r j ≤ 3) (hd : ∀ j, a.1 ≤ j → r j = 0) (hz : ∃ j, j < 4 ∧ r j ≠ 0) (hs : ∀ i, i < a.2.1 → ¬ same (a.2.2 i) r) : Arr (aAdd a r).1 (aAdd a r).2.1 (aAdd a r).2.2 := by
  obtain ⟨a1, a2, a3, a4, a5, a6, a7⟩ := h
  have hv : ∀ i j, (aAdd a r).2.2 i j = if i = a.2.1 then r j else a.2.2 i j := fun _ _ => rfl
  have hbb : ∀ i j, -3 ≤ (aAdd a r).2.2 i j ∧ (aAdd a r).2.2 i j ≤ 3 := fun i j => by
    rw [hv]
    split
    · exact hb j
    · exact a4 i j
  have hns : ∀ i, i < a.2.1 → ∃ j l, j < 4 ∧ l < 4 ∧ a.2.2 i j * r l ≠ a.2.2 i l * r j := fun i hi => by
    by_cases q : ∃ j l, j < 4 ∧ l < 4 ∧ a.2.2 i j * r l ≠ a.2.2 i l * r j
    · exact q
    · exact absurd (fun j l hj hl => by
        by_cases z : a.2.2 i j * r l = a.2.2 i l * r j
        · exact z
        · exact absurd ⟨j, l, hj, hl, z⟩ q) (hs i hi)
  refine ⟨a1, a2, by show a.2.1 + 1 ≤ 9; omega, hbb, fun i j hj => ?_, fun i hi j => ?_, ?_⟩
  · rw [hv]
    split
    · exact hd j hj
    · exact a5 i j hj
  · have : a.2.1 + 1 ≤ i := hi
    rw [hv, if_neg (by omega)]
    exact a6 i (by omega) j
  · have hS := sim_of a3 a7
    refine of_sim (by show a.2.1 + 1 ≤ 9; omega) hbb ⟨fun i hi => ?_, fun i k hi hk hik => ?_⟩
    · have : i < a.2.1 + 1 := hi
      by_cases q : i = a.2.1
      · obtain ⟨j, hj, e⟩ := hz
        exact ⟨j, hj, by rw [hv, if_pos q]; exact e⟩
      · obtain ⟨j, hj, e⟩ := hS.1 i (by omega)
        exact ⟨j, hj, by rw [hv, if_neg q]; exact e⟩
    · have h1 : i < a.2.1 + 1 := hi
      have h2 : k < a.2.1 + 1 := hk
      by_cases q : i = a.2.1
      · obtain ⟨j, l, hj, hl, e⟩ := hns k (by omega)
        refine ⟨j, l, hj, hl, ?_⟩
        rw [hv, hv, hv, hv, if_pos q, if_pos q, if_neg (by omega), if_neg (by omega)]
        intro z
        apply e
        grind
      · by_cases q2 : k = a.2.1
        · obtain ⟨j, l, hj, hl, e⟩ := hns i (by omega)
          refine ⟨j, l, hj, hl, ?_⟩
          rw [hv, hv, hv, hv, if_pos q2, if_pos q2, if_neg q, if_neg q]
          exact e
        · obtain ⟨j, l, hj, hl, e⟩ := hS.2 i k (by omega) (by omega) hik
          refine ⟨j, l, hj, hl, ?_⟩
          rw [hv, hv, hv, hv, if_neg q2, if_neg q2, if_neg q, if_neg q]
          exact e
set_option maxRecDepth 100000 in
set_option maxHeartbeats 4000000 in
theorem k_hold_l (S : amS) : ∀ (k t : Nat) (g : Nat → Int32), t + k = 38 → (∀ u, u < t → g u = S.2.1 1 u) → X shM mX11_hold 2 [.ref 0, .int (nI t)] [] (sA S 2 g) (fun r S' => r = none ∧ ∃ g, S' = sA S 2 g ∧ ∀ u, u < 38 → g u = S.2.1 1 u) := by
  intro k
  induction k with
  | zero =>
    intro t g h1 h2
    obtain rfl : t = 38 := by omega
    refine x_iload_n dX11_hold_2 rfl ?_
    refine x_bi _ bi_38 dX11_hold_3 ?_
    refine x_icmp_geN 26 dX11_hold_5 rfl (by omega) (by omega) (fun c5 => ?_) (fun c5 => ?_)
    · refine x_ret dX11_hold_26 rfl ?_
      exact ⟨rfl, g, rfl, h2⟩
    · exact absurd c5 (by omega)
  | succ k ih =>
    intro t g h1 h2
    refine x_iload_n dX11_hold_2 rfl ?_
    refine x_bi _ bi_38 dX11_hold_3 ?_
    refine x_icmp_geN 26 dX11_hold_5 rfl (by omega) (by omega) (fun c5 => ?_) (fun c5 => ?_)
    · exact absurd c5 (by omega)
    · refine x_aload_n dX11_hold_8 rfl ?_
      refine x_getR dX11_hold_9 fl_X11_13 rfl ?_
      refine x_iload_n dX11_hold_12 rfl ?_
      refine x_aload_n dX11_hold_13 rfl ?_
      refine x_getR dX11_hold_14 fl_X11_7 rfl ?_
      refine x_iload_n dX11_hold_17 rfl ?_
      refine x_ialdN dX11_hold_18 rfl rfl (by omega) (rfl) ?_
      refine x_iastN dX11_hold_19 rfl rfl (by omega) ?_
      refine x_iincN dX11_hold_20 rfl rfl ?_
      refine x_goto 2 dX11_hold_23 rfl ?_
      rw [sA_sA, sA_at]
      refine ih (t + 1) _ (by omega) (fun u hu => ?_)
      by_cases q : u = t
      · subst q; rw [upd_s]; rfl
      · rw [upd_n _ _ q]; exact h2 u (by omega)
set_option maxRecDepth 100000 in
set_option maxHeartbeats 4000000 in
theorem k_hold (S : amS) : X shM mX11_hold 0 [.ref 0, .null] [] S (fun r S' => r = none ∧ ∃ g, S' = sA S 2 g ∧ ∀ u, u < 38 → g u = S.2.1 1 u) := by
  refine x_ic _ ic_0 dX11_hold_0 ?_
  refine x_istore_n dX11_hold_1 rfl ?_
  refine x_st (sA_self S 2) ?_
  exact k_hold_l S 38 0 _ (by omega) (fun u hu => by omega)
def pushH (hs : List Ar) (a : Ar) : List Ar := (if hs.length = 6 then hs.tail else hs) ++ [a]
set_option maxRecDepth 100000 in
set_option maxHeartbeats 4000000 in
theorem k_push_1 (S : amS) (Q : Option Value → amS → Prop) (hq : ∀ g, (∀ u, u < 190 → g u = S.2.1 3 (u + 38)) → X shM mX11_push 39 [.ref 0, .int (nI 190)] [] (sA S 3 g) Q) : ∀ (k t : Nat) (g : Nat → Int32), t + k = 190 → (∀ u, u < t → g u = S.2.1 3 (u + 38)) → (∀ u, t ≤ u → g u = S.2.1 3 u) → X shM mX11_push 11 [.ref 0, .int (nI t)] [] (sA S 3 g) Q := by
  intro k
  induction k with
  | zero =>
    intro t g h1 h2 h3
    obtain rfl : t = 190 := by omega
    refine x_iload_n dX11_push_11 rfl ?_
    refine x_si _ si_190 dX11_push_12 ?_
    refine x_icmp_geN 39 dX11_push_15 rfl (by omega) (by omega) (fun c15 => ?_) (fun c15 => ?_)
    · exact hq g h2
    · exact absurd c15 (by omega)
  | succ k ih =>
    intro t g h1 h2 h3
    refine x_iload_n dX11_push_11 rfl ?_
    refine x_si _ si_190 dX11_push_12 ?_
    refine x_icmp_geN 39 dX11_push_15 rfl (by omega) (by omega) (fun c15 => ?_) (fun c15 => ?_)
    · exact absurd c15 (by omega)
    · refine x_aload_n dX11_push_18 rfl ?_
      refine x_getR dX11_push_19 fl_X11_16 rfl ?_
      refine x_iload_n dX11_push_22 rfl ?_
      refine x_aload_n dX11_push_23 rfl ?_
      refine x_getR dX11_push_24 fl_X11_16 rfl ?_
      refine x_iload_n dX11_push_27 rfl ?_
      refine x_bi _ bi_38 dX11_push_28 ?_
      refine x_iaddN dX11_push_30 ?_
      refine x_ialdN dX11_push_31 rfl rfl (by omega) (rfl) ?_
      refine x_iastN dX11_push_32 rfl rfl (by omega) ?_
      refine x_iincN dX11_push_33 rfl rfl ?_
      refine x_goto 11 dX11_push_36 rfl ?_
      rw [sA_sA, sA_at]
      refine ih (t + 1) _ (by omega) (fun u hu => ?_) (fun u hu => ?_)
      · by_cases q : u = t
        · subst q; rw [upd_s]; exact h3 _ (by omega)
        · rw [upd_n _ _ q]; exact h2 u (by omega)
      · rw [upd_n _ _ (by omega)]; exact h3 u (by omega)
set_option maxRecDepth 100000 in
set_option maxHeartbeats 4000000 in
theorem k_push_2 (S : amS) (n : Nat) (hn : n ≤ 5) (h3 : S.1 0 3 = nI n) (Q : Option Value → amS → Prop) (hq : ∀ g, (∀ u, u < 38 * n → g u = S.2.1 3 u) → (∀ u, u < 38 → g (38 * n + u) = S.2.1 2 u) → Q none (sF (sF (sA S 3 g) 0 (upd (S.1 0) 3 (nI (n + 1)))) 0 (upd (upd (S.1 0) 3 (nI (n + 1))) 9 (nI 0)))) : ∀ (k t : Nat) (g : Nat → Int32), t + k = 38 → (∀ u, u < 38 * n → g u = S.2.1 3 u) → (∀ u, u < t → g (38 * n + u) = S.2.1 2 u) → X shM mX11_push 51 [.ref 0, .int (nI t)] [] (sA S 3 g) Q := by
  intro k
  induction k with
  | zero =>
    intro t g h1 h2 h4
    obtain rfl : t = 38 := by omega
    refine x_iload_n dX11_push_51 rfl ?_
    refine x_bi _ bi_38 dX11_push_52 ?_
    refine x_icmp_geN 83 dX11_push_54 rfl (by omega) (by omega) (fun c54 => ?_) (fun c54 => ?_)
    · refine x_aload_n dX11_push_83 rfl ?_
      refine x_dup dX11_push_84 rfl ?_
      refine x_getIV dX11_push_85 fl_X11_82 rfl (h3) ?_
      refine x_ic _ ic_1 dX11_push_88 ?_
      refine x_iaddN dX11_push_89 ?_
      refine x_put dX11_push_90 fp_X11_82 rfl rfl rfl ?_
      refine x_aload_n dX11_push_93 rfl ?_
      refine x_ic _ ic_0 dX11_push_94 ?_
      refine x_put dX11_push_95 fp_X11_85 rfl (by decide) (by decide) ?_
      refine x_ret dX11_push_98 rfl ?_
      exact hq g h2 h4
    · exact absurd c54 (by omega)
  | succ k ih =>
    intro t g h1 h2 h4
    refine x_iload_n dX11_push_51 rfl ?_
    refine x_bi _ bi_38 dX11_push_52 ?_
    refine x_icmp_geN 83 dX11_push_54 rfl (by omega) (by omega) (fun c54 => ?_) (fun c54 => ?_)
    · exact absurd c54 (by omega)
    · refine x_aload_n dX11_push_57 rfl ?_
      refine x_getR dX11_push_58 fl_X11_16 rfl ?_
      refine x_bi _ bi_38 dX11_push_61 ?_
      refine x_aload_n dX11_push_63 rfl ?_
      refine x_getIV dX11_push_64 fl_X11_82 rfl (h3) ?_
      refine x_imulN dX11_push_67 ?_
      refine x_iload_n dX11_push_68 rfl ?_
      refine x_iaddN dX11_push_69 ?_
      refine x_aload_n dX11_push_70 rfl ?_
      refine x_getR dX11_push_71 fl_X11_13 rfl ?_
      refine x_iload_n dX11_push_74 rfl ?_
      refine x_ialdN dX11_push_75 rfl rfl (by omega) (rfl) ?_
      refine x_iastN dX11_push_76 rfl rfl (by omega) ?_
      refine x_iincN dX11_push_77 rfl rfl ?_
      refine x_goto 51 dX11_push_80 rfl ?_
      rw [sA_sA, sA_at]
      refine ih (t + 1) _ (by omega) (fun u hu => ?_) (fun u hu => ?_)
      · rw [upd_n _ _ (by omega)]; exact h2 u hu
      · by_cases q : u = t
        · subst q; rw [upd_s]; rfl
        · rw [upd_n _ _ (by omega)]; exact h4 u (by omega)
/-- the row 'now' holds b, 'held' holds a; the tables, if laid, are a's -/
def mMid (S : amS) (a b : Ar) (hs : List Ar) (tx : List Nat) (u0 u1 u2 ck co : Int32) : Prop :=
  (Arr b.1 b.2.1 b.2.2 ∧ nRow (S.2.1 1) b) ∧ (Arr a.1 a.2.1 a.2.2 ∧ nRow (S.2.1 2) a) ∧ (S.1 0 3 = nI hs.length ∧ hs.length ≤ 6 ∧ ∀ (k : Nat) (b : Ar), hs[k]? = some b → Arr b.1 b.2.1 b.2.2 ∧ mPast S k b) ∧ (S.2.1 4 0 = u0 ∧ S.2.1 4 1 = u1 ∧ S.2.1 4 2 = u2) ∧
  (S.1 0 6 = nI tx.length ∧ tx.length ≤ 100 ∧ ∀ (k b : Nat), tx[k]? = some b → b ≤ 127 ∧ S.2.1 5 k = nI b) ∧ (S.1 0 7 = ck ∧ S.1 0 8 = co) ∧ (S.1 0 9 = nI 0 ∨ (S.1 0 9 = nI 1 ∧ laidM S a.2.1 a.2.2))
theorem mMid.on {S S' : amS} {a b b' : Ar} {hs : List Ar} {tx : List Nat} {u0 u1 u2 ck co : Int32} (h : mMid S a b hs tx u0 u1 u2 ck co) (ho : On S S') (hb : Arr b'.1 b'.2.1 b'.2.2) (hr : nRow (S'.2.1 1) b') : mMid S' a b' hs tx u0 u1 u2 ck co := by
  obtain ⟨h1, h2, h3, h4, h5, h6, h7⟩ := h
  refine ⟨⟨hb, hr⟩, ?_⟩
  unfold mPast at h3
  unfold laidM at h7
  unfold mPast laidM
  rw [ho.1, ho.2 2 (by omega) (by omega), ho.2 3 (by omega) (by omega), ho.2 4 (by omega) (by omega), ho.2 5 (by omega) (by omega), ho.2 6 (by omega) (by omega), ho.2 8 (by omega) (by omega), ho.2 9 (by omega) (by omega)]
  exact ⟨h2, h3, h4, h5, h6, h7⟩
theorem mMid.core {S : amS} {a : Ar} {hs : List Ar} {tx : List Nat} {u0 u1 u2 ck co : Int32} (h : mMid S a a hs tx u0 u1 u2 ck co) : mCore S a hs tx u0 u1 u2 ck co := by
  obtain ⟨h1, h2, h3, h4, h5, h6, h7⟩ := h
  exact ⟨h1, h3, h4, h5, h6, h7⟩
set_option maxRecDepth 100000 in
set_option maxHeartbeats 4000000 in
theorem k_holdq (S : amS) (a : Ar) (hs : List Ar) (tx : List Nat) (u0 u1 u2 ck co : Int32) (hc : mCore S a hs tx u0 u1 u2 ck co) : X shM mX11_hold 0 [.ref 0, .null] [] S (fun r S' => r = none ∧ mMid S' a a hs tx u0 u1 u2 ck co) := by
  refine x_mono ?_ (k_hold S)
  rintro _ _ ⟨rfl, g, rfl, hg⟩
  obtain ⟨h1, h3, h4, h5, h6, h7⟩ := hc
  exact ⟨rfl, h1, ⟨h1.1, nRow_copy h1.2 h1.1.2.2.1 hg⟩, h3, h4, h5, h6, h7⟩
set_option maxRecDepth 100000 in
set_option maxHeartbeats 4000000 in
theorem k_pushq (S : amS) (a b : Ar) (hs : List Ar) (tx : List Nat) (u0 u1 u2 ck co : Int32) (hc : mMid S a b hs tx u0 u1 u2 ck co) : X shM mX11_push 0 [.ref 0, .null] [] S (fun r S' => r = none ∧ mCore S' b (pushH hs a) tx u0 u1 u2 ck co ∧ S'.2.1 2 = S.2.1 2 ∧ S'.1 0 29 = S.1 0 29) := by
  obtain ⟨hb, ha, ⟨p1, p2, p3⟩, h4, h5, h6, h7⟩ := hc
  refine x_aload_n dX11_push_0 rfl ?_
  refine x_getIV dX11_push_1 fl_X11_82 rfl (p1) ?_
  refine x_bi _ bi_6 dX11_push_4 ?_
  refine x_icmp_neN 49 dX11_push_6 rfl (by omega) (by omega) (fun c6 => ?_) (fun c6 => ?_)
  · have q6 : hs.length ≠ 6 := c6
    refine x_ic _ ic_0 dX11_push_49 ?_
    refine x_istore_n dX11_push_50 rfl ?_
    refine x_st (sA_self _ 3) ?_
    refine k_push_2 S hs.length (by omega) p1 _ (fun g' e1 e2 => ⟨rfl, ⟨hb, ⟨?_, ?_, ?_⟩, h4, h5, h6, Or.inl rfl⟩, rfl, rfl⟩) 38 0 _ (by omega) (fun u _ => rfl) (fun u hu => by omega)
    · show nI (hs.length + 1) = nI (pushH hs a).length
      unfold pushH
      rw [if_neg q6, List.length_append]; rfl
    · unfold pushH; rw [if_neg q6, List.length_append]; show hs.length + 1 ≤ 6; omega
    · intro k b' hk
      have hk0 : (hs ++ [a])[k]? = some b' := by have := hk; unfold pushH at this; rwa [if_neg q6] at this
      by_cases q : k < hs.length
      · rw [List.getElem?_append_left q] at hk0
        obtain ⟨z1, z2, z3, z4⟩ := p3 k b' hk0
        refine ⟨z1, ?_, ?_, fun i j hi hj => ?_⟩
        · show g' (38 * k + 36) = _; rw [e1 _ (by omega), ← z2]
        · show g' (38 * k + 37) = _; rw [e1 _ (by omega), ← z3]
        · have h9 := z1.2.2.1
          show g' (38 * k + (4 * i + j)) = _; rw [e1 _ (by omega), ← z4 i j hi hj]
      · rw [List.getElem?_append_right (by omega)] at hk0
        have q2 : k = hs.length := by
          have := (List.getElem?_eq_some_iff.mp hk0).1
          simp only [List.length_cons, List.length_nil] at this
          omega
        subst q2
        rw [Nat.sub_self] at hk0
        cases hk0
        exact ⟨ha.1, nRow_copy (f := S.2.1 2) (g := fun t => g' (38 * hs.length + t)) ha.2 ha.1.2.2.1 e2⟩
  · have q6 : hs.length = 6 := c6
    refine x_ic _ ic_0 dX11_push_9 ?_
    refine x_istore_n dX11_push_10 rfl ?_
    refine x_st (sA_self S 3) ?_
    refine k_push_1 S _ (fun g hg => ?_) 190 0 _ (by omega) (fun u hu => by omega) (fun u _ => rfl)
    refine x_aload_n dX11_push_39 rfl ?_
    refine x_dup dX11_push_40 rfl ?_
    refine x_getIV dX11_push_41 fl_X11_82 rfl (show S.1 0 3 = nI 6 by rw [p1, q6]) ?_
    refine x_ic _ ic_1 dX11_push_44 ?_
    refine x_isubN dX11_push_45 (by omega) ?_
    refine x_put dX11_push_46 fp_X11_82 rfl rfl rfl ?_
    refine x_ic _ ic_0 dX11_push_49 ?_
    refine x_istore_n dX11_push_50 rfl ?_
    refine x_st (sA_self _ 3) ?_
    refine k_push_2 (sF (sA S 3 g) 0 (upd (S.1 0) 3 (nI 5))) 5 (by omega) rfl _ (fun g' e1 e2 => ⟨rfl, ⟨hb, ⟨?_, ?_, ?_⟩, h4, h5, h6, Or.inl rfl⟩, rfl, rfl⟩) 38 0 _ (by omega) (fun u _ => rfl) (fun u hu => by omega)
    · show nI 6 = nI (pushH hs a).length
      unfold pushH
      rw [if_pos q6, List.length_append, List.length_tail, q6]; rfl
    · unfold pushH; rw [if_pos q6, List.length_append, List.length_tail, q6]; exact Nat.le_refl 6
    · intro k b' hk
      have hk0 : (hs.tail ++ [a])[k]? = some b' := by have := hk; unfold pushH at this; rwa [if_pos q6] at this
      have hgg : ∀ u, u < 190 → g' u = S.2.1 3 (u + 38) := fun u hu => by rw [e1 u (by omega)]; exact hg u hu
      by_cases q : k < 5
      · rw [List.getElem?_append_left (by rw [List.length_tail]; omega), List.getElem?_tail] at hk0
        obtain ⟨z1, z2, z3, z4⟩ := p3 (k + 1) b' hk0
        refine ⟨z1, ?_, ?_, fun i j hi hj => ?_⟩
        · show g' (38 * k + 36) = _; rw [hgg _ (by omega), ← z2]; congr 1
        · show g' (38 * k + 37) = _; rw [hgg _ (by omega), ← z3]; congr 1
        · have h9 := z1.2.2.1
          show g' (38 * k + (4 * i + j)) = _; rw [hgg _ (by omega), show 38 * k + (4 * i + j) + 38 = 38 * (k + 1) + (4 * i + j) by omega]; exact z4 i j hi hj
      · rw [List.getElem?_append_right (by rw [List.length_tail]; omega), List.length_tail, q6] at hk0
        have q2 : k = 5 := by
          have := (List.getElem?_eq_some_iff.mp hk0).1
          simp only [List.length_cons, List.length_nil] at this
          omega
        subst q2
        cases hk0
        exact ⟨ha.1, nRow_copy (f := S.2.1 2) (g := fun t => g' (38 * 5 + t)) ha.2 ha.1.2.2.1 e2⟩
set_option maxRecDepth 100000 in
set_option maxHeartbeats 4000000 in
theorem k_back_no (S : amS) (a : Ar) (hs : List Ar) (tx : List Nat) (u0 u1 u2 ck co : Int32) (hc : mCore S a hs tx u0 u1 u2 ck co) (h0 : hs = []) : X shM mX11_back 0 [.ref 0, .null] [] S (fun r S' => r = some (.int (i32 (-3))) ∧ mCore S' a hs tx u0 (u1 + nI 1) u2 ck co) := by
  have hle := hc.2.1.2.1
  refine x_aload_n dX11_back_0 rfl ?_
  refine x_getIV dX11_back_1 fl_X11_82 rfl (hc.2.1.1) ?_
  refine x_if_neN 14 dX11_back_4 rfl (by omega) (fun c4 => ?_) (fun c4 => ?_)
  · subst h0; exact absurd rfl c4
  · refine x_aload_n dX11_back_7 rfl ?_
    refine x_bi _ bi_m3 dX11_back_8 ?_
    refine x_v1 (N := mX11_refuses) dX11_back_10 ml_X11_89 nv_X11_refuses rfl rfl (k_no S a hs tx u0 u1 u2 ck co hc) ?_
    rintro _ S' ⟨rfl, hc'⟩
    refine x_iretI dX11_back_13 rfl ?_
    exact ⟨rfl, hc'⟩
set_option maxRecDepth 100000 in
set_option maxHeartbeats 4000000 in
theorem k_back_l (S : amS) (n : Nat) (hn : n ≤ 5) (h3 : S.1 0 3 = nI n) (Q : Option Value → amS → Prop) (hq : ∀ g, (∀ u, u < 38 → g u = S.2.1 3 (38 * n + u)) → Q (some (.int (nI n))) (sF (sA S 1 g) 0 (upd (S.1 0) 9 (nI 0)))) : ∀ (k t : Nat) (g : Nat → Int32), t + k = 38 → (∀ u, u < t → g u = S.2.1 3 (38 * n + u)) → X shM mX11_back 26 [.ref 0, .int (nI t)] [] (sA S 1 g) Q := by
  intro k
  induction k with
  | zero =>
    intro t g h1 h2
    obtain rfl : t = 38 := by omega
    refine x_iload_n dX11_back_26 rfl ?_
    refine x_bi _ bi_38 dX11_back_27 ?_
    refine x_icmp_geN 58 dX11_back_29 rfl (by omega) (by omega) (fun c29 => ?_) (fun c29 => ?_)
    · refine x_aload_n dX11_back_58 rfl ?_
      refine x_ic _ ic_0 dX11_back_59 ?_
      refine x_put dX11_back_60 fp_X11_85 rfl (by decide) (by decide) ?_
      refine x_aload_n dX11_back_63 rfl ?_
      refine x_getIV dX11_back_64 fl_X11_82 rfl (h3) ?_
      refine x_iretI dX11_back_67 rfl ?_
      exact hq g h2
    · exact absurd c29 (by omega)
  | succ k ih =>
    intro t g h1 h2
    refine x_iload_n dX11_back_26 rfl ?_
    refine x_bi _ bi_38 dX11_back_27 ?_
    refine x_icmp_geN 58 dX11_back_29 rfl (by omega) (by omega) (fun c29 => ?_) (fun c29 => ?_)
    · exact absurd c29 (by omega)
    · refine x_aload_n dX11_back_32 rfl ?_
      refine x_getR dX11_back_33 fl_X11_7 rfl ?_
      refine x_iload_n dX11_back_36 rfl ?_
      refine x_aload_n dX11_back_37 rfl ?_
      refine x_getR dX11_back_38 fl_X11_16 rfl ?_
      refine x_bi _ bi_38 dX11_back_41 ?_
      refine x_aload_n dX11_back_43 rfl ?_
      refine x_getIV dX11_back_44 fl_X11_82 rfl (h3) ?_
      refine x_imulN dX11_back_47 ?_
      refine x_iload_n dX11_back_48 rfl ?_
      refine x_iaddN dX11_back_49 ?_
      refine x_ialdN dX11_back_50 rfl rfl (by omega) (rfl) ?_
      refine x_iastN dX11_back_51 rfl rfl (by omega) ?_
      refine x_iincN dX11_back_52 rfl rfl ?_
      refine x_goto 26 dX11_back_55 rfl ?_
      rw [sA_sA, sA_at]
      refine ih (t + 1) _ (by omega) (fun u hu => ?_)
      by_cases q : u = t
      · subst q; rw [upd_s]; rfl
      · rw [upd_n _ _ q]; exact h2 u (by omega)
set_option maxRecDepth 100000 in
set_option maxHeartbeats 4000000 in
theorem k_back_ok (S : amS) (a : Ar) (hs : List Ar) (tx : List Nat) (u0 u1 u2 ck co : Int32) (hc : mCore S a hs tx u0 u1 u2 ck co) (hs' : List Ar) (b : Ar) (h0 : hs = hs' ++ [b]) : X shM mX11_back 0 [.ref 0, .null] [] S (fun r S' => r = some (.int (nI hs'.length)) ∧ mCore S' b hs' tx u0 u1 u2 ck co) := by
  obtain ⟨h1, ⟨p1, p2, p3⟩, h4, h5, h6, h7⟩ := hc
  have hl : hs.length = hs'.length + 1 := by rw [h0, List.length_append]; rfl
  obtain ⟨z1, z2⟩ := p3 hs'.length b (by rw [h0, List.getElem?_append_right (Nat.le_refl _), Nat.sub_self]; rfl)
  refine x_aload_n dX11_back_0 rfl ?_
  refine x_getIV dX11_back_1 fl_X11_82 rfl (p1) ?_
  refine x_if_neN 14 dX11_back_4 rfl (by omega) (fun c4 => ?_) (fun c4 => ?_)
  · refine x_aload_n dX11_back_14 rfl ?_
    refine x_dup dX11_back_15 rfl ?_
    refine x_getIV dX11_back_16 fl_X11_82 rfl (p1) ?_
    refine x_ic _ ic_1 dX11_back_19 ?_
    refine x_isubN dX11_back_20 (by omega) ?_
    refine x_put dX11_back_21 fp_X11_82 rfl rfl rfl ?_
    refine x_ic _ ic_0 dX11_back_24 ?_
    refine x_istore_n dX11_back_25 rfl ?_
    refine x_st (sA_self _ 1) ?_
    refine k_back_l (sF S 0 (upd (S.1 0) 3 (nI (hs.length - 1)))) (hs.length - 1) (by omega) rfl _ (fun g hg => ⟨by rw [hl]; rfl, ⟨z1, nRow_copy (f := fun t => S.2.1 3 (38 * hs'.length + t)) z2 z1.2.2.1 (fun u hu => (hg u hu).trans (by rw [hl]; rfl))⟩, ⟨by rw [hl]; rfl, by omega, fun k b' hk => ?_⟩, h4, h5, h6, Or.inl rfl⟩) 38 0 _ (by omega) (fun u hu => by omega)
    have hk2 : k < hs'.length := (List.getElem?_eq_some_iff.mp hk).1
    exact p3 k b' (by rw [h0, List.getElem?_append_left hk2]; exact hk)
  · omega
