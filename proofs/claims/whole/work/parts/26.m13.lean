/-! THE REFERENCE: aboveOf; arrangements; what 'lay' lays -/
noncomputable def abB (v : Nat → Row) (c : Nat) : Nat → Nat
  | 0 => 0
  | i + 1 => abB v c i ||| (if 0 < facB v c i then 2 ^ i else 0)
noncomputable def rkV (v : Nat → Row) (s : Nat) : Nat := rkS (cf 4) v 9 s
/-- an arrangement: d dimensions, N planes, none of them empty, no two the same -/
def Arr (d N : Nat) (v : Nat → Row) : Prop := 2 ≤ d ∧ d ≤ 4 ∧ N ≤ 9 ∧ (∀ i j, -3 ≤ v i j ∧ v i j ≤ 3) ∧ (∀ i j, d ≤ j → v i j = 0) ∧ (∀ i, N ≤ i → ∀ j, v i j = 0) ∧ ∀ s, s < 2 ^ N → pc9 s ≤ 2 → rkV v s = pc9 s
def mNow (S : amS) (d N : Nat) (v : Nat → Row) : Prop := S.2.1 1 36 = nI d ∧ S.2.1 1 37 = nI N ∧ ∀ i j, i < N → j < 4 → S.2.1 1 (4 * i + j) = i32 (v i j)
noncomputable def rnB (v : Nat → Row) (N size : Nat) : List Nat := (List.range (2 ^ N)).filter (fun s => pc9 s == size && rgB (rkV v) s N)
noncomputable def ringsB (v : Nat → Row) (N : Nat) : Nat → List Nat
  | 0 => []
  | k + 1 => ringsB v N k ++ rnB v N (k + 1)
/-- the tables are laid for these planes -/
def laidM (S : amS) (N : Nat) (v : Nat → Row) : Prop := (∀ t, t < 2 ^ N → S.2.1 6 t = nI (rkV v t)) ∧ S.1 0 12 = nI (ringsB v N 5).length ∧ ∀ (k c : Nat), (ringsB v N 5)[k]? = some c → S.2.1 8 k = nI c ∧ S.2.1 9 k = nI (abB v c 9)
/-- nothing but the tables is different -/
def Fr (S0 S : amS) : Prop := (∀ k, k ≠ 9 → k ≠ 12 → k ≠ 18 → S.1 0 k = S0.1 0 k) ∧ (∀ i, i ≠ 6 → i ≠ 8 → i ≠ 9 → i ≠ 11 → S.2.1 i = S0.2.1 i) ∧ S.2.2.1 = S0.2.2.1
theorem Fr.rf (S : amS) : Fr S S := ⟨fun _ _ _ _ => rfl, fun _ _ _ _ _ => rfl, rfl⟩
theorem Fr.tr {S0 S1 S2 : amS} (h : Fr S0 S1) (h' : Fr S1 S2) : Fr S0 S2 := ⟨fun k a b c => (h'.1 k a b c).trans (h.1 k a b c), fun i a b c d => (h'.2.1 i a b c d).trans (h.2.1 i a b c d), h'.2.2.trans h.2.2⟩
theorem Fr_sL {S0 S : amS} (h : Fr S0 S) (o : Nat) (f : Nat → Int64) : Fr S0 (sL S o f) := h
theorem Fr_sA {S0 S : amS} (h : Fr S0 S) {o : Nat} (f : Nat → Int32) (ho : o = 6 ∨ o = 8 ∨ o = 9 ∨ o = 11) : Fr S0 (sA S o f) := ⟨h.1, fun i a b c d => by
  show va_up S.2.1 o f i = _
  rw [va_up_n _ _ (by omega)]
  exact h.2.1 i a b c d, h.2.2⟩
theorem Fr_sF {S0 S : amS} (h : Fr S0 S) {k : Nat} (x : Int32) (hk : k = 9 ∨ k = 12 ∨ k = 18) : Fr S0 (sF S 0 (upd (S.1 0) k x)) := ⟨fun j a b c => by
  show va_up S.1 0 (upd (S.1 0) k x) 0 j = _
  rw [va_up_s, upd_n _ _ (by omega)]
  exact h.1 j a b c, h.2.1, h.2.2⟩
theorem Fr_ff {S0 S : amS} (h : Fr S0 S) (f : Nat → Int64) (g : Nat → Int32) (m : Nat) : Fr S0 (ffS S f g m) := ⟨fun j a b c => by
  show va_up S.1 0 (upd (S.1 0) 18 (nI m)) 0 j = _
  rw [va_up_s, upd_n _ _ c]
  exact h.1 j a b c, fun i a b c d => by
  show va_up S.2.1 11 g i = _
  rw [va_up_n _ _ d]
  exact h.2.1 i a b c d, h.2.2⟩
theorem tb_hi {s N i : Nat} (h : s < 2 ^ N) (hi : N ≤ i) : s.testBit i = false := Nat.testBit_lt_two_pow (Nat.lt_of_lt_of_le h (Nat.pow_le_pow_right (by omega) hi))
theorem rowsB_hi (v : Nat → Row) {s N : Nat} (h : s < 2 ^ N) : ∀ k, rowsB v s (N + k) = rowsB v s N := by
  intro k
  induction k with
  | zero => rfl
  | succ k ih => rw [← Nat.add_assoc, rowsB, if_neg (by rw [tb_hi h (by omega)]; decide), ih]
theorem rkB_V {v : Nat → Row} {s N : Nat} (hN : N ≤ 9) (h : s < 2 ^ N) : rkB v N s = rkV v s := by
  unfold rkB rkV rkS
  have := rowsB_hi v h (9 - N)
  rw [show N + (9 - N) = 9 by omega] at this
  rw [this]
theorem rkV_le {v : Nat → Row} {s : Nat} (h : s < 512) : rkV v s ≤ pc9 s := by
  have := rkS_le (cf 4) v 9 s
  rw [pcb_pc9 9 (by omega) s h] at this
  exact this
theorem less_lt {s i N : Nat} (h : s < 2 ^ N) : less s i < 2 ^ N := Nat.lt_of_le_of_lt (xor_and_le s (2 ^ i)) h
theorem rgB_iff {r : Nat → Nat} {s : Nat} : ∀ N, rgB r s N = true ↔ r s < pc9 s ∧ ∀ i, i < N → s.testBit i = true → ¬ r (less s i) < pc9 (less s i) := by
  intro N
  induction N with
  | zero => simp [rgB, bdB]
  | succ N ih =>
    rw [rgB, Bool.and_eq_true, ih]
    constructor
    · rintro ⟨⟨h1, h2⟩, h3⟩
      refine ⟨h1, fun i hi hs => ?_⟩
      by_cases e : i = N
      · subst e
        simp [hs, bdB] at h3
        unfold less
        omega
      · exact h2 i (by omega) hs
    · rintro ⟨h1, h2⟩
      refine ⟨⟨h1, fun i hi hs => h2 i (by omega) hs⟩, ?_⟩
      by_cases hs : s.testBit N = true
      · have := h2 N (by omega) hs
        unfold less at this
        simp [hs, bdB]
        omega
      · simp [hs]
theorem ring_circ {v : Nat → Row} {N s : Nat} (hN : N ≤ 9) (hs : s < 2 ^ N) : rgB (rkV v) s N = true ↔ Circ v 9 s := by
  have h512 := pow9 hN
  rw [rgB_iff]
  have e9 : ∀ t, t < 512 → pcb t 9 = pc9 t := fun t ht => pcb_pc9 9 (by omega) t ht
  constructor
  · rintro ⟨h1, h2⟩
    refine ⟨fun i hi => ?_, by rw [e9 s (by omega)]; exact h1, fun i hi hb => ?_⟩
    · by_cases q : i < 9
      · exact q
      · rw [tb_hi hs (by omega)] at hi; cases hi
    · have hl := less_lt (i := i) hs
      have hiN : i < N := by
        by_cases q : i < N
        · exact q
        · rw [tb_hi hs (by omega)] at hb; cases hb
      have a1 := h2 i hiN hb
      have a2 := rkV_le (v := v) (s := less s i) (by omega)
      rw [e9 _ (by omega)]
      unfold rkV at a1 a2
      omega
  · rintro ⟨h1, h2, h3⟩
    rw [e9 s (by omega)] at h2
    refine ⟨h2, fun i hi hb => ?_⟩
    have hl := less_lt (i := i) hs
    have a1 := h3 i (by omega) hb
    rw [e9 _ (by omega)] at a1
    unfold rkV
    omega
set_option maxRecDepth 100000 in
set_option maxHeartbeats 4000000 in
theorem k_above_l (S : amS) (s : Nat) (v : Nat → Row) (hf : ∀ i, i < 9 → S.2.2.2 10 i = i64 (facB v s i)) (hfb : ∀ i, -192805230237696 ≤ facB v s i ∧ facB v s i ≤ 192805230237696) : ∀ (k i : Nat), i + k = 9 → X shM mX11_aboveOf 9 [.ref 0, .int (nI s), .int (nI (abB v s i)), .int (nI i)] [] S (fun r S' => r = some (.int (nI (abB v s 9))) ∧ S' = S) := by
  intro k
  induction k with
  | zero =>
    intro i h1
    obtain rfl : i = 9 := by omega
    refine x_iload_n dX11_aboveOf_9 rfl ?_
    refine x_bi _ bi_9 dX11_aboveOf_10 ?_
    refine x_icmp_geN 42 dX11_aboveOf_12 rfl (by omega) (by omega) (fun c12 => ?_) (fun c12 => ?_)
    · refine x_iload_n dX11_aboveOf_42 rfl ?_
      refine x_iretI dX11_aboveOf_43 rfl ?_
      exact ⟨rfl, rfl⟩
    · exact absurd c12 (by omega)
  | succ k ih =>
    intro i h1
    have hb := hfb i
    refine x_iload_n dX11_aboveOf_9 rfl ?_
    refine x_bi _ bi_9 dX11_aboveOf_10 ?_
    refine x_icmp_geN 42 dX11_aboveOf_12 rfl (by omega) (by omega) (fun c12 => ?_) (fun c12 => ?_)
    · exact absurd c12 (by omega)
    · refine x_iload_n dX11_aboveOf_15 rfl ?_
      refine x_aload_n dX11_aboveOf_16 rfl ?_
      refine x_getR dX11_aboveOf_17 fl_X11_42 rfl ?_
      refine x_iload_n dX11_aboveOf_20 rfl ?_
      refine x_laldN dX11_aboveOf_21 rfl rfl (by omega) (hf i (by omega)) ?_
      refine x_lc _ lc_0 dX11_aboveOf_22 ?_
      refine x_lcmp_le 33 dX11_aboveOf_23 dX11_aboveOf_24 rfl (by omega) (by omega) (fun c24 => ?_) (fun c24 => ?_)
      · refine x_ic _ ic_0 dX11_aboveOf_33 ?_
        refine x_iorN dX11_aboveOf_34 ?_
        refine x_istore_n dX11_aboveOf_35 rfl ?_
        refine x_iincN dX11_aboveOf_36 rfl rfl ?_
        refine x_goto 9 dX11_aboveOf_39 rfl ?_
        first | (rw [show abB v s i ||| 2 ^ i = abB v s (i + 1) from by rw [abB, if_pos c24]]; exact ih (i + 1) (by omega)) | (rw [show abB v s i ||| 0 = abB v s (i + 1) from by rw [abB, if_neg (by omega)]]; exact ih (i + 1) (by omega))
      · refine x_ic _ ic_1 dX11_aboveOf_27 ?_
        refine x_iload_n dX11_aboveOf_28 rfl ?_
        refine x_ishl1 dX11_aboveOf_29 (by omega) ?_
        refine x_goto 34 dX11_aboveOf_30 rfl ?_
        refine x_iorN dX11_aboveOf_34 ?_
        refine x_istore_n dX11_aboveOf_35 rfl ?_
        refine x_iincN dX11_aboveOf_36 rfl rfl ?_
        refine x_goto 9 dX11_aboveOf_39 rfl ?_
        first | (rw [show abB v s i ||| 2 ^ i = abB v s (i + 1) from by rw [abB, if_pos c24]]; exact ih (i + 1) (by omega)) | (rw [show abB v s i ||| 0 = abB v s (i + 1) from by rw [abB, if_neg (by omega)]]; exact ih (i + 1) (by omega))
set_option maxRecDepth 100000 in
set_option maxHeartbeats 4000000 in
theorem k_aboveOf (S : amS) (s : Nat) (v : Nat → Row) (hs : s < 512) (hC : Circ v 9 s) (h3 : 3 ≤ pcb s 9 ∧ pcb s 9 ≤ 5) (hv : ∀ i j, s.testBit i = true → i < 9 → j < 4 → S.2.1 1 (4 * i + j) = i32 (v i j)) (hb : ∀ i j, i < 9 → -3 ≤ v i j ∧ v i j ≤ 3) : X shM mX11_aboveOf 0 [.ref 0, .int (nI s), .null, .null] [] S (fun r S' => r = some (.int (nI (abB v s 9))) ∧ ∃ f g m h f', S' = sL (sL (ffS S f g m) 12 h) 10 f') := by
  refine x_aload_n dX11_aboveOf_0 rfl ?_
  refine x_iload_n dX11_aboveOf_1 rfl ?_
  refine x_v1 (N := mX11_findFactors) dX11_aboveOf_2 ml_X11_142 nv_X11_findFactors rfl rfl (k_findFactors S s v hs hC h3 hv hb) ?_
  rintro _ _ ⟨rfl, f, g, m, h, f', rfl, j1⟩
  refine x_ic _ ic_0 dX11_aboveOf_5 ?_
  refine x_istore_n dX11_aboveOf_6 rfl ?_
  refine x_ic _ ic_0 dX11_aboveOf_7 ?_
  refine x_istore_n dX11_aboveOf_8 rfl ?_
  refine x_mono ?_ (k_above_l (sL (sL (ffS S f g m) 12 h) 10 f') s v j1 (facB_ok hC hb).2 9 0 (by omega))
  rintro _ _ ⟨rfl, rfl⟩
  exact ⟨rfl, f, g, m, h, f', rfl⟩
