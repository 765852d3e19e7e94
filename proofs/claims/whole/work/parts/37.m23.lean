/-! THE REFERENCE: isThere, addsTold, doPlane, makesOne, doMakes -/
theorem same_iff (x y : Row) : (∀ j k, j < 4 → k < j → x j * y k = x k * y j) ↔ same x y := by
  constructor
  · intro h j l hj hl
    rcases Nat.lt_trichotomy j l with q | q | q
    · have := h l j hl q; omega
    · subst q; rfl
    · exact h j l hj q
  · intro h j k hj hk
    exact h j k hj (by omega)
set_option maxRecDepth 100000 in
set_option maxHeartbeats 4000000 in
theorem k_th_1 (S : amS) (N : Nat) (hN : N ≤ 9) (v : Nat → Row) (r : Row) (hv : ∀ i j, -3 ≤ v i j ∧ v i j ≤ 3) (hr : ∀ j, -3 ≤ r j ∧ r j ≤ 3) (hm : ∀ i j, i < N → j < 4 → S.2.1 1 (4 * i + j) = i32 (v i j)) (ht : ∀ j, j < 4 → S.2.1 13 j = i32 (r j)) (i : Nat) (hi : i < N) (j : Nat) (hj : j < 4) (Q : Option Value → amS → Prop) (hq : ∀ b : Bool, (b = true ↔ ∀ j' k', j' < j + 1 → k' < j' → v i j' * r k' = v i k' * r j') → X shM mX11_isThere 73 [.ref 0, .int (nI i), .int (zB b), .int (nI j), .int (nI j)] [] S Q) : ∀ (m k : Nat) (b : Bool), k + m = j → (b = true ↔ (∀ j' k', j' < j → k' < j' → v i j' * r k' = v i k' * r j') ∧ ∀ k', k' < k → v i j * r k' = v i k' * r j) → X shM mX11_isThere 12 [.ref 0, .int (nI i), .int (zB b), .int (nI j), .int (nI k)] [] S Q := by
  intro m
  induction m with
  | zero =>
    intro k b h1 h2
    obtain rfl : k = j := by omega
    refine x_iload dX11_isThere_12 rfl ?_
    refine x_iload_n dX11_isThere_14 rfl ?_
    refine x_icmp_geN 73 dX11_isThere_15 rfl (by omega) (by omega) (fun c15 => ?_) (fun c15 => ?_)
    · refine hq b (h2.trans ⟨fun z j' k' e1 e2 => ?_, fun z => ⟨fun j' k' e1 e2 => z j' k' (by omega) e2, fun k' e2 => z k k' (by omega) e2⟩⟩)
      by_cases q : j' = k
      · subst q; exact z.2 k' e2
      · exact z.1 j' k' (by omega) e2
    · exact absurd c15 (by omega)
  | succ m ih =>
    intro k b h1 h2
    have b1 := hv i j
    have b2 := hv i k
    have b3 := hr j
    have b4 := hr k
    have m1 : -9 ≤ v i j * r k ∧ v i j * r k ≤ 9 := mul_bd b1 b4
    have m2 : -9 ≤ v i k * r j ∧ v i k * r j ≤ 9 := mul_bd b2 b3
    have hstep : ∀ b' : Bool, (b' = true ↔ b = true ∧ v i j * r k = v i k * r j) → X shM mX11_isThere 67 [.ref 0, .int (nI i), .int (zB b'), .int (nI j), .int (nI k)] [] S Q := by
      intro b' hb
      refine x_iincN dX11_isThere_67 rfl rfl ?_
      refine x_goto 12 dX11_isThere_70 rfl ?_
      refine ih (k + 1) b' (by omega) (hb.trans ⟨fun z => ⟨(h2.mp z.1).1, fun k' e => ?_⟩, fun z => ⟨h2.mpr ⟨z.1, fun k' e => z.2 k' (by omega)⟩, z.2 k (by omega)⟩⟩)
      by_cases q : k' = k
      · subst q; exact z.2
      · exact (h2.mp z.1).2 k' (by omega)
    refine x_iload dX11_isThere_12 rfl ?_
    refine x_iload_n dX11_isThere_14 rfl ?_
    refine x_icmp_geN 73 dX11_isThere_15 rfl (by omega) (by omega) (fun c15 => ?_) (fun c15 => ?_)
    · exact absurd c15 (by omega)
    · refine x_iload_n dX11_isThere_18 rfl ?_
      refine x_if_eqB 65 dX11_isThere_19 rfl (fun c19 => ?_) (fun c19 => ?_)
      · refine x_ic _ ic_0 dX11_isThere_65 ?_
        refine x_istore_n dX11_isThere_66 rfl ?_
        exact hstep false (by simp [c19])
      · refine x_aload_n dX11_isThere_22 rfl ?_
        refine x_getR dX11_isThere_23 fl_X11_7 rfl ?_
        refine x_ic _ ic_4 dX11_isThere_26 ?_
        refine x_iload_n dX11_isThere_27 rfl ?_
        refine x_imulN dX11_isThere_28 ?_
        refine x_iload_n dX11_isThere_29 rfl ?_
        refine x_iaddN dX11_isThere_30 ?_
        refine x_ialdN dX11_isThere_31 rfl rfl (by omega) (hm i j hi hj) ?_
        refine x_aload_n dX11_isThere_32 rfl ?_
        refine x_getR dX11_isThere_33 fl_X11_51 rfl ?_
        refine x_iload dX11_isThere_36 rfl ?_
        refine x_ialdN dX11_isThere_38 rfl rfl (by omega) (ht k (by omega)) ?_
        refine x_imulI dX11_isThere_39 ?_
        refine x_aload_n dX11_isThere_40 rfl ?_
        refine x_getR dX11_isThere_41 fl_X11_7 rfl ?_
        refine x_ic _ ic_4 dX11_isThere_44 ?_
        refine x_iload_n dX11_isThere_45 rfl ?_
        refine x_imulN dX11_isThere_46 ?_
        refine x_iload dX11_isThere_47 rfl ?_
        refine x_iaddN dX11_isThere_49 ?_
        refine x_ialdN dX11_isThere_50 rfl rfl (by omega) (hm i k hi (by omega)) ?_
        refine x_aload_n dX11_isThere_51 rfl ?_
        refine x_getR dX11_isThere_52 fl_X11_51 rfl ?_
        refine x_iload_n dX11_isThere_55 rfl ?_
        refine x_ialdN dX11_isThere_56 rfl rfl (by omega) (ht j hj) ?_
        refine x_imulI dX11_isThere_57 ?_
        refine x_icmp_neI 65 dX11_isThere_58 rfl (by omega) (by omega) (fun c58 => ?_) (fun c58 => ?_)
        · refine x_ic _ ic_0 dX11_isThere_65 ?_
          refine x_istore_n dX11_isThere_66 rfl ?_
          exact hstep false (by simp [c58])
        · refine x_ic _ ic_1 dX11_isThere_61 ?_
          refine x_goto 66 dX11_isThere_62 rfl ?_
          refine x_istore_n dX11_isThere_66 rfl ?_
          exact hstep true (by simp [c19, c58])
set_option maxRecDepth 100000 in
set_option maxHeartbeats 4000000 in
theorem k_th_2 (S : amS) (N : Nat) (hN : N ≤ 9) (v : Nat → Row) (r : Row) (hv : ∀ i j, -3 ≤ v i j ∧ v i j ≤ 3) (hr : ∀ j, -3 ≤ r j ∧ r j ≤ 3) (hm : ∀ i j, i < N → j < 4 → S.2.1 1 (4 * i + j) = i32 (v i j)) (ht : ∀ j, j < 4 → S.2.1 13 j = i32 (r j)) (i : Nat) (hi : i < N) : ∀ (m j : Nat) (b : Bool) (z : Value), j + m = 4 → (b = true ↔ ∀ j' k', j' < j → k' < j' → v i j' * r k' = v i k' * r j') → X shM mX11_isThere 4 [.ref 0, .int (nI i), .int (zB b), .int (nI j), z] [] S (fun q S' => ∃ b : Bool, q = some (.int (zB b)) ∧ S' = S ∧ (b = true ↔ same (v i) r)) := by
  intro m
  induction m with
  | zero =>
    intro j b z h1 h2
    obtain rfl : j = 4 := by omega
    refine x_iload_n dX11_isThere_4 rfl ?_
    refine x_ic _ ic_4 dX11_isThere_5 ?_
    refine x_icmp_geN 79 dX11_isThere_6 rfl (by omega) (by omega) (fun c6 => ?_) (fun c6 => ?_)
    · refine x_iload_n dX11_isThere_79 rfl ?_
      refine x_zretB dX11_isThere_80 rfl ?_
      exact ⟨b, rfl, rfl, h2.trans (same_iff (v i) r)⟩
    · exact absurd c6 (by omega)
  | succ m ih =>
    intro j b z h1 h2
    refine x_iload_n dX11_isThere_4 rfl ?_
    refine x_ic _ ic_4 dX11_isThere_5 ?_
    refine x_icmp_geN 79 dX11_isThere_6 rfl (by omega) (by omega) (fun c6 => ?_) (fun c6 => ?_)
    · exact absurd c6 (by omega)
    · refine x_ic _ ic_0 dX11_isThere_9 ?_
      refine x_istore dX11_isThere_10 rfl ?_
      refine k_th_1 S N hN v r hv hr hm ht i hi j (by omega) _ (fun b' hb => ?_) j 0 b (by omega) (h2.trans ⟨fun z => ⟨z, fun k' e => by omega⟩, fun z => z.1⟩)
      refine x_iincN dX11_isThere_73 rfl rfl ?_
      refine x_goto 4 dX11_isThere_76 rfl ?_
      exact ih (j + 1) b' _ (by omega) hb
set_option maxRecDepth 100000 in
set_option maxHeartbeats 4000000 in
theorem k_isThere (S : amS) (N : Nat) (hN : N ≤ 9) (v : Nat → Row) (r : Row) (hv : ∀ i j, -3 ≤ v i j ∧ v i j ≤ 3) (hr : ∀ j, -3 ≤ r j ∧ r j ≤ 3) (hm : ∀ i j, i < N → j < 4 → S.2.1 1 (4 * i + j) = i32 (v i j)) (ht : ∀ j, j < 4 → S.2.1 13 j = i32 (r j)) (i : Nat) (hi : i < N) : X shM mX11_isThere 0 [.ref 0, .int (nI i), .null, .null, .null] [] S (fun q S' => ∃ b : Bool, q = some (.int (zB b)) ∧ S' = S ∧ (b = true ↔ same (v i) r)) := by
  refine x_ic _ ic_1 dX11_isThere_0 ?_
  refine x_istore_n dX11_isThere_1 rfl ?_
  refine x_ic _ ic_0 dX11_isThere_2 ?_
  refine x_istore_n dX11_isThere_3 rfl ?_
  exact k_th_2 S N hN v r hv hr hm ht i hi 4 0 true _ (by omega) ⟨fun _ j' k' e => by omega, fun _ => rfl⟩
set_option maxRecDepth 100000 in
set_option maxHeartbeats 4000000 in
theorem k_adt_l (S : amS) (a : Ar) (h9 : a.2.1 < 9) (r : Row) (ht : ∀ j, j < 4 → S.2.1 13 j = i32 (r j)) (Q : Option Value → amS → Prop) (hq : ∀ f, nRow f (aAdd a r) → Q none (sA S 1 f)) : ∀ (k t : Nat) (f : Nat → Int32), t + k = 4 → nRow f a → (∀ j, j < t → f (4 * a.2.1 + j) = i32 (r j)) → X shM mX11_addsTold 14 [.ref 0, .int (nI t)] [] (sA S 1 f) Q := by
  intro k
  induction k with
  | zero =>
    intro t f h1 h2 h3
    obtain rfl : t = 4 := by omega
    refine x_iload_n dX11_addsTold_14 rfl ?_
    refine x_ic _ ic_4 dX11_addsTold_15 ?_
    refine x_icmp_geN 47 dX11_addsTold_16 rfl (by omega) (by omega) (fun c16 => ?_) (fun c16 => ?_)
    · refine x_aload_n dX11_addsTold_47 rfl ?_
      refine x_getR dX11_addsTold_48 fl_X11_7 rfl ?_
      refine x_bi _ bi_37 dX11_addsTold_51 ?_
      refine x_dup2 dX11_addsTold_53 rfl rfl ?_
      refine x_ialdN dX11_addsTold_54 rfl rfl (by omega) (h2.2.1) ?_
      refine x_ic _ ic_1 dX11_addsTold_55 ?_
      refine x_iaddN dX11_addsTold_56 ?_
      refine x_iastN dX11_addsTold_57 rfl rfl (by omega) ?_
      refine x_ret dX11_addsTold_58 rfl ?_
      rw [sA_sA, sA_at]
      refine hq _ ⟨?_, ?_, fun m j hm hj => ?_⟩
      · rw [upd_n _ _ (by omega)]; exact h2.1
      · rw [upd_s]; rfl
      · have hm2 : m < a.2.1 + 1 := hm
        rw [upd_n _ _ (by omega)]
        show _ = i32 (if m = a.2.1 then r j else a.2.2 m j)
        by_cases q : m = a.2.1
        · rw [if_pos q, q]; exact h3 j hj
        · rw [if_neg q]; exact h2.2.2 m j (by omega) hj
    · exact absurd c16 (by omega)
  | succ k ih =>
    intro t f h1 h2 h3
    refine x_iload_n dX11_addsTold_14 rfl ?_
    refine x_ic _ ic_4 dX11_addsTold_15 ?_
    refine x_icmp_geN 47 dX11_addsTold_16 rfl (by omega) (by omega) (fun c16 => ?_) (fun c16 => ?_)
    · exact absurd c16 (by omega)
    · refine x_aload_n dX11_addsTold_19 rfl ?_
      refine x_getR dX11_addsTold_20 fl_X11_7 rfl ?_
      refine x_ic _ ic_4 dX11_addsTold_23 ?_
      refine x_aload_n dX11_addsTold_24 rfl ?_
      refine x_getR dX11_addsTold_25 fl_X11_7 rfl ?_
      refine x_bi _ bi_37 dX11_addsTold_28 ?_
      refine x_ialdN dX11_addsTold_30 rfl rfl (by omega) (h2.2.1) ?_
      refine x_imulN dX11_addsTold_31 ?_
      refine x_iload_n dX11_addsTold_32 rfl ?_
      refine x_iaddN dX11_addsTold_33 ?_
      refine x_aload_n dX11_addsTold_34 rfl ?_
      refine x_getR dX11_addsTold_35 fl_X11_51 rfl ?_
      refine x_iload_n dX11_addsTold_38 rfl ?_
      refine x_ialdN dX11_addsTold_39 rfl rfl (by omega) (ht t (by omega)) ?_
      refine x_iastN dX11_addsTold_40 rfl rfl (by omega) ?_
      refine x_iincN dX11_addsTold_41 rfl rfl ?_
      refine x_goto 14 dX11_addsTold_44 rfl ?_
      rw [sA_sA, sA_at]
      refine ih (t + 1) _ (by omega) ⟨?_, ?_, fun m j hm hj => ?_⟩ (fun j hj => ?_)
      · rw [upd_n _ _ (by omega)]; exact h2.1
      · rw [upd_n _ _ (by omega)]; exact h2.2.1
      · rw [upd_n _ _ (by omega)]; exact h2.2.2 m j hm hj
      · by_cases q : j = t
        · subst q; rw [upd_s]
        · rw [upd_n _ _ (by omega)]; exact h3 j (by omega)
set_option maxRecDepth 100000 in
set_option maxHeartbeats 4000000 in
theorem k_addsTold (S : amS) (a : Ar) (h9 : a.2.1 ≤ 9) (hm : nRow (S.2.1 1) a) (r : Row) (ht : ∀ j, j < 4 → S.2.1 13 j = i32 (r j)) : X shM mX11_addsTold 0 [.ref 0, .null] [] S (fun q S' => q = none ∧ On S S' ∧ nRow (S'.2.1 1) (if a.2.1 < 9 then aAdd a r else a)) := by
  refine x_aload_n dX11_addsTold_0 rfl ?_
  refine x_getR dX11_addsTold_1 fl_X11_7 rfl ?_
  refine x_bi _ bi_37 dX11_addsTold_4 ?_
  refine x_ialdN dX11_addsTold_6 rfl rfl (by omega) (hm.2.1) ?_
  refine x_bi _ bi_9 dX11_addsTold_7 ?_
  refine x_icmp_geN 58 dX11_addsTold_9 rfl (by omega) (by omega) (fun c9 => ?_) (fun c9 => ?_)
  · refine x_ret dX11_addsTold_58 rfl ?_
    exact ⟨rfl, On.rf S, by rw [if_neg (by omega)]; exact hm⟩
  · refine x_ic _ ic_0 dX11_addsTold_12 ?_
    refine x_istore_n dX11_addsTold_13 rfl ?_
    refine x_st (sA_self S 1) ?_
    exact k_adt_l S a c9 r ht _ (fun f hf => ⟨rfl, (On.rf S).sA f (Or.inl rfl), by rw [if_pos c9]; exact hf⟩) 4 0 _ (by omega) hm (fun j hj => by omega)
def q4 (x y z t : Int32) : Nat → Int32 := fun j => if j = 0 then x else if j = 1 then y else if j = 2 then z else t
def plOK (d : Nat) (x : Nat → Int32) : Prop := (∀ j, j < 4 → (i32 (-3) ≤ x j ∧ x j ≤ nI 3) ∧ (j < d ∨ x j = nI 0)) ∧ ∃ j, j < 4 ∧ x j ≠ nI 0
def plR (x : Nat → Int32) : Row := fun j => if j < 4 then (x j).toInt else 0
theorem le3 {x : Int32} (h : i32 (-3) ≤ x ∧ x ≤ nI 3) : -3 ≤ x.toInt ∧ x.toInt ≤ 3 := by
  rw [nI_i32, Int32.le_iff_toInt_le, Int32.le_iff_toInt_le, i32_toInt (by omega) (by omega), i32_toInt (by omega) (by omega)] at h
  omega
theorem plR_bd {d : Nat} {x : Nat → Int32} (h : plOK d x) : ∀ j, -3 ≤ plR x j ∧ plR x j ≤ 3 := by
  intro j
  unfold plR
  split
  · rename_i q; exact le3 (h.1 j q).1
  · omega
theorem plR_at {x : Nat → Int32} {j : Nat} (h : j < 4) : x j = i32 (plR x j) := by
  unfold plR
  rw [if_pos h]
  exact i32_of _
theorem plR_z {d : Nat} {x : Nat → Int32} (h : plOK d x) : ∀ j, d ≤ j → plR x j = 0 := by
  intro j hj
  unfold plR
  split
  · rename_i q
    rcases (h.1 j q).2 with z | z
    · omega
    · rw [z]; rfl
  · rfl
theorem plR_ne {d : Nat} {x : Nat → Int32} (h : plOK d x) : ∃ j, j < 4 ∧ plR x j ≠ 0 := by
  obtain ⟨j, hj, e⟩ := h.2
  refine ⟨j, hj, fun z => e ?_⟩
  rw [plR_at (x := x) hj, z]
  decide
theorem arr_plane {a : Ar} (h : Arr a.1 a.2.1 a.2.2) {x : Nat → Int32} (hx : plOK a.1 x) (hN : a.2.1 < 9) (hs : ∀ i, i < a.2.1 → ¬ same (a.2.2 i) (plR x)) : Arr (aAdd a (plR x)).1 (aAdd a (plR x)).2.1 (aAdd a (plR x)).2.2 := arr_add h hN (plR_bd hx) (plR_z hx) (plR_ne hx) hs
set_option maxRecDepth 100000 in
set_option maxHeartbeats 4000000 in
theorem k_pl_1 (S : amS) (d : Nat) (hd : d ≤ 4) (h36 : S.2.1 1 36 = nI d) (x0 x1 x2 x3 : Int32) (x : Nat → Int32) (ht : ∀ j, j < 4 → S.2.1 13 j = x j) (Q : Option Value → amS → Prop) (hq : ∀ (f y : Bool), (f = true ↔ ∀ j, j < 4 → (i32 (-3) ≤ x j ∧ x j ≤ nI 3) ∧ (j < d ∨ x j = nI 0)) → (y = true ↔ ∃ j, j < 4 ∧ x j ≠ nI 0) → X shM mX11_doPlane 122 [.ref 0, .int x0, .int x1, .int x2, .int x3, .int (zB y), .int (zB f), .int (nI 4)] [] S Q) : ∀ (k j : Nat) (f y : Bool), j + k = 4 → (f = true ↔ ∀ j', j' < j → (i32 (-3) ≤ x j' ∧ x j' ≤ nI 3) ∧ (j' < d ∨ x j' = nI 0)) → (y = true ↔ ∃ j', j' < j ∧ x j' ≠ nI 0) → X shM mX11_doPlane 38 [.ref 0, .int x0, .int x1, .int x2, .int x3, .int (zB y), .int (zB f), .int (nI j)] [] S Q := by
  intro k
  induction k with
  | zero =>
    intro j f y h1 h2 h3
    obtain rfl : j = 4 := by omega
    refine x_iload dX11_doPlane_38 rfl ?_
    refine x_ic _ ic_4 dX11_doPlane_40 ?_
    refine x_icmp_geN 122 dX11_doPlane_41 rfl (by omega) (by omega) (fun c41 => ?_) (fun c41 => ?_)
    · exact hq f y h2 h3
    · exact absurd c41 (by omega)
  | succ k ih =>
    intro j f y h1 h2 h3
    have hjj := ht j (by omega)
    have hend : ∀ (f' y' : Bool), (f' = true ↔ f = true ∧ (i32 (-3) ≤ x j ∧ x j ≤ nI 3) ∧ (j < d ∨ x j = nI 0)) → (y' = true ↔ y = true ∨ x j ≠ nI 0) → X shM mX11_doPlane 116 [.ref 0, .int x0, .int x1, .int x2, .int x3, .int (zB y'), .int (zB f'), .int (nI j)] [] S Q := by
      intro f' y' e1 e2
      refine x_iincN dX11_doPlane_116 rfl rfl ?_
      refine x_goto 38 dX11_doPlane_119 rfl ?_
      refine ih (j + 1) f' y' (by omega) (e1.trans ⟨fun z j' hj' => ?_, fun z => ⟨h2.mpr (fun j' hj' => z j' (by omega)), z j (by omega)⟩⟩) (e2.trans ⟨fun z => ?_, fun z => ?_⟩)
      · by_cases q : j' = j
        · subst q; exact z.2
        · exact h2.mp z.1 j' (by omega)
      · rcases z with z | z
        · obtain ⟨j', q1, q2⟩ := h3.mp z; exact ⟨j', by omega, q2⟩
        · exact ⟨j, by omega, z⟩
      · obtain ⟨j', q1, q2⟩ := z
        by_cases q : j' = j
        · subst q; exact Or.inr q2
        · exact Or.inl (h3.mpr ⟨j', by omega, q2⟩)
    have hmid : ∀ (f' : Bool), (f' = true ↔ f = true ∧ (i32 (-3) ≤ x j ∧ x j ≤ nI 3) ∧ (j < d ∨ x j = nI 0)) → X shM mX11_doPlane 94 [.ref 0, .int x0, .int x1, .int x2, .int x3, .int (zB y), .int (zB f'), .int (nI j)] [] S Q := by
      intro f' e1
      refine x_iload dX11_doPlane_94 rfl ?_
      refine x_if_neB 109 dX11_doPlane_96 rfl (fun c96 => ?_) (fun c96 => ?_)
      · refine x_ic _ ic_1 dX11_doPlane_109 ?_
        refine x_goto 114 dX11_doPlane_110 rfl ?_
        refine x_istore dX11_doPlane_114 rfl ?_
        exact hend f' true e1 (by simp [c96])
      · refine x_aload_n dX11_doPlane_99 rfl ?_
        refine x_getR dX11_doPlane_100 fl_X11_51 rfl ?_
        refine x_iload dX11_doPlane_103 rfl ?_
        refine x_ialdN dX11_doPlane_105 rfl rfl (by omega) (hjj) ?_
        refine x_if_eq 113 dX11_doPlane_106 rfl (fun c106 => ?_) (fun c106 => ?_)
        · refine x_ic _ ic_0 dX11_doPlane_113 ?_
          refine x_istore dX11_doPlane_114 rfl ?_
          exact hend f' false e1 (by rw [c96]; simp only [Bool.false_eq_true, false_or, false_iff, Classical.not_not]; exact c106)
        · refine x_ic _ ic_1 dX11_doPlane_109 ?_
          refine x_goto 114 dX11_doPlane_110 rfl ?_
          refine x_istore dX11_doPlane_114 rfl ?_
          exact hend f' true e1 (by simp only [true_iff]; exact Or.inr c106)
    refine x_iload dX11_doPlane_38 rfl ?_
    refine x_ic _ ic_4 dX11_doPlane_40 ?_
    refine x_icmp_geN 122 dX11_doPlane_41 rfl (by omega) (by omega) (fun c41 => ?_) (fun c41 => ?_)
    · exact absurd c41 (by omega)
    · refine x_iload dX11_doPlane_44 rfl ?_
      refine x_if_eqB 91 dX11_doPlane_46 rfl (fun c46 => ?_) (fun c46 => ?_)
      · refine x_ic _ ic_0 dX11_doPlane_91 ?_
        refine x_istore dX11_doPlane_92 rfl ?_
        exact hmid false (by simp [c46])
      · refine x_aload_n dX11_doPlane_49 rfl ?_
        refine x_getR dX11_doPlane_50 fl_X11_51 rfl ?_
        refine x_iload dX11_doPlane_53 rfl ?_
        refine x_ialdN dX11_doPlane_55 rfl rfl (by omega) (hjj) ?_
        refine x_bi _ bi_m3 dX11_doPlane_56 ?_
        refine x_ic _ ic_3 dX11_doPlane_58 ?_
        refine x_s3d (N := mX11_in) dX11_doPlane_59 ml_X11_113 ns_X11_in rfl (k_in S _ _ _) ?_
        refine x_if_eqB 91 dX11_doPlane_62 rfl (fun c62 => ?_) (fun c62 => ?_)
        · refine x_ic _ ic_0 dX11_doPlane_91 ?_
          refine x_istore dX11_doPlane_92 rfl ?_
          refine hmid false ⟨fun z => (by cases z), fun z => absurd (decide_eq_true z.2.1) (by rw [c62]; decide)⟩
        · refine x_iload dX11_doPlane_65 rfl ?_
          refine x_aload_n dX11_doPlane_67 rfl ?_
          refine x_getR dX11_doPlane_68 fl_X11_7 rfl ?_
          refine x_bi _ bi_36 dX11_doPlane_71 ?_
          refine x_ialdN dX11_doPlane_73 rfl rfl (by omega) (h36) ?_
          refine x_icmp_ltN 87 dX11_doPlane_74 rfl (by omega) (by omega) (fun c74 => ?_) (fun c74 => ?_)
          · refine x_ic _ ic_1 dX11_doPlane_87 ?_
            refine x_goto 92 dX11_doPlane_88 rfl ?_
            refine x_istore dX11_doPlane_92 rfl ?_
            exact hmid true ⟨fun _ => ⟨c46, of_decide_eq_true c62, Or.inl c74⟩, fun _ => rfl⟩
          · refine x_aload_n dX11_doPlane_77 rfl ?_
            refine x_getR dX11_doPlane_78 fl_X11_51 rfl ?_
            refine x_iload dX11_doPlane_81 rfl ?_
            refine x_ialdN dX11_doPlane_83 rfl rfl (by omega) (hjj) ?_
            refine x_if_ne 91 dX11_doPlane_84 rfl (fun c84 => ?_) (fun c84 => ?_)
            · refine x_ic _ ic_0 dX11_doPlane_91 ?_
              refine x_istore dX11_doPlane_92 rfl ?_
              exact hmid false ⟨fun z => (by cases z), fun z => by rcases z.2.2 with q | q; exact absurd q (by omega); exact absurd q c84⟩
            · refine x_ic _ ic_1 dX11_doPlane_87 ?_
              refine x_goto 92 dX11_doPlane_88 rfl ?_
              refine x_istore dX11_doPlane_92 rfl ?_
              exact hmid true ⟨fun _ => ⟨c46, of_decide_eq_true c62, Or.inr c84⟩, fun _ => rfl⟩
theorem told_at (f : Nat → Int32) (x0 x1 x2 x3 : Int32) : ∀ j, j < 4 → upd (upd (upd (upd f 0 x0) 1 x1) 2 x2) 3 x3 j = q4 x0 x1 x2 x3 j := by
  intro j hj
  rcases (show j = 0 ∨ j = 1 ∨ j = 2 ∨ j = 3 by omega) with rfl | rfl | rfl | rfl <;> rfl
set_option maxRecDepth 100000 in
set_option maxHeartbeats 4000000 in
theorem k_pl_2 (S : amS) (a : Ar) (hA : Arr a.1 a.2.1 a.2.2) (hm : nRow (S.2.1 1) a) (x0 x1 x2 x3 : Int32) (y0 f0 : Int32) (r : Row) (hr : ∀ j, -3 ≤ r j ∧ r j ≤ 3) (ht : ∀ j, j < 4 → S.2.1 13 j = i32 (r j)) (Q : Option Value → amS → Prop) (hno : (∃ i, i < a.2.1 ∧ same (a.2.2 i) r) → Q (some (.int (i32 (-3)))) S) (hq : (∀ i, i < a.2.1 → ¬ same (a.2.2 i) r) → X shM mX11_doPlane 168 [.ref 0, .int x0, .int x1, .int x2, .int x3, .int y0, .int f0, .int (nI a.2.1)] [] S Q) : ∀ (k i : Nat), i + k = a.2.1 → (∀ i', i' < i → ¬ same (a.2.2 i') r) → X shM mX11_doPlane 138 [.ref 0, .int x0, .int x1, .int x2, .int x3, .int y0, .int f0, .int (nI i)] [] S Q := by
  obtain ⟨a1, a2, a3, a4, a5, a6, a7⟩ := id hA
  intro k
  induction k with
  | zero =>
    intro i h1 h2
    obtain rfl : i = a.2.1 := by omega
    refine x_iload dX11_doPlane_138 rfl ?_
    refine x_aload_n dX11_doPlane_140 rfl ?_
    refine x_getR dX11_doPlane_141 fl_X11_7 rfl ?_
    refine x_bi _ bi_37 dX11_doPlane_144 ?_
    refine x_ialdN dX11_doPlane_146 rfl rfl (by omega) (hm.2.1) ?_
    refine x_icmp_geN 168 dX11_doPlane_147 rfl (by omega) (by omega) (fun c147 => ?_) (fun c147 => ?_)
    · exact hq h2
    · exact absurd c147 (by omega)
  | succ k ih =>
    intro i h1 h2
    refine x_iload dX11_doPlane_138 rfl ?_
    refine x_aload_n dX11_doPlane_140 rfl ?_
    refine x_getR dX11_doPlane_141 fl_X11_7 rfl ?_
    refine x_bi _ bi_37 dX11_doPlane_144 ?_
    refine x_ialdN dX11_doPlane_146 rfl rfl (by omega) (hm.2.1) ?_
    refine x_icmp_geN 168 dX11_doPlane_147 rfl (by omega) (by omega) (fun c147 => ?_) (fun c147 => ?_)
    · exact absurd c147 (by omega)
    · refine x_aload_n dX11_doPlane_150 rfl ?_
      refine x_iload dX11_doPlane_151 rfl ?_
      refine x_v1 (N := mX11_isThere) dX11_doPlane_153 ml_X11_145 nv_X11_isThere rfl rfl (k_isThere S a.2.1 a3 a.2.2 r a4 hr hm.2.2 ht i (by omega)) ?_
      rintro _ _ ⟨b, rfl, rfl, hb⟩
      refine x_if_eqB 162 dX11_doPlane_156 rfl (fun c156 => ?_) (fun c156 => ?_)
      · refine x_iincN dX11_doPlane_162 rfl rfl ?_
        refine x_goto 138 dX11_doPlane_165 rfl ?_
        refine ih (i + 1) (by omega) (fun i' hi => ?_)
        by_cases q : i' = i
        · subst q; intro z; rw [hb.mpr z] at c156; cases c156
        · exact h2 i' (by omega)
      · refine x_bi _ bi_m3 dX11_doPlane_159 ?_
        refine x_iretI dX11_doPlane_161 rfl ?_
        exact hno ⟨i, by omega, hb.mp c156⟩
set_option maxRecDepth 100000 in
set_option maxHeartbeats 4000000 in
theorem k_doPlane_bad (S : amS) (a : Ar) (hA : Arr a.1 a.2.1 a.2.2) (hm : nRow (S.2.1 1) a) (x0 x1 x2 x3 : Int32) (hx : ¬ plOK a.1 (q4 x0 x1 x2 x3)) : X shM mX11_doPlane 0 [.ref 0, .int x0, .int x1, .int x2, .int x3, .null, .null, .null] [] S (fun r S' => r = some (.int (i32 (-2))) ∧ On S S' ∧ nRow (S'.2.1 1) a) := by
  obtain ⟨a1, a2, a3, a4, a5, a6, a7⟩ := id hA
  refine x_aload_n dX11_doPlane_0 rfl ?_
  refine x_getR dX11_doPlane_1 fl_X11_51 rfl ?_
  refine x_ic _ ic_0 dX11_doPlane_4 ?_
  refine x_iload_n dX11_doPlane_5 rfl ?_
  refine x_iastN dX11_doPlane_6 rfl rfl (by omega) ?_
  refine x_aload_n dX11_doPlane_7 rfl ?_
  refine x_getR dX11_doPlane_8 fl_X11_51 rfl ?_
  refine x_ic _ ic_1 dX11_doPlane_11 ?_
  refine x_iload_n dX11_doPlane_12 rfl ?_
  refine x_iastN dX11_doPlane_13 rfl rfl (by omega) ?_
  refine x_aload_n dX11_doPlane_14 rfl ?_
  refine x_getR dX11_doPlane_15 fl_X11_51 rfl ?_
  refine x_ic _ ic_2 dX11_doPlane_18 ?_
  refine x_iload_n dX11_doPlane_19 rfl ?_
  refine x_iastN dX11_doPlane_20 rfl rfl (by omega) ?_
  refine x_aload_n dX11_doPlane_21 rfl ?_
  refine x_getR dX11_doPlane_22 fl_X11_51 rfl ?_
  refine x_ic _ ic_3 dX11_doPlane_25 ?_
  refine x_iload dX11_doPlane_26 rfl ?_
  refine x_iastN dX11_doPlane_28 rfl rfl (by omega) ?_
  refine x_ic _ ic_0 dX11_doPlane_29 ?_
  refine x_istore dX11_doPlane_30 rfl ?_
  refine x_ic _ ic_1 dX11_doPlane_32 ?_
  refine x_istore dX11_doPlane_33 rfl ?_
  refine x_ic _ ic_0 dX11_doPlane_35 ?_
  refine x_istore dX11_doPlane_36 rfl ?_
  simp only [sA_sA, sA_at]
  refine k_pl_1 (sA S 13 (upd (upd (upd (upd (S.2.1 13) 0 x0) 1 x1) 2 x2) 3 x3)) a.1 a2 hm.1 x0 x1 x2 x3 (q4 x0 x1 x2 x3) (fun j hj => (told_at (S.2.1 13) x0 x1 x2 x3 j hj)) _ (fun f y hf hy => ?_) 4 0 true false (by omega) ⟨fun _ j' e => by omega, fun _ => rfl⟩ ⟨fun z => (by cases z), fun z => by obtain ⟨j', e, _⟩ := z; omega⟩
  refine x_iload dX11_doPlane_122 rfl ?_
  refine x_if_eqB 132 dX11_doPlane_124 rfl (fun c => ?_) (fun c => ?_)
  · refine x_bi _ bi_m2 dX11_doPlane_132 ?_
    refine x_iretI dX11_doPlane_134 rfl ?_
    exact ⟨rfl, (On.rf S).sA _ (Or.inr rfl), hm⟩
  · refine x_iload dX11_doPlane_127 rfl ?_
    refine x_if_neB 135 dX11_doPlane_129 rfl (fun e => ?_) (fun e => ?_)
    · exact absurd ⟨hf.mp c, hy.mp e⟩ hx
    · refine x_bi _ bi_m2 dX11_doPlane_132 ?_
      refine x_iretI dX11_doPlane_134 rfl ?_
      exact ⟨rfl, (On.rf S).sA _ (Or.inr rfl), hm⟩
set_option maxRecDepth 100000 in
set_option maxHeartbeats 4000000 in
theorem k_doPlane_no (S : amS) (a : Ar) (hA : Arr a.1 a.2.1 a.2.2) (hm : nRow (S.2.1 1) a) (x0 x1 x2 x3 : Int32) (hx : plOK a.1 (q4 x0 x1 x2 x3)) (hn : ∃ i, i < a.2.1 ∧ same (a.2.2 i) (plR (q4 x0 x1 x2 x3))) : X shM mX11_doPlane 0 [.ref 0, .int x0, .int x1, .int x2, .int x3, .null, .null, .null] [] S (fun r S' => r = some (.int (i32 (-3))) ∧ On S S' ∧ nRow (S'.2.1 1) a) := by
  obtain ⟨a1, a2, a3, a4, a5, a6, a7⟩ := id hA
  refine x_aload_n dX11_doPlane_0 rfl ?_
  refine x_getR dX11_doPlane_1 fl_X11_51 rfl ?_
  refine x_ic _ ic_0 dX11_doPlane_4 ?_
  refine x_iload_n dX11_doPlane_5 rfl ?_
  refine x_iastN dX11_doPlane_6 rfl rfl (by omega) ?_
  refine x_aload_n dX11_doPlane_7 rfl ?_
  refine x_getR dX11_doPlane_8 fl_X11_51 rfl ?_
  refine x_ic _ ic_1 dX11_doPlane_11 ?_
  refine x_iload_n dX11_doPlane_12 rfl ?_
  refine x_iastN dX11_doPlane_13 rfl rfl (by omega) ?_
  refine x_aload_n dX11_doPlane_14 rfl ?_
  refine x_getR dX11_doPlane_15 fl_X11_51 rfl ?_
  refine x_ic _ ic_2 dX11_doPlane_18 ?_
  refine x_iload_n dX11_doPlane_19 rfl ?_
  refine x_iastN dX11_doPlane_20 rfl rfl (by omega) ?_
  refine x_aload_n dX11_doPlane_21 rfl ?_
  refine x_getR dX11_doPlane_22 fl_X11_51 rfl ?_
  refine x_ic _ ic_3 dX11_doPlane_25 ?_
  refine x_iload dX11_doPlane_26 rfl ?_
  refine x_iastN dX11_doPlane_28 rfl rfl (by omega) ?_
  refine x_ic _ ic_0 dX11_doPlane_29 ?_
  refine x_istore dX11_doPlane_30 rfl ?_
  refine x_ic _ ic_1 dX11_doPlane_32 ?_
  refine x_istore dX11_doPlane_33 rfl ?_
  refine x_ic _ ic_0 dX11_doPlane_35 ?_
  refine x_istore dX11_doPlane_36 rfl ?_
  simp only [sA_sA, sA_at]
  refine k_pl_1 (sA S 13 (upd (upd (upd (upd (S.2.1 13) 0 x0) 1 x1) 2 x2) 3 x3)) a.1 a2 hm.1 x0 x1 x2 x3 (q4 x0 x1 x2 x3) (fun j hj => (told_at (S.2.1 13) x0 x1 x2 x3 j hj)) _ (fun f y hf hy => ?_) 4 0 true false (by omega) ⟨fun _ j' e => by omega, fun _ => rfl⟩ ⟨fun z => (by cases z), fun z => by obtain ⟨j', e, _⟩ := z; omega⟩
  refine x_iload dX11_doPlane_122 rfl ?_
  refine x_if_eqB 132 dX11_doPlane_124 rfl (fun c => absurd (hf.mpr hx.1) (by rw [c]; decide)) (fun c => ?_)
  refine x_iload dX11_doPlane_127 rfl ?_
  refine x_if_neB 135 dX11_doPlane_129 rfl (fun e => ?_) (fun c => absurd (hy.mpr hx.2) (by rw [c]; decide))
  refine x_ic _ ic_0 dX11_doPlane_135 ?_
  refine x_istore dX11_doPlane_136 rfl ?_
  refine k_pl_2 (sA S 13 (upd (upd (upd (upd (S.2.1 13) 0 x0) 1 x1) 2 x2) 3 x3)) a hA hm x0 x1 x2 x3 _ _ (plR (q4 x0 x1 x2 x3)) (plR_bd hx) (fun j hj => (told_at (S.2.1 13) x0 x1 x2 x3 j hj).trans (plR_at hj)) _ (fun _ => ⟨rfl, (On.rf S).sA _ (Or.inr rfl), hm⟩) (fun hs => ?_) a.2.1 0 (by omega) (fun i' e => by omega)
  obtain ⟨i, h1, h2⟩ := hn
  exact absurd h2 (hs i h1)
set_option maxRecDepth 100000 in
set_option maxHeartbeats 4000000 in
theorem k_doPlane_full (S : amS) (a : Ar) (hA : Arr a.1 a.2.1 a.2.2) (hm : nRow (S.2.1 1) a) (x0 x1 x2 x3 : Int32) (hx : plOK a.1 (q4 x0 x1 x2 x3)) (hn : ∀ i, i < a.2.1 → ¬ same (a.2.2 i) (plR (q4 x0 x1 x2 x3))) (h9 : a.2.1 = 9) : X shM mX11_doPlane 0 [.ref 0, .int x0, .int x1, .int x2, .int x3, .null, .null, .null] [] S (fun r S' => r = some (.int (i32 (-4))) ∧ On S S' ∧ nRow (S'.2.1 1) a) := by
  obtain ⟨a1, a2, a3, a4, a5, a6, a7⟩ := id hA
  refine x_aload_n dX11_doPlane_0 rfl ?_
  refine x_getR dX11_doPlane_1 fl_X11_51 rfl ?_
  refine x_ic _ ic_0 dX11_doPlane_4 ?_
  refine x_iload_n dX11_doPlane_5 rfl ?_
  refine x_iastN dX11_doPlane_6 rfl rfl (by omega) ?_
  refine x_aload_n dX11_doPlane_7 rfl ?_
  refine x_getR dX11_doPlane_8 fl_X11_51 rfl ?_
  refine x_ic _ ic_1 dX11_doPlane_11 ?_
  refine x_iload_n dX11_doPlane_12 rfl ?_
  refine x_iastN dX11_doPlane_13 rfl rfl (by omega) ?_
  refine x_aload_n dX11_doPlane_14 rfl ?_
  refine x_getR dX11_doPlane_15 fl_X11_51 rfl ?_
  refine x_ic _ ic_2 dX11_doPlane_18 ?_
  refine x_iload_n dX11_doPlane_19 rfl ?_
  refine x_iastN dX11_doPlane_20 rfl rfl (by omega) ?_
  refine x_aload_n dX11_doPlane_21 rfl ?_
  refine x_getR dX11_doPlane_22 fl_X11_51 rfl ?_
  refine x_ic _ ic_3 dX11_doPlane_25 ?_
  refine x_iload dX11_doPlane_26 rfl ?_
  refine x_iastN dX11_doPlane_28 rfl rfl (by omega) ?_
  refine x_ic _ ic_0 dX11_doPlane_29 ?_
  refine x_istore dX11_doPlane_30 rfl ?_
  refine x_ic _ ic_1 dX11_doPlane_32 ?_
  refine x_istore dX11_doPlane_33 rfl ?_
  refine x_ic _ ic_0 dX11_doPlane_35 ?_
  refine x_istore dX11_doPlane_36 rfl ?_
  simp only [sA_sA, sA_at]
  refine k_pl_1 (sA S 13 (upd (upd (upd (upd (S.2.1 13) 0 x0) 1 x1) 2 x2) 3 x3)) a.1 a2 hm.1 x0 x1 x2 x3 (q4 x0 x1 x2 x3) (fun j hj => (told_at (S.2.1 13) x0 x1 x2 x3 j hj)) _ (fun f y hf hy => ?_) 4 0 true false (by omega) ⟨fun _ j' e => by omega, fun _ => rfl⟩ ⟨fun z => (by cases z), fun z => by obtain ⟨j', e, _⟩ := z; omega⟩
  refine x_iload dX11_doPlane_122 rfl ?_
  refine x_if_eqB 132 dX11_doPlane_124 rfl (fun c => absurd (hf.mpr hx.1) (by rw [c]; decide)) (fun c => ?_)
  refine x_iload dX11_doPlane_127 rfl ?_
  refine x_if_neB 135 dX11_doPlane_129 rfl (fun e => ?_) (fun c => absurd (hy.mpr hx.2) (by rw [c]; decide))
  refine x_ic _ ic_0 dX11_doPlane_135 ?_
  refine x_istore dX11_doPlane_136 rfl ?_
  refine k_pl_2 (sA S 13 (upd (upd (upd (upd (S.2.1 13) 0 x0) 1 x1) 2 x2) 3 x3)) a hA hm x0 x1 x2 x3 _ _ (plR (q4 x0 x1 x2 x3)) (plR_bd hx) (fun j hj => (told_at (S.2.1 13) x0 x1 x2 x3 j hj).trans (plR_at hj)) _ (fun z => by obtain ⟨i, h1, h2⟩ := z; exact absurd h2 (hn i h1)) (fun hs => ?_) a.2.1 0 (by omega) (fun i' e => by omega)
  refine x_aload_n dX11_doPlane_168 rfl ?_
  refine x_getR dX11_doPlane_169 fl_X11_7 rfl ?_
  refine x_bi _ bi_37 dX11_doPlane_172 ?_
  refine x_ialdN dX11_doPlane_174 rfl rfl (by omega) (hm.2.1) ?_
  refine x_bi _ bi_9 dX11_doPlane_175 ?_
  refine x_icmp_neN 183 dX11_doPlane_177 rfl (by omega) (by omega) (fun c177 => ?_) (fun c177 => ?_)
  · exact absurd h9 c177
  · refine x_bi _ bi_m4 dX11_doPlane_180 ?_
    refine x_iretI dX11_doPlane_182 rfl ?_
    exact ⟨rfl, (On.rf S).sA _ (Or.inr rfl), hm⟩
set_option maxRecDepth 100000 in
set_option maxHeartbeats 4000000 in
theorem k_doPlane_ok (S : amS) (a : Ar) (hA : Arr a.1 a.2.1 a.2.2) (hm : nRow (S.2.1 1) a) (x0 x1 x2 x3 : Int32) (hx : plOK a.1 (q4 x0 x1 x2 x3)) (hn : ∀ i, i < a.2.1 → ¬ same (a.2.2 i) (plR (q4 x0 x1 x2 x3))) (h9 : a.2.1 < 9) : X shM mX11_doPlane 0 [.ref 0, .int x0, .int x1, .int x2, .int x3, .null, .null, .null] [] S (fun r S' => r = some (.int (nI a.2.1)) ∧ On S S' ∧ nRow (S'.2.1 1) (aAdd a (plR (q4 x0 x1 x2 x3)))) := by
  obtain ⟨a1, a2, a3, a4, a5, a6, a7⟩ := id hA
  refine x_aload_n dX11_doPlane_0 rfl ?_
  refine x_getR dX11_doPlane_1 fl_X11_51 rfl ?_
  refine x_ic _ ic_0 dX11_doPlane_4 ?_
  refine x_iload_n dX11_doPlane_5 rfl ?_
  refine x_iastN dX11_doPlane_6 rfl rfl (by omega) ?_
  refine x_aload_n dX11_doPlane_7 rfl ?_
  refine x_getR dX11_doPlane_8 fl_X11_51 rfl ?_
  refine x_ic _ ic_1 dX11_doPlane_11 ?_
  refine x_iload_n dX11_doPlane_12 rfl ?_
  refine x_iastN dX11_doPlane_13 rfl rfl (by omega) ?_
  refine x_aload_n dX11_doPlane_14 rfl ?_
  refine x_getR dX11_doPlane_15 fl_X11_51 rfl ?_
  refine x_ic _ ic_2 dX11_doPlane_18 ?_
  refine x_iload_n dX11_doPlane_19 rfl ?_
  refine x_iastN dX11_doPlane_20 rfl rfl (by omega) ?_
  refine x_aload_n dX11_doPlane_21 rfl ?_
  refine x_getR dX11_doPlane_22 fl_X11_51 rfl ?_
  refine x_ic _ ic_3 dX11_doPlane_25 ?_
  refine x_iload dX11_doPlane_26 rfl ?_
  refine x_iastN dX11_doPlane_28 rfl rfl (by omega) ?_
  refine x_ic _ ic_0 dX11_doPlane_29 ?_
  refine x_istore dX11_doPlane_30 rfl ?_
  refine x_ic _ ic_1 dX11_doPlane_32 ?_
  refine x_istore dX11_doPlane_33 rfl ?_
  refine x_ic _ ic_0 dX11_doPlane_35 ?_
  refine x_istore dX11_doPlane_36 rfl ?_
  simp only [sA_sA, sA_at]
  refine k_pl_1 (sA S 13 (upd (upd (upd (upd (S.2.1 13) 0 x0) 1 x1) 2 x2) 3 x3)) a.1 a2 hm.1 x0 x1 x2 x3 (q4 x0 x1 x2 x3) (fun j hj => (told_at (S.2.1 13) x0 x1 x2 x3 j hj)) _ (fun f y hf hy => ?_) 4 0 true false (by omega) ⟨fun _ j' e => by omega, fun _ => rfl⟩ ⟨fun z => (by cases z), fun z => by obtain ⟨j', e, _⟩ := z; omega⟩
  refine x_iload dX11_doPlane_122 rfl ?_
  refine x_if_eqB 132 dX11_doPlane_124 rfl (fun c => absurd (hf.mpr hx.1) (by rw [c]; decide)) (fun c => ?_)
  refine x_iload dX11_doPlane_127 rfl ?_
  refine x_if_neB 135 dX11_doPlane_129 rfl (fun e => ?_) (fun c => absurd (hy.mpr hx.2) (by rw [c]; decide))
  refine x_ic _ ic_0 dX11_doPlane_135 ?_
  refine x_istore dX11_doPlane_136 rfl ?_
  refine k_pl_2 (sA S 13 (upd (upd (upd (upd (S.2.1 13) 0 x0) 1 x1) 2 x2) 3 x3)) a hA hm x0 x1 x2 x3 _ _ (plR (q4 x0 x1 x2 x3)) (plR_bd hx) (fun j hj => (told_at (S.2.1 13) x0 x1 x2 x3 j hj).trans (plR_at hj)) _ (fun z => by obtain ⟨i, h1, h2⟩ := z; exact absurd h2 (hn i h1)) (fun hs => ?_) a.2.1 0 (by omega) (fun i' e => by omega)
  refine x_aload_n dX11_doPlane_168 rfl ?_
  refine x_getR dX11_doPlane_169 fl_X11_7 rfl ?_
  refine x_bi _ bi_37 dX11_doPlane_172 ?_
  refine x_ialdN dX11_doPlane_174 rfl rfl (by omega) (hm.2.1) ?_
  refine x_bi _ bi_9 dX11_doPlane_175 ?_
  refine x_icmp_neN 183 dX11_doPlane_177 rfl (by omega) (by omega) (fun c177 => ?_) (fun c177 => ?_)
  · refine x_aload_n dX11_doPlane_183 rfl ?_
    refine x_v0 (N := mX11_addsTold) dX11_doPlane_184 ml_X11_148 nv_X11_addsTold rfl rfl (k_addsTold (sA S 13 (upd (upd (upd (upd (S.2.1 13) 0 x0) 1 x1) 2 x2) 3 x3)) a a3 hm (plR (q4 x0 x1 x2 x3)) (fun j hj => (told_at (S.2.1 13) x0 x1 x2 x3 j hj).trans (plR_at hj))) ?_
    rintro _ S' ⟨rfl, ho, hr⟩
    rw [if_pos h9] at hr
    refine x_aload_n dX11_doPlane_187 rfl ?_
    refine x_getR dX11_doPlane_188 fl_X11_7 rfl ?_
    refine x_bi _ bi_37 dX11_doPlane_191 ?_
    refine x_ialdN dX11_doPlane_193 rfl rfl (by omega) (show _ = nI (a.2.1 + 1) from hr.2.1) ?_
    refine x_ic _ ic_1 dX11_doPlane_194 ?_
    refine x_isubN dX11_doPlane_195 (by omega) ?_
    refine x_iretI dX11_doPlane_196 rfl ?_
    exact ⟨rfl, ((On.rf S).sA _ (Or.inr rfl)).tr ho, hr⟩
  · exact absurd c177 (by omega)
