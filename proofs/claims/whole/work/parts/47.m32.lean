/-! THE REFERENCE: places -/
def dgt (p x j : Nat) : Int := ((x / p ^ j % p : Nat) : Int)
/-- the form of plane i at place x is no multiple, for all planes below i -/
def frB (v : Nat → Row) (d p x : Nat) : Nat → Bool
  | 0 => true
  | i + 1 => frB v d p x i && decide (¬ (p : Int) ∣ sm (fun j => v i j * dgt p x j) d)
def plL (v : Nat → Row) (N d p : Nat) : List Nat := (List.range (p ^ d)).filter (fun x => frB v d p x N)
theorem dgt_bd {p x j : Nat} (hp : 2 ≤ p ∧ p ≤ 7) : 0 ≤ dgt p x j ∧ dgt p x j ≤ 6 := by
  have := Nat.mod_lt (x / p ^ j) (show p > 0 by omega)
  unfold dgt
  omega
theorem dgm_bd {p x j : Nat} {y : Int} (hp : 2 ≤ p ∧ p ≤ 7) (hy : -3 ≤ y ∧ y ≤ 3) : -18 ≤ y * dgt p x j ∧ y * dgt p x j ≤ 18 := by
  have h := dgt_bd (x := x) (j := j) hp
  have := mul_bd hy (show -6 ≤ dgt p x j ∧ dgt p x j ≤ 6 by omega)
  omega
theorem tm_dvd {a : Int} {p : Nat} : a.tmod p = 0 ↔ (p : Int) ∣ a := (Int.dvd_iff_tmod_eq_zero).symm
theorem tdm (a b : Int) (hb : 1 ≤ b ∧ b ≤ 7) : -7 ≤ a.tmod b ∧ a.tmod b ≤ 7 := by
  have h1 := Int.tmod_lt_of_pos a (show 0 < b by omega)
  have h2 := Int.lt_tmod_of_pos a (show 0 < b by omega)
  omega
theorem div_step (x p j : Nat) : x / p ^ j / p = x / p ^ (j + 1) := by rw [Nat.div_div_eq_div_mul, Nat.pow_succ]
theorem pw_le {p j k : Nat} (hp : 2 ≤ p ∧ p ≤ 7) (h : j ≤ k) : p ^ j ≤ 7 ^ k := Nat.le_trans (Nat.pow_le_pow_left hp.2 j) (Nat.pow_le_pow_right (by omega) h)
theorem frB_f {v : Nat → Row} {d p x i : Nat} (h : frB v d p x i = false) : ∀ N, i ≤ N → frB v d p x N = false := by
  intro N hN
  obtain ⟨k, rfl⟩ := Nat.exists_eq_add_of_le hN
  induction k with
  | zero => exact h
  | succ k ih => rw [← Nat.add_assoc, frB, ih (by omega)]; rfl
set_option maxRecDepth 100000 in
set_option maxHeartbeats 4000000 in
theorem k_po_d (S : amS) (N d p : Nat) (v : Nat → Row) (hN : N ≤ 9) (hd : d ≤ 4) (hp : 2 ≤ p ∧ p ≤ 7) (hD : S.2.1 1 36 = nI d) (hM : S.2.1 1 37 = nI N) (hv : ∀ i j, i < N → j < 4 → S.2.1 1 (4 * i + j) = i32 (v i j)) (hb : ∀ i j, -3 ≤ v i j ∧ v i j ≤ 3) (x cn i : Nat) (hx : x < 2401) (hi : i < N) (f : Int32) (Q : Option Value → amS → Prop) (hq : ∀ y, X shM mX11_placesOver 115 [.ref 0, .int (nI p), .int (nI (p ^ d)), .int (nI cn), .int (nI x), .int f, .int (nI i), .int y, .int (i32 (sm (fun j => v i j * dgt p x j) d)), .int (nI d)] [] S Q) : ∀ (e j : Nat), j + e = d → X shM mX11_placesOver 69 [.ref 0, .int (nI p), .int (nI (p ^ d)), .int (nI cn), .int (nI x), .int f, .int (nI i), .int (nI (x / p ^ j)), .int (i32 (sm (fun j => v i j * dgt p x j) j)), .int (nI j)] [] S Q := by
  intro e
  induction e with
  | zero =>
    intro j h1
    obtain rfl : j = d := by omega
    refine x_iload dX11_placesOver_69 rfl ?_
    refine x_aload_n dX11_placesOver_71 rfl ?_
    refine x_getR dX11_placesOver_72 fl_X11_7 rfl ?_
    refine x_bi _ bi_36 dX11_placesOver_75 ?_
    refine x_ialdN dX11_placesOver_77 rfl rfl (by omega) (hD) ?_
    refine x_icmp_geN 115 dX11_placesOver_78 rfl (by omega) (by omega) (fun c78 => ?_) (fun c78 => ?_)
    · exact hq _
    · exact absurd c78 (by omega)
  | succ e ih =>
    intro j h1
    have hq1 := Nat.div_le_self x (p ^ j)
    refine x_iload dX11_placesOver_69 rfl ?_
    refine x_aload_n dX11_placesOver_71 rfl ?_
    refine x_getR dX11_placesOver_72 fl_X11_7 rfl ?_
    refine x_bi _ bi_36 dX11_placesOver_75 ?_
    refine x_ialdN dX11_placesOver_77 rfl rfl (by omega) (hD) ?_
    refine x_icmp_geN 115 dX11_placesOver_78 rfl (by omega) (by omega) (fun c78 => ?_) (fun c78 => ?_)
    · exact absurd c78 (by omega)
    · refine x_iload dX11_placesOver_81 rfl ?_
      refine x_aload_n dX11_placesOver_83 rfl ?_
      refine x_getR dX11_placesOver_84 fl_X11_7 rfl ?_
      refine x_ic _ ic_4 dX11_placesOver_87 ?_
      refine x_iload dX11_placesOver_88 rfl ?_
      refine x_imulN dX11_placesOver_90 ?_
      refine x_iload dX11_placesOver_91 rfl ?_
      refine x_iaddN dX11_placesOver_93 ?_
      refine x_ialdN dX11_placesOver_94 rfl rfl (by omega) (hv i j hi (by omega)) ?_
      refine x_iload dX11_placesOver_95 rfl ?_
      refine x_iload_n dX11_placesOver_97 rfl ?_
      refine x_iremN dX11_placesOver_98 (by omega) (by omega) (by omega) ?_
      refine x_imulIN dX11_placesOver_99 ?_
      refine x_iaddI dX11_placesOver_100 ?_
      refine x_istore dX11_placesOver_101 rfl ?_
      refine x_iload dX11_placesOver_103 rfl ?_
      refine x_iload_n dX11_placesOver_105 rfl ?_
      refine x_idivN dX11_placesOver_106 (by omega) (by omega) (by omega) ?_
      refine x_istore dX11_placesOver_107 rfl ?_
      refine x_iincN dX11_placesOver_109 rfl rfl ?_
      refine x_goto 69 dX11_placesOver_112 rfl ?_
      rw [div_step]
      exact ih (j + 1) (by omega)
set_option maxRecDepth 100000 in
set_option maxHeartbeats 4000000 in
theorem k_po_c (S : amS) (N d p : Nat) (v : Nat → Row) (hN : N ≤ 9) (hd : d ≤ 4) (hp : 2 ≤ p ∧ p ≤ 7) (hD : S.2.1 1 36 = nI d) (hM : S.2.1 1 37 = nI N) (hv : ∀ i j, i < N → j < 4 → S.2.1 1 (4 * i + j) = i32 (v i j)) (hb : ∀ i j, -3 ≤ v i j ∧ v i j ≤ 3) (x cn : Nat) (hx : x < 2401) (Q : Option Value → amS → Prop) (hq : ∀ z6 z7 z8 z9, X shM mX11_placesOver 135 [.ref 0, .int (nI p), .int (nI (p ^ d)), .int (nI cn), .int (nI x), .int (zB (frB v d p x N)), z6, z7, z8, z9] [] S Q) : ∀ (e i : Nat) (z7 z8 z9 : Value), i + e = N → X shM mX11_placesOver 42 [.ref 0, .int (nI p), .int (nI (p ^ d)), .int (nI cn), .int (nI x), .int (zB (frB v d p x i)), .int (nI i), z7, z8, z9] [] S Q := by
  intro e
  induction e with
  | zero =>
    intro i z7 z8 z9 h1
    obtain rfl : i = N := by omega
    refine x_iload dX11_placesOver_42 rfl ?_
    refine x_aload_n dX11_placesOver_44 rfl ?_
    refine x_getR dX11_placesOver_45 fl_X11_7 rfl ?_
    refine x_bi _ bi_37 dX11_placesOver_48 ?_
    refine x_ialdN dX11_placesOver_50 rfl rfl (by omega) (hM) ?_
    refine x_icmp_geN 135 dX11_placesOver_51 rfl (by omega) (by omega) (fun c51 => ?_) (fun c51 => ?_)
    · exact hq _ _ _ _
    · exact absurd c51 (by omega)
  | succ e ih =>
    intro i z7 z8 z9 h1
    have hi : i < N := by omega
    have hsb := sm_bd (fun j => v i j * dgt p x j) 18 d (fun j _ => dgm_bd hp (hb i j))
    refine x_iload dX11_placesOver_42 rfl ?_
    refine x_aload_n dX11_placesOver_44 rfl ?_
    refine x_getR dX11_placesOver_45 fl_X11_7 rfl ?_
    refine x_bi _ bi_37 dX11_placesOver_48 ?_
    refine x_ialdN dX11_placesOver_50 rfl rfl (by omega) (hM) ?_
    refine x_icmp_geN 135 dX11_placesOver_51 rfl (by omega) (by omega) (fun c51 => ?_) (fun c51 => ?_)
    · exact absurd c51 (by omega)
    · refine x_iload dX11_placesOver_54 rfl ?_
      refine x_if_eqB 135 dX11_placesOver_56 rfl (fun c56 => ?_) (fun c56 => ?_)
      · rw [c56]
        have := hq (.int (nI i)) z7 z8 z9
        rw [frB_f c56 N (by omega)] at this
        exact this
      · refine x_iload dX11_placesOver_59 rfl ?_
        refine x_istore dX11_placesOver_61 rfl ?_
        refine x_ic _ ic_0 dX11_placesOver_63 ?_
        refine x_istore dX11_placesOver_64 rfl ?_
        refine x_ic _ ic_0 dX11_placesOver_66 ?_
        refine x_istore dX11_placesOver_67 rfl ?_
        refine x_loc (show _ = [.ref 0, .int (nI p), .int (nI (p ^ d)), .int (nI cn), .int (nI x), .int (zB (frB v d p x i)), .int (nI i), .int (nI (x / p ^ 0)), .int (i32 (sm (fun j => v i j * dgt p x j) 0)), .int (nI 0)] from by rw [Nat.pow_zero, Nat.div_one]; rfl) ?_
        refine k_po_d S N d p v hN hd hp hD hM hv hb x cn i hx hi _ Q (fun y => ?_) d 0 (by omega)
        refine x_iload dX11_placesOver_115 rfl ?_
        refine x_iload_n dX11_placesOver_117 rfl ?_
        refine x_topI ?_
        refine x_iremI dX11_placesOver_118 (by omega) (by omega) (by omega) ?_
        have htm := tdm (sm (fun j => v i j * dgt p x j) d) (p : Int) (by omega)
        refine x_if_eqI 126 dX11_placesOver_119 rfl (by omega) (fun c119 => ?_) (fun c119 => ?_)
        · refine x_ic _ ic_0 dX11_placesOver_126 ?_
          refine x_istore dX11_placesOver_127 rfl ?_
          refine x_iincN dX11_placesOver_129 rfl rfl ?_
          refine x_goto 42 dX11_placesOver_132 rfl ?_
          have hfr : frB v d p x (i + 1) = false := by rw [frB, c56]; simp only [Bool.true_and]; rw [decide_eq_false_iff_not, Classical.not_not]; exact tm_dvd.mp c119
          have := ih (i + 1) (.int y) (.int (i32 (sm (fun j => v i j * dgt p x j) d))) (.int (nI d)) (by omega)
          rw [hfr] at this
          exact this
        · refine x_ic _ ic_1 dX11_placesOver_122 ?_
          refine x_goto 127 dX11_placesOver_123 rfl ?_
          refine x_istore dX11_placesOver_127 rfl ?_
          refine x_iincN dX11_placesOver_129 rfl rfl ?_
          refine x_goto 42 dX11_placesOver_132 rfl ?_
          have hfr : frB v d p x (i + 1) = true := by rw [frB, c56]; simp only [Bool.true_and]; rw [decide_eq_true_eq]; exact fun z => c119 (tm_dvd.mpr z)
          have := ih (i + 1) (.int y) (.int (i32 (sm (fun j => v i j * dgt p x j) d))) (.int (nI d)) (by omega)
          rw [hfr] at this
          exact this
set_option maxRecDepth 100000 in
set_option maxHeartbeats 4000000 in
theorem k_po_b (S : amS) (N d p : Nat) (v : Nat → Row) (hN : N ≤ 9) (hd : d ≤ 4) (hp : 2 ≤ p ∧ p ≤ 7) (hD : S.2.1 1 36 = nI d) (hM : S.2.1 1 37 = nI N) (hv : ∀ i j, i < N → j < 4 → S.2.1 1 (4 * i + j) = i32 (v i j)) (hb : ∀ i j, -3 ≤ v i j ∧ v i j ≤ 3) : ∀ (e x : Nat) (z5 z6 z7 z8 z9 : Value), x + e = p ^ d → X shM mX11_placesOver 30 [.ref 0, .int (nI p), .int (nI (p ^ d)), .int (nI ((List.range x).filter (fun x => frB v d p x N)).length), .int (nI x), z5, z6, z7, z8, z9] [] S (fun q S' => q = some (.int (nI (plL v N d p).length)) ∧ S' = S) := by
  have hpd : p ^ d ≤ 2401 := pw_le hp hd
  intro e
  induction e with
  | zero =>
    intro x z5 z6 z7 z8 z9 h1
    obtain rfl : x = p ^ d := by omega
    refine x_iload dX11_placesOver_30 rfl ?_
    refine x_iload_n dX11_placesOver_32 rfl ?_
    refine x_icmp_geN 154 dX11_placesOver_33 rfl (by omega) (by omega) (fun c33 => ?_) (fun c33 => ?_)
    · refine x_iload_n dX11_placesOver_154 rfl ?_
      refine x_iretI dX11_placesOver_155 rfl ?_
      exact ⟨rfl, rfl⟩
    · exact absurd c33 (by omega)
  | succ e ih =>
    intro x z5 z6 z7 z8 z9 h1
    have hfs := filter_succ (fun x => frB v d p x N) x
    refine x_iload dX11_placesOver_30 rfl ?_
    refine x_iload_n dX11_placesOver_32 rfl ?_
    refine x_icmp_geN 154 dX11_placesOver_33 rfl (by omega) (by omega) (fun c33 => ?_) (fun c33 => ?_)
    · exact absurd c33 (by omega)
    · refine x_ic _ ic_1 dX11_placesOver_36 ?_
      refine x_istore dX11_placesOver_37 rfl ?_
      refine x_ic _ ic_0 dX11_placesOver_39 ?_
      refine x_istore dX11_placesOver_40 rfl ?_
      refine k_po_c S N d p v hN hd hp hD hM hv hb x _ (by omega) _ (fun z6 z7 z8 z9 => ?_) N 0 _ _ _ (by omega)
      refine x_iload_n dX11_placesOver_135 rfl ?_
      refine x_iload dX11_placesOver_136 rfl ?_
      refine x_if_eqB 145 dX11_placesOver_138 rfl (fun c138 => ?_) (fun c138 => ?_)
      · rw [c138, Bool.toNat_false] at hfs
        refine x_ic _ ic_0 dX11_placesOver_145 ?_
        refine x_iaddN dX11_placesOver_146 ?_
        rw [← hfs]
        refine x_istore_n dX11_placesOver_147 rfl ?_
        refine x_iincN dX11_placesOver_148 rfl rfl ?_
        refine x_goto 30 dX11_placesOver_151 rfl ?_
        exact ih (x + 1) _ _ _ _ _ (by omega)
      · rw [c138, Bool.toNat_true] at hfs
        refine x_ic _ ic_1 dX11_placesOver_141 ?_
        refine x_goto 146 dX11_placesOver_142 rfl ?_
        refine x_iaddN dX11_placesOver_146 ?_
        rw [← hfs]
        refine x_istore_n dX11_placesOver_147 rfl ?_
        refine x_iincN dX11_placesOver_148 rfl rfl ?_
        refine x_goto 30 dX11_placesOver_151 rfl ?_
        exact ih (x + 1) _ _ _ _ _ (by omega)
set_option maxRecDepth 100000 in
set_option maxHeartbeats 4000000 in
theorem k_po_a (S : amS) (N d p : Nat) (v : Nat → Row) (hN : N ≤ 9) (hd : d ≤ 4) (hp : 2 ≤ p ∧ p ≤ 7) (hD : S.2.1 1 36 = nI d) (hM : S.2.1 1 37 = nI N) (hv : ∀ i j, i < N → j < 4 → S.2.1 1 (4 * i + j) = i32 (v i j)) (hb : ∀ i j, -3 ≤ v i j ∧ v i j ≤ 3) : ∀ (e j : Nat), j + e = d → X shM mX11_placesOver 4 [.ref 0, .int (nI p), .int (nI (p ^ j)), .int (nI j), .null, .null, .null, .null, .null, .null] [] S (fun q S' => q = some (.int (nI (plL v N d p).length)) ∧ S' = S) := by
  intro e
  induction e with
  | zero =>
    intro j h1
    obtain rfl : j = d := by omega
    refine x_iload_n dX11_placesOver_4 rfl ?_
    refine x_aload_n dX11_placesOver_5 rfl ?_
    refine x_getR dX11_placesOver_6 fl_X11_7 rfl ?_
    refine x_bi _ bi_36 dX11_placesOver_9 ?_
    refine x_ialdN dX11_placesOver_11 rfl rfl (by omega) (hD) ?_
    refine x_icmp_geN 25 dX11_placesOver_12 rfl (by omega) (by omega) (fun c12 => ?_) (fun c12 => ?_)
    · refine x_ic _ ic_0 dX11_placesOver_25 ?_
      refine x_istore_n dX11_placesOver_26 rfl ?_
      refine x_ic _ ic_0 dX11_placesOver_27 ?_
      refine x_istore dX11_placesOver_28 rfl ?_
      exact k_po_b S N j p v hN hd hp hD hM hv hb (p ^ j) 0 _ _ _ _ _ (by omega)
    · exact absurd c12 (by omega)
  | succ e ih =>
    intro j h1
    refine x_iload_n dX11_placesOver_4 rfl ?_
    refine x_aload_n dX11_placesOver_5 rfl ?_
    refine x_getR dX11_placesOver_6 fl_X11_7 rfl ?_
    refine x_bi _ bi_36 dX11_placesOver_9 ?_
    refine x_ialdN dX11_placesOver_11 rfl rfl (by omega) (hD) ?_
    refine x_icmp_geN 25 dX11_placesOver_12 rfl (by omega) (by omega) (fun c12 => ?_) (fun c12 => ?_)
    · exact absurd c12 (by omega)
    · refine x_iload_n dX11_placesOver_15 rfl ?_
      refine x_iload_n dX11_placesOver_16 rfl ?_
      refine x_imulN dX11_placesOver_17 ?_
      refine x_istore_n dX11_placesOver_18 rfl ?_
      refine x_iincN dX11_placesOver_19 rfl rfl ?_
      refine x_goto 4 dX11_placesOver_22 rfl ?_
      rw [← Nat.pow_succ]
      exact ih (j + 1) (by omega)
set_option maxRecDepth 100000 in
set_option maxHeartbeats 4000000 in
theorem k_placesOver (S : amS) (N d p : Nat) (v : Nat → Row) (hN : N ≤ 9) (hd : d ≤ 4) (hp : 2 ≤ p ∧ p ≤ 7) (hD : S.2.1 1 36 = nI d) (hM : S.2.1 1 37 = nI N) (hv : ∀ i j, i < N → j < 4 → S.2.1 1 (4 * i + j) = i32 (v i j)) (hb : ∀ i j, -3 ≤ v i j ∧ v i j ≤ 3) : X shM mX11_placesOver 0 [.ref 0, .int (nI p), .null, .null, .null, .null, .null, .null, .null, .null] [] S (fun q S' => q = some (.int (nI (plL v N d p).length)) ∧ S' = S) := by
  refine x_ic _ ic_1 dX11_placesOver_0 ?_
  refine x_istore_n dX11_placesOver_1 rfl ?_
  refine x_ic _ ic_0 dX11_placesOver_2 ?_
  refine x_istore_n dX11_placesOver_3 rfl ?_
  have := k_po_a S N d p v hN hd hp hD hM hv hb d 0 (by omega)
  exact this
