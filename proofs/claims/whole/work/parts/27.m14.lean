/-! THE REFERENCE: lay -/
def cn9 (j : Nat) : Nat := ((List.range 512).filter (fun s => pc9 s == j)).length
theorem cn9_sum : cn9 1 + cn9 2 + cn9 3 + cn9 4 + cn9 5 ≤ 381 := by decide +kernel
theorem filter_le {p q : Nat → Bool} (h : ∀ s, p s = true → q s = true) (l : List Nat) : (l.filter p).length ≤ (l.filter q).length := by
  induction l with
  | nil => exact Nat.le_refl _
  | cons a l ih =>
    simp only [List.filter_cons]
    by_cases ha : p a = true
    · rw [if_pos ha, if_pos (h a ha)]
      simp only [List.length_cons]
      omega
    · rw [if_neg ha]
      split
      · simp only [List.length_cons]; omega
      · exact ih
theorem range_le (q : Nat → Bool) {t u : Nat} (h : t ≤ u) : ((List.range t).filter q).length ≤ ((List.range u).filter q).length := by
  obtain ⟨k, rfl⟩ := Nat.exists_eq_add_of_le h
  rw [List.range_add, List.filter_append, List.length_append]
  omega
noncomputable def pfB (v : Nat → Row) (N size t : Nat) : List Nat := (List.range t).filter (fun s => pc9 s == size && rgB (rkV v) s N)
theorem pfB_le (v : Nat → Row) (N size : Nat) {t : Nat} (h : t ≤ 512) : (pfB v N size t).length ≤ cn9 size :=
  Nat.le_trans (filter_le (q := fun s => pc9 s == size) (fun s hs => by simp only [Bool.and_eq_true] at hs; exact hs.1) _) (range_le _ h)
theorem ringsB_le (v : Nat → Row) {N : Nat} (hN : N ≤ 9) : ∀ k t, k < 5 → t ≤ 2 ^ N → (ringsB v N k ++ pfB v N (k + 1) t).length ≤ 381 := by
  intro k t hk ht
  have h512 := pow9 hN
  have hs := cn9_sum
  have hr : ∀ j, (rnB v N j).length ≤ cn9 j := fun j => pfB_le v N j (t := 2 ^ N) h512
  have h1 := hr 1
  have h2 := hr 2
  have h3 := hr 3
  have h4 := hr 4
  have hp := pfB_le v N (k + 1) (t := t) (by omega)
  rcases (show k = 0 ∨ k = 1 ∨ k = 2 ∨ k = 3 ∨ k = 4 by omega) with rfl | rfl | rfl | rfl | rfl <;> simp [ringsB] at hp ⊢ <;> omega
theorem pfB_succ (v : Nat → Row) (N size t : Nat) : pfB v N size (t + 1) = if (pc9 t == size && rgB (rkV v) t N) = true then pfB v N size t ++ [t] else pfB v N size t := by
  unfold pfB
  rw [List.range_succ, List.filter_append]
  simp only [List.filter_cons, List.filter_nil]
  split
  · rfl
  · simp
def rgOK (S : amS) (v : Nat → Row) (L : List Nat) : Prop := S.1 0 12 = nI L.length ∧ ∀ (k c : Nat), L[k]? = some c → S.2.1 8 k = nI c ∧ S.2.1 9 k = nI (abB v c 9)
theorem mNow_fr {S0 S : amS} (h : Fr S0 S) {d N : Nat} {v : Nat → Row} (hm : mNow S0 d N v) : mNow S d N v := by
  have e := h.2.1 1 (by omega) (by omega) (by omega) (by omega)
  unfold mNow
  rw [e]
  exact hm
set_option maxRecDepth 100000 in
set_option maxHeartbeats 4000000 in
theorem k_lay_1 (S0 : amS) (d N : Nat) (v : Nat → Row) (hA : Arr d N v) (hm : mNow S0 d N v) (Q : Option Value → amS → Prop) (hq : ∀ S, Fr S0 S → S.1 0 9 = nI 1 → (∀ t, t < 2 ^ N → S.2.1 6 t = nI (rkV v t)) → X shM mX11_lay 40 [.ref 0, .int (nI (2 ^ N)), .null] [] S Q) : ∀ (k s : Nat) (S : amS), s + k = 2 ^ N → Fr S0 S → S.1 0 9 = nI 1 → (∀ t, t < s → S.2.1 6 t = nI (rkV v t)) → X shM mX11_lay 15 [.ref 0, .int (nI s), .null] [] S Q := by
  obtain ⟨a1, a2, a3, a4, a5, a6, a7⟩ := hA
  have h512 := pow9 a3
  have hpos := Nat.two_pow_pos N
  intro k
  induction k with
  | zero =>
    intro s S h1 h2 h3 h4
    obtain rfl : s = 2 ^ N := by omega
    have hmS := mNow_fr h2 hm
    refine x_iload_n dX11_lay_15 rfl ?_
    refine x_aload_n dX11_lay_16 rfl ?_
    refine x_v0d (N := mX11_all) dX11_lay_17 ml_X11_109 nv_X11_all rfl rfl (k_all S N a3 hmS.2.1) ?_
    refine x_icmp_gtN 40 dX11_lay_20 rfl (by omega) (by omega) (fun c20 => ?_) (fun c20 => ?_)
    · exact hq S h2 h3 h4
    · exact absurd c20 (by omega)
  | succ k ih =>
    intro s S h1 h2 h3 h4
    have hmS := mNow_fr h2 hm
    have hs : s < 2 ^ N := by omega
    refine x_iload_n dX11_lay_15 rfl ?_
    refine x_aload_n dX11_lay_16 rfl ?_
    refine x_v0d (N := mX11_all) dX11_lay_17 ml_X11_109 nv_X11_all rfl rfl (k_all S N a3 hmS.2.1) ?_
    refine x_icmp_gtN 40 dX11_lay_20 rfl (by omega) (by omega) (fun c20 => ?_) (fun c20 => ?_)
    · exact absurd c20 (by omega)
    · refine x_aload_n dX11_lay_23 rfl ?_
      refine x_getR dX11_lay_24 fl_X11_29 rfl ?_
      refine x_iload_n dX11_lay_27 rfl ?_
      refine x_aload_n dX11_lay_28 rfl ?_
      refine x_iload_n dX11_lay_29 rfl ?_
      refine x_v1 (N := mX11_rankBy) dX11_lay_30 ml_X11_117 nv_X11_rankBy rfl rfl (k_rankBy S N s v a3 (by omega) hmS.2.1 hmS.2.2 (fun i j _ => a4 i j)) ?_
      rintro _ _ ⟨rfl, f', rfl⟩
      rw [rkB_V a3 hs]
      refine x_iastN dX11_lay_33 rfl rfl (by omega) ?_
      refine x_iincN dX11_lay_34 rfl rfl ?_
      refine x_goto 15 dX11_lay_37 rfl ?_
      refine ih (s + 1) _ (by omega) (Fr_sA (Fr_sL h2 7 _) _ (Or.inl rfl)) h3 (fun t ht => ?_)
      rw [sA_at]
      by_cases e : t = s
      · subst e; rw [upd_s]
      · rw [upd_n _ _ e]; exact h4 t (by omega)
set_option maxRecDepth 100000 in
set_option maxHeartbeats 4000000 in
theorem k_lay_3 (S0 : amS) (d N : Nat) (v : Nat → Row) (hA : Arr d N v) (hm : mNow S0 d N v) (n : Nat) (hn : n < 5) (Q : Option Value → amS → Prop) (hq : ∀ S, Fr S0 S → S.1 0 9 = nI 1 → (∀ t, t < 2 ^ N → S.2.1 6 t = nI (rkV v t)) → rgOK S v (ringsB v N (n + 1)) → X shM mX11_lay 119 [.ref 0, .int (nI (n + 1)), .int (nI (2 ^ N))] [] S Q) : ∀ (k s : Nat) (S : amS), s + k = 2 ^ N → Fr S0 S → S.1 0 9 = nI 1 → (∀ t, t < 2 ^ N → S.2.1 6 t = nI (rkV v t)) → rgOK S v (ringsB v N n ++ pfB v N (n + 1) s) → X shM mX11_lay 55 [.ref 0, .int (nI (n + 1)), .int (nI s)] [] S Q := by
  obtain ⟨a1, a2, a3, a4, a5, a6, a7⟩ := hA
  have h512 := pow9 a3
  have hpos := Nat.two_pow_pos N
  intro k
  induction k with
  | zero =>
    intro s S h1 h2 h3 h4 h5
    obtain rfl : s = 2 ^ N := by omega
    have hmS := mNow_fr h2 hm
    refine x_iload_n dX11_lay_55 rfl ?_
    refine x_aload_n dX11_lay_56 rfl ?_
    refine x_v0d (N := mX11_all) dX11_lay_57 ml_X11_109 nv_X11_all rfl rfl (k_all S N a3 hmS.2.1) ?_
    refine x_icmp_gtN 119 dX11_lay_60 rfl (by omega) (by omega) (fun c60 => ?_) (fun c60 => ?_)
    · exact hq S h2 h3 h4 h5
    · exact absurd c60 (by omega)
  | succ k ih =>
    intro s S h1 h2 h3 h4 h5
    have hmS := mNow_fr h2 hm
    have hs : s < 2 ^ N := by omega
    have hp9 := pc9_le s (by omega)
    have hr9 : ∀ t, t < 2 ^ N → rkV v t ≤ 9 := fun t ht => Nat.le_trans (rkV_le (by omega)) (pc9_le t (by omega))
    have hlen := ringsB_le v a3 n s hn (by omega)
    have hnext : ∀ S', Fr S0 S' → S'.1 0 9 = nI 1 → (∀ t, t < 2 ^ N → S'.2.1 6 t = nI (rkV v t)) → rgOK S' v (ringsB v N n ++ pfB v N (n + 1) (s + 1)) → X shM mX11_lay 113 [.ref 0, .int (nI (n + 1)), .int (nI s)] [] S' Q := by
      intro S' i1 i2 i3 i4
      refine x_iincN dX11_lay_113 rfl rfl ?_
      refine x_goto 55 dX11_lay_116 rfl ?_
      exact ih (s + 1) S' (by omega) i1 i2 i3 i4
    have hskip : (pc9 s == n + 1 && rgB (rkV v) s N) = false → X shM mX11_lay 113 [.ref 0, .int (nI (n + 1)), .int (nI s)] [] S Q := fun e => hnext S h2 h3 h4 (by rw [pfB_succ, if_neg (by rw [e]; decide)]; exact h5)
    refine x_iload_n dX11_lay_55 rfl ?_
    refine x_aload_n dX11_lay_56 rfl ?_
    refine x_v0d (N := mX11_all) dX11_lay_57 ml_X11_109 nv_X11_all rfl rfl (k_all S N a3 hmS.2.1) ?_
    refine x_icmp_gtN 119 dX11_lay_60 rfl (by omega) (by omega) (fun c60 => ?_) (fun c60 => ?_)
    · exact absurd c60 (by omega)
    · refine x_iload_n dX11_lay_63 rfl ?_
      refine x_s1d (N := mX11_bits) dX11_lay_64 ml_X11_123 ns_X11_bits rfl (k_bits S s (by omega)) ?_
      refine x_iload_n dX11_lay_67 rfl ?_
      refine x_icmp_neN 113 dX11_lay_68 rfl (by omega) (by omega) (fun c68 => ?_) (fun c68 => ?_)
      · exact hskip (by simp [c68])
      · refine x_aload_n dX11_lay_71 rfl ?_
        refine x_iload_n dX11_lay_72 rfl ?_
        refine x_v1d (N := mX11_isRing) dX11_lay_73 ml_X11_126 nv_X11_isRing rfl rfl (k_isRing S N (rkV v) a3 hmS.2.1 h4 hr9 s hs) ?_
        refine x_if_eqB 113 dX11_lay_76 rfl (fun c76 => ?_) (fun c76 => ?_)
        · exact hskip (by simp [c76])
        · have hC := (ring_circ a3 hs).mp c76
          have e9 : pcb s 9 = pc9 s := pcb_pc9 9 (by omega) s (by omega)
          have h35 : 3 ≤ pcb s 9 ∧ pcb s 9 ≤ 5 := by
            refine ⟨?_, by omega⟩
            by_cases q : pc9 s ≤ 2
            · have z1 := a7 s hs q
              have z2 := ((rgB_iff N).mp c76).1
              omega
            · omega
          have hif : (pc9 s == n + 1 && rgB (rkV v) s N) = true := by simp [c68, c76]
          refine x_aload_n dX11_lay_79 rfl ?_
          refine x_getR dX11_lay_80 fl_X11_36 rfl ?_
          refine x_aload_n dX11_lay_83 rfl ?_
          refine x_getIV dX11_lay_84 fl_X11_120 rfl (h5.1) ?_
          refine x_iload_n dX11_lay_87 rfl ?_
          refine x_iastN dX11_lay_88 rfl rfl (by omega) ?_
          refine x_aload_n dX11_lay_89 rfl ?_
          refine x_getR dX11_lay_90 fl_X11_39 rfl ?_
          refine x_aload_n dX11_lay_93 rfl ?_
          refine x_getIV dX11_lay_94 fl_X11_120 rfl (h5.1) ?_
          refine x_aload_n dX11_lay_97 rfl ?_
          refine x_iload_n dX11_lay_98 rfl ?_
          refine x_v1 (N := mX11_aboveOf) dX11_lay_99 ml_X11_130 nv_X11_aboveOf rfl rfl (k_aboveOf (sA S 8 (upd (S.2.1 8) (ringsB v N n ++ pfB v N (n + 1) s).length (nI s))) s v (by omega) hC h35 (fun i j hi _ hj => hmS.2.2 i j (by by_cases q : i < N; exact q; rw [tb_hi hs (by omega)] at hi; cases hi) hj) (fun i j _ => a4 i j)) ?_
          rintro _ _ ⟨rfl, f, g, m, h, f', rfl⟩
          refine x_iastN dX11_lay_102 rfl rfl (by omega) ?_
          refine x_aload_n dX11_lay_103 rfl ?_
          refine x_dup dX11_lay_104 rfl ?_
          refine x_getIV dX11_lay_105 fl_X11_120 rfl (h5.1) ?_
          refine x_ic _ ic_1 dX11_lay_108 ?_
          refine x_iaddN dX11_lay_109 ?_
          refine x_put dX11_lay_110 fp_X11_120 rfl rfl rfl ?_
          refine hnext _ (Fr_sF (Fr_sA (Fr_sL (Fr_sL (Fr_ff (Fr_sA h2 _ (Or.inr (Or.inl rfl))) f g m) 12 h) 10 f') _ (Or.inr (Or.inr (Or.inl rfl)))) _ (Or.inr (Or.inl rfl))) h3 h4 ?_
          rw [pfB_succ, if_pos hif, ← List.append_assoc]
          refine ⟨by rw [show (ringsB v N n ++ pfB v N (n + 1) s ++ [s]).length = (ringsB v N n ++ pfB v N (n + 1) s).length + 1 from List.length_append]; rfl, fun k c hk => ?_⟩
          by_cases q : k < (ringsB v N n ++ pfB v N (n + 1) s).length
          · rw [List.getElem?_append_left q] at hk
            obtain ⟨z1, z2⟩ := h5.2 k c hk
            constructor
            · show upd (S.2.1 8) _ (nI s) k = _; rw [upd_n _ _ (by omega)]; exact z1
            · show upd (S.2.1 9) _ (nI (abB v s 9)) k = _; rw [upd_n _ _ (by omega)]; exact z2
          · rw [List.getElem?_append_right (by omega)] at hk
            have q2 : k = (ringsB v N n ++ pfB v N (n + 1) s).length := by
              have := (List.getElem?_eq_some_iff.mp hk).1
              simp only [List.length_cons, List.length_nil] at this
              omega
            subst q2
            rw [Nat.sub_self] at hk
            cases hk
            constructor
            · show upd (S.2.1 8) _ (nI s) _ = _; rw [upd_s]
            · show upd (S.2.1 9) _ (nI (abB v s 9)) _ = _; rw [upd_s]
set_option maxRecDepth 100000 in
set_option maxHeartbeats 4000000 in
theorem k_lay_2 (S0 : amS) (d N : Nat) (v : Nat → Row) (hA : Arr d N v) (hm : mNow S0 d N v) (Q : Option Value → amS → Prop) (hq : ∀ S, Fr S0 S → S.1 0 9 = nI 1 → (∀ t, t < 2 ^ N → S.2.1 6 t = nI (rkV v t)) → rgOK S v (ringsB v N 5) → Q none S) : ∀ (k n : Nat) (S : amS) (z : Value), n + k = 5 → Fr S0 S → S.1 0 9 = nI 1 → (∀ t, t < 2 ^ N → S.2.1 6 t = nI (rkV v t)) → rgOK S v (ringsB v N n) → X shM mX11_lay 47 [.ref 0, .int (nI (n + 1)), z] [] S Q := by
  intro k
  induction k with
  | zero =>
    intro n S z h1 h2 h3 h4 h5
    obtain rfl : n = 5 := by omega
    refine x_iload_n dX11_lay_47 rfl ?_
    refine x_bi _ bi_6 dX11_lay_48 ?_
    refine x_icmp_geN 125 dX11_lay_50 rfl (by omega) (by omega) (fun c50 => ?_) (fun c50 => ?_)
    · refine x_ret dX11_lay_125 rfl ?_
      exact hq S h2 h3 h4 h5
    · exact absurd c50 (by omega)
  | succ k ih =>
    intro n S z h1 h2 h3 h4 h5
    refine x_iload_n dX11_lay_47 rfl ?_
    refine x_bi _ bi_6 dX11_lay_48 ?_
    refine x_icmp_geN 125 dX11_lay_50 rfl (by omega) (by omega) (fun c50 => ?_) (fun c50 => ?_)
    · exact absurd c50 (by omega)
    · refine x_ic _ ic_0 dX11_lay_53 ?_
      refine x_istore_n dX11_lay_54 rfl ?_
      refine k_lay_3 S0 d N v hA hm n (by omega) Q ?_ (2 ^ N) 0 S (by omega) h2 h3 h4 (by simpa [pfB] using h5)
      intro S' i1 i2 i3 i4
      refine x_iincN dX11_lay_119 rfl rfl ?_
      refine x_goto 47 dX11_lay_122 rfl ?_
      exact ih (n + 1) S' _ (by omega) i1 i2 i3 i4
set_option maxRecDepth 100000 in
set_option maxHeartbeats 4000000 in
theorem k_lay (S0 : amS) (d N : Nat) (v : Nat → Row) (hA : Arr d N v) (hm : mNow S0 d N v) (hc : S0.1 0 9 = nI 0 ∨ (S0.1 0 9 = nI 1 ∧ laidM S0 N v)) : X shM mX11_lay 0 [.ref 0, .null, .null] [] S0 (fun r S' => r = none ∧ Fr S0 S' ∧ S'.1 0 9 = nI 1 ∧ laidM S' N v) := by
  refine x_aload_n dX11_lay_0 rfl ?_
  rcases hc with hc | ⟨hc, hl⟩
  · refine x_getIV dX11_lay_1 fl_X11_85 rfl hc ?_
    refine x_if_eqN 8 dX11_lay_4 rfl (by omega) (fun _ => ?_) (fun z => absurd rfl z)
    refine x_aload_n dX11_lay_8 rfl ?_
    refine x_ic _ ic_1 dX11_lay_9 ?_
    refine x_put dX11_lay_10 fp_X11_85 rfl (by decide) (by decide) ?_
    refine x_ic _ ic_0 dX11_lay_13 ?_
    refine x_istore_n dX11_lay_14 rfl ?_
    refine k_lay_1 S0 d N v hA hm _ ?_ (2 ^ N) 0 _ (by omega) (Fr_sF (Fr.rf S0) _ (Or.inl rfl)) rfl (fun t ht => absurd ht (Nat.not_lt_zero t))
    intro S i1 i2 i3
    refine x_aload_n dX11_lay_40 rfl ?_
    refine x_ic _ ic_0 dX11_lay_41 ?_
    refine x_put dX11_lay_42 fp_X11_120 rfl rfl rfl ?_
    refine x_ic _ ic_1 dX11_lay_45 ?_
    refine x_istore_n dX11_lay_46 rfl ?_
    refine k_lay_2 S0 d N v hA hm _ ?_ 5 0 _ .null (by omega) (Fr_sF i1 _ (Or.inr (Or.inl rfl))) i2 i3 ⟨rfl, fun k c hk => by simp [ringsB] at hk⟩
    intro S' j1 j2 j3 j4
    exact ⟨rfl, j1, j2, j3, j4⟩
  · refine x_getIV dX11_lay_1 fl_X11_85 rfl hc ?_
    refine x_if_eqN 8 dX11_lay_4 rfl (by omega) (fun z => absurd z (by omega)) (fun _ => ?_)
    refine x_ret dX11_lay_7 rfl ?_
    exact ⟨rfl, Fr.rf S0, hc, hl⟩
