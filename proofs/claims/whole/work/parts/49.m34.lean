/-! THE REFERENCE: chains -/
def goX (r : Nat → Nat) (N top : Nat) : Nat → Nat → Bool
  | 0, s => evB r N s (2 ^ N)
  | m + 1, s => (List.range (2 ^ N)).any (fun n => (s ^^^ (s &&& n) == 0) && (r n == top - m) && flB r N n && goX r N top m n) && evB r N s (2 ^ N)
def chP (r : Nat → Nat) (N top j t n : Nat) : Bool := (t ^^^ (t &&& n) == 0) && (r n == j + 1) && flB r N n && goX r N top (top - (j + 1)) n
def lkB (r : Nat → Nat) (N top : Nat) : Nat → Nat
  | 0 => 0
  | q + 1 => ((List.range (2 ^ N)).find? (chP r N top q (lkB r N top q))).getD 0
theorem goX_at {r : Nat → Nat} {N top j t : Nat} (hj : j ≤ top) : goX r N top (top - j) t = ((decide (j = top) || (List.range (2 ^ N)).any (chP r N top j t)) && evB r N t (2 ^ N)) := by
  by_cases q : j = top
  · subst q
    rw [Nat.sub_self, goX]
    simp
  · rw [show top - j = (top - (j + 1)) + 1 by omega, goX, decide_eq_false q, Bool.false_or]
    have e : top - (top - (j + 1)) = j + 1 := by omega
    rw [e]
    rfl
theorem any_succ (p : Nat → Bool) (n : Nat) : (List.range (n + 1)).any p = ((List.range n).any p || p n) := by
  rw [List.range_succ, List.any_append]
  simp
theorem any_le {p : Nat → Bool} {n m : Nat} (h : n ≤ m) (hn : (List.range n).any p = true) : (List.range m).any p = true := by
  rw [List.any_eq_true] at hn ⊢
  obtain ⟨x, h1, h2⟩ := hn
  rw [List.mem_range] at h1
  exact ⟨x, List.mem_range.mpr (by omega), h2⟩
theorem rkC_wid {q : Int} : ∀ (js : List Nat) (l : List Row), rkC q js l ≤ js.length := by
  intro js
  induction js with
  | nil => intro l; exact Nat.le_refl _
  | cons j js ih =>
    intro l
    cases e : pv q j l with
    | none => rw [rkC_n e]; have := ih l; simp only [List.length_cons]; omega
    | some x => rw [rkC_s e]; have := ih (l.map (el x j)); simp only [List.length_cons]; omega
theorem rkV_4 (v : Nat → Row) (s : Nat) : rkV v s ≤ 4 := rkC_wid (cf 4) _
set_option maxRecDepth 100000 in
set_option maxHeartbeats 4000000 in
theorem k_ch_3 (S : amS) (N : Nat) (r : Nat → Nat) (hN : N ≤ 9) (hM : S.2.1 1 37 = nI N) (hr : ∀ s, s < 2 ^ N → S.2.1 6 s = nI (r s)) (hr9 : ∀ s, s < 2 ^ N → r s ≤ 9) (top j t : Nat) (htop : top ≤ 4) (hj : j ≤ top) (ht : t < 2 ^ N) (g : Nat → Int32) (hg : ∀ n, n < 2 ^ N → r n = j + 1 → flB r N n = true → g n = zB (goX r N top (top - (j + 1)) n)) (Q : Option Value → amS → Prop) (hq : ∀ z5, X shM mX11_isChain 131 [.ref 0, .int (nI top), .int (nI j), .int (nI t), .int (zB (decide (j = top) || (List.range (2 ^ N)).any (chP r N top j t))), z5] [] (sA S 18 g) Q) : ∀ (e n : Nat), n + e = 2 ^ N → X shM mX11_isChain 63 [.ref 0, .int (nI top), .int (nI j), .int (nI t), .int (zB (decide (j = top) || (List.range n).any (chP r N top j t))), .int (nI n)] [] (sA S 18 g) Q := by
  have h512 := pow9 hN
  have hpos := Nat.two_pow_pos N
  intro e
  induction e with
  | zero =>
    intro n h1
    obtain rfl : n = 2 ^ N := by omega
    refine x_iload dX11_isChain_63 rfl ?_
    refine x_aload_n dX11_isChain_65 rfl ?_
    refine x_v0d (N := mX11_all) dX11_isChain_66 ml_X11_109 nv_X11_all rfl rfl (k_all (sA S 18 g) N hN hM) ?_
    refine x_icmp_gtN 131 dX11_isChain_69 rfl (by omega) (by omega) (fun c69 => ?_) (fun c69 => ?_)
    · exact hq _
    · exact absurd c69 (by omega)
  | succ e ih =>
    intro n h1
    have hn : n < 2 ^ N := by omega
    have h9 := hr9 n hn
    have hx := xor_and_le t n
    have hstep : ∀ b : Bool, (decide (j = top) || (List.range n).any (chP r N top j t)) = false → chP r N top j t n = b → X shM mX11_isChain 125 [.ref 0, .int (nI top), .int (nI j), .int (nI t), .int (zB b), .int (nI n)] [] (sA S 18 g) Q := by
      intro b hb1 hb2
      refine x_iinc (n := 5) (d := 1) (x := nI n) dX11_isChain_125 rfl rfl ?_
      refine x_goto 63 dX11_isChain_128 rfl ?_
      rw [show nI n + Int32.ofInt 1 = nI (n + 1) from nI_1 n]
      have := ih (n + 1) (by omega)
      rw [any_succ, ← Bool.or_assoc, hb1, hb2, Bool.false_or] at this
      exact this
    refine x_iload dX11_isChain_63 rfl ?_
    refine x_aload_n dX11_isChain_65 rfl ?_
    refine x_v0d (N := mX11_all) dX11_isChain_66 ml_X11_109 nv_X11_all rfl rfl (k_all (sA S 18 g) N hN hM) ?_
    refine x_icmp_gtN 131 dX11_isChain_69 rfl (by omega) (by omega) (fun c69 => ?_) (fun c69 => ?_)
    · exact absurd c69 (by omega)
    · refine x_iload dX11_isChain_72 rfl ?_
      refine x_if_neB 131 dX11_isChain_74 rfl (fun c74 => ?_) (fun c74 => ?_)
      · have := hq (.int (nI n))
        rw [Bool.or_eq_true] at c74
        have hb : (decide (j = top) || (List.range (2 ^ N)).any (chP r N top j t)) = true := by
          rw [Bool.or_eq_true]
          rcases c74 with c | c
          · exact Or.inl c
          · exact Or.inr (any_le (by omega) c)
        rw [hb] at this
        rw [show (decide (j = top) || (List.range n).any (chP r N top j t)) = true from Bool.or_eq_true _ _ ▸ c74]
        exact this
      · refine x_iload_n dX11_isChain_77 rfl ?_
        refine x_iload dX11_isChain_78 rfl ?_
        refine x_ic _ ic_m1 dX11_isChain_80 ?_
        refine x_ixor dX11_isChain_81 ?_
        refine x_iandNX dX11_isChain_82 ?_
        refine x_if_neN 122 dX11_isChain_83 rfl (by omega) (fun c83 => ?_) (fun c83 => ?_)
        · refine x_ic _ ic_0 dX11_isChain_122 ?_
          refine x_istore dX11_isChain_123 rfl ?_
          exact hstep false c74 (by simp [chP, c83])
        · refine x_aload_n dX11_isChain_86 rfl ?_
          refine x_getR dX11_isChain_87 fl_X11_29 rfl ?_
          refine x_iload dX11_isChain_90 rfl ?_
          refine x_ialdN dX11_isChain_92 rfl rfl (by omega) (hr n hn) ?_
          refine x_iload_n dX11_isChain_93 rfl ?_
          refine x_ic _ ic_1 dX11_isChain_94 ?_
          refine x_iaddN dX11_isChain_95 ?_
          refine x_icmp_neN 122 dX11_isChain_96 rfl (by omega) (by omega) (fun c96 => ?_) (fun c96 => ?_)
          · refine x_ic _ ic_0 dX11_isChain_122 ?_
            refine x_istore dX11_isChain_123 rfl ?_
            exact hstep false c74 (by simp [chP, c96])
          · refine x_aload_n dX11_isChain_99 rfl ?_
            refine x_iload dX11_isChain_100 rfl ?_
            refine x_v1d (N := mX11_isFlat) dX11_isChain_102 ml_X11_199 nv_X11_isFlat rfl rfl (k_isFlat (sA S 18 g) N r hN hM hr hr9 n hn) ?_
            refine x_if_eqB 122 dX11_isChain_105 rfl (fun c105 => ?_) (fun c105 => ?_)
            · refine x_ic _ ic_0 dX11_isChain_122 ?_
              refine x_istore dX11_isChain_123 rfl ?_
              exact hstep false c74 (by simp [chP, c105])
            · refine x_aload_n dX11_isChain_108 rfl ?_
              refine x_getR dX11_isChain_109 fl_X11_66 rfl ?_
              refine x_iload dX11_isChain_112 rfl ?_
              refine x_zaldN dX11_isChain_114 rfl rfl (by omega) (hg n hn c96 c105) ?_
              refine x_if_eqB 122 dX11_isChain_115 rfl (fun c115 => ?_) (fun c115 => ?_)
              · refine x_ic _ ic_0 dX11_isChain_122 ?_
                refine x_istore dX11_isChain_123 rfl ?_
                exact hstep false c74 (by simp [chP, c115])
              · refine x_ic _ ic_1 dX11_isChain_118 ?_
                refine x_goto 123 dX11_isChain_119 rfl ?_
                refine x_istore dX11_isChain_123 rfl ?_
                exact hstep true c74 (by simp [chP, c83, c96, c105, c115])
set_option maxRecDepth 100000 in
set_option maxHeartbeats 4000000 in
theorem k_ch_2 (S : amS) (N : Nat) (r : Nat → Nat) (hN : N ≤ 9) (hM : S.2.1 1 37 = nI N) (hr : ∀ s, s < 2 ^ N → S.2.1 6 s = nI (r s)) (hr9 : ∀ s, s < 2 ^ N → r s ≤ 9) (top j : Nat) (htop : top ≤ 4) (hj : j ≤ top) (Q : Option Value → amS → Prop) (hq : ∀ g z3 z4 z5, (∀ s, s < 2 ^ N → (j + 1 ≤ r s ∨ (r s = j ∧ s < 2 ^ N)) → flB r N s = true → g s = zB (goX r N top (top - r s) s)) → X shM mX11_isChain 161 [.ref 0, .int (nI top), .int (nI j), z3, z4, z5] [] (sA S 18 g) Q) : ∀ (e t : Nat) (g : Nat → Int32) (z4 z5 : Value), t + e = 2 ^ N → (∀ s, s < 2 ^ N → (j + 1 ≤ r s ∨ (r s = j ∧ s < t)) → flB r N s = true → g s = zB (goX r N top (top - r s) s)) → X shM mX11_isChain 22 [.ref 0, .int (nI top), .int (nI j), .int (nI t), z4, z5] [] (sA S 18 g) Q := by
  have h512 := pow9 hN
  have hpos := Nat.two_pow_pos N
  intro e
  induction e with
  | zero =>
    intro t g z4 z5 h1 h2
    obtain rfl : t = 2 ^ N := by omega
    refine x_iload_n dX11_isChain_22 rfl ?_
    refine x_aload_n dX11_isChain_23 rfl ?_
    refine x_v0d (N := mX11_all) dX11_isChain_24 ml_X11_109 nv_X11_all rfl rfl (k_all (sA S 18 g) N hN hM) ?_
    refine x_icmp_gtN 161 dX11_isChain_27 rfl (by omega) (by omega) (fun c27 => ?_) (fun c27 => ?_)
    · exact hq g _ _ _ h2
    · exact absurd c27 (by omega)
  | succ e ih =>
    intro t g z4 z5 h1 h2
    have ht : t < 2 ^ N := by omega
    have h9 := hr9 t ht
    refine x_iload_n dX11_isChain_22 rfl ?_
    refine x_aload_n dX11_isChain_23 rfl ?_
    refine x_v0d (N := mX11_all) dX11_isChain_24 ml_X11_109 nv_X11_all rfl rfl (k_all (sA S 18 g) N hN hM) ?_
    refine x_icmp_gtN 161 dX11_isChain_27 rfl (by omega) (by omega) (fun c27 => ?_) (fun c27 => ?_)
    · exact absurd c27 (by omega)
    · refine x_aload_n dX11_isChain_30 rfl ?_
      refine x_getR dX11_isChain_31 fl_X11_29 rfl ?_
      refine x_iload_n dX11_isChain_34 rfl ?_
      refine x_ialdN dX11_isChain_35 rfl rfl (by omega) (hr t ht) ?_
      refine x_iload_n dX11_isChain_36 rfl ?_
      refine x_icmp_neN 155 dX11_isChain_37 rfl (by omega) (by omega) (fun c37 => ?_) (fun c37 => ?_)
      · refine x_iincN dX11_isChain_155 rfl rfl ?_
        refine x_goto 22 dX11_isChain_158 rfl ?_
        refine ih (t + 1) g _ _ (by omega) (fun s hs ho hfl => h2 s hs ?_ hfl)
        rcases ho with ho | ho
        · exact Or.inl ho
        · refine Or.inr ⟨ho.1, ?_⟩
          by_cases q : s = t
          · subst q; exact absurd ho.1 c37
          · omega
      · refine x_aload_n dX11_isChain_40 rfl ?_
        refine x_iload_n dX11_isChain_41 rfl ?_
        refine x_v1d (N := mX11_isFlat) dX11_isChain_42 ml_X11_199 nv_X11_isFlat rfl rfl (k_isFlat (sA S 18 g) N r hN hM hr hr9 t ht) ?_
        refine x_if_eqB 155 dX11_isChain_45 rfl (fun c45 => ?_) (fun c45 => ?_)
        · refine x_iincN dX11_isChain_155 rfl rfl ?_
          refine x_goto 22 dX11_isChain_158 rfl ?_
          refine ih (t + 1) g _ _ (by omega) (fun s hs ho hfl => h2 s hs ?_ hfl)
          rcases ho with ho | ho
          · exact Or.inl ho
          · refine Or.inr ⟨ho.1, ?_⟩
            by_cases q : s = t
            · subst q; rw [c45] at hfl; cases hfl
            · omega
        · refine x_iload_n dX11_isChain_48 rfl ?_
          refine x_iload_n dX11_isChain_49 rfl ?_
          refine x_icmp_neN 57 dX11_isChain_50 rfl (by omega) (by omega) (fun c50 => ?_) (fun c50 => ?_)
          · refine x_ic _ ic_0 dX11_isChain_57 ?_
            refine x_istore dX11_isChain_58 rfl ?_
            refine x_ic _ ic_0 dX11_isChain_60 ?_
            refine x_istore dX11_isChain_61 rfl ?_
            have hgo := k_ch_3 S N r hN hM hr hr9 top j t htop hj ht g (fun n hn e1 e2 => by rw [h2 n hn (Or.inl (by omega)) e2, e1]) Q (fun z5 => ?_) (2 ^ N) 0 (by omega)
            · rw [show (decide (j = top) || (List.range 0).any (chP r N top j t)) = false from by simp [c50]] at hgo
              exact hgo
            · refine x_aload_n dX11_isChain_131 rfl ?_
              refine x_getR dX11_isChain_132 fl_X11_66 rfl ?_
              refine x_iload_n dX11_isChain_135 rfl ?_
              refine x_iload dX11_isChain_136 rfl ?_
              refine x_if_eqB 153 dX11_isChain_138 rfl (fun c138 => ?_) (fun c138 => ?_)
              · refine x_ic _ ic_0 dX11_isChain_153 ?_
                refine x_zastN dX11_isChain_154 rfl rfl (by omega) ((show vp_nar .boolean (nI 0) = nI 0 from by decide)) ?_
                refine x_iincN dX11_isChain_155 rfl rfl ?_
                refine x_goto 22 dX11_isChain_158 rfl ?_
                rw [sA_sA, sA_at]
                refine ih (t + 1) _ _ _ (by omega) (fun s hs ho hfl => ?_)
                by_cases q : s = t
                · subst q
                  rw [upd_s, c37, goX_at hj, c138, Bool.false_and]
                  rfl
                · rw [upd_n _ _ q]
                  refine h2 s hs ?_ hfl
                  rcases ho with ho | ho
                  · exact Or.inl ho
                  · exact Or.inr ⟨ho.1, by omega⟩
              · refine x_aload_n dX11_isChain_141 rfl ?_
                refine x_iload_n dX11_isChain_142 rfl ?_
                refine x_v1d (N := mX11_isEven) dX11_isChain_143 ml_X11_215 nv_X11_isEven rfl rfl (k_isEven (sA S 18 g) N r hN hM hr hr9 t ht) ?_
                refine x_if_eqB 153 dX11_isChain_146 rfl (fun c146 => ?_) (fun c146 => ?_)
                · refine x_ic _ ic_0 dX11_isChain_153 ?_
                  refine x_zastN dX11_isChain_154 rfl rfl (by omega) ((show vp_nar .boolean (nI 0) = nI 0 from by decide)) ?_
                  refine x_iincN dX11_isChain_155 rfl rfl ?_
                  refine x_goto 22 dX11_isChain_158 rfl ?_
                  rw [sA_sA, sA_at]
                  refine ih (t + 1) _ _ _ (by omega) (fun s hs ho hfl => ?_)
                  by_cases q : s = t
                  · subst q
                    rw [upd_s, c37, goX_at hj, c138, c146, Bool.true_and]
                    rfl
                  · rw [upd_n _ _ q]
                    refine h2 s hs ?_ hfl
                    rcases ho with ho | ho
                    · exact Or.inl ho
                    · exact Or.inr ⟨ho.1, by omega⟩
                · refine x_ic _ ic_1 dX11_isChain_149 ?_
                  refine x_goto 154 dX11_isChain_150 rfl ?_
                  refine x_zastN dX11_isChain_154 rfl rfl (by omega) ((show vp_nar .boolean (nI 1) = nI 1 from by decide)) ?_
                  refine x_iincN dX11_isChain_155 rfl rfl ?_
                  refine x_goto 22 dX11_isChain_158 rfl ?_
                  rw [sA_sA, sA_at]
                  refine ih (t + 1) _ _ _ (by omega) (fun s hs ho hfl => ?_)
                  by_cases q : s = t
                  · subst q
                    rw [upd_s, c37, goX_at hj, c138, c146, Bool.true_and]
                    rfl
                  · rw [upd_n _ _ q]
                    refine h2 s hs ?_ hfl
                    rcases ho with ho | ho
                    · exact Or.inl ho
                    · exact Or.inr ⟨ho.1, by omega⟩
          · refine x_ic _ ic_1 dX11_isChain_53 ?_
            refine x_goto 58 dX11_isChain_54 rfl ?_
            refine x_istore dX11_isChain_58 rfl ?_
            refine x_ic _ ic_0 dX11_isChain_60 ?_
            refine x_istore dX11_isChain_61 rfl ?_
            have hgo := k_ch_3 S N r hN hM hr hr9 top j t htop hj ht g (fun n hn e1 e2 => by rw [h2 n hn (Or.inl (by omega)) e2, e1]) Q (fun z5 => ?_) (2 ^ N) 0 (by omega)
            · rw [show (decide (j = top) || (List.range 0).any (chP r N top j t)) = true from by simp [c50]] at hgo
              exact hgo
            · refine x_aload_n dX11_isChain_131 rfl ?_
              refine x_getR dX11_isChain_132 fl_X11_66 rfl ?_
              refine x_iload_n dX11_isChain_135 rfl ?_
              refine x_iload dX11_isChain_136 rfl ?_
              refine x_if_eqB 153 dX11_isChain_138 rfl (fun c138 => ?_) (fun c138 => ?_)
              · refine x_ic _ ic_0 dX11_isChain_153 ?_
                refine x_zastN dX11_isChain_154 rfl rfl (by omega) ((show vp_nar .boolean (nI 0) = nI 0 from by decide)) ?_
                refine x_iincN dX11_isChain_155 rfl rfl ?_
                refine x_goto 22 dX11_isChain_158 rfl ?_
                rw [sA_sA, sA_at]
                refine ih (t + 1) _ _ _ (by omega) (fun s hs ho hfl => ?_)
                by_cases q : s = t
                · subst q
                  rw [upd_s, c37, goX_at hj, c138, Bool.false_and]
                  rfl
                · rw [upd_n _ _ q]
                  refine h2 s hs ?_ hfl
                  rcases ho with ho | ho
                  · exact Or.inl ho
                  · exact Or.inr ⟨ho.1, by omega⟩
              · refine x_aload_n dX11_isChain_141 rfl ?_
                refine x_iload_n dX11_isChain_142 rfl ?_
                refine x_v1d (N := mX11_isEven) dX11_isChain_143 ml_X11_215 nv_X11_isEven rfl rfl (k_isEven (sA S 18 g) N r hN hM hr hr9 t ht) ?_
                refine x_if_eqB 153 dX11_isChain_146 rfl (fun c146 => ?_) (fun c146 => ?_)
                · refine x_ic _ ic_0 dX11_isChain_153 ?_
                  refine x_zastN dX11_isChain_154 rfl rfl (by omega) ((show vp_nar .boolean (nI 0) = nI 0 from by decide)) ?_
                  refine x_iincN dX11_isChain_155 rfl rfl ?_
                  refine x_goto 22 dX11_isChain_158 rfl ?_
                  rw [sA_sA, sA_at]
                  refine ih (t + 1) _ _ _ (by omega) (fun s hs ho hfl => ?_)
                  by_cases q : s = t
                  · subst q
                    rw [upd_s, c37, goX_at hj, c138, c146, Bool.true_and]
                    rfl
                  · rw [upd_n _ _ q]
                    refine h2 s hs ?_ hfl
                    rcases ho with ho | ho
                    · exact Or.inl ho
                    · exact Or.inr ⟨ho.1, by omega⟩
                · refine x_ic _ ic_1 dX11_isChain_149 ?_
                  refine x_goto 154 dX11_isChain_150 rfl ?_
                  refine x_zastN dX11_isChain_154 rfl rfl (by omega) ((show vp_nar .boolean (nI 1) = nI 1 from by decide)) ?_
                  refine x_iincN dX11_isChain_155 rfl rfl ?_
                  refine x_goto 22 dX11_isChain_158 rfl ?_
                  rw [sA_sA, sA_at]
                  refine ih (t + 1) _ _ _ (by omega) (fun s hs ho hfl => ?_)
                  by_cases q : s = t
                  · subst q
                    rw [upd_s, c37, goX_at hj, c138, c146, Bool.true_and]
                    rfl
                  · rw [upd_n _ _ q]
                    refine h2 s hs ?_ hfl
                    rcases ho with ho | ho
                    · exact Or.inl ho
                    · exact Or.inr ⟨ho.1, by omega⟩
set_option maxRecDepth 100000 in
set_option maxHeartbeats 4000000 in
theorem k_ch_1 (S : amS) (N : Nat) (r : Nat → Nat) (hN : N ≤ 9) (hM : S.2.1 1 37 = nI N) (hr : ∀ s, s < 2 ^ N → S.2.1 6 s = nI (r s)) (hr9 : ∀ s, s < 2 ^ N → r s ≤ 9) (top : Nat) (htop : top ≤ 4) (Q : Option Value → amS → Prop) (hq : ∀ g z2 z3 z4 z5, (∀ s, s < 2 ^ N → 0 ≤ r s → flB r N s = true → g s = zB (goX r N top (top - r s) s)) → X shM mX11_isChain 167 [.ref 0, .int (nI top), z2, z3, z4, z5] [] (sA S 18 g) Q) : ∀ (j : Nat) (g : Nat → Int32) (z3 z4 z5 : Value), j ≤ top + 1 → (∀ s, s < 2 ^ N → j ≤ r s → flB r N s = true → g s = zB (goX r N top (top - r s) s)) → X shM mX11_isChain 16 [.ref 0, .int (nI top), .int (i32 ((j : Int) - 1)), z3, z4, z5] [] (sA S 18 g) Q := by
  intro j
  induction j with
  | zero =>
    intro g z3 z4 z5 h1 h2
    refine x_iload_n dX11_isChain_16 rfl ?_
    refine x_if_ltI 167 dX11_isChain_17 rfl (by omega) (fun c17 => ?_) (fun c17 => ?_)
    · exact hq g _ _ _ _ h2
    · exact absurd c17 (by omega)
  | succ j ih =>
    intro g z3 z4 z5 h1 h2
    rw [dn_0]
    refine x_iload_n dX11_isChain_16 rfl ?_
    refine x_topI ?_
    refine x_if_ltI 167 dX11_isChain_17 rfl (by omega) (fun c17 => ?_) (fun c17 => ?_)
    · exact absurd c17 (by omega)
    · refine x_ic _ ic_0 dX11_isChain_20 ?_
      refine x_istore_n dX11_isChain_21 rfl ?_
      refine k_ch_2 S N r hN hM hr hr9 top j htop (by omega) Q (fun g z3 z4 z5 h3 => ?_) (2 ^ N) 0 g _ _ (by omega) (fun s hs ho hfl => h2 s hs (by omega) hfl)
      refine x_iinc dX11_isChain_161 rfl rfl ?_
      refine x_goto 16 dX11_isChain_164 rfl ?_
      rw [dn_1]
      refine ih g _ _ _ (by omega) (fun s hs ho hfl => h3 s hs (by omega) hfl)
theorem find_at {p : Nat → Bool} {T t : Nat} (ht : t < T) (hp : p t = true) (hl : ∀ u, u < t → p u = false) : (List.range T).find? p = some t := by
  rw [List.find?_range_eq_some]
  exact ⟨hp, List.mem_range.mpr ht, fun u hu => by simp [hl u hu]⟩
set_option maxRecDepth 100000 in
set_option maxHeartbeats 4000000 in
theorem k_ch_5 (S : amS) (N : Nat) (r : Nat → Nat) (hN : N ≤ 9) (hM : S.2.1 1 37 = nI N) (hr : ∀ s, s < 2 ^ N → S.2.1 6 s = nI (r s)) (hr9 : ∀ s, s < 2 ^ N → r s ≤ 9) (top q pr : Nat) (htop : top ≤ 4) (hq1 : q < top) (hpr : pr < 512) (g : Nat → Int32) (hg : (∀ s, s < 2 ^ N → 0 ≤ r s → flB r N s = true → g s = zB (goX r N top (top - r s) s))) (h : Nat → Int32) (hh : h q = nI pr) (Q : Option Value → amS → Prop) (z4 z5 : Value) (tg : Nat) (htg : tg < 2 ^ N) (hP : chP r N top q pr tg = true) (hq : ∀ n, n < 2 ^ N → chP r N top q pr n = true → (∀ u, u < n → chP r N top q pr u = false) → X shM mX11_isChain 240 [.ref 0, .int (nI top), .int (nI (q + 1)), .int (nI n), z4, z5] [] (sA (sA S 18 g) 19 h) Q) : ∀ (e n : Nat), n + e = tg → (∀ u, u < n → chP r N top q pr u = false) → X shM mX11_isChain 192 [.ref 0, .int (nI top), .int (nI (q + 1)), .int (nI n), z4, z5] [] (sA (sA S 18 g) 19 h) Q := by
  have h512 := pow9 hN
  intro e
  induction e with
  | zero =>
    intro n h1 h2
    obtain rfl : n = tg := by omega
    have h9 := hr9 n htg
    have hx := xor_and_le pr n
    have hP0 := hP
    simp only [chP, Bool.and_eq_true, beq_iff_eq] at hP
    obtain ⟨⟨⟨p1, p2⟩, p3⟩, p4⟩ := hP
    refine x_aload_n dX11_isChain_192 rfl ?_
    refine x_getR dX11_isChain_193 fl_X11_70 rfl ?_
    refine x_iload_n dX11_isChain_196 rfl ?_
    refine x_ic _ ic_1 dX11_isChain_197 ?_
    refine x_isubN dX11_isChain_198 (by omega) ?_
    refine x_ialdN dX11_isChain_199 rfl rfl (by omega) (hh) ?_
    refine x_iload_n dX11_isChain_200 rfl ?_
    refine x_ic _ ic_m1 dX11_isChain_201 ?_
    refine x_ixor dX11_isChain_202 ?_
    refine x_iandNX dX11_isChain_203 ?_
    refine x_if_neN 234 dX11_isChain_204 rfl (by omega) (fun c204 => ?_) (fun c204 => ?_)
    · exact absurd p1 c204
    · refine x_aload_n dX11_isChain_207 rfl ?_
      refine x_getR dX11_isChain_208 fl_X11_29 rfl ?_
      refine x_iload_n dX11_isChain_211 rfl ?_
      refine x_ialdN dX11_isChain_212 rfl rfl (by omega) (hr n (by omega)) ?_
      refine x_iload_n dX11_isChain_213 rfl ?_
      refine x_icmp_neN 234 dX11_isChain_214 rfl (by omega) (by omega) (fun c214 => ?_) (fun c214 => ?_)
      · exact absurd p2 c214
      · refine x_aload_n dX11_isChain_217 rfl ?_
        refine x_iload_n dX11_isChain_218 rfl ?_
        refine x_v1d (N := mX11_isFlat) dX11_isChain_219 ml_X11_199 nv_X11_isFlat rfl rfl (k_isFlat (sA (sA S 18 g) 19 h) N r hN hM hr hr9 n (by omega)) ?_
        refine x_if_eqB 234 dX11_isChain_222 rfl (fun c222 => ?_) (fun c222 => ?_)
        · rw [p3] at c222; cases c222
        · refine x_aload_n dX11_isChain_225 rfl ?_
          refine x_getR dX11_isChain_226 fl_X11_66 rfl ?_
          refine x_iload_n dX11_isChain_229 rfl ?_
          refine x_zaldN dX11_isChain_230 rfl rfl (by omega) ((hg n htg (Nat.zero_le _) p3).trans (by rw [p2, p4])) ?_
          refine x_if_neB 240 dX11_isChain_231 rfl (fun c231 => ?_) (fun c231 => ?_)
          · exact hq n htg hP0 h2
          · cases c231
  | succ e ih =>
    intro n h1 h2
    have hn : n < 2 ^ N := by omega
    have h9 := hr9 n hn
    have hx := xor_and_le pr n
    have hstep : chP r N top q pr n = false → X shM mX11_isChain 234 [.ref 0, .int (nI top), .int (nI (q + 1)), .int (nI n), z4, z5] [] (sA (sA S 18 g) 19 h) Q := by
      intro hb
      refine x_iincN dX11_isChain_234 rfl rfl ?_
      refine x_goto 192 dX11_isChain_237 rfl ?_
      refine ih (n + 1) (by omega) (fun u hu => ?_)
      by_cases z : u = n
      · subst z; exact hb
      · exact h2 u (by omega)
    refine x_aload_n dX11_isChain_192 rfl ?_
    refine x_getR dX11_isChain_193 fl_X11_70 rfl ?_
    refine x_iload_n dX11_isChain_196 rfl ?_
    refine x_ic _ ic_1 dX11_isChain_197 ?_
    refine x_isubN dX11_isChain_198 (by omega) ?_
    refine x_ialdN dX11_isChain_199 rfl rfl (by omega) (hh) ?_
    refine x_iload_n dX11_isChain_200 rfl ?_
    refine x_ic _ ic_m1 dX11_isChain_201 ?_
    refine x_ixor dX11_isChain_202 ?_
    refine x_iandNX dX11_isChain_203 ?_
    refine x_if_neN 234 dX11_isChain_204 rfl (by omega) (fun c204 => ?_) (fun c204 => ?_)
    · exact hstep (by simp [chP, c204])
    · refine x_aload_n dX11_isChain_207 rfl ?_
      refine x_getR dX11_isChain_208 fl_X11_29 rfl ?_
      refine x_iload_n dX11_isChain_211 rfl ?_
      refine x_ialdN dX11_isChain_212 rfl rfl (by omega) (hr n (by omega)) ?_
      refine x_iload_n dX11_isChain_213 rfl ?_
      refine x_icmp_neN 234 dX11_isChain_214 rfl (by omega) (by omega) (fun c214 => ?_) (fun c214 => ?_)
      · exact hstep (by simp [chP, c214])
      · refine x_aload_n dX11_isChain_217 rfl ?_
        refine x_iload_n dX11_isChain_218 rfl ?_
        refine x_v1d (N := mX11_isFlat) dX11_isChain_219 ml_X11_199 nv_X11_isFlat rfl rfl (k_isFlat (sA (sA S 18 g) 19 h) N r hN hM hr hr9 n (by omega)) ?_
        refine x_if_eqB 234 dX11_isChain_222 rfl (fun c222 => ?_) (fun c222 => ?_)
        · exact hstep (by simp [chP, c222])
        · refine x_aload_n dX11_isChain_225 rfl ?_
          refine x_getR dX11_isChain_226 fl_X11_66 rfl ?_
          refine x_iload_n dX11_isChain_229 rfl ?_
          refine x_zaldN dX11_isChain_230 rfl rfl (by omega) (hg n hn (Nat.zero_le _) c222) ?_
          refine x_if_neB 240 dX11_isChain_231 rfl (fun c231 => ?_) (fun c231 => ?_)
          · rw [c214] at c231
            exact hq n hn (by simp [chP, c204, c214, c222, c231]) h2
          · rw [c214] at c231
            exact hstep (by simp [chP, c231])
set_option maxRecDepth 100000 in
set_option maxHeartbeats 4000000 in
theorem k_ch_4 (S : amS) (N : Nat) (r : Nat → Nat) (hN : N ≤ 9) (hM : S.2.1 1 37 = nI N) (hr : ∀ s, s < 2 ^ N → S.2.1 6 s = nI (r s)) (hr9 : ∀ s, s < 2 ^ N → r s ≤ 9) (top : Nat) (htop : top ≤ 4) (h0 : r 0 = 0) (hf0 : flB r N 0 = true) (g : Nat → Int32) (hg : (∀ s, s < 2 ^ N → 0 ≤ r s → flB r N s = true → g s = zB (goX r N top (top - r s) s))) (hgo : goX r N top top 0 = true) : ∀ (e q : Nat) (h : Nat → Int32) (z3 z4 z5 : Value), q + e = top → (∀ i, i ≤ q → h i = nI (lkB r N top i)) → goX r N top (top - q) (lkB r N top q) = true → lkB r N top q < 2 ^ N → X shM mX11_isChain 176 [.ref 0, .int (nI top), .int (nI (q + 1)), z3, z4, z5] [] (sA (sA S 18 g) 19 h) (fun q S' => q = some (.int (zB (goX r N top top 0))) ∧ ∃ g h, S' = sA (sA S 18 g) 19 h ∧ (goX r N top top 0 = true → ∀ i, i ≤ top → h i = nI (lkB r N top i))) := by
  have h512 := pow9 hN
  have hg0 : g 0 = zB true := by
    rw [hg 0 (Nat.two_pow_pos N) (Nat.zero_le _) hf0, h0, Nat.sub_zero, hgo]
  intro e
  induction e with
  | zero =>
    intro q h z3 z4 z5 h1 h2 h3 h4
    obtain rfl : q = top := by omega
    refine x_iload_n dX11_isChain_176 rfl ?_
    refine x_iload_n dX11_isChain_177 rfl ?_
    refine x_icmp_gtN 253 dX11_isChain_178 rfl (by omega) (by omega) (fun c178 => ?_) (fun c178 => ?_)
    · refine x_aload_n dX11_isChain_253 rfl ?_
      refine x_getR dX11_isChain_254 fl_X11_66 rfl ?_
      refine x_ic _ ic_0 dX11_isChain_257 ?_
      refine x_zaldN dX11_isChain_258 rfl rfl (by omega) (hg0) ?_
      refine x_zretB dX11_isChain_259 rfl ?_
      exact ⟨by rw [hgo], g, h, rfl, fun _ => h2⟩
    · exact absurd c178 (by omega)
  | succ e ih =>
    intro q h z3 z4 z5 h1 h2 h3 h4
    rw [goX_at (by omega), Bool.and_eq_true, Bool.or_eq_true, decide_eq_true_eq] at h3
    have h5 : (List.range (2 ^ N)).any (chP r N top q (lkB r N top q)) = true := by
      rcases h3.1 with z | z
      · omega
      · exact z
    rw [List.any_eq_true] at h5
    obtain ⟨tg, t1, t2⟩ := h5
    rw [List.mem_range] at t1
    refine x_iload_n dX11_isChain_176 rfl ?_
    refine x_iload_n dX11_isChain_177 rfl ?_
    refine x_icmp_gtN 253 dX11_isChain_178 rfl (by omega) (by omega) (fun c178 => ?_) (fun c178 => ?_)
    · exact absurd c178 (by omega)
    · refine x_aload_n dX11_isChain_181 rfl ?_
      refine x_getR dX11_isChain_182 fl_X11_66 rfl ?_
      refine x_ic _ ic_0 dX11_isChain_185 ?_
      refine x_zaldN dX11_isChain_186 rfl rfl (by omega) (hg0) ?_
      refine x_if_eqB 253 dX11_isChain_187 rfl (fun c187 => ?_) (fun c187 => ?_)
      · cases c187
      · refine x_ic _ ic_0 dX11_isChain_190 ?_
        refine x_istore_n dX11_isChain_191 rfl ?_
        refine k_ch_5 S N r hN hM hr hr9 top q (lkB r N top q) htop (by omega) (by omega) g hg h (h2 q (Nat.le_refl _)) _ _ _ tg t1 t2 (fun n n1 n2 n3 => ?_) tg 0 (by omega) (fun u hu => absurd hu (Nat.not_lt_zero u))
        refine x_aload_n dX11_isChain_240 rfl ?_
        refine x_getR dX11_isChain_241 fl_X11_70 rfl ?_
        refine x_iload_n dX11_isChain_244 rfl ?_
        refine x_iload_n dX11_isChain_245 rfl ?_
        refine x_iastN dX11_isChain_246 rfl rfl (by omega) ?_
        refine x_iincN dX11_isChain_247 rfl rfl ?_
        refine x_goto 176 dX11_isChain_250 rfl ?_
        rw [sA_sA, sA_at]
        have e0 : lkB r N top (q + 1) = n := by rw [lkB, find_at n1 n2 n3]; rfl
        refine ih (q + 1) _ _ _ _ (by omega) (fun i hi => ?_) ?_ ?_
        · by_cases z : i = q + 1
          · subst z; rw [upd_s, e0]
          · rw [upd_n _ _ z]; exact h2 i (by omega)
        · simp only [chP, Bool.and_eq_true] at n2
          rw [e0]; exact n2.2
        · rw [e0]; exact n1
set_option maxRecDepth 100000 in
set_option maxHeartbeats 4000000 in
theorem k_ch_6 (S : amS) (N : Nat) (r : Nat → Nat) (hN : N ≤ 9) (hM : S.2.1 1 37 = nI N) (hr : ∀ s, s < 2 ^ N → S.2.1 6 s = nI (r s)) (hr9 : ∀ s, s < 2 ^ N → r s ≤ 9) (top : Nat) (htop : top ≤ 4) (h0 : r 0 = 0) (hf0 : flB r N 0 = true) (g : Nat → Int32) (hg : (∀ s, s < 2 ^ N → 0 ≤ r s → flB r N s = true → g s = zB (goX r N top (top - r s) s))) (z2 z3 z4 z5 : Value) : X shM mX11_isChain 167 [.ref 0, .int (nI top), z2, z3, z4, z5] [] (sA S 18 g) (fun q S' => q = some (.int (zB (goX r N top top 0))) ∧ ∃ g h, S' = sA (sA S 18 g) 19 h ∧ (goX r N top top 0 = true → ∀ i, i ≤ top → h i = nI (lkB r N top i))) := by
  have hpos := Nat.two_pow_pos N
  have hg0 : g 0 = zB (goX r N top top 0) := by
    rw [hg 0 (Nat.two_pow_pos N) (Nat.zero_le _) hf0, h0, Nat.sub_zero]
  by_cases hgo : goX r N top top 0 = true
  · refine x_aload_n dX11_isChain_167 rfl ?_
    refine x_getR dX11_isChain_168 fl_X11_70 rfl ?_
    refine x_ic _ ic_0 dX11_isChain_171 ?_
    refine x_ic _ ic_0 dX11_isChain_172 ?_
    refine x_iastN dX11_isChain_173 rfl rfl (by omega) ?_
    refine x_ic _ ic_1 dX11_isChain_174 ?_
    refine x_istore_n dX11_isChain_175 rfl ?_
    refine k_ch_4 S N r hN hM hr hr9 top htop h0 hf0 g hg hgo top 0 _ _ _ _ (by omega) (fun i hi => ?_) (by rw [Nat.sub_zero]; exact hgo) hpos
    obtain rfl : i = 0 := by omega
    rw [upd_s]
    rfl
  · refine x_aload_n dX11_isChain_167 rfl ?_
    refine x_getR dX11_isChain_168 fl_X11_70 rfl ?_
    refine x_ic _ ic_0 dX11_isChain_171 ?_
    refine x_ic _ ic_0 dX11_isChain_172 ?_
    refine x_iastN dX11_isChain_173 rfl rfl (by omega) ?_
    refine x_ic _ ic_1 dX11_isChain_174 ?_
    refine x_istore_n dX11_isChain_175 rfl ?_
    refine x_iload_n dX11_isChain_176 rfl ?_
    refine x_iload_n dX11_isChain_177 rfl ?_
    refine x_icmp_gtN 253 dX11_isChain_178 rfl (by omega) (by omega) (fun c178 => ?_) (fun c178 => ?_)
    · refine x_aload_n dX11_isChain_253 rfl ?_
      refine x_getR dX11_isChain_254 fl_X11_66 rfl ?_
      refine x_ic _ ic_0 dX11_isChain_257 ?_
      refine x_zaldN dX11_isChain_258 rfl rfl (by omega) (hg0) ?_
      refine x_zretB dX11_isChain_259 rfl ?_
      exact ⟨rfl, _, _, rfl, fun z => absurd z hgo⟩
    · refine x_aload_n dX11_isChain_181 rfl ?_
      refine x_getR dX11_isChain_182 fl_X11_66 rfl ?_
      refine x_ic _ ic_0 dX11_isChain_185 ?_
      refine x_zaldN dX11_isChain_186 rfl rfl (by omega) (hg0) ?_
      refine x_if_eqB 253 dX11_isChain_187 rfl (fun c187 => ?_) (fun c187 => ?_)
      · refine x_aload_n dX11_isChain_253 rfl ?_
        refine x_getR dX11_isChain_254 fl_X11_66 rfl ?_
        refine x_ic _ ic_0 dX11_isChain_257 ?_
        refine x_zaldN dX11_isChain_258 rfl rfl (by omega) (hg0) ?_
        refine x_zretB dX11_isChain_259 rfl ?_
        exact ⟨rfl, _, _, rfl, fun z => absurd z hgo⟩
      · exact absurd c187 hgo
theorem fl_0 {v : Nat → Row} {d N : Nat} (hA : Arr d N v) : flB (rkV v) N 0 = true := by
  obtain ⟨a1, a2, a3, a4, a5, a6, a7⟩ := hA
  have h0 : rkV v 0 = 0 := a7 0 (Nat.two_pow_pos N) (by decide)
  have h1 : ∀ i, i ≤ N → clB (rkV v) 0 i = 0 := by
    intro i
    induction i with
    | zero => intro _; rfl
    | succ i ih =>
      intro hi
      rw [clB, ih (by omega), if_neg]
      · rfl
      · have hp1 : pc9 (2 ^ i) = 1 := by
          rcases (show i = 0 ∨ i = 1 ∨ i = 2 ∨ i = 3 ∨ i = 4 ∨ i = 5 ∨ i = 6 ∨ i = 7 ∨ i = 8 by omega) with rfl | rfl | rfl | rfl | rfl | rfl | rfl | rfl | rfl <;> decide
        rw [Nat.zero_or, h0, a7 (2 ^ i) (pow_ltN (by omega)) (by omega), hp1]
        decide
  rw [flB, h1 N (Nat.le_refl _)]
  rfl
set_option maxRecDepth 100000 in
set_option maxHeartbeats 4000000 in
theorem k_isChain (S : amS) (a : Ar) (hs : List Ar) (tx : List Nat) (u0 u1 u2 ck co : Int32) (hc : mCore S a hs tx u0 u1 u2 ck co) : X shM mX11_isChain 0 [.ref 0, .null, .null, .null, .null, .null] [] S (fun r S' => r = some (.int (zB (goX (rkV a.2.2) a.2.1 (rkV a.2.2 (2 ^ a.2.1 - 1)) (rkV a.2.2 (2 ^ a.2.1 - 1)) 0))) ∧ mCore S' a hs tx u0 u1 u2 ck co ∧ laidM S' a.2.1 a.2.2 ∧ (goX (rkV a.2.2) a.2.1 (rkV a.2.2 (2 ^ a.2.1 - 1)) (rkV a.2.2 (2 ^ a.2.1 - 1)) 0 = true → ∀ i, i ≤ (rkV a.2.2 (2 ^ a.2.1 - 1)) → S'.2.1 19 i = nI (lkB (rkV a.2.2) a.2.1 (rkV a.2.2 (2 ^ a.2.1 - 1)) i))) := by
  have hA := hc.1.1
  have hm := hc.1.2
  obtain ⟨a1, a2, a3, a4, a5, a6, a7⟩ := id hA
  have h512 := pow9 a3
  have hr9 : ∀ t, t < 2 ^ a.2.1 → rkV a.2.2 t ≤ 9 := fun t ht => Nat.le_trans (rkV_le (by omega)) (pc9_le t (by omega))
  have hpos := Nat.two_pow_pos a.2.1
  have htopm : ∀ s, s < 2 ^ a.2.1 → rkV a.2.2 s ≤ rkV a.2.2 (2 ^ a.2.1 - 1) := fun s hs0 => rkS_mono (fun i hi hb => by
    rw [Nat.testBit_two_pow_sub_one, decide_eq_true_eq]
    by_cases q : i < a.2.1
    · exact q
    · rw [tb_hi hs0 (by omega)] at hb; cases hb)
  refine x_aload_n dX11_isChain_0 rfl ?_
  refine x_v0 (N := mX11_lay) dX11_isChain_1 ml_X11_187 nv_X11_lay rfl rfl (k_layq S a hs tx u0 u1 u2 ck co hc) ?_
  rintro _ S' ⟨rfl, hc', hl, hf⟩
  refine x_aload_n dX11_isChain_4 rfl ?_
  refine x_getR dX11_isChain_5 fl_X11_29 rfl ?_
  refine x_aload_n dX11_isChain_8 rfl ?_
  refine x_v0d (N := mX11_all) dX11_isChain_9 ml_X11_109 nv_X11_all rfl rfl (k_all S' a.2.1 a3 hc'.1.2.2.1) ?_
  refine x_ialdN dX11_isChain_12 rfl rfl (by omega) (hl.1 _ (by omega)) ?_
  refine x_istore_n dX11_isChain_13 rfl ?_
  refine x_iload_n dX11_isChain_14 rfl ?_
  refine x_istore_n dX11_isChain_15 rfl ?_
  refine x_st (sA_self S' 18) ?_
  refine x_loc (show _ = [.ref 0, .int (nI (rkV a.2.2 (2 ^ a.2.1 - 1))), .int (i32 ((((rkV a.2.2 (2 ^ a.2.1 - 1)) + 1 : Nat) : Int) - 1)), .null, .null, .null] from by rw [dn_0]; rfl) ?_
  refine k_ch_1 S' a.2.1 (rkV a.2.2) a3 hc'.1.2.2.1 hl.1 hr9 (rkV a.2.2 (2 ^ a.2.1 - 1)) (rkV_4 _ _) _ (fun g z2 z3 z4 z5 hg => ?_) ((rkV a.2.2 (2 ^ a.2.1 - 1)) + 1) _ _ _ _ (Nat.le_refl _) (fun s hs0 ho => absurd ho (by have := htopm s hs0; omega))
  refine x_mono ?_ (k_ch_6 S' a.2.1 (rkV a.2.2) a3 hc'.1.2.2.1 hl.1 hr9 (rkV a.2.2 (2 ^ a.2.1 - 1)) (rkV_4 _ _) (a7 0 hpos (by decide)) (fl_0 hA) g hg z2 z3 z4 z5)
  rintro _ _ ⟨rfl, g', h, rfl, hk⟩
  refine ⟨rfl, hc'.keep (fun i hi => by show va_up (va_up S'.2.1 18 g') 19 h i = _; rw [va_up_n _ _ (by omega), va_up_n _ _ (by omega)]) (fun k hk => rfl), hl, hk⟩
